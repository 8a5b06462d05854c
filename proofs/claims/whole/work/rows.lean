section
-- ===== PART A: goes FIRST, ahead of the names: the tables' words, and 'selects' of the private methods out of them =====
/-- a private method of a class that the tables say can be made, by its rows of tables_1 -/
def lw_okq (q : MethodName × Nat) : Prop := (q.1.cls ≠ "java/lang/invoke/MethodHandle" ∧ q.1.cls ≠ "java/lang/invoke/VarHandle") ∧ Cond.instantiable q.1.cls q.2 ∈ tables_1 ∧ Cond.privateMethod q.1 ∈ tables_1 ∧ Cond.instanceMethod q.1 ∈ tables_1
theorem lw_p0 : lw_okq (⟨"SplitSecrets$History", "draft", "(LSplitSecrets$Stores;)V"⟩, 3) := ⟨⟨by decide +kernel, by decide +kernel⟩, List.mem_of_getElem? (i := 143) (by decide +kernel), List.mem_of_getElem? (i := 235) (by decide +kernel), List.mem_of_getElem? (i := 236) (by decide +kernel)⟩
theorem lw_p1 : lw_okq (⟨"SplitSecrets$Stores", "copyState", "(LSplitSecrets$Stores;)V"⟩, 10) := ⟨⟨by decide +kernel, by decide +kernel⟩, List.mem_of_getElem? (i := 19) (by decide +kernel), List.mem_of_getElem? (i := 239) (by decide +kernel), List.mem_of_getElem? (i := 240) (by decide +kernel)⟩
theorem lw_p2 : lw_okq (⟨"SplitSecrets$Secret", "copySecret", "(LSplitSecrets$Secret;)V"⟩, 10) := ⟨⟨by decide +kernel, by decide +kernel⟩, List.mem_of_getElem? (i := 26) (by decide +kernel), List.mem_of_getElem? (i := 243) (by decide +kernel), List.mem_of_getElem? (i := 244) (by decide +kernel)⟩
theorem lw_p3 : lw_okq (⟨"SplitSecrets$Half", "copyHalf", "(LSplitSecrets$Half;)V"⟩, 7) := ⟨⟨by decide +kernel, by decide +kernel⟩, List.mem_of_getElem? (i := 32) (by decide +kernel), List.mem_of_getElem? (i := 247) (by decide +kernel), List.mem_of_getElem? (i := 248) (by decide +kernel)⟩
theorem lw_p4 : lw_okq (⟨"SplitSecrets$Stores", "changeSetting", "(II)I"⟩, 10) := ⟨⟨by decide +kernel, by decide +kernel⟩, List.mem_of_getElem? (i := 19) (by decide +kernel), List.mem_of_getElem? (i := 251) (by decide +kernel), List.mem_of_getElem? (i := 252) (by decide +kernel)⟩
theorem lw_p5 : lw_okq (⟨"SplitSecrets", "recorded", "(I)I"⟩, 6) := ⟨⟨by decide +kernel, by decide +kernel⟩, List.mem_of_getElem? (i := 11) (by decide +kernel), List.mem_of_getElem? (i := 259) (by decide +kernel), List.mem_of_getElem? (i := 260) (by decide +kernel)⟩
theorem lw_p6 : lw_okq (⟨"SplitSecrets$History", "recordDraft", "()V"⟩, 3) := ⟨⟨by decide +kernel, by decide +kernel⟩, List.mem_of_getElem? (i := 143) (by decide +kernel), List.mem_of_getElem? (i := 263) (by decide +kernel), List.mem_of_getElem? (i := 264) (by decide +kernel)⟩
theorem lw_p7 : lw_okq (⟨"SplitSecrets$Stores", "changeX", "(I)I"⟩, 10) := ⟨⟨by decide +kernel, by decide +kernel⟩, List.mem_of_getElem? (i := 19) (by decide +kernel), List.mem_of_getElem? (i := 271) (by decide +kernel), List.mem_of_getElem? (i := 272) (by decide +kernel)⟩
theorem lw_p8 : lw_okq (⟨"SplitSecrets$Stores", "admit", "(I)I"⟩, 10) := ⟨⟨by decide +kernel, by decide +kernel⟩, List.mem_of_getElem? (i := 19) (by decide +kernel), List.mem_of_getElem? (i := 279) (by decide +kernel), List.mem_of_getElem? (i := 280) (by decide +kernel)⟩
theorem lw_p9 : lw_okq (⟨"SplitSecrets$Stores", "someStoreSleeps", "()Z"⟩, 10) := ⟨⟨by decide +kernel, by decide +kernel⟩, List.mem_of_getElem? (i := 19) (by decide +kernel), List.mem_of_getElem? (i := 286) (by decide +kernel), List.mem_of_getElem? (i := 287) (by decide +kernel)⟩
theorem lw_p10 : lw_okq (⟨"SplitSecrets$Stores", "makeVersion", "(LSplitSecrets$Secret;I)V"⟩, 10) := ⟨⟨by decide +kernel, by decide +kernel⟩, List.mem_of_getElem? (i := 19) (by decide +kernel), List.mem_of_getElem? (i := 290) (by decide +kernel), List.mem_of_getElem? (i := 291) (by decide +kernel)⟩
theorem lw_p11 : lw_okq (⟨"SplitSecrets$Stores", "drawn", "()I"⟩, 10) := ⟨⟨by decide +kernel, by decide +kernel⟩, List.mem_of_getElem? (i := 19) (by decide +kernel), List.mem_of_getElem? (i := 294) (by decide +kernel), List.mem_of_getElem? (i := 295) (by decide +kernel)⟩
theorem lw_p12 : lw_okq (⟨"SplitSecrets$Half", "tagDueFor", "(I)I"⟩, 7) := ⟨⟨by decide +kernel, by decide +kernel⟩, List.mem_of_getElem? (i := 32) (by decide +kernel), List.mem_of_getElem? (i := 302) (by decide +kernel), List.mem_of_getElem? (i := 303) (by decide +kernel)⟩
theorem lw_p13 : lw_okq (⟨"SplitSecrets$Stores", "renew", "(I)I"⟩, 10) := ⟨⟨by decide +kernel, by decide +kernel⟩, List.mem_of_getElem? (i := 19) (by decide +kernel), List.mem_of_getElem? (i := 310) (by decide +kernel), List.mem_of_getElem? (i := 311) (by decide +kernel)⟩
theorem lw_p14 : lw_okq (⟨"SplitSecrets$Stores", "hasSecret", "(I)Z"⟩, 10) := ⟨⟨by decide +kernel, by decide +kernel⟩, List.mem_of_getElem? (i := 19) (by decide +kernel), List.mem_of_getElem? (i := 314) (by decide +kernel), List.mem_of_getElem? (i := 315) (by decide +kernel)⟩
theorem lw_p15 : lw_okq (⟨"SplitSecrets$Stores", "makeNextVersion", "(LSplitSecrets$Secret;)V"⟩, 10) := ⟨⟨by decide +kernel, by decide +kernel⟩, List.mem_of_getElem? (i := 19) (by decide +kernel), List.mem_of_getElem? (i := 318) (by decide +kernel), List.mem_of_getElem? (i := 319) (by decide +kernel)⟩
def lw_privs_1 : List (MethodName × Nat) := [(⟨"SplitSecrets$History", "draft", "(LSplitSecrets$Stores;)V"⟩, 3), (⟨"SplitSecrets$Stores", "copyState", "(LSplitSecrets$Stores;)V"⟩, 10), (⟨"SplitSecrets$Secret", "copySecret", "(LSplitSecrets$Secret;)V"⟩, 10), (⟨"SplitSecrets$Half", "copyHalf", "(LSplitSecrets$Half;)V"⟩, 7), (⟨"SplitSecrets$Stores", "changeSetting", "(II)I"⟩, 10), (⟨"SplitSecrets", "recorded", "(I)I"⟩, 6), (⟨"SplitSecrets$History", "recordDraft", "()V"⟩, 3), (⟨"SplitSecrets$Stores", "changeX", "(I)I"⟩, 10), (⟨"SplitSecrets$Stores", "admit", "(I)I"⟩, 10), (⟨"SplitSecrets$Stores", "someStoreSleeps", "()Z"⟩, 10), (⟨"SplitSecrets$Stores", "makeVersion", "(LSplitSecrets$Secret;I)V"⟩, 10), (⟨"SplitSecrets$Stores", "drawn", "()I"⟩, 10), (⟨"SplitSecrets$Half", "tagDueFor", "(I)I"⟩, 7), (⟨"SplitSecrets$Stores", "renew", "(I)I"⟩, 10), (⟨"SplitSecrets$Stores", "hasSecret", "(I)Z"⟩, 10), (⟨"SplitSecrets$Stores", "makeNextVersion", "(LSplitSecrets$Secret;)V"⟩, 10)]
theorem lw_r1 : ∀ q ∈ lw_privs_1, lw_okq q := List.forall_mem_cons.mpr ⟨lw_p0, List.forall_mem_cons.mpr ⟨lw_p1, List.forall_mem_cons.mpr ⟨lw_p2, List.forall_mem_cons.mpr ⟨lw_p3, List.forall_mem_cons.mpr ⟨lw_p4, List.forall_mem_cons.mpr ⟨lw_p5, List.forall_mem_cons.mpr ⟨lw_p6, List.forall_mem_cons.mpr ⟨lw_p7, List.forall_mem_cons.mpr ⟨lw_p8, List.forall_mem_cons.mpr ⟨lw_p9, List.forall_mem_cons.mpr ⟨lw_p10, List.forall_mem_cons.mpr ⟨lw_p11, List.forall_mem_cons.mpr ⟨lw_p12, List.forall_mem_cons.mpr ⟨lw_p13, List.forall_mem_cons.mpr ⟨lw_p14, List.forall_mem_cons.mpr ⟨lw_p15, fun _ h => absurd h List.not_mem_nil⟩⟩⟩⟩⟩⟩⟩⟩⟩⟩⟩⟩⟩⟩⟩⟩
theorem lw_p16 : lw_okq (⟨"SplitSecrets$Secret", "value", "()I"⟩, 10) := ⟨⟨by decide +kernel, by decide +kernel⟩, List.mem_of_getElem? (i := 26) (by decide +kernel), List.mem_of_getElem? (i := 322) (by decide +kernel), List.mem_of_getElem? (i := 323) (by decide +kernel)⟩
theorem lw_p17 : lw_okq (⟨"SplitSecrets$Secret", "ageKeeping", "(I)I"⟩, 10) := ⟨⟨by decide +kernel, by decide +kernel⟩, List.mem_of_getElem? (i := 26) (by decide +kernel), List.mem_of_getElem? (i := 326) (by decide +kernel), List.mem_of_getElem? (i := 327) (by decide +kernel)⟩
theorem lw_p18 : lw_okq (⟨"SplitSecrets$Half", "freeRowOfNow", "()V"⟩, 7) := ⟨⟨by decide +kernel, by decide +kernel⟩, List.mem_of_getElem? (i := 32) (by decide +kernel), List.mem_of_getElem? (i := 330) (by decide +kernel), List.mem_of_getElem? (i := 331) (by decide +kernel)⟩
theorem lw_p19 : lw_okq (⟨"SplitSecrets$Stores", "burnOldVersions", "(I)I"⟩, 10) := ⟨⟨by decide +kernel, by decide +kernel⟩, List.mem_of_getElem? (i := 19) (by decide +kernel), List.mem_of_getElem? (i := 341) (by decide +kernel), List.mem_of_getElem? (i := 342) (by decide +kernel)⟩
theorem lw_p20 : lw_okq (⟨"SplitSecrets$Stores", "turnSleep", "(I)I"⟩, 10) := ⟨⟨by decide +kernel, by decide +kernel⟩, List.mem_of_getElem? (i := 19) (by decide +kernel), List.mem_of_getElem? (i := 349) (by decide +kernel), List.mem_of_getElem? (i := 350) (by decide +kernel)⟩
theorem lw_p21 : lw_okq (⟨"SplitSecrets$Stores", "takeUpLie", "(IIII)I"⟩, 10) := ⟨⟨by decide +kernel, by decide +kernel⟩, List.mem_of_getElem? (i := 19) (by decide +kernel), List.mem_of_getElem? (i := 360) (by decide +kernel), List.mem_of_getElem? (i := 361) (by decide +kernel)⟩
theorem lw_p22 : lw_okq (⟨"SplitSecrets$Stores", "hasHalf", "(II)Z"⟩, 10) := ⟨⟨by decide +kernel, by decide +kernel⟩, List.mem_of_getElem? (i := 19) (by decide +kernel), List.mem_of_getElem? (i := 364) (by decide +kernel), List.mem_of_getElem? (i := 365) (by decide +kernel)⟩
theorem lw_p23 : lw_okq (⟨"SplitSecrets$Secret", "halfIn", "(I)LSplitSecrets$Half;"⟩, 10) := ⟨⟨by decide +kernel, by decide +kernel⟩, List.mem_of_getElem? (i := 26) (by decide +kernel), List.mem_of_getElem? (i := 371) (by decide +kernel), List.mem_of_getElem? (i := 372) (by decide +kernel)⟩
theorem lw_p24 : lw_okq (⟨"SplitSecrets$Stores", "mergeParts", "(I)I"⟩, 10) := ⟨⟨by decide +kernel, by decide +kernel⟩, List.mem_of_getElem? (i := 19) (by decide +kernel), List.mem_of_getElem? (i := 379) (by decide +kernel), List.mem_of_getElem? (i := 380) (by decide +kernel)⟩
theorem lw_p25 : lw_okq (⟨"SplitSecrets$Stores", "answerOfMerger", "(I)I"⟩, 10) := ⟨⟨by decide +kernel, by decide +kernel⟩, List.mem_of_getElem? (i := 19) (by decide +kernel), List.mem_of_getElem? (i := 383) (by decide +kernel), List.mem_of_getElem? (i := 384) (by decide +kernel)⟩
theorem lw_p26 : lw_okq (⟨"SplitSecrets$Secret", "answerIfMerged", "()I"⟩, 10) := ⟨⟨by decide +kernel, by decide +kernel⟩, List.mem_of_getElem? (i := 26) (by decide +kernel), List.mem_of_getElem? (i := 387) (by decide +kernel), List.mem_of_getElem? (i := 388) (by decide +kernel)⟩
theorem lw_p27 : lw_okq (⟨"SplitSecrets$Half", "catches", "(LSplitSecrets$Half;)Z"⟩, 7) := ⟨⟨by decide +kernel, by decide +kernel⟩, List.mem_of_getElem? (i := 32) (by decide +kernel), List.mem_of_getElem? (i := 391) (by decide +kernel), List.mem_of_getElem? (i := 392) (by decide +kernel)⟩
theorem lw_p28 : lw_okq (⟨"SplitSecrets$Half", "toldPart", "()I"⟩, 7) := ⟨⟨by decide +kernel, by decide +kernel⟩, List.mem_of_getElem? (i := 32) (by decide +kernel), List.mem_of_getElem? (i := 395) (by decide +kernel), List.mem_of_getElem? (i := 396) (by decide +kernel)⟩
theorem lw_p29 : lw_okq (⟨"SplitSecrets$Half", "partWith", "(I)I"⟩, 7) := ⟨⟨by decide +kernel, by decide +kernel⟩, List.mem_of_getElem? (i := 32) (by decide +kernel), List.mem_of_getElem? (i := 399) (by decide +kernel), List.mem_of_getElem? (i := 400) (by decide +kernel)⟩
theorem lw_p30 : lw_okq (⟨"SplitSecrets$Half", "toldTag", "()I"⟩, 7) := ⟨⟨by decide +kernel, by decide +kernel⟩, List.mem_of_getElem? (i := 32) (by decide +kernel), List.mem_of_getElem? (i := 404) (by decide +kernel), List.mem_of_getElem? (i := 405) (by decide +kernel)⟩
theorem lw_p31 : lw_okq (⟨"SplitSecrets$Secret", "open", "(II)V"⟩, 10) := ⟨⟨by decide +kernel, by decide +kernel⟩, List.mem_of_getElem? (i := 26) (by decide +kernel), List.mem_of_getElem? (i := 409) (by decide +kernel), List.mem_of_getElem? (i := 410) (by decide +kernel)⟩
def lw_privs_2 : List (MethodName × Nat) := [(⟨"SplitSecrets$Secret", "value", "()I"⟩, 10), (⟨"SplitSecrets$Secret", "ageKeeping", "(I)I"⟩, 10), (⟨"SplitSecrets$Half", "freeRowOfNow", "()V"⟩, 7), (⟨"SplitSecrets$Stores", "burnOldVersions", "(I)I"⟩, 10), (⟨"SplitSecrets$Stores", "turnSleep", "(I)I"⟩, 10), (⟨"SplitSecrets$Stores", "takeUpLie", "(IIII)I"⟩, 10), (⟨"SplitSecrets$Stores", "hasHalf", "(II)Z"⟩, 10), (⟨"SplitSecrets$Secret", "halfIn", "(I)LSplitSecrets$Half;"⟩, 10), (⟨"SplitSecrets$Stores", "mergeParts", "(I)I"⟩, 10), (⟨"SplitSecrets$Stores", "answerOfMerger", "(I)I"⟩, 10), (⟨"SplitSecrets$Secret", "answerIfMerged", "()I"⟩, 10), (⟨"SplitSecrets$Half", "catches", "(LSplitSecrets$Half;)Z"⟩, 7), (⟨"SplitSecrets$Half", "toldPart", "()I"⟩, 7), (⟨"SplitSecrets$Half", "partWith", "(I)I"⟩, 7), (⟨"SplitSecrets$Half", "toldTag", "()I"⟩, 7), (⟨"SplitSecrets$Secret", "open", "(II)V"⟩, 10)]
theorem lw_r2 : ∀ q ∈ lw_privs_2, lw_okq q := List.forall_mem_cons.mpr ⟨lw_p16, List.forall_mem_cons.mpr ⟨lw_p17, List.forall_mem_cons.mpr ⟨lw_p18, List.forall_mem_cons.mpr ⟨lw_p19, List.forall_mem_cons.mpr ⟨lw_p20, List.forall_mem_cons.mpr ⟨lw_p21, List.forall_mem_cons.mpr ⟨lw_p22, List.forall_mem_cons.mpr ⟨lw_p23, List.forall_mem_cons.mpr ⟨lw_p24, List.forall_mem_cons.mpr ⟨lw_p25, List.forall_mem_cons.mpr ⟨lw_p26, List.forall_mem_cons.mpr ⟨lw_p27, List.forall_mem_cons.mpr ⟨lw_p28, List.forall_mem_cons.mpr ⟨lw_p29, List.forall_mem_cons.mpr ⟨lw_p30, List.forall_mem_cons.mpr ⟨lw_p31, fun _ h => absurd h List.not_mem_nil⟩⟩⟩⟩⟩⟩⟩⟩⟩⟩⟩⟩⟩⟩⟩⟩
theorem lw_p32 : lw_okq (⟨"SplitSecrets$Half", "lies", "()Z"⟩, 7) := ⟨⟨by decide +kernel, by decide +kernel⟩, List.mem_of_getElem? (i := 32) (by decide +kernel), List.mem_of_getElem? (i := 413) (by decide +kernel), List.mem_of_getElem? (i := 414) (by decide +kernel)⟩
theorem lw_p33 : lw_okq (⟨"SplitSecrets$Stores", "givePartToThief", "(III)I"⟩, 10) := ⟨⟨by decide +kernel, by decide +kernel⟩, List.mem_of_getElem? (i := 19) (by decide +kernel), List.mem_of_getElem? (i := 421) (by decide +kernel), List.mem_of_getElem? (i := 422) (by decide +kernel)⟩
theorem lw_p34 : lw_okq (⟨"SplitSecrets$Secret", "partForThief", "(II)I"⟩, 10) := ⟨⟨by decide +kernel, by decide +kernel⟩, List.mem_of_getElem? (i := 26) (by decide +kernel), List.mem_of_getElem? (i := 425) (by decide +kernel), List.mem_of_getElem? (i := 426) (by decide +kernel)⟩
theorem lw_p35 : lw_okq (⟨"SplitSecrets$Secret", "takenSet", "(I)I"⟩, 10) := ⟨⟨by decide +kernel, by decide +kernel⟩, List.mem_of_getElem? (i := 26) (by decide +kernel), List.mem_of_getElem? (i := 430) (by decide +kernel), List.mem_of_getElem? (i := 431) (by decide +kernel)⟩
theorem lw_p36 : lw_okq (⟨"SplitSecrets$Stores", "passBeats", "(I)I"⟩, 10) := ⟨⟨by decide +kernel, by decide +kernel⟩, List.mem_of_getElem? (i := 19) (by decide +kernel), List.mem_of_getElem? (i := 438) (by decide +kernel), List.mem_of_getElem? (i := 439) (by decide +kernel)⟩
theorem lw_p37 : lw_okq (⟨"SplitSecrets$Stores", "passOneBeat", "()V"⟩, 10) := ⟨⟨by decide +kernel, by decide +kernel⟩, List.mem_of_getElem? (i := 19) (by decide +kernel), List.mem_of_getElem? (i := 442) (by decide +kernel), List.mem_of_getElem? (i := 443) (by decide +kernel)⟩
theorem lw_p38 : lw_okq (⟨"SplitSecrets$Stores", "figureOfHalf", "(III)I"⟩, 10) := ⟨⟨by decide +kernel, by decide +kernel⟩, List.mem_of_getElem? (i := 19) (by decide +kernel), List.mem_of_getElem? (i := 453) (by decide +kernel), List.mem_of_getElem? (i := 454) (by decide +kernel)⟩
theorem lw_p39 : lw_okq (⟨"SplitSecrets$Stores", "figureOfSecret", "(II)I"⟩, 10) := ⟨⟨by decide +kernel, by decide +kernel⟩, List.mem_of_getElem? (i := 19) (by decide +kernel), List.mem_of_getElem? (i := 463) (by decide +kernel), List.mem_of_getElem? (i := 464) (by decide +kernel)⟩
theorem lw_p40 : lw_okq (⟨"SplitSecrets$Stores", "figureOfOldVersion", "(III)I"⟩, 10) := ⟨⟨by decide +kernel, by decide +kernel⟩, List.mem_of_getElem? (i := 19) (by decide +kernel), List.mem_of_getElem? (i := 471) (by decide +kernel), List.mem_of_getElem? (i := 472) (by decide +kernel)⟩
theorem lw_p41 : lw_okq (⟨"SplitSecrets$Stores", "figure", "(I)I"⟩, 10) := ⟨⟨by decide +kernel, by decide +kernel⟩, List.mem_of_getElem? (i := 19) (by decide +kernel), List.mem_of_getElem? (i := 480) (by decide +kernel), List.mem_of_getElem? (i := 481) (by decide +kernel)⟩
theorem lw_p42 : lw_okq (⟨"SplitSecrets$Stores", "setOfOpen", "()I"⟩, 10) := ⟨⟨by decide +kernel, by decide +kernel⟩, List.mem_of_getElem? (i := 19) (by decide +kernel), List.mem_of_getElem? (i := 484) (by decide +kernel), List.mem_of_getElem? (i := 485) (by decide +kernel)⟩
theorem lw_p43 : lw_okq (⟨"SplitSecrets$Stores", "setOfKnown", "()I"⟩, 10) := ⟨⟨by decide +kernel, by decide +kernel⟩, List.mem_of_getElem? (i := 19) (by decide +kernel), List.mem_of_getElem? (i := 488) (by decide +kernel), List.mem_of_getElem? (i := 489) (by decide +kernel)⟩
theorem lw_p44 : lw_okq (⟨"SplitSecrets$Stores", "otherPartFor", "(III)I"⟩, 10) := ⟨⟨by decide +kernel, by decide +kernel⟩, List.mem_of_getElem? (i := 19) (by decide +kernel), List.mem_of_getElem? (i := 496) (by decide +kernel), List.mem_of_getElem? (i := 497) (by decide +kernel)⟩
theorem lw_p45 : lw_okq (⟨"SplitSecrets$Stores", "tagOffsetThatPasses", "(III)I"⟩, 10) := ⟨⟨by decide +kernel, by decide +kernel⟩, List.mem_of_getElem? (i := 19) (by decide +kernel), List.mem_of_getElem? (i := 504) (by decide +kernel), List.mem_of_getElem? (i := 505) (by decide +kernel)⟩
theorem lw_p46 : lw_okq (⟨"SplitSecrets$Secret", "halfBeside", "(I)LSplitSecrets$Half;"⟩, 10) := ⟨⟨by decide +kernel, by decide +kernel⟩, List.mem_of_getElem? (i := 26) (by decide +kernel), List.mem_of_getElem? (i := 508) (by decide +kernel), List.mem_of_getElem? (i := 509) (by decide +kernel)⟩
theorem lw_p47 : lw_okq (⟨"SplitSecrets$Stores", "offsetsThatPass", "(III)I"⟩, 10) := ⟨⟨by decide +kernel, by decide +kernel⟩, List.mem_of_getElem? (i := 19) (by decide +kernel), List.mem_of_getElem? (i := 517) (by decide +kernel), List.mem_of_getElem? (i := 518) (by decide +kernel)⟩
def lw_privs_3 : List (MethodName × Nat) := [(⟨"SplitSecrets$Half", "lies", "()Z"⟩, 7), (⟨"SplitSecrets$Stores", "givePartToThief", "(III)I"⟩, 10), (⟨"SplitSecrets$Secret", "partForThief", "(II)I"⟩, 10), (⟨"SplitSecrets$Secret", "takenSet", "(I)I"⟩, 10), (⟨"SplitSecrets$Stores", "passBeats", "(I)I"⟩, 10), (⟨"SplitSecrets$Stores", "passOneBeat", "()V"⟩, 10), (⟨"SplitSecrets$Stores", "figureOfHalf", "(III)I"⟩, 10), (⟨"SplitSecrets$Stores", "figureOfSecret", "(II)I"⟩, 10), (⟨"SplitSecrets$Stores", "figureOfOldVersion", "(III)I"⟩, 10), (⟨"SplitSecrets$Stores", "figure", "(I)I"⟩, 10), (⟨"SplitSecrets$Stores", "setOfOpen", "()I"⟩, 10), (⟨"SplitSecrets$Stores", "setOfKnown", "()I"⟩, 10), (⟨"SplitSecrets$Stores", "otherPartFor", "(III)I"⟩, 10), (⟨"SplitSecrets$Stores", "tagOffsetThatPasses", "(III)I"⟩, 10), (⟨"SplitSecrets$Secret", "halfBeside", "(I)LSplitSecrets$Half;"⟩, 10), (⟨"SplitSecrets$Stores", "offsetsThatPass", "(III)I"⟩, 10)]
theorem lw_r3 : ∀ q ∈ lw_privs_3, lw_okq q := List.forall_mem_cons.mpr ⟨lw_p32, List.forall_mem_cons.mpr ⟨lw_p33, List.forall_mem_cons.mpr ⟨lw_p34, List.forall_mem_cons.mpr ⟨lw_p35, List.forall_mem_cons.mpr ⟨lw_p36, List.forall_mem_cons.mpr ⟨lw_p37, List.forall_mem_cons.mpr ⟨lw_p38, List.forall_mem_cons.mpr ⟨lw_p39, List.forall_mem_cons.mpr ⟨lw_p40, List.forall_mem_cons.mpr ⟨lw_p41, List.forall_mem_cons.mpr ⟨lw_p42, List.forall_mem_cons.mpr ⟨lw_p43, List.forall_mem_cons.mpr ⟨lw_p44, List.forall_mem_cons.mpr ⟨lw_p45, List.forall_mem_cons.mpr ⟨lw_p46, List.forall_mem_cons.mpr ⟨lw_p47, fun _ h => absurd h List.not_mem_nil⟩⟩⟩⟩⟩⟩⟩⟩⟩⟩⟩⟩⟩⟩⟩⟩
theorem lw_p48 : lw_okq (⟨"SplitSecrets$Stores", "partsNeeded", "(I)I"⟩, 10) := ⟨⟨by decide +kernel, by decide +kernel⟩, List.mem_of_getElem? (i := 19) (by decide +kernel), List.mem_of_getElem? (i := 526) (by decide +kernel), List.mem_of_getElem? (i := 527) (by decide +kernel)⟩
theorem lw_p49 : lw_okq (⟨"SplitSecrets$Secret", "rowsAtRisk", "()I"⟩, 10) := ⟨⟨by decide +kernel, by decide +kernel⟩, List.mem_of_getElem? (i := 26) (by decide +kernel), List.mem_of_getElem? (i := 530) (by decide +kernel), List.mem_of_getElem? (i := 531) (by decide +kernel)⟩
theorem lw_p50 : lw_okq (⟨"SplitSecrets$Stores", "versionsAtRisk", "(I)I"⟩, 10) := ⟨⟨by decide +kernel, by decide +kernel⟩, List.mem_of_getElem? (i := 19) (by decide +kernel), List.mem_of_getElem? (i := 538) (by decide +kernel), List.mem_of_getElem? (i := 539) (by decide +kernel)⟩
theorem lw_p51 : lw_okq (⟨"SplitSecrets$Pad", "append", "(J)I"⟩, 2) := ⟨⟨by decide +kernel, by decide +kernel⟩, List.mem_of_getElem? (i := 163) (by decide +kernel), List.mem_of_getElem? (i := 551) (by decide +kernel), List.mem_of_getElem? (i := 552) (by decide +kernel)⟩
theorem lw_p52 : lw_okq (⟨"SplitSecrets$Pad", "clear", "()I"⟩, 2) := ⟨⟨by decide +kernel, by decide +kernel⟩, List.mem_of_getElem? (i := 163) (by decide +kernel), List.mem_of_getElem? (i := 565) (by decide +kernel), List.mem_of_getElem? (i := 566) (by decide +kernel)⟩
theorem lw_p53 : lw_okq (⟨"SplitSecrets$Reader", "firstFault", "()I"⟩, 7) := ⟨⟨by decide +kernel, by decide +kernel⟩, List.mem_of_getElem? (i := 179) (by decide +kernel), List.mem_of_getElem? (i := 573) (by decide +kernel), List.mem_of_getElem? (i := 574) (by decide +kernel)⟩
theorem lw_p54 : lw_okq (⟨"SplitSecrets$Reader", "goToStart", "()V"⟩, 7) := ⟨⟨by decide +kernel, by decide +kernel⟩, List.mem_of_getElem? (i := 179) (by decide +kernel), List.mem_of_getElem? (i := 577) (by decide +kernel), List.mem_of_getElem? (i := 578) (by decide +kernel)⟩
theorem lw_p55 : lw_okq (⟨"SplitSecrets$Reader", "readsNextOrder", "()Z"⟩, 7) := ⟨⟨by decide +kernel, by decide +kernel⟩, List.mem_of_getElem? (i := 179) (by decide +kernel), List.mem_of_getElem? (i := 581) (by decide +kernel), List.mem_of_getElem? (i := 582) (by decide +kernel)⟩
theorem lw_p56 : lw_okq (⟨"SplitSecrets$Reader", "reads", "(C)Z"⟩, 7) := ⟨⟨by decide +kernel, by decide +kernel⟩, List.mem_of_getElem? (i := 179) (by decide +kernel), List.mem_of_getElem? (i := 585) (by decide +kernel), List.mem_of_getElem? (i := 586) (by decide +kernel)⟩
theorem lw_p57 : lw_okq (⟨"SplitSecrets$Pad", "signAt", "(I)C"⟩, 2) := ⟨⟨by decide +kernel, by decide +kernel⟩, List.mem_of_getElem? (i := 163) (by decide +kernel), List.mem_of_getElem? (i := 589) (by decide +kernel), List.mem_of_getElem? (i := 590) (by decide +kernel)⟩
theorem lw_p58 : lw_okq (⟨"SplitSecrets$Reader", "readsNumber", "()Z"⟩, 7) := ⟨⟨by decide +kernel, by decide +kernel⟩, List.mem_of_getElem? (i := 179) (by decide +kernel), List.mem_of_getElem? (i := 593) (by decide +kernel), List.mem_of_getElem? (i := 594) (by decide +kernel)⟩
theorem lw_p59 : lw_okq (⟨"SplitSecrets$Reader", "numberRead", "()I"⟩, 7) := ⟨⟨by decide +kernel, by decide +kernel⟩, List.mem_of_getElem? (i := 179) (by decide +kernel), List.mem_of_getElem? (i := 597) (by decide +kernel), List.mem_of_getElem? (i := 598) (by decide +kernel)⟩
theorem lw_p60 : lw_okq (⟨"SplitSecrets$Reader", "digitRead", "()I"⟩, 7) := ⟨⟨by decide +kernel, by decide +kernel⟩, List.mem_of_getElem? (i := 179) (by decide +kernel), List.mem_of_getElem? (i := 601) (by decide +kernel), List.mem_of_getElem? (i := 602) (by decide +kernel)⟩
theorem lw_p61 : lw_okq (⟨"SplitSecrets$Reader", "readsSecret", "()Z"⟩, 7) := ⟨⟨by decide +kernel, by decide +kernel⟩, List.mem_of_getElem? (i := 179) (by decide +kernel), List.mem_of_getElem? (i := 605) (by decide +kernel), List.mem_of_getElem? (i := 606) (by decide +kernel)⟩
theorem lw_p62 : lw_okq (⟨"SplitSecrets$Reader", "readsStore", "()Z"⟩, 7) := ⟨⟨by decide +kernel, by decide +kernel⟩, List.mem_of_getElem? (i := 179) (by decide +kernel), List.mem_of_getElem? (i := 609) (by decide +kernel), List.mem_of_getElem? (i := 610) (by decide +kernel)⟩
theorem lw_p63 : lw_okq (⟨"SplitSecrets$Reader", "readsOffsets", "()Z"⟩, 7) := ⟨⟨by decide +kernel, by decide +kernel⟩, List.mem_of_getElem? (i := 179) (by decide +kernel), List.mem_of_getElem? (i := 613) (by decide +kernel), List.mem_of_getElem? (i := 614) (by decide +kernel)⟩
def lw_privs_4 : List (MethodName × Nat) := [(⟨"SplitSecrets$Stores", "partsNeeded", "(I)I"⟩, 10), (⟨"SplitSecrets$Secret", "rowsAtRisk", "()I"⟩, 10), (⟨"SplitSecrets$Stores", "versionsAtRisk", "(I)I"⟩, 10), (⟨"SplitSecrets$Pad", "append", "(J)I"⟩, 2), (⟨"SplitSecrets$Pad", "clear", "()I"⟩, 2), (⟨"SplitSecrets$Reader", "firstFault", "()I"⟩, 7), (⟨"SplitSecrets$Reader", "goToStart", "()V"⟩, 7), (⟨"SplitSecrets$Reader", "readsNextOrder", "()Z"⟩, 7), (⟨"SplitSecrets$Reader", "reads", "(C)Z"⟩, 7), (⟨"SplitSecrets$Pad", "signAt", "(I)C"⟩, 2), (⟨"SplitSecrets$Reader", "readsNumber", "()Z"⟩, 7), (⟨"SplitSecrets$Reader", "numberRead", "()I"⟩, 7), (⟨"SplitSecrets$Reader", "digitRead", "()I"⟩, 7), (⟨"SplitSecrets$Reader", "readsSecret", "()Z"⟩, 7), (⟨"SplitSecrets$Reader", "readsStore", "()Z"⟩, 7), (⟨"SplitSecrets$Reader", "readsOffsets", "()Z"⟩, 7)]
theorem lw_r4 : ∀ q ∈ lw_privs_4, lw_okq q := List.forall_mem_cons.mpr ⟨lw_p48, List.forall_mem_cons.mpr ⟨lw_p49, List.forall_mem_cons.mpr ⟨lw_p50, List.forall_mem_cons.mpr ⟨lw_p51, List.forall_mem_cons.mpr ⟨lw_p52, List.forall_mem_cons.mpr ⟨lw_p53, List.forall_mem_cons.mpr ⟨lw_p54, List.forall_mem_cons.mpr ⟨lw_p55, List.forall_mem_cons.mpr ⟨lw_p56, List.forall_mem_cons.mpr ⟨lw_p57, List.forall_mem_cons.mpr ⟨lw_p58, List.forall_mem_cons.mpr ⟨lw_p59, List.forall_mem_cons.mpr ⟨lw_p60, List.forall_mem_cons.mpr ⟨lw_p61, List.forall_mem_cons.mpr ⟨lw_p62, List.forall_mem_cons.mpr ⟨lw_p63, fun _ h => absurd h List.not_mem_nil⟩⟩⟩⟩⟩⟩⟩⟩⟩⟩⟩⟩⟩⟩⟩⟩
theorem lw_p64 : lw_okq (⟨"SplitSecrets$Reader", "readsVersion", "()Z"⟩, 7) := ⟨⟨by decide +kernel, by decide +kernel⟩, List.mem_of_getElem? (i := 179) (by decide +kernel), List.mem_of_getElem? (i := 617) (by decide +kernel), List.mem_of_getElem? (i := 618) (by decide +kernel)⟩
theorem lw_p65 : lw_okq (⟨"SplitSecrets", "answerOfOrder", "()I"⟩, 6) := ⟨⟨by decide +kernel, by decide +kernel⟩, List.mem_of_getElem? (i := 11) (by decide +kernel), List.mem_of_getElem? (i := 627) (by decide +kernel), List.mem_of_getElem? (i := 628) (by decide +kernel)⟩
theorem lw_p66 : lw_okq (⟨"SplitSecrets", "versionOfOrder", "()I"⟩, 6) := ⟨⟨by decide +kernel, by decide +kernel⟩, List.mem_of_getElem? (i := 11) (by decide +kernel), List.mem_of_getElem? (i := 631) (by decide +kernel), List.mem_of_getElem? (i := 632) (by decide +kernel)⟩
theorem lw_p67 : lw_okq (⟨"SplitSecrets$Stores", "versionNow", "(I)I"⟩, 10) := ⟨⟨by decide +kernel, by decide +kernel⟩, List.mem_of_getElem? (i := 19) (by decide +kernel), List.mem_of_getElem? (i := 635) (by decide +kernel), List.mem_of_getElem? (i := 636) (by decide +kernel)⟩
theorem lw_p68 : lw_okq (⟨"SplitSecrets$History", "takesBack", "(LSplitSecrets$Stores;)Z"⟩, 3) := ⟨⟨by decide +kernel, by decide +kernel⟩, List.mem_of_getElem? (i := 143) (by decide +kernel), List.mem_of_getElem? (i := 643) (by decide +kernel), List.mem_of_getElem? (i := 644) (by decide +kernel)⟩
theorem lw_p69 : lw_okq (⟨"SplitSecretsModel", "record", "()V"⟩, 11) := ⟨⟨by decide +kernel, by decide +kernel⟩, List.mem_of_getElem? (i := 659) (by decide +kernel), List.mem_of_getElem? (i := 706) (by decide +kernel), List.mem_of_getElem? (i := 707) (by decide +kernel)⟩
theorem lw_p70 : lw_okq (⟨"SplitSecretsModel", "looks", "()V"⟩, 11) := ⟨⟨by decide +kernel, by decide +kernel⟩, List.mem_of_getElem? (i := 659) (by decide +kernel), List.mem_of_getElem? (i := 710) (by decide +kernel), List.mem_of_getElem? (i := 711) (by decide +kernel)⟩
theorem lw_p71 : lw_okq (⟨"SplitSecretsModel", "pushes", "()V"⟩, 11) := ⟨⟨by decide +kernel, by decide +kernel⟩, List.mem_of_getElem? (i := 659) (by decide +kernel), List.mem_of_getElem? (i := 714) (by decide +kernel), List.mem_of_getElem? (i := 715) (by decide +kernel)⟩
theorem lw_p72 : lw_okq (⟨"SplitSecretsModel", "tries", "(IIIII)I"⟩, 11) := ⟨⟨by decide +kernel, by decide +kernel⟩, List.mem_of_getElem? (i := 659) (by decide +kernel), List.mem_of_getElem? (i := 726) (by decide +kernel), List.mem_of_getElem? (i := 727) (by decide +kernel)⟩
theorem lw_p73 : lw_okq (⟨"SplitSecretsModel", "does", "(IIIII)I"⟩, 11) := ⟨⟨by decide +kernel, by decide +kernel⟩, List.mem_of_getElem? (i := 659) (by decide +kernel), List.mem_of_getElem? (i := 730) (by decide +kernel), List.mem_of_getElem? (i := 731) (by decide +kernel)⟩
theorem lw_p74 : lw_okq (⟨"SplitSecretsModel", "keeps", "(I)I"⟩, 11) := ⟨⟨by decide +kernel, by decide +kernel⟩, List.mem_of_getElem? (i := 659) (by decide +kernel), List.mem_of_getElem? (i := 734) (by decide +kernel), List.mem_of_getElem? (i := 735) (by decide +kernel)⟩
theorem lw_p75 : lw_okq (⟨"SplitSecretsModel", "areAwake", "()Z"⟩, 11) := ⟨⟨by decide +kernel, by decide +kernel⟩, List.mem_of_getElem? (i := 659) (by decide +kernel), List.mem_of_getElem? (i := 738) (by decide +kernel), List.mem_of_getElem? (i := 739) (by decide +kernel)⟩
theorem lw_p76 : lw_okq (⟨"SplitSecretsModel", "makes", "(III)V"⟩, 11) := ⟨⟨by decide +kernel, by decide +kernel⟩, List.mem_of_getElem? (i := 659) (by decide +kernel), List.mem_of_getElem? (i := 742) (by decide +kernel), List.mem_of_getElem? (i := 743) (by decide +kernel)⟩
theorem lw_p77 : lw_okq (⟨"SplitSecretsModel", "draw", "(I)I"⟩, 11) := ⟨⟨by decide +kernel, by decide +kernel⟩, List.mem_of_getElem? (i := 659) (by decide +kernel), List.mem_of_getElem? (i := 746) (by decide +kernel), List.mem_of_getElem? (i := 747) (by decide +kernel)⟩
theorem lw_p78 : lw_okq (⟨"SplitSecretsModel", "refreshed", "(I)I"⟩, 11) := ⟨⟨by decide +kernel, by decide +kernel⟩, List.mem_of_getElem? (i := 659) (by decide +kernel), List.mem_of_getElem? (i := 757) (by decide +kernel), List.mem_of_getElem? (i := 758) (by decide +kernel)⟩
theorem lw_p79 : lw_okq (⟨"SplitSecretsModel", "isSecret", "(I)Z"⟩, 11) := ⟨⟨by decide +kernel, by decide +kernel⟩, List.mem_of_getElem? (i := 659) (by decide +kernel), List.mem_of_getElem? (i := 761) (by decide +kernel), List.mem_of_getElem? (i := 762) (by decide +kernel)⟩
def lw_privs_5 : List (MethodName × Nat) := [(⟨"SplitSecrets$Reader", "readsVersion", "()Z"⟩, 7), (⟨"SplitSecrets", "answerOfOrder", "()I"⟩, 6), (⟨"SplitSecrets", "versionOfOrder", "()I"⟩, 6), (⟨"SplitSecrets$Stores", "versionNow", "(I)I"⟩, 10), (⟨"SplitSecrets$History", "takesBack", "(LSplitSecrets$Stores;)Z"⟩, 3), (⟨"SplitSecretsModel", "record", "()V"⟩, 11), (⟨"SplitSecretsModel", "looks", "()V"⟩, 11), (⟨"SplitSecretsModel", "pushes", "()V"⟩, 11), (⟨"SplitSecretsModel", "tries", "(IIIII)I"⟩, 11), (⟨"SplitSecretsModel", "does", "(IIIII)I"⟩, 11), (⟨"SplitSecretsModel", "keeps", "(I)I"⟩, 11), (⟨"SplitSecretsModel", "areAwake", "()Z"⟩, 11), (⟨"SplitSecretsModel", "makes", "(III)V"⟩, 11), (⟨"SplitSecretsModel", "draw", "(I)I"⟩, 11), (⟨"SplitSecretsModel", "refreshed", "(I)I"⟩, 11), (⟨"SplitSecretsModel", "isSecret", "(I)Z"⟩, 11)]
theorem lw_r5 : ∀ q ∈ lw_privs_5, lw_okq q := List.forall_mem_cons.mpr ⟨lw_p64, List.forall_mem_cons.mpr ⟨lw_p65, List.forall_mem_cons.mpr ⟨lw_p66, List.forall_mem_cons.mpr ⟨lw_p67, List.forall_mem_cons.mpr ⟨lw_p68, List.forall_mem_cons.mpr ⟨lw_p69, List.forall_mem_cons.mpr ⟨lw_p70, List.forall_mem_cons.mpr ⟨lw_p71, List.forall_mem_cons.mpr ⟨lw_p72, List.forall_mem_cons.mpr ⟨lw_p73, List.forall_mem_cons.mpr ⟨lw_p74, List.forall_mem_cons.mpr ⟨lw_p75, List.forall_mem_cons.mpr ⟨lw_p76, List.forall_mem_cons.mpr ⟨lw_p77, List.forall_mem_cons.mpr ⟨lw_p78, List.forall_mem_cons.mpr ⟨lw_p79, fun _ h => absurd h List.not_mem_nil⟩⟩⟩⟩⟩⟩⟩⟩⟩⟩⟩⟩⟩⟩⟩⟩
theorem lw_p80 : lw_okq (⟨"SplitSecretsModel", "canRefresh", "(I)Z"⟩, 11) := ⟨⟨by decide +kernel, by decide +kernel⟩, List.mem_of_getElem? (i := 659) (by decide +kernel), List.mem_of_getElem? (i := 765) (by decide +kernel), List.mem_of_getElem? (i := 766) (by decide +kernel)⟩
theorem lw_p81 : lw_okq (⟨"SplitSecretsModel", "refreshes", "(I)V"⟩, 11) := ⟨⟨by decide +kernel, by decide +kernel⟩, List.mem_of_getElem? (i := 659) (by decide +kernel), List.mem_of_getElem? (i := 769) (by decide +kernel), List.mem_of_getElem? (i := 770) (by decide +kernel)⟩
theorem lw_p82 : lw_okq (⟨"SplitSecretsModel", "partOf", "(II)I"⟩, 11) := ⟨⟨by decide +kernel, by decide +kernel⟩, List.mem_of_getElem? (i := 659) (by decide +kernel), List.mem_of_getElem? (i := 773) (by decide +kernel), List.mem_of_getElem? (i := 774) (by decide +kernel)⟩
theorem lw_p83 : lw_okq (⟨"SplitSecretsModel", "burns", "(II)I"⟩, 11) := ⟨⟨by decide +kernel, by decide +kernel⟩, List.mem_of_getElem? (i := 659) (by decide +kernel), List.mem_of_getElem? (i := 777) (by decide +kernel), List.mem_of_getElem? (i := 778) (by decide +kernel)⟩
theorem lw_p84 : lw_okq (⟨"SplitSecretsModel", "burnt", "(I)I"⟩, 11) := ⟨⟨by decide +kernel, by decide +kernel⟩, List.mem_of_getElem? (i := 659) (by decide +kernel), List.mem_of_getElem? (i := 781) (by decide +kernel), List.mem_of_getElem? (i := 782) (by decide +kernel)⟩
theorem lw_p85 : lw_okq (⟨"SplitSecretsModel", "merges", "(I)I"⟩, 11) := ⟨⟨by decide +kernel, by decide +kernel⟩, List.mem_of_getElem? (i := 659) (by decide +kernel), List.mem_of_getElem? (i := 785) (by decide +kernel), List.mem_of_getElem? (i := 786) (by decide +kernel)⟩
theorem lw_p86 : lw_okq (⟨"SplitSecretsModel", "merged", "(I)I"⟩, 11) := ⟨⟨by decide +kernel, by decide +kernel⟩, List.mem_of_getElem? (i := 659) (by decide +kernel), List.mem_of_getElem? (i := 789) (by decide +kernel), List.mem_of_getElem? (i := 790) (by decide +kernel)⟩
theorem lw_p87 : lw_okq (⟨"SplitSecretsModel", "isPassedNow", "(II)Z"⟩, 11) := ⟨⟨by decide +kernel, by decide +kernel⟩, List.mem_of_getElem? (i := 659) (by decide +kernel), List.mem_of_getElem? (i := 793) (by decide +kernel), List.mem_of_getElem? (i := 794) (by decide +kernel)⟩
theorem lw_p88 : lw_okq (⟨"SplitSecretsModel", "isPassed", "(IIII)Z"⟩, 11) := ⟨⟨by decide +kernel, by decide +kernel⟩, List.mem_of_getElem? (i := 659) (by decide +kernel), List.mem_of_getElem? (i := 797) (by decide +kernel), List.mem_of_getElem? (i := 798) (by decide +kernel)⟩
theorem lw_p89 : lw_okq (⟨"SplitSecretsModel", "toldPart", "(III)I"⟩, 11) := ⟨⟨by decide +kernel, by decide +kernel⟩, List.mem_of_getElem? (i := 659) (by decide +kernel), List.mem_of_getElem? (i := 801) (by decide +kernel), List.mem_of_getElem? (i := 802) (by decide +kernel)⟩
theorem lw_p90 : lw_okq (⟨"SplitSecretsModel", "tagOf", "(II)I"⟩, 11) := ⟨⟨by decide +kernel, by decide +kernel⟩, List.mem_of_getElem? (i := 659) (by decide +kernel), List.mem_of_getElem? (i := 805) (by decide +kernel), List.mem_of_getElem? (i := 806) (by decide +kernel)⟩
theorem lw_p91 : lw_okq (⟨"SplitSecretsModel", "isLiedAbout", "(I)Z"⟩, 11) := ⟨⟨by decide +kernel, by decide +kernel⟩, List.mem_of_getElem? (i := 659) (by decide +kernel), List.mem_of_getElem? (i := 809) (by decide +kernel), List.mem_of_getElem? (i := 810) (by decide +kernel)⟩
theorem lw_p92 : lw_okq (⟨"SplitSecretsModel", "sleeps", "(I)I"⟩, 11) := ⟨⟨by decide +kernel, by decide +kernel⟩, List.mem_of_getElem? (i := 659) (by decide +kernel), List.mem_of_getElem? (i := 813) (by decide +kernel), List.mem_of_getElem? (i := 814) (by decide +kernel)⟩
theorem lw_p93 : lw_okq (⟨"SplitSecretsModel", "lies", "(IIII)I"⟩, 11) := ⟨⟨by decide +kernel, by decide +kernel⟩, List.mem_of_getElem? (i := 659) (by decide +kernel), List.mem_of_getElem? (i := 820) (by decide +kernel), List.mem_of_getElem? (i := 821) (by decide +kernel)⟩
theorem lw_p94 : lw_okq (⟨"SplitSecretsModel", "steals", "(III)I"⟩, 11) := ⟨⟨by decide +kernel, by decide +kernel⟩, List.mem_of_getElem? (i := 659) (by decide +kernel), List.mem_of_getElem? (i := 824) (by decide +kernel), List.mem_of_getElem? (i := 825) (by decide +kernel)⟩
theorem lw_p95 : lw_okq (⟨"SplitSecretsModel", "rankOf", "(II)I"⟩, 11) := ⟨⟨by decide +kernel, by decide +kernel⟩, List.mem_of_getElem? (i := 659) (by decide +kernel), List.mem_of_getElem? (i := 828) (by decide +kernel), List.mem_of_getElem? (i := 829) (by decide +kernel)⟩
def lw_privs_6 : List (MethodName × Nat) := [(⟨"SplitSecretsModel", "canRefresh", "(I)Z"⟩, 11), (⟨"SplitSecretsModel", "refreshes", "(I)V"⟩, 11), (⟨"SplitSecretsModel", "partOf", "(II)I"⟩, 11), (⟨"SplitSecretsModel", "burns", "(II)I"⟩, 11), (⟨"SplitSecretsModel", "burnt", "(I)I"⟩, 11), (⟨"SplitSecretsModel", "merges", "(I)I"⟩, 11), (⟨"SplitSecretsModel", "merged", "(I)I"⟩, 11), (⟨"SplitSecretsModel", "isPassedNow", "(II)Z"⟩, 11), (⟨"SplitSecretsModel", "isPassed", "(IIII)Z"⟩, 11), (⟨"SplitSecretsModel", "toldPart", "(III)I"⟩, 11), (⟨"SplitSecretsModel", "tagOf", "(II)I"⟩, 11), (⟨"SplitSecretsModel", "isLiedAbout", "(I)Z"⟩, 11), (⟨"SplitSecretsModel", "sleeps", "(I)I"⟩, 11), (⟨"SplitSecretsModel", "lies", "(IIII)I"⟩, 11), (⟨"SplitSecretsModel", "steals", "(III)I"⟩, 11), (⟨"SplitSecretsModel", "rankOf", "(II)I"⟩, 11)]
theorem lw_r6 : ∀ q ∈ lw_privs_6, lw_okq q := List.forall_mem_cons.mpr ⟨lw_p80, List.forall_mem_cons.mpr ⟨lw_p81, List.forall_mem_cons.mpr ⟨lw_p82, List.forall_mem_cons.mpr ⟨lw_p83, List.forall_mem_cons.mpr ⟨lw_p84, List.forall_mem_cons.mpr ⟨lw_p85, List.forall_mem_cons.mpr ⟨lw_p86, List.forall_mem_cons.mpr ⟨lw_p87, List.forall_mem_cons.mpr ⟨lw_p88, List.forall_mem_cons.mpr ⟨lw_p89, List.forall_mem_cons.mpr ⟨lw_p90, List.forall_mem_cons.mpr ⟨lw_p91, List.forall_mem_cons.mpr ⟨lw_p92, List.forall_mem_cons.mpr ⟨lw_p93, List.forall_mem_cons.mpr ⟨lw_p94, List.forall_mem_cons.mpr ⟨lw_p95, fun _ h => absurd h List.not_mem_nil⟩⟩⟩⟩⟩⟩⟩⟩⟩⟩⟩⟩⟩⟩⟩⟩
theorem lw_p96 : lw_okq (⟨"SplitSecretsModel", "passes", "(I)I"⟩, 11) := ⟨⟨by decide +kernel, by decide +kernel⟩, List.mem_of_getElem? (i := 659) (by decide +kernel), List.mem_of_getElem? (i := 832) (by decide +kernel), List.mem_of_getElem? (i := 833) (by decide +kernel)⟩
theorem lw_p97 : lw_okq (⟨"SplitSecretsModel", "beat", "()V"⟩, 11) := ⟨⟨by decide +kernel, by decide +kernel⟩, List.mem_of_getElem? (i := 659) (by decide +kernel), List.mem_of_getElem? (i := 836) (by decide +kernel), List.mem_of_getElem? (i := 837) (by decide +kernel)⟩
theorem lw_p98 : lw_okq (⟨"SplitSecretsModel", "setOf", "(I)I"⟩, 11) := ⟨⟨by decide +kernel, by decide +kernel⟩, List.mem_of_getElem? (i := 659) (by decide +kernel), List.mem_of_getElem? (i := 884) (by decide +kernel), List.mem_of_getElem? (i := 885) (by decide +kernel)⟩
theorem lw_p99 : lw_okq (⟨"SplitSecretsModel", "versionsAtRisk", "(I)I"⟩, 11) := ⟨⟨by decide +kernel, by decide +kernel⟩, List.mem_of_getElem? (i := 659) (by decide +kernel), List.mem_of_getElem? (i := 904) (by decide +kernel), List.mem_of_getElem? (i := 905) (by decide +kernel)⟩
theorem lw_p100 : lw_okq (⟨"SplitSecretsModel", "goes", "(Z)I"⟩, 11) := ⟨⟨by decide +kernel, by decide +kernel⟩, List.mem_of_getElem? (i := 659) (by decide +kernel), List.mem_of_getElem? (i := 929) (by decide +kernel), List.mem_of_getElem? (i := 930) (by decide +kernel)⟩
theorem lw_p101 : lw_okq (⟨"SplitSecretsModel", "readOrder", "()V"⟩, 11) := ⟨⟨by decide +kernel, by decide +kernel⟩, List.mem_of_getElem? (i := 659) (by decide +kernel), List.mem_of_getElem? (i := 933) (by decide +kernel), List.mem_of_getElem? (i := 934) (by decide +kernel)⟩
theorem lw_p102 : lw_okq (⟨"SplitSecretsModel", "takes", "(II)I"⟩, 11) := ⟨⟨by decide +kernel, by decide +kernel⟩, List.mem_of_getElem? (i := 659) (by decide +kernel), List.mem_of_getElem? (i := 937) (by decide +kernel), List.mem_of_getElem? (i := 938) (by decide +kernel)⟩
theorem lw_p103 : lw_okq (⟨"SplitSecretsModel", "takesNumber", "()I"⟩, 11) := ⟨⟨by decide +kernel, by decide +kernel⟩, List.mem_of_getElem? (i := 659) (by decide +kernel), List.mem_of_getElem? (i := 941) (by decide +kernel), List.mem_of_getElem? (i := 942) (by decide +kernel)⟩
theorem lw_p104 : lw_okq (⟨"SplitSecretsModel", "takesBehind", "(II)I"⟩, 11) := ⟨⟨by decide +kernel, by decide +kernel⟩, List.mem_of_getElem? (i := 659) (by decide +kernel), List.mem_of_getElem? (i := 945) (by decide +kernel), List.mem_of_getElem? (i := 946) (by decide +kernel)⟩
theorem lw_p105 : lw_okq (⟨"SplitSecretsModel", "isNext", "(I)Z"⟩, 11) := ⟨⟨by decide +kernel, by decide +kernel⟩, List.mem_of_getElem? (i := 659) (by decide +kernel), List.mem_of_getElem? (i := 949) (by decide +kernel), List.mem_of_getElem? (i := 950) (by decide +kernel)⟩
theorem lw_p106 : lw_okq (⟨"SplitSecretsModel", "isDone", "()Z"⟩, 11) := ⟨⟨by decide +kernel, by decide +kernel⟩, List.mem_of_getElem? (i := 659) (by decide +kernel), List.mem_of_getElem? (i := 953) (by decide +kernel), List.mem_of_getElem? (i := 954) (by decide +kernel)⟩
def lw_privs_7 : List (MethodName × Nat) := [(⟨"SplitSecretsModel", "passes", "(I)I"⟩, 11), (⟨"SplitSecretsModel", "beat", "()V"⟩, 11), (⟨"SplitSecretsModel", "setOf", "(I)I"⟩, 11), (⟨"SplitSecretsModel", "versionsAtRisk", "(I)I"⟩, 11), (⟨"SplitSecretsModel", "goes", "(Z)I"⟩, 11), (⟨"SplitSecretsModel", "readOrder", "()V"⟩, 11), (⟨"SplitSecretsModel", "takes", "(II)I"⟩, 11), (⟨"SplitSecretsModel", "takesNumber", "()I"⟩, 11), (⟨"SplitSecretsModel", "takesBehind", "(II)I"⟩, 11), (⟨"SplitSecretsModel", "isNext", "(I)Z"⟩, 11), (⟨"SplitSecretsModel", "isDone", "()Z"⟩, 11)]
theorem lw_r7 : ∀ q ∈ lw_privs_7, lw_okq q := List.forall_mem_cons.mpr ⟨lw_p96, List.forall_mem_cons.mpr ⟨lw_p97, List.forall_mem_cons.mpr ⟨lw_p98, List.forall_mem_cons.mpr ⟨lw_p99, List.forall_mem_cons.mpr ⟨lw_p100, List.forall_mem_cons.mpr ⟨lw_p101, List.forall_mem_cons.mpr ⟨lw_p102, List.forall_mem_cons.mpr ⟨lw_p103, List.forall_mem_cons.mpr ⟨lw_p104, List.forall_mem_cons.mpr ⟨lw_p105, List.forall_mem_cons.mpr ⟨lw_p106, fun _ h => absurd h List.not_mem_nil⟩⟩⟩⟩⟩⟩⟩⟩⟩⟩⟩
def lw_privs : List (MethodName × Nat) := lw_privs_1 ++ (lw_privs_2 ++ (lw_privs_3 ++ (lw_privs_4 ++ (lw_privs_5 ++ (lw_privs_6 ++ (lw_privs_7))))))
def lw_tbl : List Cond := k2_sels lw_privs ++ tables_1
theorem lw_privs_ok : ∀ q ∈ lw_privs, lw_okq q := by
  show ∀ q ∈ lw_privs_1 ++ (lw_privs_2 ++ (lw_privs_3 ++ (lw_privs_4 ++ (lw_privs_5 ++ (lw_privs_6 ++ (lw_privs_7)))))), lw_okq q
  exact List.forall_mem_append.mpr ⟨lw_r1, List.forall_mem_append.mpr ⟨lw_r2, List.forall_mem_append.mpr ⟨lw_r3, List.forall_mem_append.mpr ⟨lw_r4, List.forall_mem_append.mpr ⟨lw_r5, List.forall_mem_append.mpr ⟨lw_r6, lw_r7⟩⟩⟩⟩⟩⟩
-- ===== end of PART A; then your names; then what follows =====
end
section
def RX0 : String := "SplitSecrets$Half"
def TX0 : u_T := fun k => match k with
  | 0 => ("SplitSecrets$Half", "parts", "[I", true)
  | 1 => ("SplitSecrets$Half", "taken", "[Z", true)
  | 2 => ("SplitSecrets$Half", "tag", "I", false)
  | 3 => ("SplitSecrets$Half", "factor", "I", false)
  | 4 => ("SplitSecrets$Half", "sum", "I", false)
  | 5 => ("SplitSecrets$Half", "offset", "I", false)
  | _ => ("SplitSecrets$Half", "tagOffset", "I", false)
def tyX0 : Nat → FieldType := fun k => match k with
  | 0 => .array .int
  | 1 => .array .boolean
  | 2 => .int
  | 3 => .int
  | 4 => .int
  | 5 => .int
  | _ => .int
theorem nmX0 : ∀ a, a < 7 → ∀ b, b < 7 → a ≠ b → (TX0 a).2.1 ≠ (TX0 b).2.1 := by decide +kernel
theorem tyX0_ok : ∀ k, k < 7 → parseFieldDescriptor (TX0 k).2.2.1 = some (tyX0 k) := by decide +kernel
abbrev cX0_init : ByteArray := prog_2_method_1_code
def yX0_init : MethodName := ⟨RX0, "<init>", "()V"⟩
abbrev cX0_copyHalf : ByteArray := prog_2_method_2_code
def yX0_copyHalf : MethodName := ⟨RX0, "copyHalf", "(LSplitSecrets$Half;)V"⟩
abbrev cX0_partWith : ByteArray := prog_2_method_3_code
def yX0_partWith : MethodName := ⟨RX0, "partWith", "(I)I"⟩
abbrev cX0_toldPart : ByteArray := prog_2_method_4_code
def yX0_toldPart : MethodName := ⟨RX0, "toldPart", "()I"⟩
abbrev cX0_toldTag : ByteArray := prog_2_method_5_code
def yX0_toldTag : MethodName := ⟨RX0, "toldTag", "()I"⟩
abbrev cX0_lies : ByteArray := prog_2_method_6_code
def yX0_lies : MethodName := ⟨RX0, "lies", "()Z"⟩
abbrev cX0_tagDueFor : ByteArray := prog_2_method_7_code
def yX0_tagDueFor : MethodName := ⟨RX0, "tagDueFor", "(I)I"⟩
abbrev cX0_catches : ByteArray := prog_2_method_8_code
def yX0_catches : MethodName := ⟨RX0, "catches", "(LSplitSecrets$Half;)Z"⟩
abbrev cX0_freeRowOfNow : ByteArray := prog_2_method_9_code
def yX0_freeRowOfNow : MethodName := ⟨RX0, "freeRowOfNow", "()V"⟩
def RX1 : String := "SplitSecrets$History"
def TX1 : u_T := fun k => match k with
  | 0 => ("SplitSecrets$History", "rows", "[LSplitSecrets$Stores;", true)
  | 1 => ("SplitSecrets$History", "oldest", "I", false)
  | _ => ("SplitSecrets$History", "size", "I", false)
def tyX1 : Nat → FieldType := fun k => match k with
  | 0 => .array (.object "SplitSecrets$Stores")
  | 1 => .int
  | _ => .int
theorem nmX1 : ∀ a, a < 3 → ∀ b, b < 3 → a ≠ b → (TX1 a).2.1 ≠ (TX1 b).2.1 := by decide +kernel
theorem tyX1_ok : ∀ k, k < 3 → parseFieldDescriptor (TX1 k).2.2.1 = some (tyX1 k) := by decide +kernel
abbrev cX1_init : ByteArray := prog_3_method_1_code
def yX1_init : MethodName := ⟨RX1, "<init>", "()V"⟩
abbrev cX1_draft : ByteArray := prog_3_method_2_code
def yX1_draft : MethodName := ⟨RX1, "draft", "(LSplitSecrets$Stores;)V"⟩
abbrev cX1_recordDraft : ByteArray := prog_3_method_3_code
def yX1_recordDraft : MethodName := ⟨RX1, "recordDraft", "()V"⟩
abbrev cX1_takesBack : ByteArray := prog_3_method_4_code
def yX1_takesBack : MethodName := ⟨RX1, "takesBack", "(LSplitSecrets$Stores;)Z"⟩
def RX2 : String := "SplitSecrets$Pad"
def TX2 : u_T := fun k => match k with
  | 0 => ("SplitSecrets$Pad", "signs", "[C", true)
  | _ => ("SplitSecrets$Pad", "length", "I", false)
def tyX2 : Nat → FieldType := fun k => match k with
  | 0 => .array .char
  | _ => .int
theorem nmX2 : ∀ a, a < 2 → ∀ b, b < 2 → a ≠ b → (TX2 a).2.1 ≠ (TX2 b).2.1 := by decide +kernel
theorem tyX2_ok : ∀ k, k < 2 → parseFieldDescriptor (TX2 k).2.2.1 = some (tyX2 k) := by decide +kernel
abbrev cX2_init : ByteArray := prog_4_method_1_code
def yX2_init : MethodName := ⟨RX2, "<init>", "()V"⟩
abbrev cX2_append : ByteArray := prog_4_method_2_code
def yX2_append : MethodName := ⟨RX2, "append", "(J)I"⟩
abbrev cX2_codeIn : ByteArray := prog_4_method_3_code
def yX2_codeIn : MethodName := ⟨RX2, "codeIn", "(JI)I"⟩
abbrev cX2_signsIn : ByteArray := prog_4_method_4_code
def yX2_signsIn : MethodName := ⟨RX2, "signsIn", "(J)I"⟩
abbrev cX2_clear : ByteArray := prog_4_method_5_code
def yX2_clear : MethodName := ⟨RX2, "clear", "()I"⟩
abbrev cX2_signAt : ByteArray := prog_4_method_6_code
def yX2_signAt : MethodName := ⟨RX2, "signAt", "(I)C"⟩
def RX3 : String := "SplitSecrets$Reader"
def TX3 : u_T := fun k => match k with
  | 0 => ("SplitSecrets$Reader", "pad", "LSplitSecrets$Pad;", true)
  | 1 => ("SplitSecrets$Reader", "at", "I", false)
  | 2 => ("SplitSecrets$Reader", "letter", "C", false)
  | 3 => ("SplitSecrets$Reader", "store", "I", false)
  | 4 => ("SplitSecrets$Reader", "secret", "I", false)
  | 5 => ("SplitSecrets$Reader", "number", "I", false)
  | _ => ("SplitSecrets$Reader", "tag", "I", false)
def tyX3 : Nat → FieldType := fun k => match k with
  | 0 => .object "SplitSecrets$Pad"
  | 1 => .int
  | 2 => .char
  | 3 => .int
  | 4 => .int
  | 5 => .int
  | _ => .int
theorem nmX3 : ∀ a, a < 7 → ∀ b, b < 7 → a ≠ b → (TX3 a).2.1 ≠ (TX3 b).2.1 := by decide +kernel
theorem tyX3_ok : ∀ k, k < 7 → parseFieldDescriptor (TX3 k).2.2.1 = some (tyX3 k) := by decide +kernel
abbrev cX3_init : ByteArray := prog_5_method_1_code
def yX3_init : MethodName := ⟨RX3, "<init>", "(LSplitSecrets$Pad;)V"⟩
abbrev cX3_goToStart : ByteArray := prog_5_method_2_code
def yX3_goToStart : MethodName := ⟨RX3, "goToStart", "()V"⟩
abbrev cX3_firstFault : ByteArray := prog_5_method_3_code
def yX3_firstFault : MethodName := ⟨RX3, "firstFault", "()I"⟩
abbrev cX3_readsNextOrder : ByteArray := prog_5_method_4_code
def yX3_readsNextOrder : MethodName := ⟨RX3, "readsNextOrder", "()Z"⟩
abbrev cX3_reads : ByteArray := prog_5_method_5_code
def yX3_reads : MethodName := ⟨RX3, "reads", "(C)Z"⟩
abbrev cX3_readsStore : ByteArray := prog_5_method_6_code
def yX3_readsStore : MethodName := ⟨RX3, "readsStore", "()Z"⟩
abbrev cX3_readsSecret : ByteArray := prog_5_method_7_code
def yX3_readsSecret : MethodName := ⟨RX3, "readsSecret", "()Z"⟩
abbrev cX3_readsNumber : ByteArray := prog_5_method_8_code
def yX3_readsNumber : MethodName := ⟨RX3, "readsNumber", "()Z"⟩
abbrev cX3_readsOffsets : ByteArray := prog_5_method_9_code
def yX3_readsOffsets : MethodName := ⟨RX3, "readsOffsets", "()Z"⟩
abbrev cX3_readsVersion : ByteArray := prog_5_method_10_code
def yX3_readsVersion : MethodName := ⟨RX3, "readsVersion", "()Z"⟩
abbrev cX3_digitRead : ByteArray := prog_5_method_11_code
def yX3_digitRead : MethodName := ⟨RX3, "digitRead", "()I"⟩
abbrev cX3_numberRead : ByteArray := prog_5_method_12_code
def yX3_numberRead : MethodName := ⟨RX3, "numberRead", "()I"⟩
def RX4 : String := "SplitSecrets$Secret"
def TX4 : u_T := fun k => match k with
  | 0 => ("SplitSecrets$Secret", "first", "LSplitSecrets$Half;", true)
  | 1 => ("SplitSecrets$Secret", "second", "LSplitSecrets$Half;", true)
  | 2 => ("SplitSecrets$Secret", "version", "I", false)
  | 3 => ("SplitSecrets$Secret", "olds", "I", false)
  | 4 => ("SplitSecrets$Secret", "openAs", "I", false)
  | 5 => ("SplitSecrets$Secret", "openFor", "I", false)
  | 6 => ("SplitSecrets$Secret", "caught", "I", false)
  | 7 => ("SplitSecrets$Secret", "opened", "I", false)
  | 8 => ("SplitSecrets$Secret", "stolen", "I", false)
  | _ => ("SplitSecrets$Secret", "known", "Z", false)
def tyX4 : Nat → FieldType := fun k => match k with
  | 0 => .object "SplitSecrets$Half"
  | 1 => .object "SplitSecrets$Half"
  | 2 => .int
  | 3 => .int
  | 4 => .int
  | 5 => .int
  | 6 => .int
  | 7 => .int
  | 8 => .int
  | _ => .boolean
theorem nmX4 : ∀ a, a < 10 → ∀ b, b < 10 → a ≠ b → (TX4 a).2.1 ≠ (TX4 b).2.1 := by decide +kernel
theorem tyX4_ok : ∀ k, k < 10 → parseFieldDescriptor (TX4 k).2.2.1 = some (tyX4 k) := by decide +kernel
abbrev cX4_init : ByteArray := prog_6_method_1_code
def yX4_init : MethodName := ⟨RX4, "<init>", "()V"⟩
abbrev cX4_copySecret : ByteArray := prog_6_method_2_code
def yX4_copySecret : MethodName := ⟨RX4, "copySecret", "(LSplitSecrets$Secret;)V"⟩
abbrev cX4_halfIn : ByteArray := prog_6_method_3_code
def yX4_halfIn : MethodName := ⟨RX4, "halfIn", "(I)LSplitSecrets$Half;"⟩
abbrev cX4_halfBeside : ByteArray := prog_6_method_4_code
def yX4_halfBeside : MethodName := ⟨RX4, "halfBeside", "(I)LSplitSecrets$Half;"⟩
abbrev cX4_value : ByteArray := prog_6_method_5_code
def yX4_value : MethodName := ⟨RX4, "value", "()I"⟩
abbrev cX4_ageKeeping : ByteArray := prog_6_method_6_code
def yX4_ageKeeping : MethodName := ⟨RX4, "ageKeeping", "(I)I"⟩
abbrev cX4_answerIfMerged : ByteArray := prog_6_method_7_code
def yX4_answerIfMerged : MethodName := ⟨RX4, "answerIfMerged", "()I"⟩
abbrev cX4_open : ByteArray := prog_6_method_8_code
def yX4_open : MethodName := ⟨RX4, "open", "(II)V"⟩
abbrev cX4_partForThief : ByteArray := prog_6_method_9_code
def yX4_partForThief : MethodName := ⟨RX4, "partForThief", "(II)I"⟩
abbrev cX4_takenSet : ByteArray := prog_6_method_10_code
def yX4_takenSet : MethodName := ⟨RX4, "takenSet", "(I)I"⟩
abbrev cX4_rowsAtRisk : ByteArray := prog_6_method_11_code
def yX4_rowsAtRisk : MethodName := ⟨RX4, "rowsAtRisk", "()I"⟩
def RX5 : String := "SplitSecrets$Stores"
def TX5 : u_T := fun k => match k with
  | 0 => ("SplitSecrets$Stores", "secrets", "[LSplitSecrets$Secret;", true)
  | 1 => ("SplitSecrets$Stores", "settings", "[I", true)
  | 2 => ("SplitSecrets$Stores", "asleep", "[Z", true)
  | 3 => ("SplitSecrets$Stores", "kept", "I", false)
  | 4 => ("SplitSecrets$Stores", "x", "I", false)
  | 5 => ("SplitSecrets$Stores", "beatsSoFar", "I", false)
  | 6 => ("SplitSecrets$Stores", "made", "I", false)
  | 7 => ("SplitSecrets$Stores", "burnt", "I", false)
  | 8 => ("SplitSecrets$Stores", "caught", "I", false)
  | _ => ("SplitSecrets$Stores", "liesPassed", "I", false)
def tyX5 : Nat → FieldType := fun k => match k with
  | 0 => .array (.object "SplitSecrets$Secret")
  | 1 => .array .int
  | 2 => .array .boolean
  | 3 => .int
  | 4 => .int
  | 5 => .int
  | 6 => .int
  | 7 => .int
  | 8 => .int
  | _ => .int
theorem nmX5 : ∀ a, a < 10 → ∀ b, b < 10 → a ≠ b → (TX5 a).2.1 ≠ (TX5 b).2.1 := by decide +kernel
theorem tyX5_ok : ∀ k, k < 10 → parseFieldDescriptor (TX5 k).2.2.1 = some (tyX5 k) := by decide +kernel
abbrev cX5_init : ByteArray := prog_7_method_1_code
def yX5_init : MethodName := ⟨RX5, "<init>", "()V"⟩
abbrev cX5_copyState : ByteArray := prog_7_method_2_code
def yX5_copyState : MethodName := ⟨RX5, "copyState", "(LSplitSecrets$Stores;)V"⟩
abbrev cX5_hasSecret : ByteArray := prog_7_method_3_code
def yX5_hasSecret : MethodName := ⟨RX5, "hasSecret", "(I)Z"⟩
abbrev cX5_hasHalf : ByteArray := prog_7_method_4_code
def yX5_hasHalf : MethodName := ⟨RX5, "hasHalf", "(II)Z"⟩
abbrev cX5_someStoreSleeps : ByteArray := prog_7_method_5_code
def yX5_someStoreSleeps : MethodName := ⟨RX5, "someStoreSleeps", "()Z"⟩
abbrev cX5_versionNow : ByteArray := prog_7_method_6_code
def yX5_versionNow : MethodName := ⟨RX5, "versionNow", "(I)I"⟩
abbrev cX5_changeSetting : ByteArray := prog_7_method_7_code
def yX5_changeSetting : MethodName := ⟨RX5, "changeSetting", "(II)I"⟩
abbrev cX5_changeX : ByteArray := prog_7_method_8_code
def yX5_changeX : MethodName := ⟨RX5, "changeX", "(I)I"⟩
abbrev cX5_drawn : ByteArray := prog_7_method_9_code
def yX5_drawn : MethodName := ⟨RX5, "drawn", "()I"⟩
abbrev cX5_admit : ByteArray := prog_7_method_10_code
def yX5_admit : MethodName := ⟨RX5, "admit", "(I)I"⟩
abbrev cX5_makeVersion : ByteArray := prog_7_method_11_code
def yX5_makeVersion : MethodName := ⟨RX5, "makeVersion", "(LSplitSecrets$Secret;I)V"⟩
abbrev cX5_makeNextVersion : ByteArray := prog_7_method_12_code
def yX5_makeNextVersion : MethodName := ⟨RX5, "makeNextVersion", "(LSplitSecrets$Secret;)V"⟩
abbrev cX5_renew : ByteArray := prog_7_method_13_code
def yX5_renew : MethodName := ⟨RX5, "renew", "(I)I"⟩
abbrev cX5_burnOldVersions : ByteArray := prog_7_method_14_code
def yX5_burnOldVersions : MethodName := ⟨RX5, "burnOldVersions", "(I)I"⟩
abbrev cX5_turnSleep : ByteArray := prog_7_method_15_code
def yX5_turnSleep : MethodName := ⟨RX5, "turnSleep", "(I)I"⟩
abbrev cX5_takeUpLie : ByteArray := prog_7_method_16_code
def yX5_takeUpLie : MethodName := ⟨RX5, "takeUpLie", "(IIII)I"⟩
abbrev cX5_answerOfMerger : ByteArray := prog_7_method_17_code
def yX5_answerOfMerger : MethodName := ⟨RX5, "answerOfMerger", "(I)I"⟩
abbrev cX5_mergeParts : ByteArray := prog_7_method_18_code
def yX5_mergeParts : MethodName := ⟨RX5, "mergeParts", "(I)I"⟩
abbrev cX5_givePartToThief : ByteArray := prog_7_method_19_code
def yX5_givePartToThief : MethodName := ⟨RX5, "givePartToThief", "(III)I"⟩
abbrev cX5_passBeats : ByteArray := prog_7_method_20_code
def yX5_passBeats : MethodName := ⟨RX5, "passBeats", "(I)I"⟩
abbrev cX5_passOneBeat : ByteArray := prog_7_method_21_code
def yX5_passOneBeat : MethodName := ⟨RX5, "passOneBeat", "()V"⟩
abbrev cX5_figureOfHalf : ByteArray := prog_7_method_22_code
def yX5_figureOfHalf : MethodName := ⟨RX5, "figureOfHalf", "(III)I"⟩
abbrev cX5_figureOfSecret : ByteArray := prog_7_method_23_code
def yX5_figureOfSecret : MethodName := ⟨RX5, "figureOfSecret", "(II)I"⟩
abbrev cX5_figureOfOldVersion : ByteArray := prog_7_method_24_code
def yX5_figureOfOldVersion : MethodName := ⟨RX5, "figureOfOldVersion", "(III)I"⟩
abbrev cX5_figure : ByteArray := prog_7_method_25_code
def yX5_figure : MethodName := ⟨RX5, "figure", "(I)I"⟩
abbrev cX5_setOfOpen : ByteArray := prog_7_method_26_code
def yX5_setOfOpen : MethodName := ⟨RX5, "setOfOpen", "()I"⟩
abbrev cX5_setOfKnown : ByteArray := prog_7_method_27_code
def yX5_setOfKnown : MethodName := ⟨RX5, "setOfKnown", "()I"⟩
abbrev cX5_otherPartFor : ByteArray := prog_7_method_28_code
def yX5_otherPartFor : MethodName := ⟨RX5, "otherPartFor", "(III)I"⟩
abbrev cX5_tagOffsetThatPasses : ByteArray := prog_7_method_29_code
def yX5_tagOffsetThatPasses : MethodName := ⟨RX5, "tagOffsetThatPasses", "(III)I"⟩
abbrev cX5_offsetsThatPass : ByteArray := prog_7_method_30_code
def yX5_offsetsThatPass : MethodName := ⟨RX5, "offsetsThatPass", "(III)I"⟩
abbrev cX5_partsNeeded : ByteArray := prog_7_method_31_code
def yX5_partsNeeded : MethodName := ⟨RX5, "partsNeeded", "(I)I"⟩
abbrev cX5_versionsAtRisk : ByteArray := prog_7_method_32_code
def yX5_versionsAtRisk : MethodName := ⟨RX5, "versionsAtRisk", "(I)I"⟩
def RX6 : String := "SplitSecrets"
def TX6 : u_T := fun k => match k with
  | 0 => ("SplitSecrets", "now", "LSplitSecrets$Stores;", true)
  | 1 => ("SplitSecrets", "history", "LSplitSecrets$History;", true)
  | 2 => ("SplitSecrets", "slots", "[LSplitSecrets$Stores;", true)
  | 3 => ("SplitSecrets", "saved", "[Z", true)
  | 4 => ("SplitSecrets", "pad", "LSplitSecrets$Pad;", true)
  | _ => ("SplitSecrets", "reader", "LSplitSecrets$Reader;", true)
def tyX6 : Nat → FieldType := fun k => match k with
  | 0 => .object "SplitSecrets$Stores"
  | 1 => .object "SplitSecrets$History"
  | 2 => .array (.object "SplitSecrets$Stores")
  | 3 => .array .boolean
  | 4 => .object "SplitSecrets$Pad"
  | _ => .object "SplitSecrets$Reader"
theorem nmX6 : ∀ a, a < 6 → ∀ b, b < 6 → a ≠ b → (TX6 a).2.1 ≠ (TX6 b).2.1 := by decide +kernel
theorem tyX6_ok : ∀ k, k < 6 → parseFieldDescriptor (TX6 k).2.2.1 = some (tyX6 k) := by decide +kernel
abbrev cX6_init : ByteArray := prog_1_method_1_code
def yX6_init : MethodName := ⟨RX6, "<init>", "()V"⟩
abbrev cX6_set : ByteArray := prog_1_method_2_code
def yX6_set : MethodName := ⟨RX6, "set", "(II)I"⟩
abbrev cX6_seed : ByteArray := prog_1_method_3_code
def yX6_seed : MethodName := ⟨RX6, "seed", "(I)I"⟩
abbrev cX6_keep : ByteArray := prog_1_method_4_code
def yX6_keep : MethodName := ⟨RX6, "keep", "(I)I"⟩
abbrev cX6_refresh : ByteArray := prog_1_method_5_code
def yX6_refresh : MethodName := ⟨RX6, "refresh", "(I)I"⟩
abbrev cX6_burn : ByteArray := prog_1_method_6_code
def yX6_burn : MethodName := ⟨RX6, "burn", "(I)I"⟩
abbrev cX6_sleep : ByteArray := prog_1_method_7_code
def yX6_sleep : MethodName := ⟨RX6, "sleep", "(I)I"⟩
abbrev cX6_lie : ByteArray := prog_1_method_8_code
def yX6_lie : MethodName := ⟨RX6, "lie", "(IIII)I"⟩
abbrev cX6_merge : ByteArray := prog_1_method_9_code
def yX6_merge : MethodName := ⟨RX6, "merge", "(I)I"⟩
abbrev cX6_steal : ByteArray := prog_1_method_10_code
def yX6_steal : MethodName := ⟨RX6, "steal", "(III)I"⟩
abbrev cX6_pass : ByteArray := prog_1_method_11_code
def yX6_pass : MethodName := ⟨RX6, "pass", "(I)I"⟩
abbrev cX6_of : ByteArray := prog_1_method_12_code
def yX6_of : MethodName := ⟨RX6, "of", "(III)I"⟩
abbrev cX6_ofSecret : ByteArray := prog_1_method_13_code
def yX6_ofSecret : MethodName := ⟨RX6, "ofSecret", "(II)I"⟩
abbrev cX6_old : ByteArray := prog_1_method_14_code
def yX6_old : MethodName := ⟨RX6, "old", "(III)I"⟩
abbrev cX6_count : ByteArray := prog_1_method_15_code
def yX6_count : MethodName := ⟨RX6, "count", "(I)I"⟩
abbrev cX6_otherwise : ByteArray := prog_1_method_16_code
def yX6_otherwise : MethodName := ⟨RX6, "otherwise", "(III)I"⟩
abbrev cX6_passing : ByteArray := prog_1_method_17_code
def yX6_passing : MethodName := ⟨RX6, "passing", "(III)I"⟩
abbrev cX6_passes : ByteArray := prog_1_method_18_code
def yX6_passes : MethodName := ⟨RX6, "passes", "(III)I"⟩
abbrev cX6_needed : ByteArray := prog_1_method_19_code
def yX6_needed : MethodName := ⟨RX6, "needed", "(I)I"⟩
abbrev cX6_atRisk : ByteArray := prog_1_method_20_code
def yX6_atRisk : MethodName := ⟨RX6, "atRisk", "(I)I"⟩
abbrev cX6_ifMerged : ByteArray := prog_1_method_21_code
def yX6_ifMerged : MethodName := ⟨RX6, "ifMerged", "(I)I"⟩
abbrev cX6_put : ByteArray := prog_1_method_22_code
def yX6_put : MethodName := ⟨RX6, "put", "(J)I"⟩
abbrev cX6_wipe : ByteArray := prog_1_method_23_code
def yX6_wipe : MethodName := ⟨RX6, "wipe", "()I"⟩
abbrev cX6_fault : ByteArray := prog_1_method_24_code
def yX6_fault : MethodName := ⟨RX6, "fault", "()I"⟩
abbrev cX6_carryOut : ByteArray := prog_1_method_25_code
def yX6_carryOut : MethodName := ⟨RX6, "carryOut", "()I"⟩
abbrev cX6_undo : ByteArray := prog_1_method_26_code
def yX6_undo : MethodName := ⟨RX6, "undo", "()I"⟩
abbrev cX6_save : ByteArray := prog_1_method_27_code
def yX6_save : MethodName := ⟨RX6, "save", "(I)I"⟩
abbrev cX6_restore : ByteArray := prog_1_method_28_code
def yX6_restore : MethodName := ⟨RX6, "restore", "(I)I"⟩
abbrev cX6_recorded : ByteArray := prog_1_method_29_code
def yX6_recorded : MethodName := ⟨RX6, "recorded", "(I)I"⟩
abbrev cX6_answerOfOrder : ByteArray := prog_1_method_30_code
def yX6_answerOfOrder : MethodName := ⟨RX6, "answerOfOrder", "()I"⟩
abbrev cX6_versionOfOrder : ByteArray := prog_1_method_31_code
def yX6_versionOfOrder : MethodName := ⟨RX6, "versionOfOrder", "()I"⟩
abbrev cX6_isSlot : ByteArray := prog_1_method_32_code
def yX6_isSlot : MethodName := ⟨RX6, "isSlot", "(I)Z"⟩
abbrev cX6_isStore : ByteArray := prog_1_method_33_code
def yX6_isStore : MethodName := ⟨RX6, "isStore", "(I)Z"⟩
abbrev cX6_isPart : ByteArray := prog_1_method_34_code
def yX6_isPart : MethodName := ⟨RX6, "isPart", "(I)Z"⟩
abbrev cX6_isTag : ByteArray := prog_1_method_35_code
def yX6_isTag : MethodName := ⟨RX6, "isTag", "(I)Z"⟩
def RX7 : String := "SplitSecretsModel"
def TX7 : u_T := fun k => match k with
  | 0 => ("SplitSecretsModel", "s", "[I", true)
  | 1 => ("SplitSecretsModel", "history", "[I", true)
  | 2 => ("SplitSecretsModel", "kept", "I", false)
  | 3 => ("SplitSecretsModel", "slots", "[I", true)
  | 4 => ("SplitSecretsModel", "isSaved", "[Z", true)
  | 5 => ("SplitSecretsModel", "pad", "[I", true)
  | 6 => ("SplitSecretsModel", "length", "I", false)
  | 7 => ("SplitSecretsModel", "ahead", "[I", true)
  | 8 => ("SplitSecretsModel", "position", "I", false)
  | 9 => ("SplitSecretsModel", "isWrong", "Z", false)
  | _ => ("SplitSecretsModel", "order", "[I", true)
def tyX7 : Nat → FieldType := fun k => match k with
  | 0 => .array .int
  | 1 => .array .int
  | 2 => .int
  | 3 => .array .int
  | 4 => .array .boolean
  | 5 => .array .int
  | 6 => .int
  | 7 => .array .int
  | 8 => .int
  | 9 => .boolean
  | _ => .array .int
theorem nmX7 : ∀ a, a < 11 → ∀ b, b < 11 → a ≠ b → (TX7 a).2.1 ≠ (TX7 b).2.1 := by decide +kernel
theorem tyX7_ok : ∀ k, k < 11 → parseFieldDescriptor (TX7 k).2.2.1 = some (tyX7 k) := by decide +kernel
abbrev cX7_init : ByteArray := prog_9_method_1_code
def yX7_init : MethodName := ⟨RX7, "<init>", "()V"⟩
abbrev cX7_in : ByteArray := prog_9_method_3_code
def yX7_in : MethodName := ⟨RX7, "in", "(III)Z"⟩
abbrev cX7_isStore : ByteArray := prog_9_method_4_code
def yX7_isStore : MethodName := ⟨RX7, "isStore", "(I)Z"⟩
abbrev cX7_isSecret : ByteArray := prog_9_method_5_code
def yX7_isSecret : MethodName := ⟨RX7, "isSecret", "(I)Z"⟩
abbrev cX7_areAwake : ByteArray := prog_9_method_6_code
def yX7_areAwake : MethodName := ⟨RX7, "areAwake", "()Z"⟩
abbrev cX7_cell : ByteArray := prog_9_method_7_code
def yX7_cell : MethodName := ⟨RX7, "cell", "(II)I"⟩
abbrev cX7_at : ByteArray := prog_9_method_8_code
def yX7_at : MethodName := ⟨RX7, "at", "(III)I"⟩
abbrev cX7_partOf : ByteArray := prog_9_method_9_code
def yX7_partOf : MethodName := ⟨RX7, "partOf", "(II)I"⟩
abbrev cX7_looks : ByteArray := prog_9_method_10_code
def yX7_looks : MethodName := ⟨RX7, "looks", "()V"⟩
abbrev cX7_pushes : ByteArray := prog_9_method_11_code
def yX7_pushes : MethodName := ⟨RX7, "pushes", "()V"⟩
abbrev cX7_record : ByteArray := prog_9_method_12_code
def yX7_record : MethodName := ⟨RX7, "record", "()V"⟩
abbrev cX7_draw : ByteArray := prog_9_method_13_code
def yX7_draw : MethodName := ⟨RX7, "draw", "(I)I"⟩
abbrev cX7_makes : ByteArray := prog_9_method_14_code
def yX7_makes : MethodName := ⟨RX7, "makes", "(III)V"⟩
abbrev cX7_burns : ByteArray := prog_9_method_15_code
def yX7_burns : MethodName := ⟨RX7, "burns", "(II)I"⟩
abbrev cX7_canRefresh : ByteArray := prog_9_method_16_code
def yX7_canRefresh : MethodName := ⟨RX7, "canRefresh", "(I)Z"⟩
abbrev cX7_refreshes : ByteArray := prog_9_method_17_code
def yX7_refreshes : MethodName := ⟨RX7, "refreshes", "(I)V"⟩
abbrev cX7_tagOf : ByteArray := prog_9_method_18_code
def yX7_tagOf : MethodName := ⟨RX7, "tagOf", "(II)I"⟩
abbrev cX7_toldPart : ByteArray := prog_9_method_19_code
def yX7_toldPart : MethodName := ⟨RX7, "toldPart", "(III)I"⟩
abbrev cX7_isPassed : ByteArray := prog_9_method_20_code
def yX7_isPassed : MethodName := ⟨RX7, "isPassed", "(IIII)Z"⟩
abbrev cX7_isPassedNow : ByteArray := prog_9_method_21_code
def yX7_isPassedNow : MethodName := ⟨RX7, "isPassedNow", "(II)Z"⟩
abbrev cX7_merged : ByteArray := prog_9_method_22_code
def yX7_merged : MethodName := ⟨RX7, "merged", "(I)I"⟩
abbrev cX7_isLiedAbout : ByteArray := prog_9_method_23_code
def yX7_isLiedAbout : MethodName := ⟨RX7, "isLiedAbout", "(I)Z"⟩
abbrev cX7_keeps : ByteArray := prog_9_method_24_code
def yX7_keeps : MethodName := ⟨RX7, "keeps", "(I)I"⟩
abbrev cX7_refreshed : ByteArray := prog_9_method_25_code
def yX7_refreshed : MethodName := ⟨RX7, "refreshed", "(I)I"⟩
abbrev cX7_burnt : ByteArray := prog_9_method_26_code
def yX7_burnt : MethodName := ⟨RX7, "burnt", "(I)I"⟩
abbrev cX7_sleeps : ByteArray := prog_9_method_27_code
def yX7_sleeps : MethodName := ⟨RX7, "sleeps", "(I)I"⟩
abbrev cX7_lies : ByteArray := prog_9_method_28_code
def yX7_lies : MethodName := ⟨RX7, "lies", "(IIII)I"⟩
abbrev cX7_merges : ByteArray := prog_9_method_29_code
def yX7_merges : MethodName := ⟨RX7, "merges", "(I)I"⟩
abbrev cX7_rankOf : ByteArray := prog_9_method_30_code
def yX7_rankOf : MethodName := ⟨RX7, "rankOf", "(II)I"⟩
abbrev cX7_steals : ByteArray := prog_9_method_31_code
def yX7_steals : MethodName := ⟨RX7, "steals", "(III)I"⟩
abbrev cX7_beat : ByteArray := prog_9_method_32_code
def yX7_beat : MethodName := ⟨RX7, "beat", "()V"⟩
abbrev cX7_passes : ByteArray := prog_9_method_33_code
def yX7_passes : MethodName := ⟨RX7, "passes", "(I)I"⟩
abbrev cX7_tries : ByteArray := prog_9_method_34_code
def yX7_tries : MethodName := ⟨RX7, "tries", "(IIIII)I"⟩
abbrev cX7_does : ByteArray := prog_9_method_35_code
def yX7_does : MethodName := ⟨RX7, "does", "(IIIII)I"⟩
abbrev cX7_set : ByteArray := prog_9_method_36_code
def yX7_set : MethodName := ⟨RX7, "set", "(II)I"⟩
abbrev cX7_seed : ByteArray := prog_9_method_37_code
def yX7_seed : MethodName := ⟨RX7, "seed", "(I)I"⟩
abbrev cX7_keep : ByteArray := prog_9_method_38_code
def yX7_keep : MethodName := ⟨RX7, "keep", "(I)I"⟩
abbrev cX7_refresh : ByteArray := prog_9_method_39_code
def yX7_refresh : MethodName := ⟨RX7, "refresh", "(I)I"⟩
abbrev cX7_burn : ByteArray := prog_9_method_40_code
def yX7_burn : MethodName := ⟨RX7, "burn", "(I)I"⟩
abbrev cX7_sleep : ByteArray := prog_9_method_41_code
def yX7_sleep : MethodName := ⟨RX7, "sleep", "(I)I"⟩
abbrev cX7_lie : ByteArray := prog_9_method_42_code
def yX7_lie : MethodName := ⟨RX7, "lie", "(IIII)I"⟩
abbrev cX7_merge : ByteArray := prog_9_method_43_code
def yX7_merge : MethodName := ⟨RX7, "merge", "(I)I"⟩
abbrev cX7_steal : ByteArray := prog_9_method_44_code
def yX7_steal : MethodName := ⟨RX7, "steal", "(III)I"⟩
abbrev cX7_pass : ByteArray := prog_9_method_45_code
def yX7_pass : MethodName := ⟨RX7, "pass", "(I)I"⟩
abbrev cX7_of : ByteArray := prog_9_method_46_code
def yX7_of : MethodName := ⟨RX7, "of", "(III)I"⟩
abbrev cX7_ofSecret : ByteArray := prog_9_method_47_code
def yX7_ofSecret : MethodName := ⟨RX7, "ofSecret", "(II)I"⟩
abbrev cX7_old : ByteArray := prog_9_method_48_code
def yX7_old : MethodName := ⟨RX7, "old", "(III)I"⟩
abbrev cX7_setOf : ByteArray := prog_9_method_49_code
def yX7_setOf : MethodName := ⟨RX7, "setOf", "(I)I"⟩
abbrev cX7_count : ByteArray := prog_9_method_50_code
def yX7_count : MethodName := ⟨RX7, "count", "(I)I"⟩
abbrev cX7_otherwise : ByteArray := prog_9_method_51_code
def yX7_otherwise : MethodName := ⟨RX7, "otherwise", "(III)I"⟩
abbrev cX7_passing : ByteArray := prog_9_method_52_code
def yX7_passing : MethodName := ⟨RX7, "passing", "(III)I"⟩
abbrev cX7_passes_ : ByteArray := prog_9_method_53_code
def yX7_passes_ : MethodName := ⟨RX7, "passes", "(III)I"⟩
abbrev cX7_versionsAtRisk : ByteArray := prog_9_method_54_code
def yX7_versionsAtRisk : MethodName := ⟨RX7, "versionsAtRisk", "(I)I"⟩
abbrev cX7_needed : ByteArray := prog_9_method_55_code
def yX7_needed : MethodName := ⟨RX7, "needed", "(I)I"⟩
abbrev cX7_atRisk : ByteArray := prog_9_method_56_code
def yX7_atRisk : MethodName := ⟨RX7, "atRisk", "(I)I"⟩
abbrev cX7_ifMerged : ByteArray := prog_9_method_57_code
def yX7_ifMerged : MethodName := ⟨RX7, "ifMerged", "(I)I"⟩
abbrev cX7_put : ByteArray := prog_9_method_58_code
def yX7_put : MethodName := ⟨RX7, "put", "(J)I"⟩
abbrev cX7_wipe : ByteArray := prog_9_method_59_code
def yX7_wipe : MethodName := ⟨RX7, "wipe", "()I"⟩
abbrev cX7_isNext : ByteArray := prog_9_method_60_code
def yX7_isNext : MethodName := ⟨RX7, "isNext", "(I)Z"⟩
abbrev cX7_takes : ByteArray := prog_9_method_61_code
def yX7_takes : MethodName := ⟨RX7, "takes", "(II)I"⟩
abbrev cX7_takesNumber : ByteArray := prog_9_method_62_code
def yX7_takesNumber : MethodName := ⟨RX7, "takesNumber", "()I"⟩
abbrev cX7_takesBehind : ByteArray := prog_9_method_63_code
def yX7_takesBehind : MethodName := ⟨RX7, "takesBehind", "(II)I"⟩
abbrev cX7_readOrder : ByteArray := prog_9_method_64_code
def yX7_readOrder : MethodName := ⟨RX7, "readOrder", "()V"⟩
abbrev cX7_isDone : ByteArray := prog_9_method_65_code
def yX7_isDone : MethodName := ⟨RX7, "isDone", "()Z"⟩
abbrev cX7_goes : ByteArray := prog_9_method_66_code
def yX7_goes : MethodName := ⟨RX7, "goes", "(Z)I"⟩
abbrev cX7_fault : ByteArray := prog_9_method_67_code
def yX7_fault : MethodName := ⟨RX7, "fault", "()I"⟩
abbrev cX7_carryOut : ByteArray := prog_9_method_68_code
def yX7_carryOut : MethodName := ⟨RX7, "carryOut", "()I"⟩
abbrev cX7_undo : ByteArray := prog_9_method_69_code
def yX7_undo : MethodName := ⟨RX7, "undo", "()I"⟩
abbrev cX7_save : ByteArray := prog_9_method_70_code
def yX7_save : MethodName := ⟨RX7, "save", "(I)I"⟩
abbrev cX7_restore : ByteArray := prog_9_method_71_code
def yX7_restore : MethodName := ⟨RX7, "restore", "(I)I"⟩
def RJ9 : String := "java/lang/Math"
abbrev cJ9_floorMod_7cf53 : ByteArray := prog_10_method_50_code
def yJ9_floorMod_7cf53 : MethodName := ⟨RJ9, "floorMod", "(II)I"⟩
abbrev cJ9_max_7cf53 : ByteArray := prog_10_method_65_code
def yJ9_max_7cf53 : MethodName := ⟨RJ9, "max", "(II)I"⟩
abbrev cJ9_min_7cf53 : ByteArray := prog_10_method_69_code
def yJ9_min_7cf53 : MethodName := ⟨RJ9, "min", "(II)I"⟩
def RL : String := "SplitSecretsLaw"
abbrev cL_law : ByteArray := code
def yL_law : MethodName := ⟨RL, "law", "([I)Z"⟩
abbrev vwCl : List vw_C := [(RX0, TX0, 7), (RX1, TX1, 3), (RX2, TX2, 2), (RX3, TX3, 7), (RX4, TX4, 10), (RX5, TX5, 10), (RX6, TX6, 6), (RX7, TX7, 11)]
end
section
/-! THE PICTURE: every cell that the run makes has a name (kind, t, j, b); a heap is a function from names to ints (hp), and from names to names (rp). V is the judgement of a method's walk in these words alone. -/
abbrev A4 : Type := Nat × Nat × Nat × Nat
abbrev Vv : Type := Int32 ⊕ (Int64 ⊕ Option A4)
abbrev vI (x : Int32) : Vv := Sum.inl x
abbrev vJ (x : Int64) : Vv := Sum.inr (Sum.inl x)
abbrev vR (a : A4) : Vv := Sum.inr (Sum.inr (some a))
abbrev vN : Vv := Sum.inr (Sum.inr none)
abbrev RPt : Type := A4 → Nat → Option A4
abbrev HPt : Type := A4 → Nat → Int32
/-- ghosts: class numbers, array class numbers, the first address, the addresses of the arrays that nobody writes (0 the script, 1 LEAST, 2 MOST), their lengths and contents -/
abbrev Gh : Type := va_G × (Nat → ClassId) × Nat × (Nat → Nat) × (Nat → Nat × (Nat → Int32))
/-- a kind's class -/
def okd : Nat → Option Nat := fun k => match k with
  | 0 => some 5
  | 4 => some 4
  | 5 => some 0
  | 8 => some 1
  | 12 => some 2
  | 14 => some 3
  | 15 => some 6
  | 16 => some 7
  | _ => none
/-- a kind's array of numbers: type (0 int, 1 boolean, 2 char), length -/
def akd : Nat → Option (Nat × Nat) := fun k => match k with
  | 2 => some (0, 3)
  | 3 => some (1, 2)
  | 6 => some (0, 5)
  | 7 => some (1, 5)
  | 11 => some (1, 2)
  | 13 => some (2, 80)
  | 17 => some (0, 292)
  | 18 => some (0, 1752)
  | 19 => some (0, 584)
  | 20 => some (1, 2)
  | 21 => some (0, 80)
  | 22 => some (0, 292)
  | 23 => some (0, 5)
  | _ => none
/-- a kind's array of references: type (3 Stores, 4 Secret), length -/
def rkd : Nat → Option (Nat × Nat) := fun k => match k with
  | 1 => some (4, 8)
  | 9 => some (3, 7)
  | 10 => some (3, 2)
  | _ => none
/-- which fields hold references -/
def rfT : Nat → Nat → Bool := fun c i => match c with
  | 0 => Nat.blt i 2
  | 1 => Nat.beq i 0
  | 2 => Nat.beq i 0
  | 3 => Nat.beq i 0
  | 4 => Nat.blt i 2
  | 5 => Nat.blt i 3
  | 6 => true
  | _ => !(Nat.beq i 2 || Nat.beq i 6 || Nat.beq i 8 || Nat.beq i 9)
def nfT : Nat → Nat := fun c => match c with
  | 0 => 7
  | 1 => 3
  | 2 => 2
  | 3 => 7
  | 4 => 10
  | 5 => 10
  | 6 => 6
  | _ => 11
def tyT : Nat → Nat → FieldType := fun c => match c with
  | 0 => tyX0
  | 1 => tyX1
  | 2 => tyX2
  | 3 => tyX3
  | 4 => tyX4
  | 5 => tyX5
  | 6 => tyX6
  | _ => tyX7
def baseT (t : Nat) : Nat := if t = 0 then 1 else if t < 8 then 3 + 60 * t else 4 + 60 * t
/-- a name's place in the order of making -/
def pos (a : A4) : Nat := match a with
  | (k, t, j, b) => if k < 4 then baseT t + k else if k = 4 then baseT t + 4 + 7 * j else if k < 8 then baseT t + 7 * j + 3 * b + k else if k = 8 then 61 else if k = 9 then 62 else if k = 10 then 483 else if k < 15 then k + 593 else if k = 15 then 0 else k + 592
def stn (t o : Nat) : A4 := if o < 4 then (o, t, 0, 0) else if (o - 4) % 7 = 0 then (4, t, (o - 4) / 7, 0) else (5 + ((o - 4) % 7 - 1) % 3, t, (o - 4) / 7, ((o - 4) % 7 - 1) / 3)
/-- the name at a place -/
def nm (i : Nat) : A4 := if i = 0 then (15, 0, 0, 0) else if i < 61 then stn 0 (i - 1) else if i = 61 then (8, 0, 0, 0) else if i = 62 then (9, 0, 0, 0) else if i < 483 then stn ((i - 3) / 60) ((i - 3) % 60) else if i = 483 then (10, 0, 0, 0) else if i < 604 then stn ((i - 4) / 60) ((i - 4) % 60) else if i < 608 then (i - 593, 0, 0, 0) else (i - 592, 0, 0, 0)
theorem pos_nm : ∀ i, i < 616 → pos (nm i) = i := by decide +kernel
theorem nm_24 : ∀ i, i < 616 → (nm i).1 ≠ 24 := by decide +kernel
/-- the name is made already, when n are -/
def lvp (n : Nat) (a : A4) : Prop := nm (pos a) = a ∧ pos a < n
def al (g : Gh) (a : A4) : Nat := if a.1 = 24 then g.2.2.2.1 a.2.1 else g.2.2.1 + pos a
def trv (g : Gh) : Vv → Value := fun v => match v with
  | .inl x => .int x
  | .inr (.inl x) => .long x
  | .inr (.inr o) => va_rf (o.map (al g))
def cn (g : Gh) (rp : RPt) (hp : HPt) (a : A4) : va_E := match okd a.1 with
  | some ci => .inr (ci, (List.range (nfT ci)).map (fun i => if rfT ci i = true then va_rf ((rp a i).map (al g)) else .int (hp a i)))
  | none => match akd a.1 with
    | some (t, len) => .inl (g.2.1 t, len, .inl (hp a))
    | none => match rkd a.1 with
      | some (t, len) => .inl (g.2.1 t, len, .inr (.inr (.inr (.inr (fun i => (rp a i).map (al g))))))
      | none => .inl (0, 0, .inl (fun _ => 0))
def wl (g : Gh) (n : Nat) (rp : RPt) (hp : HPt) : va_W := (List.range n).map (fun i => (g.2.2.1 + i, cn g rp hp (nm i)))
def Af (g : Gh) : Nat → Prop := fun q => g.2.2.1 ≤ q
def tysF (g : Gh) : List (ClassId × FieldType) := [(g.2.1 0, .int), (g.2.1 1, .boolean), (g.2.1 2, .char), (g.2.1 3, .object RX5), (g.2.1 4, .object RX4)]
theorem lvp_al {g : Gh} {n : Nat} {a : A4} (hn : n ≤ 616) (h : lvp n a) : al g a = g.2.2.1 + pos a := by
  have h1 := nm_24 (pos a) (Nat.lt_of_lt_of_le h.2 hn)
  rw [h.1] at h1
  unfold al
  rw [if_neg h1]
theorem wl_get {g : Gh} {n : Nat} {rp : RPt} {hp : HPt} {a : A4} (hn : n ≤ 616) (h : lvp n a) : (wl g n rp hp)[pos a]? = some (al g a, cn g rp hp a) := by
  unfold wl
  rw [List.getElem?_map, List.getElem?_range h.2, Option.map_some, h.1, lvp_al hn h]
theorem wl_D {g : Gh} {n : Nat} {rp : RPt} {hp : HPt} : va_D (Af g) (wl g n rp hp) := by
  have key : ∀ (k : Nat) (q : Nat × va_E), (wl g n rp hp)[k]? = some q → q.1 = g.2.2.1 + k := by
    intro k q h
    unfold wl at h
    rw [List.getElem?_map] at h
    by_cases hk : k < n
    · rw [List.getElem?_range hk, Option.map_some] at h
      cases h
      rfl
    · rw [List.getElem?_eq_none (by rw [List.length_range]; omega), Option.map_none] at h
      cases h
  refine ⟨fun i j p q hi hj hpq => ?_, fun k q hk => ?_⟩
  · rw [key i p hi, key j q hj] at hpq
    omega
  · rw [key k q hk]
    exact Nat.le_add_right _ _
theorem wl_cong {g : Gh} {n : Nat} {rp rp' : RPt} {hp hp' : HPt} (h : ∀ i, i < n → cn g rp hp (nm i) = cn g rp' hp' (nm i)) : wl g n rp hp = wl g n rp' hp' := by
  unfold wl
  refine List.map_congr_left (fun i hi => ?_)
  rw [h i (List.mem_range.mp hi)]
theorem cn_cong {g : Gh} {rp rp' : RPt} {hp hp' : HPt} {a : A4} (h1 : rp a = rp' a) (h2 : hp a = hp' a) : cn g rp hp a = cn g rp' hp' a := by
  unfold cn
  rw [h1, h2]
theorem wl_set {g : Gh} {n : Nat} {rp rp' : RPt} {hp hp' : HPt} {a : A4} (hn : n ≤ 616) (h : lvp n a) (hrp : ∀ b, b ≠ a → rp b = rp' b) (hhp : ∀ b, b ≠ a → hp b = hp' b) : (wl g n rp hp).set (pos a) (al g a, cn g rp' hp' a) = wl g n rp' hp' := by
  refine List.ext_getElem? (fun i => ?_)
  by_cases hi : i = pos a
  · subst hi
    rw [List.getElem?_set_self (by unfold wl; rw [List.length_map, List.length_range]; exact h.2), wl_get hn h]
  · rw [List.getElem?_set_ne (Ne.symm hi)]
    unfold wl
    rw [List.getElem?_map, List.getElem?_map]
    by_cases hk : i < n
    · rw [List.getElem?_range hk, Option.map_some, Option.map_some]
      have hne : nm i ≠ a := by
        intro q
        have h1 := pos_nm i (by omega)
        rw [q] at h1
        exact hi h1.symm
      rw [cn_cong (hrp _ hne) (hhp _ hne)]
    · rw [List.getElem?_eq_none (by rw [List.length_range]; omega), Option.map_none, Option.map_none]
theorem wl_push {g : Gh} {n : Nat} {rp : RPt} {hp : HPt} : wl g (n + 1) rp hp = wl g n rp hp ++ [(g.2.2.1 + n, cn g rp hp (nm n))] := by
  unfold wl
  rw [List.range_succ, List.map_append]
  rfl
/-- the tables' words that hold everywhere -/
def lw_good : List Cond := lw_tbl.filter goodWord
def isNest : Cond → Bool
  | .fieldLinkNest .. => true
  | .methodLinkNest .. => true
  | _ => false
def lw_nest : List Cond := lw_tbl.filter isNest
theorem gd_i {w : Cond} (i : Nat) (h : lw_tbl[i]? = some w) (hg : goodWord w = true) : w ∈ lw_good := List.mem_filter.mpr ⟨List.mem_of_getElem? h, hg⟩
theorem ns_i {w : Cond} (i : Nat) (h : lw_tbl[i]? = some w) (hg : isNest w = true) : w ∈ lw_nest := List.mem_filter.mpr ⟨List.mem_of_getElem? h, hg⟩
theorem gd_ok {w : Cond} (h : w ∈ lw_good) : (w.onTables && w.keeps) = true ∨ ∃ ty, w = .arrayClass ty := good_of_word (List.mem_filter.mp h).2
/-- what a state's tables, and the arrays that nobody writes, are -/
def SX (g : Gh) (U : State) : Prop := va_K (g.1.1, g.1.2) vwCl (tysF g) U ∧ (∀ w ∈ lw_nest, va_Nw w U) ∧ (va_AO RX5 U ∧ va_AO RX4 U) ∧ va_Z "SplitSecrets" "LEAST_OF_SETTING" "[I" (.ref (g.2.2.2.1 1)) (Af g) U U.heap ∧ va_Z "SplitSecrets" "MOST_OF_SETTING" "[I" (.ref (g.2.2.2.1 2)) (Af g) U U.heap ∧ ∀ t, t < 3 → va_T .int (g.2.2.2.1 t) (g.2.2.2.2 t).1 (fun j => .int ((g.2.2.2.2 t).2 j)) (Af g) U U.heap
theorem SX.same {g : Gh} {u U : State} (h : SX g u) (hvm : u.vm = U.vm) (hh : u.heap = U.heap) : SX g U := by
  obtain ⟨h1, h2, h3, h4, h5, h6⟩ := h
  have ha : u.vm.Alike U.vm := by rw [hvm]; exact Vm.Alike.refl _
  refine ⟨va_K.moved ha h1, fun w hw => ?_, ⟨h3.1.moved ha, h3.2.moved ha⟩, ?_, ?_, fun t ht => ?_⟩
  · have hn := (List.mem_filter.mp hw).2
    refine va_Nw.same ?_ hvm (h2 w hw)
    cases w <;> first | rfl | (exact absurd hn (by decide)) | (simp [isNest] at hn)
  · rw [← hh]; exact va_Z.moved ha h4
  · rw [← hh]; exact va_Z.moved ha h5
  · rw [← hh]; exact va_T.moved ha (h6 t ht)
theorem SX.warm {g : Gh} {u U : State} {H : Heap} {locs : List Loc} (h : SX g u) (hS : va_S (Af g) u.heap H locs) (hU : U.heap = H) (hW : u.WarmedH U.vm) : SX g U := by
  obtain ⟨h1, h2, h3, h4, h5, h6⟩ := h
  have ha : u.vm.Alike U.vm := hW.alike
  refine ⟨va_K.moved ha h1, fun w hw => ?_, ⟨h3.1.moved ha, h3.2.moved ha⟩, ?_, ?_, fun t ht => ?_⟩
  · have hn := (List.mem_filter.mp hw).2
    have hw2 := h2 w hw
    cases w with
    | fieldLinkNest a i b n d h => exact va_Nw.warmF hW hw2
    | methodLinkNest a i x h => exact va_Nw.warmM hW hw2
    | _ => simp [isNest] at hn
  · rw [hU]; exact (va_Z.moved ha h4).kept hS.2.1
  · rw [hU]; exact (va_Z.moved ha h5).kept hS.2.1
  · rw [hU]; exact (va_T.moved ha (h6 t ht)).kept hS.2.1
/-- a method: name, code, locals, answer; frames and words below it -/
abbrev Md : Type := MethodName × ByteArray × Nat × Option FieldType × Nat × Nat
abbrev mY (M : Md) : MethodName := M.1
abbrev mK (M : Md) : String := M.1.cls
abbrev mC (M : Md) : ByteArray := M.2.1
abbrev mL (M : Md) : Nat := M.2.2.1
abbrev mR (M : Md) : Option FieldType := M.2.2.2.1
abbrev mF (M : Md) : Nat := M.2.2.2.2.1
abbrev mW (M : Md) : Nat := M.2.2.2.2.2
def HX (g : Gh) (n : Nat) (rp : RPt) (hp : HPt) (H : Heap) : Prop := va_P (g.1.1, g.1.2) vwCl (wl g n rp hp) H ∧ H.size = g.2.2.1 + n ∧ n ≤ 616
def CX (g : Gh) (M : Md) (mc ms : Nat) (p : Program) (R : Room) (s : State) (m : MethodId) (args : Array Value) (meth : Method) (c : Code) : Prop :=
  p.tables.exec = Jvm.exec ∧ c.code = mC M ∧ meth.sig.returnType = mR M ∧ c.maxLocals = mL M ∧ s.vm.findClass (mK M) = some m.cls ∧ (∀ w ∈ lw_good, w.before args s = true) ∧ meth.locks = false ∧ meth.name = (mY M).name ∧ SX g s ∧ (mF M ≤ R.frames ∧ mW M ≤ R.locals ∧ mc ≤ R.cells ∧ ms ≤ R.slots) ∧ g.2.2.1 ≤ s.heap.size
def cvL (g : Gh) (L : List (Option Vv)) : List (Nat × Value) := (List.range L.length).filterMap (fun i => (L.getD i none).map (fun v => (i, trv g v)))
/-- an end: what lies on the stack, at a return -/
def RTt (M : Md) (v : Option Vv) (pc : Nat) : Prop :=
  (v = none ∧ mR M = none ∧ decode (mC M) pc = .ok (.return_, 1)) ∨ (∃ (x : Int32) (ty : FieldType), v = some (vI x) ∧ mR M = some ty ∧ narrow ty (.int x) = .int x ∧ decode (mC M) pc = .ok (.ireturn, 1)) ∨ ∃ (a : A4) (C : String), v = some (vR a) ∧ mR M = some (.object C) ∧ decode (mC M) pc = .ok (.areturn, 1)
abbrev Pst : Type := Option Vv → Nat → RPt → HPt → Prop
/-- THE JUDGEMENT: the method M, with cu cells and su slots of its mc, ms used, n cells made, at pc, with locals L and stack st, ends with Post -/
def V (g : Gh) (M : Md) (mc ms cu su n pc : Nat) (L : List (Option Vv)) (st : List Vv) (rp : RPt) (hp : HPt) (Post : Pst) : Prop :=
  ∀ (p : Program) (l : Launch) (e : Env) (R : Room) (s : State) (m : MethodId) (args : Array Value) (below : List Frame) (meth : Method) (c : Code) (Q : State → Prop),
    CX g M mc ms p R s m args meth c →
    (∀ (v : Option Vv) (n' cu' su' : Nat) (rp' : RPt) (hp' : HPt) (H' : Heap) (locs' : List Loc) (LS' : Array Slot) (pc' : Nat), Post v n' rp' hp' → cu' ≤ mc → su' ≤ ms → HX g n' rp' hp' H' → va_S (Af g) s.heap H' locs' → RTt M v pc' →
      W p l e R s m args below meth c H' locs' cu' su' Q (F0 m pc' LS' (v.toList.map (trv g)))) →
    ∀ (H : Heap) (locs : List Loc) (LS : Array Slot), HX g n rp hp H → va_S (Af g) s.heap H locs → lv_has LS (mL M) (cvL g L) → W p l e R s m args below meth c H locs cu su Q (F0 m pc LS (st.map (trv g)))
theorem cvL_mem {g : Gh} {L : List (Option Vv)} {q : Nat × Value} : q ∈ cvL g L ↔ ∃ v, L[q.1]? = some (some v) ∧ q.2 = trv g v := by
  unfold cvL
  rw [List.mem_filterMap]
  constructor
  · rintro ⟨i, hi, h⟩
    have hi := List.mem_range.mp hi
    rw [List.getD_eq_getElem?_getD] at h
    cases hv : L[i]? with
    | none => rw [hv] at h; simp at h
    | some o =>
      cases o with
      | none => rw [hv] at h; simp at h
      | some v =>
        rw [hv] at h
        simp at h
        subst h
        exact ⟨v, hv, rfl⟩
  · rintro ⟨v, h1, h2⟩
    refine ⟨q.1, List.mem_range.mpr (List.getElem?_eq_some_iff.mp h1).1, ?_⟩
    rw [List.getD_eq_getElem?_getD, h1]
    simp
    rw [← h2]
theorem cvL_at {g : Gh} {L : List (Option Vv)} {LS : Array Slot} {nL i : Nat} {v : Vv} (h : lv_has LS nL (cvL g L)) (hv : L[i]? = some (some v)) : LS[i]? = some (.val (trv g v)) := h.2.2 (i, trv g v) (cvL_mem.mpr ⟨v, hv, rfl⟩)
/-- no long lies just below a place -/
def lnl (L : List (Option Vv)) (i : Nat) : Bool := match i with
  | 0 => true
  | k + 1 => match L[k]? with
    | some (some (.inr (.inl _))) => false
    | _ => true
theorem cvL_set {g : Gh} {L : List (Option Vv)} {LS : Array Slot} {nL i : Nat} {v : Vv} (hln : lnl L i = true) (h : lv_has LS nL ((i, trv g v) :: (cvL g L).filter (fun q => !(q.1 == i) && !(q.1 + 1 == i && q.2.category == 2)))) : lv_has LS nL (cvL g (L.set i (some v))) := by
  refine ⟨h.1, h.2.1, fun q hq => ?_⟩
  obtain ⟨w, h1, h2⟩ := cvL_mem.mp hq
  by_cases hi : q.1 = i
  · have hlt : i < L.length := by
      have := (List.getElem?_eq_some_iff.mp h1).1
      rw [List.length_set] at this
      omega
    rw [hi, List.getElem?_set_self hlt] at h1
    cases h1
    have h3 := h.2.2 (i, trv g v) List.mem_cons_self
    obtain ⟨q1, q2⟩ := q
    subst hi
    subst h2
    exact h3
  · rw [List.getElem?_set_ne (Ne.symm hi)] at h1
    refine h.2.2 q (List.mem_cons_of_mem _ (List.mem_filter.mpr ⟨cvL_mem.mpr ⟨w, h1, h2⟩, ?_⟩))
    have h4 : ¬ (q.1 + 1 = i ∧ q.2.category = 2) := by
      rintro ⟨e1, e2⟩
      rw [← e1] at hln
      dsimp only [lnl] at hln
      rw [h1] at hln
      rw [h2] at e2
      rcases w with x | x | x
      · simp [trv, Value.category] at e2
      · simp at hln
      · cases x <;> simp [trv, va_rf, Value.category] at e2
    simp only [Bool.and_eq_true, Bool.not_eq_true', beq_eq_false_iff_ne, ne_eq, Bool.and_eq_false_iff]
    refine ⟨hi, ?_⟩
    rcases Nat.decEq (q.1 + 1) i with z | z
    · exact Or.inl z
    · exact Or.inr (fun y => h4 ⟨z, y⟩)
end
section
section RW
variable {g : Gh} {M : Md} {mc ms cu su n pc : Nat} {L : List (Option Vv)} {st : List Vv} {rp : RPt} {hp : HPt} {P : Pst}
theorem r_iconst {i : Int} {v : Int32} (hd : decode (mC M) pc = .ok (.iconst i, 1)) (hv : Int32.ofInt i = v) (k : V g M mc ms cu su n (pc + 1) L (vI v :: st) rp hp P) : V g M mc ms cu su n pc L (st) rp hp P := by
  intro p l e R s m args below meth c Q C RT H locs LS hH hS hl
  exact lv_iconst C.1 C.2.1 hd hv (k p l e R s m args below meth c Q C RT H locs LS hH hS hl)
theorem r_bipush {i : Int} {v : Int32} (hd : decode (mC M) pc = .ok (.bipush i, 2)) (hv : (Int8.ofInt i).toInt32 = v) (k : V g M mc ms cu su n (pc + 2) L (vI v :: st) rp hp P) : V g M mc ms cu su n pc L (st) rp hp P := by
  intro p l e R s m args below meth c Q C RT H locs LS hH hS hl
  exact lv_bipush C.1 C.2.1 hd hv (k p l e R s m args below meth c Q C RT H locs LS hH hS hl)
theorem r_sipush {i : Int} {v : Int32} (hd : decode (mC M) pc = .ok (.sipush i, 3)) (hv : (Int16.ofInt i).toInt32 = v) (k : V g M mc ms cu su n (pc + 3) L (vI v :: st) rp hp P) : V g M mc ms cu su n pc L (st) rp hp P := by
  intro p l e R s m args below meth c Q C RT H locs LS hH hS hl
  exact lv_sipush C.1 C.2.1 hd hv (k p l e R s m args below meth c Q C RT H locs LS hH hS hl)
theorem r_lconst {i : Fin 2} {v : Int64} (hd : decode (mC M) pc = .ok (.lconst i, 1)) (hv : Int64.ofNat (i : Nat) = v) (k : V g M mc ms cu su n (pc + 1) L (vJ v :: st) rp hp P) : V g M mc ms cu su n pc L (st) rp hp P := by
  intro p l e R s m args below meth c Q C RT H locs LS hH hS hl
  exact lv_lconst C.1 C.2.1 hd hv (k p l e R s m args below meth c Q C RT H locs LS hH hS hl)
theorem r_ldc {i : Nat} {v : Int32} (hd : decode (mC M) pc = .ok (.ldc i, 2)) (hw : Jvm.Cond.constant (mK M) i v ∈ lw_good) (k : V g M mc ms cu su n (pc + 2) L (vI v :: st) rp hp P) : V g M mc ms cu su n pc L (st) rp hp P := by
  intro p l e R s m args below meth c Q C RT H locs LS hH hS hl
  exact lv_ldc C.1 C.2.1 C.2.2.2.2.1 (C.2.2.2.2.2.1 _ hw) hd (k p l e R s m args below meth c Q C RT H locs LS hH hS hl)
theorem r_ldc2 {i : Nat} {v : Int64} (hd : decode (mC M) pc = .ok (.ldc2_w i, 3)) (hw : Jvm.Cond.constantLong (mK M) i v ∈ lw_good) (k : V g M mc ms cu su n (pc + 3) L (vJ v :: st) rp hp P) : V g M mc ms cu su n pc L (st) rp hp P := by
  intro p l e R s m args below meth c Q C RT H locs LS hH hS hl
  exact lv_ldc2 C.1 C.2.1 C.2.2.2.2.1 (C.2.2.2.2.2.1 _ hw) hd (k p l e R s m args below meth c Q C RT H locs LS hH hS hl)
theorem r_iload_n {j : Fin 4} {i : Nat} {x : Int32} (hd : decode (mC M) pc = .ok (.iload_n j, 1)) (hi : (j : Nat) = i) (hv : L[i]? = some (some (vI x))) (k : V g M mc ms cu su n (pc + 1) L (vI x :: st) rp hp P) : V g M mc ms cu su n pc L (st) rp hp P := by
  intro p l e R s m args below meth c Q C RT H locs LS hH hS hl
  exact lv_iload_n C.1 C.2.1 hd hi (cvL_at hl hv) (k p l e R s m args below meth c Q C RT H locs LS hH hS hl)
theorem r_iload {i : Nat} {x : Int32} (hd : decode (mC M) pc = .ok (.iload i, 2)) (hv : L[i]? = some (some (vI x))) (k : V g M mc ms cu su n (pc + 2) L (vI x :: st) rp hp P) : V g M mc ms cu su n pc L (st) rp hp P := by
  intro p l e R s m args below meth c Q C RT H locs LS hH hS hl
  exact lv_iload C.1 C.2.1 hd (cvL_at hl hv) (k p l e R s m args below meth c Q C RT H locs LS hH hS hl)
theorem r_aload_n {j : Fin 4} {i : Nat} {x : A4} (hd : decode (mC M) pc = .ok (.aload_n j, 1)) (hi : (j : Nat) = i) (hv : L[i]? = some (some (vR x))) (k : V g M mc ms cu su n (pc + 1) L (vR x :: st) rp hp P) : V g M mc ms cu su n pc L (st) rp hp P := by
  intro p l e R s m args below meth c Q C RT H locs LS hH hS hl
  exact lv_aload_n C.1 C.2.1 hd hi (cvL_at hl hv) (k p l e R s m args below meth c Q C RT H locs LS hH hS hl)
theorem r_aload {i : Nat} {x : A4} (hd : decode (mC M) pc = .ok (.aload i, 2)) (hv : L[i]? = some (some (vR x))) (k : V g M mc ms cu su n (pc + 2) L (vR x :: st) rp hp P) : V g M mc ms cu su n pc L (st) rp hp P := by
  intro p l e R s m args below meth c Q C RT H locs LS hH hS hl
  exact lv_aload C.1 C.2.1 hd (cvL_at hl hv) (k p l e R s m args below meth c Q C RT H locs LS hH hS hl)
theorem r_lload_n {j : Fin 4} {i : Nat} {x : Int64} (hd : decode (mC M) pc = .ok (.lload_n j, 1)) (hi : (j : Nat) = i) (hv : L[i]? = some (some (vJ x))) (k : V g M mc ms cu su n (pc + 1) L (vJ x :: st) rp hp P) : V g M mc ms cu su n pc L (st) rp hp P := by
  intro p l e R s m args below meth c Q C RT H locs LS hH hS hl
  exact lv_lload_n C.1 C.2.1 hd hi (cvL_at hl hv) (k p l e R s m args below meth c Q C RT H locs LS hH hS hl)
theorem r_istore_n {j : Fin 4} {i : Nat} {x : Int32} {L2 : List (Option Vv)} (hd : decode (mC M) pc = .ok (.istore_n j, 1)) (hi : (j : Nat) = i) (hn : i < mL M) (hln : lnl L i = true) (hL : L.set i (some (vI x)) = L2) (k : V g M mc ms cu su n (pc + 1) L2 st rp hp P) : V g M mc ms cu su n pc L (vI x :: st) rp hp P := by
  subst hL
  intro p l e R s m args below meth c Q C RT H locs LS hH hS hl
  exact lv_istore_n C.1 C.2.1 hd hi hl hn rfl (fun LS' hl' => k p l e R s m args below meth c Q C RT H locs LS' hH hS (cvL_set (v := vI x) hln hl'))
theorem r_istore {i : Nat} {x : Int32} {L2 : List (Option Vv)} (hd : decode (mC M) pc = .ok (.istore i, 2)) (hn : i < mL M) (hln : lnl L i = true) (hL : L.set i (some (vI x)) = L2) (k : V g M mc ms cu su n (pc + 2) L2 st rp hp P) : V g M mc ms cu su n pc L (vI x :: st) rp hp P := by
  subst hL
  intro p l e R s m args below meth c Q C RT H locs LS hH hS hl
  exact lv_istore C.1 C.2.1 hd hl hn rfl (fun LS' hl' => k p l e R s m args below meth c Q C RT H locs LS' hH hS (cvL_set (v := vI x) hln hl'))
theorem r_astore_n {j : Fin 4} {i : Nat} {x : A4} {L2 : List (Option Vv)} (hd : decode (mC M) pc = .ok (.astore_n j, 1)) (hi : (j : Nat) = i) (hn : i < mL M) (hln : lnl L i = true) (hL : L.set i (some (vR x)) = L2) (k : V g M mc ms cu su n (pc + 1) L2 st rp hp P) : V g M mc ms cu su n pc L (vR x :: st) rp hp P := by
  subst hL
  intro p l e R s m args below meth c Q C RT H locs LS hH hS hl
  exact lv_astore_n C.1 C.2.1 hd hi hl hn rfl (fun LS' hl' => k p l e R s m args below meth c Q C RT H locs LS' hH hS (cvL_set (v := vR x) hln hl'))
theorem r_astore {i : Nat} {x : A4} {L2 : List (Option Vv)} (hd : decode (mC M) pc = .ok (.astore i, 2)) (hn : i < mL M) (hln : lnl L i = true) (hL : L.set i (some (vR x)) = L2) (k : V g M mc ms cu su n (pc + 2) L2 st rp hp P) : V g M mc ms cu su n pc L (vR x :: st) rp hp P := by
  subst hL
  intro p l e R s m args below meth c Q C RT H locs LS hH hS hl
  exact lv_astore C.1 C.2.1 hd hl hn rfl (fun LS' hl' => k p l e R s m args below meth c Q C RT H locs LS' hH hS (cvL_set (v := vR x) hln hl'))
theorem r_iinc {i : Nat} {j : Int} {x v : Int32} {L2 : List (Option Vv)} (hd : decode (mC M) pc = .ok (.iinc i j, 3)) (hx : L[i]? = some (some (vI x))) (hv : x + Int32.ofInt j = v) (hn : i < mL M) (hln : lnl L i = true) (hL : L.set i (some (vI v)) = L2) (k : V g M mc ms cu su n (pc + 3) L2 st rp hp P) : V g M mc ms cu su n pc L st rp hp P := by
  subst hL
  intro p l e R s m args below meth c Q C RT H locs LS hH hS hl
  obtain ⟨q, hq⟩ := List.getElem?_of_mem (cvL_mem (g := g) (L := L) (q := (i, .int x)) |>.mpr ⟨vI x, hx, rfl⟩)
  exact lv_iinc C.1 C.2.1 hd hl hq hv hn rfl (fun LS' hl' => k p l e R s m args below meth c Q C RT H locs LS' hH hS (cvL_set (v := vI v) hln hl'))
theorem r_iadd {x y : Int32} (hd : decode (mC M) pc = .ok (.iadd, 1)) (k : V g M mc ms cu su n (pc + 1) L (vI (x + y) :: st) rp hp P) : V g M mc ms cu su n pc L (vI y :: vI x :: st) rp hp P := by
  intro p l e R s m args below meth c Q C RT H locs LS hH hS hl
  exact lv_iadd C.1 C.2.1 hd (k p l e R s m args below meth c Q C RT H locs LS hH hS hl)
theorem r_isub {x y : Int32} (hd : decode (mC M) pc = .ok (.isub, 1)) (k : V g M mc ms cu su n (pc + 1) L (vI (x - y) :: st) rp hp P) : V g M mc ms cu su n pc L (vI y :: vI x :: st) rp hp P := by
  intro p l e R s m args below meth c Q C RT H locs LS hH hS hl
  exact lv_isub C.1 C.2.1 hd (k p l e R s m args below meth c Q C RT H locs LS hH hS hl)
theorem r_imul {x y : Int32} (hd : decode (mC M) pc = .ok (.imul, 1)) (k : V g M mc ms cu su n (pc + 1) L (vI (x * y) :: st) rp hp P) : V g M mc ms cu su n pc L (vI y :: vI x :: st) rp hp P := by
  intro p l e R s m args below meth c Q C RT H locs LS hH hS hl
  exact lv_imul C.1 C.2.1 hd (k p l e R s m args below meth c Q C RT H locs LS hH hS hl)
theorem r_iand {x y : Int32} (hd : decode (mC M) pc = .ok (.iand, 1)) (k : V g M mc ms cu su n (pc + 1) L (vI (x &&& y) :: st) rp hp P) : V g M mc ms cu su n pc L (vI y :: vI x :: st) rp hp P := by
  intro p l e R s m args below meth c Q C RT H locs LS hH hS hl
  exact lv_iand C.1 C.2.1 hd (k p l e R s m args below meth c Q C RT H locs LS hH hS hl)
theorem r_ior {x y : Int32} (hd : decode (mC M) pc = .ok (.ior, 1)) (k : V g M mc ms cu su n (pc + 1) L (vI (x ||| y) :: st) rp hp P) : V g M mc ms cu su n pc L (vI y :: vI x :: st) rp hp P := by
  intro p l e R s m args below meth c Q C RT H locs LS hH hS hl
  exact lv_ior C.1 C.2.1 hd (k p l e R s m args below meth c Q C RT H locs LS hH hS hl)
def jrem (x y : Int32) : Int32 := x - x / y * y
theorem r_irem {x y : Int32} (hd : decode (mC M) pc = .ok (.irem, 1)) (hne : ¬ y = 0) (k : V g M mc ms cu su n (pc + 1) L (vI (jrem x y) :: st) rp hp P) : V g M mc ms cu su n pc L (vI y :: vI x :: st) rp hp P := by
  intro p l e R s m args below meth c Q C RT H locs LS hH hS hl
  exact lv_irem C.1 C.2.1 hd hne (k p l e R s m args below meth c Q C RT H locs LS hH hS hl)
theorem r_idiv {x y : Int32} (hd : decode (mC M) pc = .ok (.idiv, 1)) (hne : ¬ y = 0) (k : V g M mc ms cu su n (pc + 1) L (vI (x / y) :: st) rp hp P) : V g M mc ms cu su n pc L (vI y :: vI x :: st) rp hp P := by
  intro p l e R s m args below meth c Q C RT H locs LS hH hS hl
  exact lv_idiv C.1 C.2.1 hd hne (k p l e R s m args below meth c Q C RT H locs LS hH hS hl)
theorem r_ishl {x y : Int32} (hd : decode (mC M) pc = .ok (.ishl, 1)) (k : V g M mc ms cu su n (pc + 1) L (vI (x <<< (y &&& 31)) :: st) rp hp P) : V g M mc ms cu su n pc L (vI y :: vI x :: st) rp hp P := by
  intro p l e R s m args below meth c Q C RT H locs LS hH hS hl
  exact lv_ishl C.1 C.2.1 hd (k p l e R s m args below meth c Q C RT H locs LS hH hS hl)
theorem r_ishr {x y : Int32} (hd : decode (mC M) pc = .ok (.ishr, 1)) (k : V g M mc ms cu su n (pc + 1) L (vI (x >>> (y &&& 31)) :: st) rp hp P) : V g M mc ms cu su n pc L (vI y :: vI x :: st) rp hp P := by
  intro p l e R s m args below meth c Q C RT H locs LS hH hS hl
  exact lv_ishr C.1 C.2.1 hd (k p l e R s m args below meth c Q C RT H locs LS hH hS hl)
theorem r_land {x y : Int64} (hd : decode (mC M) pc = .ok (.land, 1)) (k : V g M mc ms cu su n (pc + 1) L (vJ (x &&& y) :: st) rp hp P) : V g M mc ms cu su n pc L (vJ y :: vJ x :: st) rp hp P := by
  intro p l e R s m args below meth c Q C RT H locs LS hH hS hl
  exact lv_land C.1 C.2.1 hd (k p l e R s m args below meth c Q C RT H locs LS hH hS hl)
theorem r_lor {x y : Int64} (hd : decode (mC M) pc = .ok (.lor, 1)) (k : V g M mc ms cu su n (pc + 1) L (vJ (x ||| y) :: st) rp hp P) : V g M mc ms cu su n pc L (vJ y :: vJ x :: st) rp hp P := by
  intro p l e R s m args below meth c Q C RT H locs LS hH hS hl
  exact lv_lor C.1 C.2.1 hd (k p l e R s m args below meth c Q C RT H locs LS hH hS hl)
theorem r_lcmp {x y : Int64} (hd : decode (mC M) pc = .ok (.lcmp, 1)) (k : V g M mc ms cu su n (pc + 1) L (vI (lg_cmp x y) :: st) rp hp P) : V g M mc ms cu su n pc L (vJ y :: vJ x :: st) rp hp P := by
  intro p l e R s m args below meth c Q C RT H locs LS hH hS hl
  exact W.lcmp C.1 C.2.1 hd (k p l e R s m args below meth c Q C RT H locs LS hH hS hl)
theorem r_i2l {x : Int32} (hd : decode (mC M) pc = .ok (.i2l, 1)) (k : V g M mc ms cu su n (pc + 1) L (vJ x.toInt64 :: st) rp hp P) : V g M mc ms cu su n pc L (vI x :: st) rp hp P := by
  intro p l e R s m args below meth c Q C RT H locs LS hH hS hl
  exact lv_i2l C.1 C.2.1 hd rfl (k p l e R s m args below meth c Q C RT H locs LS hH hS hl)
theorem r_l2i {x : Int64} (hd : decode (mC M) pc = .ok (.l2i, 1)) (k : V g M mc ms cu su n (pc + 1) L (vI x.toInt32 :: st) rp hp P) : V g M mc ms cu su n pc L (vJ x :: st) rp hp P := by
  intro p l e R s m args below meth c Q C RT H locs LS hH hS hl
  exact lv_l2i C.1 C.2.1 hd rfl (k p l e R s m args below meth c Q C RT H locs LS hH hS hl)
theorem r_i2c {x : Int32} (hd : decode (mC M) pc = .ok (.i2c, 1)) (k : V g M mc ms cu su n (pc + 1) L (vI (x.toUInt32 % 65536).toInt32 :: st) rp hp P) : V g M mc ms cu su n pc L (vI x :: st) rp hp P := by
  intro p l e R s m args below meth c Q C RT H locs LS hH hS hl
  exact lv_i2c C.1 C.2.1 hd rfl (k p l e R s m args below meth c Q C RT H locs LS hH hS hl)
theorem r_lushr {x : Int64} {y : Int32} (hd : decode (mC M) pc = .ok (.lushr, 1)) (k : V g M mc ms cu su n (pc + 1) L (vJ (x.toUInt64 >>> (y.toInt64.toUInt64 &&& Int64.toUInt64 63)).toInt64 :: st) rp hp P) : V g M mc ms cu su n pc L (vI y :: vJ x :: st) rp hp P := by
  intro p l e R s m args below meth c Q C RT H locs LS hH hS hl
  exact lv_lushr C.1 C.2.1 hd rfl (k p l e R s m args below meth c Q C RT H locs LS hH hS hl)
theorem r_lshl {x : Int64} {y : Int32} (hd : decode (mC M) pc = .ok (.lshl, 1)) (k : V g M mc ms cu su n (pc + 1) L (vJ (x <<< (y.toInt64 &&& 63)) :: st) rp hp P) : V g M mc ms cu su n pc L (vI y :: vJ x :: st) rp hp P := by
  intro p l e R s m args below meth c Q C RT H locs LS hH hS hl
  exact lv_lshl C.1 C.2.1 hd rfl (k p l e R s m args below meth c Q C RT H locs LS hH hS hl)
theorem r_dup {a : Vv} (hd : decode (mC M) pc = .ok (.dup, 1)) (ha : (trv g a).category = 1) (k : V g M mc ms cu su n (pc + 1) L (a :: a :: st) rp hp P) : V g M mc ms cu su n pc L (a :: st) rp hp P := by
  intro p l e R s m args below meth c Q C RT H locs LS hH hS hl
  exact lv_dup C.1 C.2.1 hd ha (k p l e R s m args below meth c Q C RT H locs LS hH hS hl)
theorem r_pop {a : Vv} (hd : decode (mC M) pc = .ok (.pop, 1)) (ha : (trv g a).category = 1) (k : V g M mc ms cu su n (pc + 1) L (st) rp hp P) : V g M mc ms cu su n pc L (a :: st) rp hp P := by
  intro p l e R s m args below meth c Q C RT H locs LS hH hS hl
  exact lv_pop C.1 C.2.1 hd ha (k p l e R s m args below meth c Q C RT H locs LS hH hS hl)
theorem r_dup2 {a b : Vv} (hd : decode (mC M) pc = .ok (.dup2, 1)) (ha : (trv g a).category = 1) (hb : (trv g b).category = 1) (k : V g M mc ms cu su n (pc + 1) L (a :: b :: a :: b :: st) rp hp P) : V g M mc ms cu su n pc L (a :: b :: st) rp hp P := by
  intro p l e R s m args below meth c Q C RT H locs LS hH hS hl
  exact lv_dup2_11 C.1 C.2.1 hd ha hb (k p l e R s m args below meth c Q C RT H locs LS hH hS hl)
theorem r_if_eq {x : Int32} {off : Int} {tgt : Nat} (hd : decode (mC M) pc = .ok (.ifCond .eq off, 3)) (ht : (pc : Int) + off = (tgt : Int)) (kt : x = 0 → V g M mc ms cu su n tgt L st rp hp P) (kf : ¬ x = 0 → V g M mc ms cu su n (pc + 3) L st rp hp P) : V g M mc ms cu su n pc L (vI x :: st) rp hp P := by
  intro p l e R s m args below meth c Q C RT H locs LS hH hS hl
  exact lv_if_eq C.1 C.2.1 hd ht (fun h => kt h p l e R s m args below meth c Q C RT H locs LS hH hS hl) (fun h => kf h p l e R s m args below meth c Q C RT H locs LS hH hS hl)
theorem r_if_ne {x : Int32} {off : Int} {tgt : Nat} (hd : decode (mC M) pc = .ok (.ifCond .ne off, 3)) (ht : (pc : Int) + off = (tgt : Int)) (kt : ¬ x = 0 → V g M mc ms cu su n tgt L st rp hp P) (kf : x = 0 → V g M mc ms cu su n (pc + 3) L st rp hp P) : V g M mc ms cu su n pc L (vI x :: st) rp hp P := by
  intro p l e R s m args below meth c Q C RT H locs LS hH hS hl
  exact lv_if_ne C.1 C.2.1 hd ht (fun h => kt h p l e R s m args below meth c Q C RT H locs LS hH hS hl) (fun h => kf h p l e R s m args below meth c Q C RT H locs LS hH hS hl)
theorem r_if_lt {x : Int32} {off : Int} {tgt : Nat} (hd : decode (mC M) pc = .ok (.ifCond .lt off, 3)) (ht : (pc : Int) + off = (tgt : Int)) (kt : x < 0 → V g M mc ms cu su n tgt L st rp hp P) (kf : ¬ x < 0 → V g M mc ms cu su n (pc + 3) L st rp hp P) : V g M mc ms cu su n pc L (vI x :: st) rp hp P := by
  intro p l e R s m args below meth c Q C RT H locs LS hH hS hl
  exact lv_if_lt C.1 C.2.1 hd ht (fun h => kt h p l e R s m args below meth c Q C RT H locs LS hH hS hl) (fun h => kf h p l e R s m args below meth c Q C RT H locs LS hH hS hl)
theorem r_if_ge {x : Int32} {off : Int} {tgt : Nat} (hd : decode (mC M) pc = .ok (.ifCond .ge off, 3)) (ht : (pc : Int) + off = (tgt : Int)) (kt : 0 ≤ x → V g M mc ms cu su n tgt L st rp hp P) (kf : ¬ 0 ≤ x → V g M mc ms cu su n (pc + 3) L st rp hp P) : V g M mc ms cu su n pc L (vI x :: st) rp hp P := by
  intro p l e R s m args below meth c Q C RT H locs LS hH hS hl
  exact lv_if_ge C.1 C.2.1 hd ht (fun h => kt h p l e R s m args below meth c Q C RT H locs LS hH hS hl) (fun h => kf h p l e R s m args below meth c Q C RT H locs LS hH hS hl)
theorem r_if_gt {x : Int32} {off : Int} {tgt : Nat} (hd : decode (mC M) pc = .ok (.ifCond .gt off, 3)) (ht : (pc : Int) + off = (tgt : Int)) (kt : 0 < x → V g M mc ms cu su n tgt L st rp hp P) (kf : ¬ 0 < x → V g M mc ms cu su n (pc + 3) L st rp hp P) : V g M mc ms cu su n pc L (vI x :: st) rp hp P := by
  intro p l e R s m args below meth c Q C RT H locs LS hH hS hl
  exact lv_if_gt C.1 C.2.1 hd ht (fun h => kt h p l e R s m args below meth c Q C RT H locs LS hH hS hl) (fun h => kf h p l e R s m args below meth c Q C RT H locs LS hH hS hl)
theorem r_if_le {x : Int32} {off : Int} {tgt : Nat} (hd : decode (mC M) pc = .ok (.ifCond .le off, 3)) (ht : (pc : Int) + off = (tgt : Int)) (kt : x ≤ 0 → V g M mc ms cu su n tgt L st rp hp P) (kf : ¬ x ≤ 0 → V g M mc ms cu su n (pc + 3) L st rp hp P) : V g M mc ms cu su n pc L (vI x :: st) rp hp P := by
  intro p l e R s m args below meth c Q C RT H locs LS hH hS hl
  exact lv_if_le C.1 C.2.1 hd ht (fun h => kt h p l e R s m args below meth c Q C RT H locs LS hH hS hl) (fun h => kf h p l e R s m args below meth c Q C RT H locs LS hH hS hl)
theorem r_icmp_eq {x y : Int32} {off : Int} {tgt : Nat} (hd : decode (mC M) pc = .ok (.if_icmp .eq off, 3)) (ht : (pc : Int) + off = (tgt : Int)) (kt : x = y → V g M mc ms cu su n tgt L st rp hp P) (kf : ¬ x = y → V g M mc ms cu su n (pc + 3) L st rp hp P) : V g M mc ms cu su n pc L (vI y :: vI x :: st) rp hp P := by
  intro p l e R s m args below meth c Q C RT H locs LS hH hS hl
  exact lv_icmp_eq C.1 C.2.1 hd ht (fun h => kt h p l e R s m args below meth c Q C RT H locs LS hH hS hl) (fun h => kf h p l e R s m args below meth c Q C RT H locs LS hH hS hl)
theorem r_icmp_ne {x y : Int32} {off : Int} {tgt : Nat} (hd : decode (mC M) pc = .ok (.if_icmp .ne off, 3)) (ht : (pc : Int) + off = (tgt : Int)) (kt : ¬ x = y → V g M mc ms cu su n tgt L st rp hp P) (kf : x = y → V g M mc ms cu su n (pc + 3) L st rp hp P) : V g M mc ms cu su n pc L (vI y :: vI x :: st) rp hp P := by
  intro p l e R s m args below meth c Q C RT H locs LS hH hS hl
  exact lv_icmp_ne C.1 C.2.1 hd ht (fun h => kt h p l e R s m args below meth c Q C RT H locs LS hH hS hl) (fun h => kf h p l e R s m args below meth c Q C RT H locs LS hH hS hl)
theorem r_icmp_lt {x y : Int32} {off : Int} {tgt : Nat} (hd : decode (mC M) pc = .ok (.if_icmp .lt off, 3)) (ht : (pc : Int) + off = (tgt : Int)) (kt : x < y → V g M mc ms cu su n tgt L st rp hp P) (kf : ¬ x < y → V g M mc ms cu su n (pc + 3) L st rp hp P) : V g M mc ms cu su n pc L (vI y :: vI x :: st) rp hp P := by
  intro p l e R s m args below meth c Q C RT H locs LS hH hS hl
  exact lv_icmp_lt C.1 C.2.1 hd ht (fun h => kt h p l e R s m args below meth c Q C RT H locs LS hH hS hl) (fun h => kf h p l e R s m args below meth c Q C RT H locs LS hH hS hl)
theorem r_icmp_ge {x y : Int32} {off : Int} {tgt : Nat} (hd : decode (mC M) pc = .ok (.if_icmp .ge off, 3)) (ht : (pc : Int) + off = (tgt : Int)) (kt : y ≤ x → V g M mc ms cu su n tgt L st rp hp P) (kf : ¬ y ≤ x → V g M mc ms cu su n (pc + 3) L st rp hp P) : V g M mc ms cu su n pc L (vI y :: vI x :: st) rp hp P := by
  intro p l e R s m args below meth c Q C RT H locs LS hH hS hl
  exact lv_icmp_ge C.1 C.2.1 hd ht (fun h => kt h p l e R s m args below meth c Q C RT H locs LS hH hS hl) (fun h => kf h p l e R s m args below meth c Q C RT H locs LS hH hS hl)
theorem r_icmp_gt {x y : Int32} {off : Int} {tgt : Nat} (hd : decode (mC M) pc = .ok (.if_icmp .gt off, 3)) (ht : (pc : Int) + off = (tgt : Int)) (kt : y < x → V g M mc ms cu su n tgt L st rp hp P) (kf : ¬ y < x → V g M mc ms cu su n (pc + 3) L st rp hp P) : V g M mc ms cu su n pc L (vI y :: vI x :: st) rp hp P := by
  intro p l e R s m args below meth c Q C RT H locs LS hH hS hl
  exact lv_icmp_gt C.1 C.2.1 hd ht (fun h => kt h p l e R s m args below meth c Q C RT H locs LS hH hS hl) (fun h => kf h p l e R s m args below meth c Q C RT H locs LS hH hS hl)
theorem r_icmp_le {x y : Int32} {off : Int} {tgt : Nat} (hd : decode (mC M) pc = .ok (.if_icmp .le off, 3)) (ht : (pc : Int) + off = (tgt : Int)) (kt : x ≤ y → V g M mc ms cu su n tgt L st rp hp P) (kf : ¬ x ≤ y → V g M mc ms cu su n (pc + 3) L st rp hp P) : V g M mc ms cu su n pc L (vI y :: vI x :: st) rp hp P := by
  intro p l e R s m args below meth c Q C RT H locs LS hH hS hl
  exact lv_icmp_le C.1 C.2.1 hd ht (fun h => kt h p l e R s m args below meth c Q C RT H locs LS hH hS hl) (fun h => kf h p l e R s m args below meth c Q C RT H locs LS hH hS hl)
theorem r_goto {off : Int} {tgt : Nat} (hd : decode (mC M) pc = .ok (.goto off, 3)) (ht : (pc : Int) + off = (tgt : Int)) (k : V g M mc ms cu su n tgt L st rp hp P) : V g M mc ms cu su n pc L st rp hp P := by
  intro p l e R s m args below meth c Q C RT H locs LS hH hS hl
  exact lv_goto C.1 C.2.1 hd ht (k p l e R s m args below meth c Q C RT H locs LS hH hS hl)
theorem r_tabOut {x : Int32} {dflt lo hi : Int} {offs : Array Int} {len tgt : Nat} (hd : decode (mC M) pc = .ok (.tableswitch dflt lo hi offs, len)) (h : x.toInt < lo ∨ hi < x.toInt) (ht : (pc : Int) + dflt = (tgt : Int)) (k : V g M mc ms cu su n tgt L st rp hp P) : V g M mc ms cu su n pc L (vI x :: st) rp hp P := by
  intro p l e R s m args below meth c Q C RT H locs LS hH hS hl
  exact lv_tableOut C.1 C.2.1 hd h ht (k p l e R s m args below meth c Q C RT H locs LS hH hS hl)
theorem r_tabIn {x : Int32} {dflt lo hi off : Int} {offs : Array Int} {len tgt : Nat} (hd : decode (mC M) pc = .ok (.tableswitch dflt lo hi offs, len)) (h1 : ¬ x.toInt < lo) (h2 : ¬ hi < x.toInt) (ho : offs[(x.toInt - lo).toNat]? = some off) (ht : (pc : Int) + off = (tgt : Int)) (k : V g M mc ms cu su n tgt L st rp hp P) : V g M mc ms cu su n pc L (vI x :: st) rp hp P := by
  intro p l e R s m args below meth c Q C RT H locs LS hH hS hl
  exact lv_tableIn C.1 C.2.1 hd h1 h2 ho ht (k p l e R s m args below meth c Q C RT H locs LS hH hS hl)
end RW

def hset (hp : HPt) (a : A4) (i : Nat) (x : Int32) : HPt := fun b j => if b = a ∧ j = i then x else hp b j
def rset (rp : RPt) (a : A4) (i : Nat) (x : A4) : RPt := fun b j => if b = a ∧ j = i then some x else rp b j
/-- what the tables say of a field at a pool index of a class: field fi of class ci -/
def LK (own : String) (idx ci fi : Nat) : Prop := ∃ q : vw_C, vwCl[ci]? = some q ∧ fi < nfT ci ∧ (Cond.fieldLink own idx (q.2.1 fi).1 (q.2.1 fi).2.1 (q.2.1 fi).2.2.1 ∈ lw_good ∨ ∃ host, Cond.fieldLinkNest own idx (q.2.1 fi).1 (q.2.1 fi).2.1 (q.2.1 fi).2.2.1 host ∈ lw_nest)
def CLf (ci : Nat) (q : vw_C) : Prop := (∀ w ∈ u_ws q.1 q.2.1 q.2.2, w ∈ lw_good) ∧ (∀ k, k < q.2.2 → parseFieldDescriptor (q.2.1 k).2.2.1 = some (tyT ci k)) ∧ (∀ a, a < q.2.2 → ∀ b, b < q.2.2 → a ≠ b → (q.2.1 a).2.1 ≠ (q.2.1 b).2.1) ∧ q.2.2 = nfT ci
def CLg (ci : Nat) (q : vw_C) : Prop := ∀ k, k < q.2.2 → (rfT ci k = (q.2.1 k).2.2.2) ∧ (rfT ci k = true → (q.2.1 k).1 = q.1 ∧ ((∃ n, tyT ci k = .object n) ∨ ∃ t, tyT ci k = .array t)) ∧ (rfT ci k = false → tyT ci k = .int ∨ tyT ci k = .boolean ∨ tyT ci k = .char)

theorem clf_0 : CLf 0 (RX0, TX0, 7) := by
  refine ⟨fun w hw => ?_, tyX0_ok, nmX0, rfl⟩
  have h1 : (u_ws RX0 TX0 7).all goodWord = true := by decide +kernel
  have h2 : u_ws RX0 TX0 7 = ([159, 161, 163, 165, 167, 169, 171] : List Nat).filterMap (fun k => lw_tbl[k]?) := by decide +kernel
  have h3 := List.all_eq_true.mp h1 w hw
  rw [h2] at hw
  obtain ⟨k, -, hk⟩ := List.mem_filterMap.mp hw
  exact gd_i k hk h3
theorem clg_0 : CLg 0 (RX0, TX0, 7) := by
  intro k hk
  have hk : k < 7 := hk
  rcases (show k = 0 ∨ k = 1 ∨ k = 2 ∨ k = 3 ∨ k = 4 ∨ k = 5 ∨ k = 6 by omega) with rfl | rfl | rfl | rfl | rfl | rfl | rfl <;> simp [rfT, TX0, RX0, tyT, tyX0] <;> decide
theorem clf_1 : CLf 1 (RX1, TX1, 3) := by
  refine ⟨fun w hw => ?_, tyX1_ok, nmX1, rfl⟩
  have h1 : (u_ws RX1 TX1 3).all goodWord = true := by decide +kernel
  have h2 : u_ws RX1 TX1 3 = ([262, 264, 266] : List Nat).filterMap (fun k => lw_tbl[k]?) := by decide +kernel
  have h3 := List.all_eq_true.mp h1 w hw
  rw [h2] at hw
  obtain ⟨k, -, hk⟩ := List.mem_filterMap.mp hw
  exact gd_i k hk h3
theorem clg_1 : CLg 1 (RX1, TX1, 3) := by
  intro k hk
  have hk : k < 3 := hk
  rcases (show k = 0 ∨ k = 1 ∨ k = 2 by omega) with rfl | rfl | rfl <;> simp [rfT, TX1, RX1, tyT, tyX1] <;> decide
theorem clf_2 : CLf 2 (RX2, TX2, 2) := by
  refine ⟨fun w hw => ?_, tyX2_ok, nmX2, rfl⟩
  have h1 : (u_ws RX2 TX2 2).all goodWord = true := by decide +kernel
  have h2 : u_ws RX2 TX2 2 = ([279, 281] : List Nat).filterMap (fun k => lw_tbl[k]?) := by decide +kernel
  have h3 := List.all_eq_true.mp h1 w hw
  rw [h2] at hw
  obtain ⟨k, -, hk⟩ := List.mem_filterMap.mp hw
  exact gd_i k hk h3
theorem clg_2 : CLg 2 (RX2, TX2, 2) := by
  intro k hk
  have hk : k < 2 := hk
  rcases (show k = 0 ∨ k = 1 by omega) with rfl | rfl <;> simp [rfT, TX2, RX2, tyT, tyX2] <;> decide
theorem clf_3 : CLf 3 (RX3, TX3, 7) := by
  refine ⟨fun w hw => ?_, tyX3_ok, nmX3, rfl⟩
  have h1 : (u_ws RX3 TX3 7).all goodWord = true := by decide +kernel
  have h2 : u_ws RX3 TX3 7 = ([303, 305, 307, 309, 311, 313, 315] : List Nat).filterMap (fun k => lw_tbl[k]?) := by decide +kernel
  have h3 := List.all_eq_true.mp h1 w hw
  rw [h2] at hw
  obtain ⟨k, -, hk⟩ := List.mem_filterMap.mp hw
  exact gd_i k hk h3
theorem clg_3 : CLg 3 (RX3, TX3, 7) := by
  intro k hk
  have hk : k < 7 := hk
  rcases (show k = 0 ∨ k = 1 ∨ k = 2 ∨ k = 3 ∨ k = 4 ∨ k = 5 ∨ k = 6 by omega) with rfl | rfl | rfl | rfl | rfl | rfl | rfl <;> simp [rfT, TX3, RX3, tyT, tyX3] <;> decide
theorem clf_4 : CLf 4 (RX4, TX4, 10) := by
  refine ⟨fun w hw => ?_, tyX4_ok, nmX4, rfl⟩
  have h1 : (u_ws RX4 TX4 10).all goodWord = true := by decide +kernel
  have h2 : u_ws RX4 TX4 10 = ([196, 198, 200, 202, 204, 206, 208, 210, 212, 214] : List Nat).filterMap (fun k => lw_tbl[k]?) := by decide +kernel
  have h3 := List.all_eq_true.mp h1 w hw
  rw [h2] at hw
  obtain ⟨k, -, hk⟩ := List.mem_filterMap.mp hw
  exact gd_i k hk h3
theorem clg_4 : CLg 4 (RX4, TX4, 10) := by
  intro k hk
  have hk : k < 10 := hk
  rcases (show k = 0 ∨ k = 1 ∨ k = 2 ∨ k = 3 ∨ k = 4 ∨ k = 5 ∨ k = 6 ∨ k = 7 ∨ k = 8 ∨ k = 9 by omega) with rfl | rfl | rfl | rfl | rfl | rfl | rfl | rfl | rfl | rfl <;> simp [rfT, TX4, RX4, tyT, tyX4] <;> decide
theorem clf_5 : CLf 5 (RX5, TX5, 10) := by
  refine ⟨fun w hw => ?_, tyX5_ok, nmX5, rfl⟩
  have h1 : (u_ws RX5 TX5 10).all goodWord = true := by decide +kernel
  have h2 : u_ws RX5 TX5 10 = ([228, 230, 232, 234, 236, 238, 240, 242, 244, 246] : List Nat).filterMap (fun k => lw_tbl[k]?) := by decide +kernel
  have h3 := List.all_eq_true.mp h1 w hw
  rw [h2] at hw
  obtain ⟨k, -, hk⟩ := List.mem_filterMap.mp hw
  exact gd_i k hk h3
theorem clg_5 : CLg 5 (RX5, TX5, 10) := by
  intro k hk
  have hk : k < 10 := hk
  rcases (show k = 0 ∨ k = 1 ∨ k = 2 ∨ k = 3 ∨ k = 4 ∨ k = 5 ∨ k = 6 ∨ k = 7 ∨ k = 8 ∨ k = 9 by omega) with rfl | rfl | rfl | rfl | rfl | rfl | rfl | rfl | rfl | rfl <;> simp [rfT, TX5, RX5, tyT, tyX5] <;> decide
theorem clf_6 : CLf 6 (RX6, TX6, 6) := by
  refine ⟨fun w hw => ?_, tyX6_ok, nmX6, rfl⟩
  have h1 : (u_ws RX6 TX6 6).all goodWord = true := by decide +kernel
  have h2 : u_ws RX6 TX6 6 = ([324, 326, 328, 330, 332, 334] : List Nat).filterMap (fun k => lw_tbl[k]?) := by decide +kernel
  have h3 := List.all_eq_true.mp h1 w hw
  rw [h2] at hw
  obtain ⟨k, -, hk⟩ := List.mem_filterMap.mp hw
  exact gd_i k hk h3
theorem clg_6 : CLg 6 (RX6, TX6, 6) := by
  intro k hk
  have hk : k < 6 := hk
  rcases (show k = 0 ∨ k = 1 ∨ k = 2 ∨ k = 3 ∨ k = 4 ∨ k = 5 by omega) with rfl | rfl | rfl | rfl | rfl | rfl <;> simp [rfT, TX6, RX6, tyT, tyX6] <;> decide
theorem clf_7 : CLf 7 (RX7, TX7, 11) := by
  refine ⟨fun w hw => ?_, tyX7_ok, nmX7, rfl⟩
  have h1 : (u_ws RX7 TX7 11).all goodWord = true := by decide +kernel
  have h2 : u_ws RX7 TX7 11 = ([782, 784, 786, 788, 790, 792, 794, 796, 798, 800, 802] : List Nat).filterMap (fun k => lw_tbl[k]?) := by decide +kernel
  have h3 := List.all_eq_true.mp h1 w hw
  rw [h2] at hw
  obtain ⟨k, -, hk⟩ := List.mem_filterMap.mp hw
  exact gd_i k hk h3
theorem clg_7 : CLg 7 (RX7, TX7, 11) := by
  intro k hk
  have hk : k < 11 := hk
  rcases (show k = 0 ∨ k = 1 ∨ k = 2 ∨ k = 3 ∨ k = 4 ∨ k = 5 ∨ k = 6 ∨ k = 7 ∨ k = 8 ∨ k = 9 ∨ k = 10 by omega) with rfl | rfl | rfl | rfl | rfl | rfl | rfl | rfl | rfl | rfl | rfl <;> simp [rfT, TX7, RX7, tyT, tyX7] <;> decide
theorem cls_ok {ci : Nat} {q : vw_C} (h : vwCl[ci]? = some q) : CLf ci q ∧ CLg ci q := by
  match ci, h with
  | 0, h => cases h; exact ⟨clf_0, clg_0⟩
  | 1, h => cases h; exact ⟨clf_1, clg_1⟩
  | 2, h => cases h; exact ⟨clf_2, clg_2⟩
  | 3, h => cases h; exact ⟨clf_3, clg_3⟩
  | 4, h => cases h; exact ⟨clf_4, clg_4⟩
  | 5, h => cases h; exact ⟨clf_5, clg_5⟩
  | 6, h => cases h; exact ⟨clf_6, clg_6⟩
  | 7, h => cases h; exact ⟨clf_7, clg_7⟩
  | k + 8, h => simp [vwCl] at h
theorem mrs {α : Type} {N fi : Nat} {f f' : Nat → α} (h : ∀ i, i ≠ fi → f i = f' i) (hf : fi < N) : ((List.range N).map f).set fi (f' fi) = (List.range N).map f' := by
  refine List.ext_getElem? (fun i => ?_)
  by_cases hi : i = fi
  · subst hi
    rw [List.getElem?_set_self (by simp; exact hf), List.getElem?_map, List.getElem?_range hf]
    rfl
  · rw [List.getElem?_set_ne (Ne.symm hi), List.getElem?_map, List.getElem?_map]
    by_cases hk : i < N
    · rw [List.getElem?_range hk, Option.map_some, Option.map_some, h i hi]
    · rw [List.getElem?_eq_none (by rw [List.length_range]; omega), Option.map_none, Option.map_none]
theorem cn_ob {g : Gh} {rp : RPt} {hp : HPt} {a : A4} {ci : Nat} (ho : okd a.1 = some ci) : cn g rp hp a = .inr (ci, (List.range (nfT ci)).map (fun i => if rfT ci i = true then va_rf ((rp a i).map (al g)) else .int (hp a i))) := by
  unfold cn
  rw [ho]
theorem okd_akd {k ci : Nat} (ho : okd k = some ci) : akd k = none := by
  unfold okd at ho
  split at ho <;> first | rfl | cases ho
theorem akd_okd {k : Nat} {x : Nat × Nat} (ho : akd k = some x) : okd k = none := by
  cases h : okd k with
  | none => rfl
  | some c => rw [okd_akd h] at ho; cases ho
theorem rkd_okd {k : Nat} {x : Nat × Nat} (ho : rkd k = some x) : okd k = none ∧ akd k = none := by
  unfold rkd at ho
  split at ho <;> first | exact ⟨rfl, rfl⟩ | cases ho
theorem cn_ar {g : Gh} {rp : RPt} {hp : HPt} {a : A4} {t len : Nat} (ho : akd a.1 = some (t, len)) : cn g rp hp a = .inl (g.2.1 t, len, .inl (hp a)) := by
  unfold cn
  rw [akd_okd ho, ho]
theorem cn_rr {g : Gh} {rp : RPt} {hp : HPt} {a : A4} {t len : Nat} (ho : rkd a.1 = some (t, len)) : cn g rp hp a = .inl (g.2.1 t, len, .inr (.inr (.inr (.inr (fun i => (rp a i).map (al g)))))) := by
  unfold cn
  rw [(rkd_okd ho).1, (rkd_okd ho).2, ho]
section RH
variable {g : Gh} {M : Md} {mc ms cu su n pc : Nat} {L : List (Option Vv)} {st : List Vv} {rp : RPt} {hp : HPt} {P : Pst}
variable {p : Program} {l : Launch} {e : Env} {R : Room} {s : State} {m : MethodId} {args : Array Value} {below : List Frame} {meth : Method} {c : Code} {Q : State → Prop} {H : Heap} {locs : List Loc} {LS : Array Slot}
theorem w_get {a : A4} {idx ci fi : Nat} {rest : List Value} (C : CX g M mc ms p R s m args meth c) (hH : HX g n rp hp H) (hd : decode (mC M) pc = .ok (.getfield idx, 3)) (lk : LK (mK M) idx ci fi) (ho : okd a.1 = some ci) (hlv : lvp n a) {v : Value} (hv : (if rfT ci fi = true then va_rf ((rp a fi).map (al g)) else .int (hp a fi)) = v)
    (kk : W p l e R s m args below meth c H locs cu su Q (F0 m (pc + 3) LS (v :: rest))) : W p l e R s m args below meth c H locs cu su Q (F0 m pc LS (.ref (al g a) :: rest)) := by
  obtain ⟨hP, hz, hn⟩ := hH
  obtain ⟨q, hc, hfi, hlk⟩ := lk
  obtain ⟨⟨co1, co2, co3, co4⟩, -⟩ := cls_ok hc
  have he := wl_get (g := g) (rp := rp) (hp := hp) hn hlv
  rw [cn_ob ho] at he
  have hv2 : ((List.range (nfT ci)).map (fun i => if rfT ci i = true then va_rf ((rp a i).map (al g)) else .int (hp a i)))[fi]? = some v := by
    rw [List.getElem?_map, List.getElem?_range hfi, Option.map_some, hv]
  rcases hlk with hlk | ⟨host, hlk⟩
  · exact va_get C.1 C.2.1 C.2.2.2.2.2.1 co1 C.2.2.2.2.1 C.2.2.2.2.2.2.2.2.1.1 hP (pos a) he hc fi (by rw [co4]; exact hfi) (C.2.2.2.2.2.1 _ hlk) (fun _ h => h) hv2 hd kk
  · exact va_getN C.1 C.2.1 C.2.2.2.2.2.1 co1 C.2.2.2.2.1 C.2.2.2.2.2.2.2.2.1.1 hP (pos a) he hc fi (by rw [co4]; exact hfi) (va_Nw.use rfl (C.2.2.2.2.2.2.2.2.1.2.1 _ hlk)) (fun _ h => h) hv2 hd kk
theorem r_getI {a : A4} {idx ci fi : Nat} (hd : decode (mC M) pc = .ok (.getfield idx, 3)) (lk : LK (mK M) idx ci fi) (ho : okd a.1 = some ci) (hr : rfT ci fi = false) (hlv : lvp n a) (k : V g M mc ms cu su n (pc + 3) L (vI (hp a fi) :: st) rp hp P) : V g M mc ms cu su n pc L (vR a :: st) rp hp P := by
  intro p l e R s m args below meth c Q C RT H locs LS hH hS hl
  exact w_get C hH hd lk ho hlv (v := .int (hp a fi)) (by rw [hr]; rfl) (k p l e R s m args below meth c Q C RT H locs LS hH hS hl)
theorem r_getR {a b : A4} {idx ci fi : Nat} (hd : decode (mC M) pc = .ok (.getfield idx, 3)) (lk : LK (mK M) idx ci fi) (ho : okd a.1 = some ci) (hr : rfT ci fi = true) (hb : rp a fi = some b) (hlv : lvp n a) (k : V g M mc ms cu su n (pc + 3) L (vR b :: st) rp hp P) : V g M mc ms cu su n pc L (vR a :: st) rp hp P := by
  intro p l e R s m args below meth c Q C RT H locs LS hH hS hl
  exact w_get C hH hd lk ho hlv (v := .ref (al g b)) (by rw [hr, hb]; rfl) (k p l e R s m args below meth c Q C RT H locs LS hH hS hl)
theorem hx_set {rp' : RPt} {hp' : HPt} {a : A4} {H1 : Heap} (hH : HX g n rp hp H) (hlv : lvp n a) (ee : va_at (g.1.1, g.1.2) vwCl (al g a, cn g rp' hp' a) H1) (z : H1.size = H.size) (oq : ∀ q : Nat, q ≠ al g a → H1[q]? = H[q]?) (hrp : ∀ b, b ≠ a → rp b = rp' b) (hhp : ∀ b, b ≠ a → hp b = hp' b) : HX g n rp' hp' H1 := by
  obtain ⟨hP, hz, hn⟩ := hH
  have h1 := hP.set wl_D (wl_get hn hlv) ee oq
  rw [wl_set hn hlv hrp hhp] at h1
  exact ⟨h1, by rw [z]; exact hz, hn⟩
theorem al_Af {a : A4} (hn : n ≤ 616) (hlv : lvp n a) : Af g (al g a) := by
  rw [lvp_al hn hlv]
  exact Nat.le_add_right _ _
theorem ob_set {f : Nat → Value} {nf fi : Nat} {v : Value} {iS : Nat → Nat} {cell : Cell} {C0 : ClassId} {q : Nat} {H1 : Heap} {f' : Nat → Value} (h4 : ∀ k, k < nf → cell.slots[iS k]? = some (vp_V ((List.range nf).map f) k)) (hap : ∀ x y, x < nf → y < nf → x ≠ y → iS x ≠ iS y) (hf : fi < nf) (hcl : cell.cls = C0) (hvm : cell.vm = .none) (e1 : H1[q]? = some (cell.setSlot (iS fi) v)) (h : ∀ i, i ≠ fi → f i = f' i) (hv : f' fi = v) : t_OB q C0 nf iS H1 (vp_V ((List.range nf).map f')) := by
  refine t_OB.to (V := updV (vp_V ((List.range nf).map f)) fi v) ⟨_, e1, hcl, hvm, t_set h4 hap hf v⟩ (fun j hj => ?_)
  unfold updV vp_V
  rw [List.getD_eq_getElem?_getD, List.getD_eq_getElem?_getD, List.getElem?_map, List.getElem?_map, List.getElem?_range hj, Option.map_some, Option.map_some]
  by_cases hjf : j = fi
  · subst hjf
    simp [hv]
  · simp [hjf, h j hjf]
theorem r_putI {a : A4} {x : Int32} {idx ci fi : Nat} (hd : decode (mC M) pc = .ok (.putfield idx, 3)) (lk : LK (mK M) idx ci fi) (ho : okd a.1 = some ci) (hr : rfT ci fi = false) (hlv : lvp n a) (hx : narrow (tyT ci fi) (.int x) = .int x ∧ fits (tyT ci fi) (.int x) = true) (k : V g M mc ms cu su n (pc + 3) L st rp (hset hp a fi x) P) : V g M mc ms cu su n pc L (vI x :: vR a :: st) rp hp P := by
  intro p l e R s m args below meth c Q C RT H locs LS hH hS hl
  obtain ⟨hP, hz, hn⟩ := id hH
  obtain ⟨q, hc, hfi, hlk⟩ := lk
  obtain ⟨⟨co1, co2, co3, co4⟩, cg⟩ := cls_ok hc
  have hfq : fi < q.2.2 := by rw [co4]; exact hfi
  have hfin : (q.2.1 fi).2.2.2 = false := by rw [← (cg fi hfq).1]; exact hr
  have hK := C.2.2.2.2.2.2.2.2.1.1
  have hts := C.2.2.2.2.2.1
  have he := hP (pos a) _ (wl_get hn hlv)
  rw [cn_ob ho] at he
  have hap := va_apart (own := mK M) (s := s) hts co1 (tyT ci) co2 co3 hK hc
  obtain ⟨r, h1, cell, q1, q2, q3, q4⟩ := he
  have hr1 : r = q := Option.some.inj (h1.symm.trans hc)
  subst hr1
  obtain ⟨hSl, hfc, kC, hkC, hkind⟩ := hK.1 ci _ hc
  obtain ⟨cf, kf, f0, f, hi, hsl⟩ := hSl fi hfq
  have hlay := hts _ (co1 _ (u_in_lay hfq))
  unfold u_lay at hlay
  rw [if_neg (by rw [hfin]; decide)] at hlay
  have hst := (u_facts hfc hkC (u_lays hts co1 hfq) hi).1
  have h6 := u_store hfc hkC hkind hlay hi (co2 fi hfq) hx.1 hx.2
  have fin : ∀ (H1 : Heap), H1[al g a]? = some (cell.setSlot f.slot (.int x)) → H1.size = H.size → (∀ q : Nat, q ≠ al g a → H1[q]? = H[q]?) → W p l e R s m args below meth c H1 (locs ++ [⟨al g a, f.slot⟩]) cu su Q (F0 m (pc + 3) LS (st.map (trv g))) := by
    intro H1 e1 e2 e3
    refine k p l e R s m args below meth c Q C RT H1 _ LS (hx_set hH hlv ?_ e2 e3 (fun b _ => rfl) (fun b hb => by funext j; simp [hset, hb])) (hS.put e2 e3 (al_Af hn hlv)) hl
    rw [cn_ob ho]
    refine ⟨r, hc, ?_⟩
    rw [hsl] at e1
    rw [co4] at q4 hap ⊢
    exact ob_set q4 hap hfi q2 q3 e1 (fun i hi => by simp [hset, hi]) (by simp [hr, hset])
  rcases hlk with hlk | ⟨host, hlk⟩
  · exact W.putK C.1 C.2.1 (f := f) ⟨C.2.2.2.2.1, hts _ hlk, ⟨_, _, _, hi⟩, hst⟩ (by rw [q2]; exact h6) q1 q3 (by rw [hsl]; exact k2_hasslot (q4 fi hfq)) rfl rfl hd fin
  · exact va_WputK C.1 C.2.1 (f := f) C.2.2.2.2.1 (va_Nw.use rfl (C.2.2.2.2.2.2.2.2.1.2.1 _ hlk)) hi hst (by rw [q2]; exact h6) q1 q3 (by rw [hsl]; exact k2_hasslot (q4 fi hfq)) rfl rfl hd fin
/-- a final field, of references, in its class's constructor -/
theorem r_putF {a b : A4} {idx ci fi : Nat} (hd : decode (mC M) pc = .ok (.putfield idx, 3)) (lk : LK (mK M) idx ci fi) (ho : okd a.1 = some ci) (hr : rfT ci fi = true) (hlv : lvp n a) (hin : (mY M).name = "<init>") (hown : ∀ q, vwCl[ci]? = some q → q.1 = mK M) (hnn : ∀ q, vwCl[ci]? = some q → ∀ host, Cond.fieldLinkNest (mK M) idx (q.2.1 fi).1 (q.2.1 fi).2.1 (q.2.1 fi).2.2.1 host ∉ lw_nest) (k : V g M mc ms cu su n (pc + 3) L st (rset rp a fi b) hp P) : V g M mc ms cu su n pc L (vR b :: vR a :: st) rp hp P := by
  intro p l e R s m args below meth c Q C RT H locs LS hH hS hl
  obtain ⟨hP, hz, hn⟩ := id hH
  obtain ⟨q, hc, hfi, hlk⟩ := lk
  obtain ⟨⟨co1, co2, co3, co4⟩, cg⟩ := cls_ok hc
  have hfq : fi < q.2.2 := by rw [co4]; exact hfi
  have hfin : (q.2.1 fi).2.2.2 = true := by rw [← (cg fi hfq).1]; exact hr
  obtain ⟨hq1, hty⟩ := (cg fi hfq).2.1 hr
  have hK := C.2.2.2.2.2.2.2.2.1.1
  have hts := C.2.2.2.2.2.1
  have he := hP (pos a) _ (wl_get hn hlv)
  rw [cn_ob ho] at he
  have hap := va_apart (own := mK M) (s := s) hts co1 (tyT ci) co2 co3 hK hc
  obtain ⟨r, h1, cell, q1, q2, q3, q4⟩ := he
  have hr1 : r = q := Option.some.inj (h1.symm.trans hc)
  subst hr1
  obtain ⟨hSl, hfc, kC, hkC, hkind⟩ := hK.1 ci _ hc
  obtain ⟨cf, kf, f0, f, hi, hsl⟩ := hSl fi hfq
  have hlay := hts _ (co1 _ (u_in_lay hfq))
  unfold u_lay at hlay
  rw [if_pos hfin] at hlay
  have hst := (u_facts hfc hkC (u_lays hts co1 hfq) hi).1
  have hcf : m.cls = cf := by
    obtain ⟨_, _, c', _, _, _, -, -, hf', -, -, -, hown2, -⟩ := Cond.laysFinal_spec hlay
    have e1 : c' = cf := by have := hi.symm.trans hf'; simp at this; exact this.1.symm
    rw [hq1, hown r hc] at hown2
    rw [← e1]; exact Option.some.inj (C.2.2.2.2.1.symm.trans hown2)
  have hnv : narrow (tyT ci fi) (.ref (al g b)) = .ref (al g b) ∧ fits (tyT ci fi) (.ref (al g b)) = true := by
    rcases hty with ⟨z, hz⟩ | ⟨z, hz⟩ <;> rw [hz] <;> exact ⟨rfl, rfl⟩
  have h6 := u_fits hfc hkC hkind (Or.inr hlay) hi (co2 fi hfq) hnv.1 hnv.2
  rcases hlk with hlk | ⟨host, hlk⟩
  · refine W.putFinK C.1 C.2.1 C.2.2.2.2.1 (hts _ hlk) hi hst hcf (by rw [C.2.2.2.2.2.2.2.1]; exact hin) (by rw [q2]; exact h6) q1 q3 (by rw [hsl]; exact k2_hasslot (q4 fi hfq)) rfl rfl hd fun H1 e1 e2 e3 => ?_
    refine k p l e R s m args below meth c Q C RT H1 _ LS (hx_set hH hlv ?_ e2 e3 (fun b hb => by funext j; simp [rset, hb]) (fun b hb => rfl)) (hS.put e2 e3 (al_Af hn hlv)) hl
    rw [cn_ob ho]
    refine ⟨r, hc, ?_⟩
    rw [hsl] at e1
    rw [co4] at q4 hap ⊢
    exact ob_set q4 hap hfi q2 q3 e1 (fun i hi => by simp [rset, hi]) (by simp [hr, rset, va_rf] <;> rfl)
  · exact absurd hlk (hnn r hc host)
theorem ty_at {t : Nat} {ty : FieldType} {k : Nat} (h : (tysF g)[k]? = some (g.2.1 t, ty)) : (tysF g)[k]? = some (g.2.1 t, ty) := h
theorem r_iald {a : A4} {i : Int32} {len : Nat} (hd : decode (mC M) pc = .ok (.iaload, 1)) (ho : akd a.1 = some (0, len)) (hlv : lvp n a) (hi : vp_in i len) (k : V g M mc ms cu su n (pc + 1) L (vI (hp a i.toNatClampNeg) :: st) rp hp P) : V g M mc ms cu su n pc L (vI i :: vR a :: st) rp hp P := by
  intro p l e R s m args below meth c Q C RT H locs LS hH hS hl
  have he := wl_get (g := g) (rp := rp) (hp := hp) hH.2.2 hlv
  rw [cn_ar ho] at he
  exact va_iald C.1 C.2.1 C.2.2.2.2.2.2.2.2.1.1 hH.1 (pos a) 0 he rfl hi hd (k p l e R s m args below meth c Q C RT H locs LS hH hS hl)
theorem r_zald {a : A4} {i : Int32} {len : Nat} (hd : decode (mC M) pc = .ok (.baload, 1)) (ho : akd a.1 = some (1, len)) (hlv : lvp n a) (hi : vp_in i len) (k : V g M mc ms cu su n (pc + 1) L (vI (hp a i.toNatClampNeg) :: st) rp hp P) : V g M mc ms cu su n pc L (vI i :: vR a :: st) rp hp P := by
  intro p l e R s m args below meth c Q C RT H locs LS hH hS hl
  have he := wl_get (g := g) (rp := rp) (hp := hp) hH.2.2 hlv
  rw [cn_ar ho] at he
  exact va_zald C.1 C.2.1 C.2.2.2.2.2.2.2.2.1.1 hH.1 (pos a) 1 he rfl hi hd (k p l e R s m args below meth c Q C RT H locs LS hH hS hl)
theorem r_cald {a : A4} {i : Int32} {len : Nat} (hd : decode (mC M) pc = .ok (.caload, 1)) (ho : akd a.1 = some (2, len)) (hlv : lvp n a) (hi : vp_in i len) (k : V g M mc ms cu su n (pc + 1) L (vI (hp a i.toNatClampNeg) :: st) rp hp P) : V g M mc ms cu su n pc L (vI i :: vR a :: st) rp hp P := by
  intro p l e R s m args below meth c Q C RT H locs LS hH hS hl
  have he := wl_get (g := g) (rp := rp) (hp := hp) hH.2.2 hlv
  rw [cn_ar ho] at he
  exact va_cald C.1 C.2.1 C.2.2.2.2.2.2.2.2.1.1 hH.1 (pos a) 2 he rfl hi hd (k p l e R s m args below meth c Q C RT H locs LS hH hS hl)
theorem r_aald {a b : A4} {i : Int32} {t len : Nat} (hd : decode (mC M) pc = .ok (.aaload, 1)) (ho : rkd a.1 = some (t, len)) (hlv : lvp n a) (hi : vp_in i len) (hb : rp a i.toNatClampNeg = some b) (k : V g M mc ms cu su n (pc + 1) L (vR b :: st) rp hp P) : V g M mc ms cu su n pc L (vI i :: vR a :: st) rp hp P := by
  intro p l e R s m args below meth c Q C RT H locs LS hH hS hl
  have he := wl_get (g := g) (rp := rp) (hp := hp) hH.2.2 hlv
  rw [cn_rr ho] at he
  have ht : ∃ (j : Nat) (D : String), (tysF g)[j]? = some (g.2.1 t, .object D) := by
    have h0 := ho
    unfold rkd at h0
    split at h0 <;> cases h0
    · exact ⟨4, RX4, rfl⟩
    · exact ⟨3, RX5, rfl⟩
    · exact ⟨3, RX5, rfl⟩
  obtain ⟨j, D, ht⟩ := ht
  refine va_aldq C.1 C.2.1 C.2.2.2.2.2.2.2.2.1.1 hH.1 (pos a) j he ht hi hd ?_
  rw [hb]
  exact k p l e R s m args below meth c Q C RT H locs LS hH hS hl
theorem r_xald {t : Nat} {i : Int32} (hd : decode (mC M) pc = .ok (.iaload, 1)) (ht : t < 3) (hi : vp_in i (g.2.2.2.2 t).1) (k : V g M mc ms cu su n (pc + 1) L (vI ((g.2.2.2.2 t).2 i.toNatClampNeg) :: st) rp hp P) : V g M mc ms cu su n pc L (vI i :: vR (24, t, 0, 0) :: st) rp hp P := by
  intro p l e R s m args below meth c Q C RT H locs LS hH hS hl
  exact va_ti C.1 C.2.1 (C.2.2.2.2.2.2.2.2.1.2.2.2.2.2 t ht) hS hi rfl hd (k p l e R s m args below meth c Q C RT H locs LS hH hS hl)
theorem r_xlen {t : Nat} (hd : decode (mC M) pc = .ok (.arraylength, 1)) (ht : t < 3) (k : V g M mc ms cu su n (pc + 1) L (vI (nI (g.2.2.2.2 t).1) :: st) rp hp P) : V g M mc ms cu su n pc L (vR (24, t, 0, 0) :: st) rp hp P := by
  intro p l e R s m args below meth c Q C RT H locs LS hH hS hl
  exact va_tlen C.1 C.2.1 (C.2.2.2.2.2.2.2.2.1.2.2.2.2.2 t ht) hS rfl hd (k p l e R s m args below meth c Q C RT H locs LS hH hS hl)
theorem r_getL {idx : Nat} {host : String} (hd : decode (mC M) pc = .ok (.getstatic idx, 3)) (hw : Cond.fieldLinkNest (mK M) idx "SplitSecrets" "LEAST_OF_SETTING" "[I" host ∈ lw_nest) (k : V g M mc ms cu su n (pc + 3) L (vR (24, 1, 0, 0) :: st) rp hp P) : V g M mc ms cu su n pc L st rp hp P := by
  intro p l e R s m args below meth c Q C RT H locs LS hH hS hl
  exact va_getsN C.1 C.2.1 C.2.2.2.2.2.2.2.2.1.2.2.2.1 hS C.2.2.2.2.1 (va_Nw.use rfl (C.2.2.2.2.2.2.2.2.1.2.1 _ hw)) (fun _ h => h) hd (k p l e R s m args below meth c Q C RT H locs LS hH hS hl)
theorem r_getM {idx : Nat} {host : String} (hd : decode (mC M) pc = .ok (.getstatic idx, 3)) (hw : Cond.fieldLinkNest (mK M) idx "SplitSecrets" "MOST_OF_SETTING" "[I" host ∈ lw_nest) (k : V g M mc ms cu su n (pc + 3) L (vR (24, 2, 0, 0) :: st) rp hp P) : V g M mc ms cu su n pc L st rp hp P := by
  intro p l e R s m args below meth c Q C RT H locs LS hH hS hl
  exact va_getsN C.1 C.2.1 C.2.2.2.2.2.2.2.2.1.2.2.2.2.1 hS C.2.2.2.2.1 (va_Nw.use rfl (C.2.2.2.2.2.2.2.2.1.2.1 _ hw)) (fun _ h => h) hd (k p l e R s m args below meth c Q C RT H locs LS hH hS hl)
theorem hset_upd {a : A4} {i : Nat} {x : Int32} : hset hp a i x a = upd (hp a) i x := by
  funext j
  by_cases h : j = i <;> simp [hset, upd, h]
theorem r_iast {a : A4} {i x : Int32} {len : Nat} (hd : decode (mC M) pc = .ok (.iastore, 1)) (ho : akd a.1 = some (0, len)) (hlv : lvp n a) (hi : vp_in i len) (k : V g M mc ms cu su n (pc + 1) L st rp (hset hp a i.toNatClampNeg x) P) : V g M mc ms cu su n pc L (vI x :: vI i :: vR a :: st) rp hp P := by
  intro p l e R s m args below meth c Q C RT H locs LS hH hS hl
  have he := wl_get (g := g) (rp := rp) (hp := hp) hH.2.2 hlv
  rw [cn_ar ho] at he
  refine W.iast C.1 C.2.1 (hH.1 (pos a) _ he) ((C.2.2.2.2.2.2.2.2.1.1.2 0 _ rfl).1 len (fun j => .int (hp a j))) (fun q => by cases q) (by show ¬ (i < 0 ∨ (arrV _ _ _).slots.size ≤ _); rw [arrV_size]; exact hi) rfl rfl hd fun H1 ee z oq => ?_
  refine k p l e R s m args below meth c Q C RT H1 _ LS (hx_set hH hlv ?_ z oq (fun b _ => rfl) (fun b hb => by funext j; simp [hset, hb])) (hS.put z oq (al_Af hH.2.2 hlv)) hl
  rw [cn_ar ho, hset_upd]
  show H1[al g a]? = some (vp_cell _ _)
  rw [ee, vp_cell_i, vp_cell_i, arrV_store]
  congr 2
  funext q
  by_cases hq : q = i.toNatClampNeg
  · subst hq
    simp [updV, upd]
  · simp [updV, upd, hq]
theorem r_zast {a : A4} {i x : Int32} {len : Nat} (hd : decode (mC M) pc = .ok (.bastore, 1)) (ho : akd a.1 = some (1, len)) (hlv : lvp n a) (hi : vp_in i len) (hx : vp_nar .boolean x = x) (k : V g M mc ms cu su n (pc + 1) L st rp (hset hp a i.toNatClampNeg x) P) : V g M mc ms cu su n pc L (vI x :: vI i :: vR a :: st) rp hp P := by
  intro p l e R s m args below meth c Q C RT H locs LS hH hS hl
  have he := wl_get (g := g) (rp := rp) (hp := hp) hH.2.2 hlv
  rw [cn_ar ho] at he
  refine W.zast C.1 C.2.1 (hH.1 (pos a) _ he) ((C.2.2.2.2.2.2.2.2.1.1.2 1 _ rfl).1 len (fun j => .int (hp a j))) (fun q => by cases q) (by show ¬ (i < 0 ∨ (arrV _ _ _).slots.size ≤ _); rw [arrV_size]; exact hi) rfl rfl hd fun H1 ee z oq => ?_
  refine k p l e R s m args below meth c Q C RT H1 _ LS (hx_set hH hlv ?_ z oq (fun b _ => rfl) (fun b hb => by funext j; simp [hset, hb])) (hS.put z oq (al_Af hH.2.2 hlv)) hl
  rw [cn_ar ho, hset_upd]
  show H1[al g a]? = some (vp_cell _ _)
  rw [ee, vp_cell_i, vp_cell_i, arrV_store]
  congr 2
  funext q
  by_cases hq : q = i.toNatClampNeg
  · subst hq
    have h2 : narrow .boolean (.int x) = .int (vp_nar .boolean x) := rfl
    rw [hx] at h2
    simp [updV, upd, h2]
  · simp [updV, upd, hq]
theorem r_cast {a : A4} {i x : Int32} {len : Nat} (hd : decode (mC M) pc = .ok (.castore, 1)) (ho : akd a.1 = some (2, len)) (hlv : lvp n a) (hi : vp_in i len) (hx : vp_nar .char x = x) (k : V g M mc ms cu su n (pc + 1) L st rp (hset hp a i.toNatClampNeg x) P) : V g M mc ms cu su n pc L (vI x :: vI i :: vR a :: st) rp hp P := by
  intro p l e R s m args below meth c Q C RT H locs LS hH hS hl
  have he := wl_get (g := g) (rp := rp) (hp := hp) hH.2.2 hlv
  rw [cn_ar ho] at he
  refine W.cast C.1 C.2.1 (hH.1 (pos a) _ he) ((C.2.2.2.2.2.2.2.2.1.1.2 2 _ rfl).1 len (fun j => .int (hp a j))) (fun q => by cases q) (by show ¬ (i < 0 ∨ (arrV _ _ _).slots.size ≤ _); rw [arrV_size]; exact hi) rfl rfl hd fun H1 ee z oq => ?_
  refine k p l e R s m args below meth c Q C RT H1 _ LS (hx_set hH hlv ?_ z oq (fun b _ => rfl) (fun b hb => by funext j; simp [hset, hb])) (hS.put z oq (al_Af hH.2.2 hlv)) hl
  rw [cn_ar ho, hset_upd]
  show H1[al g a]? = some (vp_cell _ _)
  rw [ee, vp_cell_i, vp_cell_i, arrV_store]
  congr 2
  funext q
  by_cases hq : q = i.toNatClampNeg
  · subst hq
    have h2 : narrow .char (.int x) = .int (vp_nar .char x) := rfl
    rw [hx] at h2
    simp [updV, upd, h2]
  · simp [updV, upd, hq]
theorem hx_push {H1 : Heap} (hH : HX g n rp hp H) (hn : n < 616) (ee : va_at (g.1.1, g.1.2) vwCl (g.2.2.1 + n, cn g rp hp (nm n)) H1) (z : H1.size = H.size + 1) (oq : ∀ q : Nat, q < H.size → H1[q]? = H[q]?) : HX g (n + 1) rp hp H1 := by
  obtain ⟨hP, hz, -⟩ := hH
  have hk : va_P (g.1.1, g.1.2) vwCl (wl g n rp hp) H1 := hP.kept (fun k x hx => oq x.1 ((hP k x hx).lt))
  refine ⟨?_, by rw [z, hz, Nat.add_assoc], hn⟩
  rw [wl_push]
  refine hk.app (fun k x hx => ?_)
  have hz1 : k < 1 := (List.getElem?_eq_some_iff.mp hx).1
  rw [show k = 0 by omega] at hx
  cases hx
  exact ee
theorem S_push {A0 : Nat → Prop} {H0 H1 : Heap} (hS : va_S A0 H0 H locs) (z : H1.size = H.size + 1) (oq : ∀ q : Nat, q < H.size → H1[q]? = H[q]?) : va_S A0 H0 H1 locs := ⟨Nat.le_trans hS.1 (by omega), fun x h1 h2 => (oq x (Nat.lt_of_lt_of_le h1 hS.1)).trans (hS.2.1 x h1 h2), hS.2.2⟩
theorem al_nm (hn : n < 616) : al g (nm n) = g.2.2.1 + n := by
  unfold al
  rw [if_neg (nm_24 n hn), pos_nm n hn]
theorem dv_ob {ci : Nat} {q : vw_C} (hc : vwCl[ci]? = some q) {k : Nat} (hk : k < nfT ci) : defaultValue (tyT ci k) = if rfT ci k = true then Value.null else .int 0 := by
  obtain ⟨⟨-, -, -, co4⟩, cg⟩ := cls_ok hc
  obtain ⟨-, g2, g3⟩ := cg k (by rw [co4]; exact hk)
  by_cases h : rfT ci k = true
  · rw [if_pos h]
    rcases (g2 h).2 with ⟨z, hz⟩ | ⟨z, hz⟩ <;> rw [hz] <;> rfl
  · rw [if_neg h]
    rcases g3 (by simpa using h) with hz | hz | hz <;> rw [hz] <;> rfl
theorem r_new {idx ci : Nat} {Cn : String} {T : u_T} {N : Nat} (hd : decode (mC M) pc = .ok (.new idx, 3)) (hc : vwCl[ci]? = some (Cn, T, N)) (w1 : Cond.classLink (mK M) idx Cn ∈ lw_good) (w2 : Cond.instantiable Cn N ∈ lw_good) (w3 : Cond.initialized Cn ∈ lw_good) (hn : n < 616) (hk : okd (nm n).1 = some ci) (hrp : rp (nm n) = fun _ => none) (hhp : hp (nm n) = fun _ => 0) (hcu : cu + 1 ≤ mc) (hsu : su + N ≤ ms) (k : V g M mc ms (cu + 1) (su + N) (n + 1) (pc + 3) L (vR (nm n) :: st) rp hp P) : V g M mc ms cu su n pc L st rp hp P := by
  intro p l e R s m args below meth c Q C RT H locs LS hH hS hl
  have hts := C.2.2.2.2.2.1
  have hK := C.2.2.2.2.2.2.2.2.1.1
  obtain ⟨⟨co1, co2, co3, co4⟩, cg⟩ := cls_ok hc
  have co4 : N = nfT ci := co4
  have hKn := hK.1 ci _ hc
  have hR := C.2.2.2.2.2.2.2.2.2.1
  refine W.newcK C.1 C.2.1 C.2.2.2.2.1 (hts _ w1) (hts _ w2) (hts _ w3) rfl hd (Nat.le_trans hcu hR.2.2.1) (Nat.le_trans hsu hR.2.2.2) hKn.2.1 hH.2.1 fun H1 kC hkC e1 z1 o1 => ?_
  have hz := hH.2.1
  have e3 := k p l e R s m args below meth c Q C RT H1 locs LS (hx_push hH hn ?_ (by rw [z1, hz]) (fun q hq => o1 q (by rw [← hz]; exact hq))) (S_push hS (by rw [z1, hz]) (fun q hq => o1 q (by rw [← hz]; exact hq))) hl
  · have e4 : trv g (vR (nm n)) = .ref (g.2.2.1 + n) := by show Value.ref (al g (nm n)) = _; rw [al_nm hn]
    rw [List.map_cons, e4] at e3
    exact e3
  · rw [cn_ob hk]
    refine ⟨_, hc, (u_born (tyT ci) hts co1 hKn hkC e1 co2).to (fun j hj => ?_)⟩
    have hj : j < N := hj
    rw [co4] at hj
    rw [dv_ob hc hj]
    unfold vp_V
    rw [List.getD_eq_getElem?_getD, List.getElem?_map, List.getElem?_range hj, Option.map_some, hrp, hhp]
    by_cases h : rfT ci j = true <;> simp [h, va_rf]
theorem cls_arr {t : Nat} {ty : FieldType} {s : State} {cA : ClassId} (hK : va_K (g.1.1, g.1.2) vwCl (tysF g) s) (ht : (tysF g)[t]? = some (g.2.1 t, ty)) (hty : ∀ Cn, ty ≠ .object Cn) (h : s.vm.findClass ("[" ++ ty.toString) = some cA) : g.2.1 t = cA := by
  have h1 := (hK.2 t _ ht).2
  have h2 : s.vm.findClass ("[" ++ ty.toString) = some (g.2.1 t) := by
    cases ty with
    | object z => exact absurd rfl (hty z)
    | _ => exact h1
  exact Option.some.inj (h2.symm.trans h)
theorem r_newa {atype : ArrayType} {ty : FieldType} {t len : Nat} {x : Int32} (hd : decode (mC M) pc = .ok (.newarray atype, 2)) (hw : Cond.arrayClass (newarray.typeOf atype) ∈ lw_good) (hty : newarray.typeOf atype = ty) (ht : (tysF g)[t]? = some (g.2.1 t, ty)) (hno : ∀ Cn, ty ≠ .object Cn) (hdv : defaultValue ty = .int 0) (hx : x = nI len) (hlen : len < 100000) (hn : n < 616) (hk : akd (nm n).1 = some (t, len)) (hb : len * componentBytes ty ≤ 536870912) (hhp : hp (nm n) = fun _ => 0) (hcu : cu + 1 ≤ mc) (hsu : su + len ≤ ms) (k : V g M mc ms (cu + 1) (su + len) (n + 1) (pc + 2) L (vR (nm n) :: st) rp hp P) : V g M mc ms cu su n pc L (vI x :: st) rp hp P := by
  intro p l e R s m args below meth c Q C RT H locs LS hH hS hl
  subst hty
  have hts := C.2.2.2.2.2.1
  have hK := C.2.2.2.2.2.2.2.2.1.1
  have hR := C.2.2.2.2.2.2.2.2.2.1
  have hcl : x.toNatClampNeg = len := by rw [hx]; exact nI_clamp (by omega)
  refine va_newaK C.1 C.2.1 (hts _ hw) rfl hd rfl (by rw [hx]; exact nI_pos (by omega)) hcl hb (Nat.le_trans hcu hR.2.2.1) (Nat.le_trans hsu hR.2.2.2) hH.2.1 fun H1 cA e1 z1 o1 hAr hNm => ?_
  have hz := hH.2.1
  have e3 := k p l e R s m args below meth c Q C RT H1 locs LS (hx_push hH hn ?_ (by rw [z1, hz]) (fun q hq => o1 q (by rw [← hz]; exact hq))) (S_push hS (by rw [z1, hz]) (fun q hq => o1 q (by rw [← hz]; exact hq))) hl
  · have e4 : trv g (vR (nm n)) = .ref (g.2.2.1 + n) := by show Value.ref (al g (nm n)) = _; rw [al_nm hn]
    rw [List.map_cons, e4] at e3
    exact e3
  · rw [cn_ar hk]
    show H1[g.2.2.1 + n]? = some (vp_cell _ _)
    rw [e1, vp_cell_i, hhp, cls_arr hK ht hno hNm, hdv]
theorem r_anew {idx t len : Nat} {Cn : String} {x : Int32} (hd : decode (mC M) pc = .ok (.anewarray idx, 3)) (hw : Cond.classLink (mK M) idx Cn ∈ lw_good) (hCn : Cn = RX5 ∨ Cn = RX4) (ht : (tysF g)[t]? = some (g.2.1 t, .object Cn)) (hx : x = nI len) (hlen : len < 100000) (hn : n < 616) (hk : rkd (nm n).1 = some (t, len)) (hrp : rp (nm n) = fun _ => none) (hcu : cu + 1 ≤ mc) (hsu : su + len ≤ ms) (k : V g M mc ms (cu + 1) (su + len) (n + 1) (pc + 3) L (vR (nm n) :: st) rp hp P) : V g M mc ms cu su n pc L (vI x :: st) rp hp P := by
  intro p l e R s m args below meth c Q C RT H locs LS hH hS hl
  have hts := C.2.2.2.2.2.1
  have hSX := C.2.2.2.2.2.2.2.2.1
  have hK := hSX.1
  have hR := C.2.2.2.2.2.2.2.2.2.1
  have hAO : va_AO Cn s := by rcases hCn with h | h <;> rw [h]; exact hSX.2.2.1.1; exact hSX.2.2.1.2
  have hcl : x.toNatClampNeg = len := by rw [hx]; exact nI_clamp (by omega)
  refine W.anew C.1 C.2.1 C.2.2.2.2.1 (hts _ hw) (va_AO.use hAO) rfl hd rfl (by rw [hx]; exact nI_pos (by omega)) (by rw [hcl]; omega) (Nat.le_trans hcu hR.2.2.1) (by rw [hcl]; exact Nat.le_trans hsu hR.2.2.2) fun cA kA comp f1 f2 f3 f4 => ?_
  rw [hcl]
  generalize hH1 : H.push ({ cls := cA, slots := Array.replicate len .null, vm := .none } : Cell) = H1
  have z1 : H1.size = H.size + 1 := by rw [← hH1, Array.size_push]
  have e1 : H1[H.size]? = some (arrV cA len (fun _ => .null)) := by rw [← hH1, Array.getElem?_push_size, ← arrV_new]
  have o1 : ∀ q : Nat, q < H.size → H1[q]? = H[q]? := fun q hq => by rw [← hH1, Array.getElem?_push, if_neg (Nat.ne_of_lt hq)]
  have hz := hH.2.1
  have e3 := k p l e R s m args below meth c Q C RT H1 locs LS (hx_push hH hn ?_ z1 o1) (S_push hS z1 o1) hl
  · have e4 : trv g (vR (nm n)) = .ref (g.2.2.1 + n) := by show Value.ref (al g (nm n)) = _; rw [al_nm hn]
    rw [List.map_cons, e4, ← hz] at e3
    exact e3
  · rw [cn_rr hk]
    show H1[g.2.2.1 + n]? = some (vp_cell _ _)
    obtain ⟨kB, comp2, k1, k2, k3, k4⟩ := (hK.2 t _ ht).2
    have hcA : g.2.1 t = cA := Option.some.inj (k4.symm.trans f1)
    rw [← hz, e1, vp_cell_q, hrp, hcA]
    rfl
theorem r_aast {a b : A4} {i : Int32} {t len ci : Nat} {q : vw_C} (hd : decode (mC M) pc = .ok (.aastore, 1)) (ho : rkd a.1 = some (t, len)) (hlv : lvp n a) (hlb : lvp n b) (hob : okd b.1 = some ci) (hc : vwCl[ci]? = some q) (ht : (tysF g)[t]? = some (g.2.1 t, .object q.1)) (hi : vp_in i len) (k : V g M mc ms cu su n (pc + 1) L st (rset rp a i.toNatClampNeg b) hp P) : V g M mc ms cu su n pc L (vR b :: vI i :: vR a :: st) rp hp P := by
  intro p l e R s m args below meth c Q C RT H locs LS hH hS hl
  have hK := C.2.2.2.2.2.2.2.2.1.1
  have ha := hH.1 (pos a) _ (wl_get hH.2.2 hlv)
  rw [cn_rr ho] at ha
  have hv := hH.1 (pos b) _ (wl_get hH.2.2 hlb)
  rw [cn_ob hob] at hv
  have hlt : i.toNatClampNeg < len := Nat.not_le.mp fun q => hi (Or.inr q)
  have h0 : ¬ i < 0 := fun q => hi (Or.inl q)
  obtain ⟨r', hr', cellV, g1, g2, g3, -⟩ := hv
  have hcls := (hK.1 ci q hc).2
  obtain ⟨kA, comp, k1, k2, k3, -⟩ := (hK.2 t _ ht).2
  have hcomp : comp = g.1.1 ci := Option.some.inj (k3.symm.trans hcls.1)
  subst hcomp
  obtain ⟨kC, hkC, -⟩ := hcls.2
  refine W.aast C.1 C.2.1 ha (fun q h => by cases h) (fun h => by cases h) k1 k2 rfl hkC ⟨h0, by show _ < (arrV _ _ _).slots.size; rw [arrV_size]; exact hlt⟩ g1 (fun q h => by rw [g3] at h; cases h) (by rw [g2]; exact hkC) (by rw [g2]; exact va_assign hcls) rfl rfl hd fun H1 ee z oq => ?_
  refine k p l e R s m args below meth c Q C RT H1 _ LS (hx_set hH hlv ?_ z oq (fun b hb => by funext j; simp [rset, hb]) (fun b _ => rfl)) (hS.put z oq (al_Af hH.2.2 hlv)) hl
  rw [cn_rr ho]
  show H1[al g a]? = some (vp_cell _ _)
  rw [ee, vp_cell_q, vp_cell_q, arrV_store]
  congr 2
  funext q
  by_cases hq : q = i.toNatClampNeg
  · subst hq
    simp [updV, rset, va_rf, trv]
  · simp [updV, rset, hq]
theorem r_objInit {a : A4} {idx : Nat} (hd : decode (mC M) pc = .ok (.invokespecial idx, 3)) (w1 : Cond.methodLink (mK M) idx objectInit ∈ lw_good) (w2 : Cond.instanceMethod objectInit ∈ lw_good) (w3 : Cond.code objectInit ⟨#[0xb1]⟩ 1 none ∈ lw_good) (hf : 1 ≤ mF M) (hw : (st.map fun v => (trv g v).category).sum + 12 ≤ mW M) (k : V g M mc ms cu su n (pc + 3) L st rp hp P) : V g M mc ms cu su n pc L (vR a :: st) rp hp P := by
  intro p l e R s m args below meth c Q C RT H locs LS hH hS hl
  have hts := C.2.2.2.2.2.1
  have hR := C.2.2.2.2.2.2.2.2.2.1
  refine W.objInit C.1 C.2.1 C.2.2.2.2.1 (hts _ w1) (hts _ w2) (hts _ w3) rfl (by rw [C.2.2.2.1]; exact hl.1) rfl hd (Nat.le_trans hf hR.1) ?_ (k p l e R s m args below meth c Q C RT H locs LS hH hS hl)
  rw [List.map_map]
  show 2 * 0 + _ + 12 ≤ _
  rw [Nat.mul_zero, Nat.zero_add]
  exact Nat.le_trans hw hR.2.1
theorem r_retV (hd : decode (mC M) pc = .ok (.return_, 1)) (hr : mR M = none) (hcu : cu ≤ mc) (hsu : su ≤ ms) (hP : P none n rp hp) : V g M mc ms cu su n pc L [] rp hp P := by
  intro p l e R s m args below meth c Q C RT H locs LS hH hS hl
  exact RT none n cu su rp hp H locs LS pc hP hcu hsu hH hS (Or.inl ⟨rfl, hr, hd⟩)
theorem r_retI {x : Int32} {ty : FieldType} (hd : decode (mC M) pc = .ok (.ireturn, 1)) (hr : mR M = some ty) (hx : narrow ty (.int x) = .int x) (hcu : cu ≤ mc) (hsu : su ≤ ms) (hP : P (some (vI x)) n rp hp) : V g M mc ms cu su n pc L [vI x] rp hp P := by
  intro p l e R s m args below meth c Q C RT H locs LS hH hS hl
  exact RT (some (vI x)) n cu su rp hp H locs LS pc hP hcu hsu hH hS (Or.inr (Or.inl ⟨x, ty, rfl, hr, hx, hd⟩))
theorem r_retA {a : A4} {Cn : String} (hd : decode (mC M) pc = .ok (.areturn, 1)) (hr : mR M = some (.object Cn)) (hcu : cu ≤ mc) (hsu : su ≤ ms) (hP : P (some (vR a)) n rp hp) : V g M mc ms cu su n pc L [vR a] rp hp P := by
  intro p l e R s m args below meth c Q C RT H locs LS hH hS hl
  exact RT (some (vR a)) n cu su rp hp H locs LS pc hP hcu hsu hH hS (Or.inr (Or.inr ⟨a, Cn, rfl, hr, hd⟩))
end RH
end
section
/-- the locals with which a method begins -/
def inL : List Vv → Nat → List (Option Vv)
  | [], k => List.replicate k none
  | v :: vs, k => match v with
    | .inr (.inl _) => some v :: none :: inL vs (k - 2)
    | _ => some v :: inL vs (k - 1)
theorem inL_mem {g : Gh} : ∀ (vs : List Vv) (k off i : Nat) (v : Vv), (inL vs k)[i]? = some (some v) → (off + i, trv g v) ∈ lv_args off (vs.map (trv g))
  | [], k, off, i, v, h => by
    unfold inL at h
    rw [List.getElem?_replicate] at h
    split at h <;> cases h
  | w :: vs, k, off, i, v, h => by
    rcases w with x | x | x
    · cases i with
      | zero => simp [inL] at h; subst h; exact List.mem_cons_self
      | succ i =>
        have h2 : (inL vs (k - 1))[i]? = some (some v) := by simpa [inL] using h
        have h3 := inL_mem (g := g) vs (k - 1) (off + 1) i v h2
        rw [show off + 1 + i = off + (i + 1) by omega] at h3
        exact List.mem_cons_of_mem _ h3
    · cases i with
      | zero => simp [inL] at h; subst h; exact List.mem_cons_self
      | succ i =>
        cases i with
        | zero => simp [inL] at h
        | succ i =>
          have h2 : (inL vs (k - 2))[i]? = some (some v) := by simpa [inL] using h
          have h3 := inL_mem (g := g) vs (k - 2) (off + 2) i v h2
          rw [show off + 2 + i = off + (i + 1 + 1) by omega] at h3
          exact List.mem_cons_of_mem _ h3
    · cases i with
      | zero => simp [inL] at h; subst h; exact List.mem_cons_self
      | succ i =>
        have h2 : (inL vs (k - 1))[i]? = some (some v) := by simpa [inL] using h
        have h3 := inL_mem (g := g) vs (k - 1) (off + 1) i v h2
        rw [show off + 1 + i = off + (i + 1) by omega] at h3
        have hc : (trv g (Sum.inr (Sum.inr x))).category = 1 := by cases x <;> rfl
        show _ ∈ _ :: lv_args (if (trv g (Sum.inr (Sum.inr x))).category = 2 then off + 2 else off + 1) _
        rw [if_neg (by rw [hc]; decide)]
        exact List.mem_cons_of_mem _ h3
/-- how many words the arguments take -/
def wdL : List Vv → Nat
  | [] => 0
  | v :: vs => (match v with
    | .inr (.inl _) => 2
    | _ => 1) + wdL vs
theorem wdL_sl {g : Gh} : ∀ vs : List Vv, (lg_sl (vs.map (trv g))).length = wdL vs
  | [] => rfl
  | v :: vs => by
    have h := wdL_sl (g := g) vs
    unfold lg_sl at h ⊢
    rw [List.map_cons, List.flatMap_cons, List.length_append, h]
    rcases v with x | x | x
    · rfl
    · rfl
    · cases x <;> rfl
abbrev MS (M : Md) : List Cond := Cond.code (mY M) (mC M) (mL M) (mR M) :: lw_good
abbrev rmM (M : Md) (mc ms : Nat) : Room := { frames := mF M, cells := mc, slots := ms, locals := mW M }
def Qx (g : Gh) (P : Pst) : Array Value → State → Outcome → State → Prop := fun _ st o t => ∃ (v : Option Vv) (n' : Nat) (rp' : RPt) (hp' : HPt), o = .returned (v.map (trv g)) ∧ P v n' rp' hp' ∧ HX g n' rp' hp' t.heap ∧ va_F (Af g) st t
abbrev Px (g : Gh) (as : List Vv) (n : Nat) (rp : RPt) (hp : HPt) : Array Value → State → Prop := va_Pc (as.map (trv g)) (fun U => HX g n rp hp U.heap ∧ SX g U)
/-- a method's judgement from its entry is its contract -/
theorem met_of {g : Gh} {M : Md} {mc ms n : Nat} {as : List Vv} {rp : RPt} {hp : HPt} {P : Pst} (l : Launch) (hy : plainName (mK M) = true) (hw : wdL as ≤ mL M) (hV : V g M mc ms 0 0 n 0 (inL as (mL M)) [] rp hp P) : Met l (mY M) (MS M) (rmM M mc ms) (Px g as n rp hp) (Qx g P) mc ms (Af g) := by
  refine Met.ofW (cc := mC M) (maxL := mL M) (ret := mR M) hy rfl ?_
  intro p e s m args below meth c s₁ B hml hv
  obtain ⟨rfl, hH, hSX⟩ := hv
  have hts := atoms_spec (ws := MS M) B.pre
  have hin : meth.name = (mY M).name := (name_of_methodNamed B.named B.method).1
  have C : CX g M mc ms p (headSpec (MS M) (rmM M mc ms)).room s m (as.map (trv g)).toArray meth c := ⟨B.exec, B.bytes, B.returns, hml, findClass_of_methodNamed B.named, fun w h => hts w (List.mem_cons_of_mem _ h), B.notSynchronized, hin, hSX, ⟨Nat.le_refl _, Nat.le_refl _, Nat.le_refl _, Nat.le_refl _⟩, by rw [hH.2.1]; exact Nat.le_add_right _ _⟩
  have hl := lv_entry (as.map (trv g)) (n := mL M) (by rw [wdL_sl]; exact hw)
  rw [lg_entry_eq]
  refine hV p l e _ s m _ below meth c _ C ?_ s.heap [] _ hH va_S.rf ⟨hl.1, hl.2.1, fun q hq => ?_⟩
  · intro v n' cu' su' rp' hp' H' locs' LS' pc' hP hcu hsu hH' hS' hret
    refine W.widen hcu hsu ?_
    have hq : ∀ t : State, t.heap = H' → Qx g P (as.map (trv g)).toArray s (.returned (v.map (trv g))) t := fun t ht => ⟨v, n', rp', hp', rfl, hP, by rw [ht]; exact hH', hS'.F ht⟩
    rcases hret with ⟨rfl, hr, hd⟩ | ⟨x, ty, rfl, hr, hx, hd⟩ | ⟨a, Cn, rfl, hr, hd⟩
    · exact W.vret B.exec B.bytes (B.returns.trans hr) (fun t ht _ => hq t ht) hS'.2.2 hd B.notSynchronized
    · exact W.zret B.exec B.bytes (B.returns.trans hr) hx (fun t ht _ => hq t ht) hS'.2.2 hd B.notSynchronized
    · exact W.aret (v := .ref (al g a)) B.exec B.bytes (B.returns.trans hr) (Or.inl ⟨Cn, rfl⟩) (Or.inr ⟨_, rfl⟩) (fun t ht _ => hq t ht) hS'.2.2 hd B.notSynchronized
  · obtain ⟨v, h1, h2⟩ := cvL_mem.mp hq
    have h3 := inL_mem (g := g) as (mL M) 0 q.1 v h1
    rw [Nat.zero_add, ← h2] at h3
    exact hl.2.2 q h3
section RC
variable {g : Gh} {M J : Md} {mc ms cu su n pc mcj msj : Nat} {L : List (Option Vv)} {st : List Vv} {rp : RPt} {hp : HPt} {P PJ : Pst}
variable {p : Program} {l : Launch} {e : Env} {R : Room} {s : State} {m : MethodId} {args : Array Value} {below : List Frame} {meth : Method} {c : Code} {Q : State → Prop} {H : Heap} {locs : List Loc} {LS : Array Slot}
/-- behind a call -/
theorem w_call {rest : List Value} {st0 : List Value} {a : Array Value} {pc : Nat} (hr : va_Run p l e R s m args below meth c H locs cu su mcj msj (F0 m pc LS st0) rest (Qx g PJ a) (Af g)) (hS : va_S (Af g) s.heap H locs)
    (kk : ∀ (v : Option Vv) (n' : Nat) (rp' : RPt) (hp' : HPt) (H1 : Heap) (locs1 : List Loc), PJ v n' rp' hp' → HX g n' rp' hp' H1 → va_S (Af g) s.heap H1 locs1 → W p l e R s m args below meth c H1 locs1 (cu + mcj) (su + msj) Q (F0 m (pc + 3) LS ((v.map (trv g)).toList ++ rest))) : W p l e R s m args below meth c H locs cu su Q (F0 m pc LS st0) := by
  intro T hT X
  obtain ⟨v, st₀, t, T', L, h0, X', hL, e1, e2, ⟨w, n', rp', hp', hv, hP, hH, hz, hk⟩, st⟩ := hr T hT X
  have hv : v = w.map (trv g) := by cases hv; rfl
  subst hv
  rw [h0] at hz hk
  obtain ⟨t2, a1, b1⟩ := kk w n' rp' hp' T'.heap (locs ++ L) hP (by rw [e1]; exact hH)
    ⟨Nat.le_trans hS.1 (by rw [e1]; exact hz), fun q h1 h2 => by rw [e1, hk q (Nat.lt_of_lt_of_le h1 hS.1) h2]; exact hS.2.1 q h1 h2, fun q hq => by
      rcases List.mem_append.mp hq with h | h
      · exact hS.2.2 q h
      · exact hL q h⟩ T' rfl X'
  exact ⟨t2, st t2 a1, b1⟩
theorem c_blind {as : List Vv} : FrameBlind (Px g as n rp hp) := by
  intro a U gg mk q
  obtain ⟨q0, q1, q2⟩ := q
  exact ⟨q0, q1, q2.same rfl rfl⟩
theorem c_preS {as : List Vv} (C : CX g M mc ms p R s m args meth c) (hH : HX g n rp hp H) (hS : va_S (Af g) s.heap H locs) : PreS s H (Px g as n rp hp) (as.map (trv g)) := by
  refine ⟨c_blind, fun U hU hW => ⟨rfl, by rw [hU]; exact hH, ?_⟩⟩
  exact C.2.2.2.2.2.2.2.2.1.warm hS hU hW
theorem c_preV {as : List Vv} {b : A4} {ci : Nat} {q : vw_C} (C : CX g M mc ms p R s m args meth c) (hH : HX g n rp hp H) (hS : va_S (Af g) s.heap H locs) (hob : okd b.1 = some ci) (hc : vwCl[ci]? = some q) (hlv : lvp n b) : PreV s H q.1 (al g b) (Px g (vR b :: as) n rp hp) (as.map (trv g)) := by
  refine ⟨c_blind, ?_, fun U hU hW => ⟨rfl, by rw [hU]; exact hH, C.2.2.2.2.2.2.2.2.1.warm hS hU hW⟩⟩
  have he := wl_get (g := g) (rp := rp) (hp := hp) hH.2.2 hlv
  rw [cn_ob hob] at he
  exact va_recv C.2.2.2.2.2.2.2.2.1.1 hH.1 hc he
/-- the facts of a call's method: its words among the tables', its number of parameters, its room below the caller's -/
def CLo (M J : Md) (k : Nat) : Prop := plainName (mK J) = true ∧ Cond.code (mY J) (mC J) (mL J) (mR J) ∈ lw_good ∧ (mK J ≠ "java/lang/invoke/MethodHandle" ∧ mK J ≠ "java/lang/invoke/VarHandle") ∧ (parseMethodDescriptor (mY J).desc).map (fun d => d.parameters.length) = some k ∧ mF J + 1 ≤ mF M ∧ 8 + (mL J + 11) + mW J ≤ mW M ∧ Cond.initialized (mK J) ∈ lw_good
theorem c_good (hc : Cond.code (mY J) (mC J) (mL J) (mR J) ∈ lw_good) : GoodIn lw_good (MS J) := by
  intro w hw
  rcases List.mem_cons.mp hw with rfl | hw
  · exact ⟨hc, gd_ok hc⟩
  · exact ⟨hw, gd_ok hw⟩
theorem c_room (C : CX g M mc ms p R s m args meth c) {k : Nat} (h : CLo M J k) : (rmM J mcj msj).frames + 1 ≤ R.frames ∧ 8 + (mL J + 11) + (rmM J mcj msj).locals ≤ R.locals := by
  have hR := C.2.2.2.2.2.2.2.2.2.1
  exact ⟨Nat.le_trans h.2.2.2.2.1 hR.1, Nat.le_trans h.2.2.2.2.2.1 hR.2.1⟩
theorem c_budget (C : CX g M mc ms p R s m args meth c) (h1 : cu + mcj ≤ mc) (h2 : su + msj ≤ ms) : cu + mcj ≤ R.cells ∧ su + msj ≤ R.slots := by
  have hR := C.2.2.2.2.2.2.2.2.2.1
  exact ⟨Nat.le_trans h1 hR.2.2.1, Nat.le_trans h2 hR.2.2.2⟩
theorem c_cat {st : List Vv} (h : (st.map fun v => (trv g v).category).sum ≤ 8) : ((st.map (trv g)).map fun v => v.category).sum ≤ 8 := by
  rw [List.map_map]
  exact h
theorem c_fin (C : CX g M mc ms p R s m args meth c) (RT : ∀ (v : Option Vv) (n' cu' su' : Nat) (rp' : RPt) (hp' : HPt) (H' : Heap) (locs' : List Loc) (LS' : Array Slot) (pc' : Nat), P v n' rp' hp' → cu' ≤ mc → su' ≤ ms → HX g n' rp' hp' H' → va_S (Af g) s.heap H' locs' → RTt M v pc' →
      W p l e R s m args below meth c H' locs' cu' su' Q (F0 m pc' LS' (v.toList.map (trv g)))) (hl : lv_has LS (mL M) (cvL g L))
    (k : ∀ v n' rp' hp', PJ v n' rp' hp' → V g M mc ms (cu + mcj) (su + msj) n' (pc + 3) L (v.toList ++ st) rp' hp' P) : ∀ (v : Option Vv) (n' : Nat) (rp' : RPt) (hp' : HPt) (H1 : Heap) (locs1 : List Loc), PJ v n' rp' hp' → HX g n' rp' hp' H1 → va_S (Af g) s.heap H1 locs1 → W p l e R s m args below meth c H1 locs1 (cu + mcj) (su + msj) Q (F0 m (pc + 3) LS ((v.map (trv g)).toList ++ st.map (trv g))) := by
  intro v n' rp' hp' H1 locs1 hP hH1 hS1
  have h := k v n' rp' hp' hP p l e R s m args below meth c Q C RT H1 locs1 LS hH1 hS1 hl
  cases v <;> exact h
theorem c_stk {as : List Vv} {b : Vv} : (as.reverse ++ b :: st).map (trv g) = (as.map (trv g)).reverse ++ trv g b :: st.map (trv g) := by
  rw [List.map_append, List.map_reverse, List.map_cons]
theorem c_stkS {as : List Vv} : (as.reverse ++ st).map (trv g) = (as.map (trv g)).reverse ++ st.map (trv g) := by
  rw [List.map_append, List.map_reverse]
/-- invokevirtual, the method linked plainly -/
theorem r_callV {as : List Vv} {b : A4} {idx ci k : Nat} {q : vw_C} {S : List Vv} (hd : decode (mC M) pc = .ok (.invokevirtual idx, 3)) (co : CLo M J k) (w1 : Cond.methodLink (mK M) idx (mY J) ∈ lw_good) (w2 : Cond.instanceMethod (mY J) ∈ lw_good) (w3 : Cond.selects (mK J) (mY J) (mY J) ∈ lw_good) (hob : okd b.1 = some ci) (hc : vwCl[ci]? = some q) (hq : q.1 = mK J) (hS0 : S = as.reverse ++ vR b :: st) (hlv : lvp n b) (hk : as.length = k) (hcat : (st.map fun v => (trv g v).category).sum ≤ 8) (hb1 : cu + mcj ≤ mc) (hb2 : su + msj ≤ ms) (hwd : wdL (vR b :: as) ≤ mL J)
    (hJ : V g J mcj msj 0 0 n 0 (inL (vR b :: as) (mL J)) [] rp hp PJ) (kk : ∀ v n' rp' hp', PJ v n' rp' hp' → V g M mc ms (cu + mcj) (su + msj) n' (pc + 3) L (v.toList ++ st) rp' hp' P) : V g M mc ms cu su n pc L S rp hp P := by
  subst hS0
  intro p l e R s m args below meth c Q C RT H locs LS hH hS hl
  rw [c_stk]
  have hp0 := c_preV (as := as) C hH hS hob hc hlv
  rw [hq] at hp0
  exact w_call (va_runV (As := as.map (trv g)) (rest := st.map (trv g)) ⟨C.1, C.2.1, C.2.2.2.1, C.2.2.2.2.1, C.2.2.2.2.2.1⟩ (met_of l co.1 hwd hJ) (cwV k C.2.2.2.2.2.1 (fun w hw => by
      rcases List.mem_append.mp hw with h | h
      · have hm : w ∈ lw_good := by
          simp only [List.mem_cons, List.not_mem_nil, or_false] at h
          rcases h with rfl | rfl | rfl | rfl
          · exact w1
          · exact w2
          · exact w3
          · exact co.2.2.2.2.2.2
        exact ⟨hm, gd_ok hm⟩
      · exact c_good co.2.1 w h) rfl rfl rfl ⟨rfl, co.2.2.1.1, co.2.2.1.2, co.2.2.2.1⟩ (c_room C co)) hp0 rfl (by rw [List.length_map]; exact hk) (by rw [← C.2.2.2.1, C.2.2.2.1]; exact hl.1) rfl (lv_room (c_cat hcat)) hd (c_budget C hb1 hb2)) hS (c_fin C RT hl kk)
/-- invokevirtual of a nest mate's private method -/
theorem r_callVN {as : List Vv} {b : A4} {idx ci k : Nat} {host : String} {q : vw_C} {S : List Vv} (hd : decode (mC M) pc = .ok (.invokevirtual idx, 3)) (co : CLo M J k) (w1 : Cond.methodLinkNest (mK M) idx (mY J) host ∈ lw_nest) (w2 : Cond.instanceMethod (mY J) ∈ lw_good) (w3 : Cond.selects (mK J) (mY J) (mY J) ∈ lw_good) (hob : okd b.1 = some ci) (hc : vwCl[ci]? = some q) (hq : q.1 = mK J) (hS0 : S = as.reverse ++ vR b :: st) (hlv : lvp n b) (hk : as.length = k) (hcat : (st.map fun v => (trv g v).category).sum ≤ 8) (hb1 : cu + mcj ≤ mc) (hb2 : su + msj ≤ ms) (hwd : wdL (vR b :: as) ≤ mL J)
    (hJ : V g J mcj msj 0 0 n 0 (inL (vR b :: as) (mL J)) [] rp hp PJ) (kk : ∀ v n' rp' hp', PJ v n' rp' hp' → V g M mc ms (cu + mcj) (su + msj) n' (pc + 3) L (v.toList ++ st) rp' hp' P) : V g M mc ms cu su n pc L S rp hp P := by
  subst hS0
  intro p l e R s m args below meth c Q C RT H locs LS hH hS hl
  rw [c_stk]
  have hp0 := c_preV (as := as) C hH hS hob hc hlv
  rw [hq] at hp0
  exact w_call (va_runVN (As := as.map (trv g)) (rest := st.map (trv g)) ⟨C.1, C.2.1, C.2.2.2.1, C.2.2.2.2.1, C.2.2.2.2.2.1⟩ (met_of l co.1 hwd hJ) ⟨va_cnB k C.2.2.2.2.2.1 (c_good co.2.1) rfl rfl rfl (C.2.2.2.2.2.2.2.2.1.2.1 _ w1) (C.2.2.2.2.2.1 _ co.2.2.2.2.2.2) ⟨co.2.2.1.1, co.2.2.1.2, co.2.2.2.1⟩ (c_room C co), C.2.2.2.2.2.1 _ w2, C.2.2.2.2.2.1 _ w3⟩ hp0 rfl (by rw [List.length_map]; exact hk) hl.1 rfl (lv_room (c_cat hcat)) hd (c_budget C hb1 hb2)) hS (c_fin C RT hl kk)
/-- invokestatic -/
theorem r_callS {as : List Vv} {idx k : Nat} {S : List Vv} (hd : decode (mC M) pc = .ok (.invokestatic idx, 3)) (co : CLo M J k) (w1 : Cond.methodLink (mK M) idx (mY J) ∈ lw_good) (w2 : Cond.static (mY J) ∈ lw_good) (hS0 : S = as.reverse ++ st) (hk : as.length = k) (hcat : (st.map fun v => (trv g v).category).sum ≤ 8) (hb1 : cu + mcj ≤ mc) (hb2 : su + msj ≤ ms) (hwd : wdL as ≤ mL J)
    (hJ : V g J mcj msj 0 0 n 0 (inL as (mL J)) [] rp hp PJ) (kk : ∀ v n' rp' hp', PJ v n' rp' hp' → V g M mc ms (cu + mcj) (su + msj) n' (pc + 3) L (v.toList ++ st) rp' hp' P) : V g M mc ms cu su n pc L S rp hp P := by
  subst hS0
  intro p l e R s m args below meth c Q C RT H locs LS hH hS hl
  rw [c_stkS]
  exact w_call (va_runS (As := as.map (trv g)) (rest := st.map (trv g)) ⟨C.1, C.2.1, C.2.2.2.1, C.2.2.2.2.1, C.2.2.2.2.2.1⟩ (met_of l co.1 hwd hJ) (va_cwS k C.2.2.2.2.2.1 (fun w hw => by
      rcases List.mem_append.mp hw with h | h
      · have hm : w ∈ lw_good := by
          simp only [List.mem_cons, List.not_mem_nil, or_false] at h
          rcases h with rfl | rfl | rfl
          · exact w1
          · exact w2
          · exact co.2.2.2.2.2.2
        exact ⟨hm, gd_ok hm⟩
      · exact c_good co.2.1 w h) rfl rfl rfl ⟨co.2.2.1.1, co.2.2.1.2, co.2.2.2.1⟩ (c_room C co)) (c_preS C hH hS) rfl (by rw [List.length_map]; exact hk) hl.1 rfl (lv_room (c_cat hcat)) hd (c_budget C hb1 hb2)) hS (c_fin C RT hl kk)
/-- invokestatic of a nest mate's private method -/
theorem r_callSN {as : List Vv} {idx k : Nat} {host : String} {S : List Vv} (hd : decode (mC M) pc = .ok (.invokestatic idx, 3)) (co : CLo M J k) (w1 : Cond.methodLinkNest (mK M) idx (mY J) host ∈ lw_nest) (w2 : Cond.static (mY J) ∈ lw_good) (hS0 : S = as.reverse ++ st) (hk : as.length = k) (hcat : (st.map fun v => (trv g v).category).sum ≤ 8) (hb1 : cu + mcj ≤ mc) (hb2 : su + msj ≤ ms) (hwd : wdL as ≤ mL J)
    (hJ : V g J mcj msj 0 0 n 0 (inL as (mL J)) [] rp hp PJ) (kk : ∀ v n' rp' hp', PJ v n' rp' hp' → V g M mc ms (cu + mcj) (su + msj) n' (pc + 3) L (v.toList ++ st) rp' hp' P) : V g M mc ms cu su n pc L S rp hp P := by
  subst hS0
  intro p l e R s m args below meth c Q C RT H locs LS hH hS hl
  rw [c_stkS]
  exact w_call (va_runSN (As := as.map (trv g)) (rest := st.map (trv g)) ⟨C.1, C.2.1, C.2.2.2.1, C.2.2.2.2.1, C.2.2.2.2.2.1⟩ (met_of l co.1 hwd hJ) ⟨va_cnB k C.2.2.2.2.2.1 (c_good co.2.1) rfl rfl rfl (C.2.2.2.2.2.2.2.2.1.2.1 _ w1) (C.2.2.2.2.2.1 _ co.2.2.2.2.2.2) ⟨co.2.2.1.1, co.2.2.1.2, co.2.2.2.1⟩ (c_room C co), C.2.2.2.2.2.1 _ w2, trivial⟩ (c_preS C hH hS) rfl (by rw [List.length_map]; exact hk) hl.1 rfl (lv_room (c_cat hcat)) hd (c_budget C hb1 hb2)) hS (c_fin C RT hl kk)
/-- a constructor, linked plainly -/
theorem r_callI {as : List Vv} {b : A4} {idx k : Nat} {S : List Vv} (hd : decode (mC M) pc = .ok (.invokespecial idx, 3)) (co : CLo M J k) (w1 : Cond.methodLink (mK M) idx (mY J) ∈ lw_good) (w2 : Cond.instanceMethod (mY J) ∈ lw_good) (hi : (mY J).name = "<init>") (hret : mR J = none) (hS0 : S = as.reverse ++ vR b :: st) (hk : as.length = k) (hcat : (st.map fun v => (trv g v).category).sum ≤ 8) (hb1 : cu + mcj ≤ mc) (hb2 : su + msj ≤ ms) (hwd : wdL (vR b :: as) ≤ mL J)
    (hJ : V g J mcj msj 0 0 n 0 (inL (vR b :: as) (mL J)) [] rp hp PJ) (kk : ∀ v n' rp' hp', PJ v n' rp' hp' → V g M mc ms (cu + mcj) (su + msj) n' (pc + 3) L (v.toList ++ st) rp' hp' P) : V g M mc ms cu su n pc L S rp hp P := by
  subst hS0
  intro p l e R s m args below meth c Q C RT H locs LS hH hS hl
  rw [c_stk]
  exact w_call (va_runI (As := as.map (trv g)) (rest := st.map (trv g)) ⟨C.1, C.2.1, C.2.2.2.1, C.2.2.2.2.1, C.2.2.2.2.2.1⟩ (met_of l co.1 hwd hJ) (cwI (bytes := mC J) (maxL := mL J) k C.2.2.2.2.2.1 (c_good co.2.1) (ws' := lw_good) (show Cond.code (mY J) (mC J) (mL J) (mR J) :: lw_good = _ by rw [hret]) rfl rfl (C.2.2.2.2.2.1 _ co.2.2.2.2.2.2) (C.2.2.2.2.2.1 _ w1) (C.2.2.2.2.2.1 _ w2) hi ⟨co.2.2.1.1, co.2.2.1.2, co.2.2.2.1⟩ (c_room C co)) (c_preS (as := vR b :: as) C hH hS) rfl (by rw [List.length_map]; exact hk) hl.1 rfl (lv_room (c_cat hcat)) hd (c_budget C hb1 hb2)) hS (c_fin C RT hl kk)
/-- a nest mate's private constructor -/
theorem r_callIN {as : List Vv} {b : A4} {idx k : Nat} {host : String} {S : List Vv} (hd : decode (mC M) pc = .ok (.invokespecial idx, 3)) (co : CLo M J k) (w1 : Cond.methodLinkNest (mK M) idx (mY J) host ∈ lw_nest) (w2 : Cond.instanceMethod (mY J) ∈ lw_good) (hi : (mY J).name = "<init>") (hret : mR J = none) (hS0 : S = as.reverse ++ vR b :: st) (hk : as.length = k) (hcat : (st.map fun v => (trv g v).category).sum ≤ 8) (hb1 : cu + mcj ≤ mc) (hb2 : su + msj ≤ ms) (hwd : wdL (vR b :: as) ≤ mL J)
    (hJ : V g J mcj msj 0 0 n 0 (inL (vR b :: as) (mL J)) [] rp hp PJ) (kk : ∀ v n' rp' hp', PJ v n' rp' hp' → V g M mc ms (cu + mcj) (su + msj) n' (pc + 3) L (v.toList ++ st) rp' hp' P) : V g M mc ms cu su n pc L S rp hp P := by
  subst hS0
  intro p l e R s m args below meth c Q C RT H locs LS hH hS hl
  rw [c_stk]
  exact w_call (va_runIN (As := as.map (trv g)) (rest := st.map (trv g)) ⟨C.1, C.2.1, C.2.2.2.1, C.2.2.2.2.1, C.2.2.2.2.2.1⟩ (met_of l co.1 hwd hJ) ⟨va_cnB (bytes := mC J) (maxL := mL J) (ret := none) k C.2.2.2.2.2.1 (c_good co.2.1) (ws' := lw_good) (show Cond.code (mY J) (mC J) (mL J) (mR J) :: lw_good = _ by rw [hret]) rfl rfl (C.2.2.2.2.2.2.2.2.1.2.1 _ w1) (C.2.2.2.2.2.1 _ co.2.2.2.2.2.2) ⟨co.2.2.1.1, co.2.2.1.2, co.2.2.2.1⟩ (c_room C co), hi, C.2.2.2.2.2.1 _ w2⟩ (c_preS (as := vR b :: as) C hH hS) rfl (by rw [List.length_map]; exact hk) hl.1 rfl (lv_room (c_cat hcat)) hd (c_budget C hb1 hb2)) hS (c_fin C RT hl kk)
end RC
end
section
theorem i_vc : Claimed_1_1 ∧ Claimed_1_2 := sorry
end
