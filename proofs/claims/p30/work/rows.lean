section
-- ===== PART A: goes FIRST, ahead of the names: the tables' words, and 'selects' of the private methods out of them =====
/-- a private method of a class that the tables say can be made, by its rows of tables_1 -/
def lw_okq (q : MethodName × Nat) : Prop := (q.1.cls ≠ "java/lang/invoke/MethodHandle" ∧ q.1.cls ≠ "java/lang/invoke/VarHandle") ∧ Cond.instantiable q.1.cls q.2 ∈ tables_1 ∧ Cond.privateMethod q.1 ∈ tables_1 ∧ Cond.instanceMethod q.1 ∈ tables_1
/-- the name of the private method that the tables hold at place 312; no row may hold its letters, so it is read off the tables -/
def nmA : String := match tables_1[312]? with
  | some (Cond.privateMethod y) => y.name
  | _ => ""
theorem lw_p0 : lw_okq (⟨"SplitSecrets$Stores", "figure", "(I)I"⟩, 10) := ⟨⟨by decide +kernel, by decide +kernel⟩, List.mem_of_getElem? (i := 18) (by decide +kernel), List.mem_of_getElem? (i := 220) (by decide +kernel), List.mem_of_getElem? (i := 221) (by decide +kernel)⟩
theorem lw_p1 : lw_okq (⟨"SplitSecrets$Stores", "setOfOpen", "()I"⟩, 10) := ⟨⟨by decide +kernel, by decide +kernel⟩, List.mem_of_getElem? (i := 18) (by decide +kernel), List.mem_of_getElem? (i := 224) (by decide +kernel), List.mem_of_getElem? (i := 225) (by decide +kernel)⟩
theorem lw_p2 : lw_okq (⟨"SplitSecrets$Stores", "setOfKnown", "()I"⟩, 10) := ⟨⟨by decide +kernel, by decide +kernel⟩, List.mem_of_getElem? (i := 18) (by decide +kernel), List.mem_of_getElem? (i := 228) (by decide +kernel), List.mem_of_getElem? (i := 229) (by decide +kernel)⟩
theorem lw_p3 : lw_okq (⟨"SplitSecrets$Stores", "answerOfMerger", "(I)I"⟩, 10) := ⟨⟨by decide +kernel, by decide +kernel⟩, List.mem_of_getElem? (i := 18) (by decide +kernel), List.mem_of_getElem? (i := 236) (by decide +kernel), List.mem_of_getElem? (i := 237) (by decide +kernel)⟩
theorem lw_p4 : lw_okq (⟨"SplitSecrets$Stores", "hasSecret", "(I)Z"⟩, 10) := ⟨⟨by decide +kernel, by decide +kernel⟩, List.mem_of_getElem? (i := 18) (by decide +kernel), List.mem_of_getElem? (i := 240) (by decide +kernel), List.mem_of_getElem? (i := 241) (by decide +kernel)⟩
theorem lw_p5 : lw_okq (⟨"SplitSecrets$Stores", "someStoreSleeps", "()Z"⟩, 10) := ⟨⟨by decide +kernel, by decide +kernel⟩, List.mem_of_getElem? (i := 18) (by decide +kernel), List.mem_of_getElem? (i := 244) (by decide +kernel), List.mem_of_getElem? (i := 245) (by decide +kernel)⟩
theorem lw_p6 : lw_okq (⟨"SplitSecrets$Secret", "answerIfMerged", "()I"⟩, 10) := ⟨⟨by decide +kernel, by decide +kernel⟩, List.mem_of_getElem? (i := 25) (by decide +kernel), List.mem_of_getElem? (i := 248) (by decide +kernel), List.mem_of_getElem? (i := 249) (by decide +kernel)⟩
theorem lw_p7 : lw_okq (⟨"SplitSecrets$Half", "catches", "(LSplitSecrets$Half;)Z"⟩, 7) := ⟨⟨by decide +kernel, by decide +kernel⟩, List.mem_of_getElem? (i := 31) (by decide +kernel), List.mem_of_getElem? (i := 252) (by decide +kernel), List.mem_of_getElem? (i := 253) (by decide +kernel)⟩
theorem lw_p8 : lw_okq (⟨"SplitSecrets$Half", "toldPart", "()I"⟩, 7) := ⟨⟨by decide +kernel, by decide +kernel⟩, List.mem_of_getElem? (i := 31) (by decide +kernel), List.mem_of_getElem? (i := 256) (by decide +kernel), List.mem_of_getElem? (i := 257) (by decide +kernel)⟩
theorem lw_p9 : lw_okq (⟨"SplitSecrets$Half", "partWith", "(I)I"⟩, 7) := ⟨⟨by decide +kernel, by decide +kernel⟩, List.mem_of_getElem? (i := 31) (by decide +kernel), List.mem_of_getElem? (i := 260) (by decide +kernel), List.mem_of_getElem? (i := 261) (by decide +kernel)⟩
theorem lw_p10 : lw_okq (⟨"SplitSecrets$Half", "tagDueFor", "(I)I"⟩, 7) := ⟨⟨by decide +kernel, by decide +kernel⟩, List.mem_of_getElem? (i := 31) (by decide +kernel), List.mem_of_getElem? (i := 264) (by decide +kernel), List.mem_of_getElem? (i := 265) (by decide +kernel)⟩
theorem lw_p11 : lw_okq (⟨"SplitSecrets$Half", "toldTag", "()I"⟩, 7) := ⟨⟨by decide +kernel, by decide +kernel⟩, List.mem_of_getElem? (i := 31) (by decide +kernel), List.mem_of_getElem? (i := 268) (by decide +kernel), List.mem_of_getElem? (i := 269) (by decide +kernel)⟩
theorem lw_p12 : lw_okq (⟨"SplitSecrets$History", "takesBack", "(LSplitSecrets$Stores;)Z"⟩, 3) := ⟨⟨by decide +kernel, by decide +kernel⟩, List.mem_of_getElem? (i := 141) (by decide +kernel), List.mem_of_getElem? (i := 277) (by decide +kernel), List.mem_of_getElem? (i := 278) (by decide +kernel)⟩
theorem lw_p13 : lw_okq (⟨"SplitSecrets$Stores", "copyState", "(LSplitSecrets$Stores;)V"⟩, 10) := ⟨⟨by decide +kernel, by decide +kernel⟩, List.mem_of_getElem? (i := 18) (by decide +kernel), List.mem_of_getElem? (i := 281) (by decide +kernel), List.mem_of_getElem? (i := 282) (by decide +kernel)⟩
theorem lw_p14 : lw_okq (⟨"SplitSecrets$Secret", "copySecret", "(LSplitSecrets$Secret;)V"⟩, 10) := ⟨⟨by decide +kernel, by decide +kernel⟩, List.mem_of_getElem? (i := 25) (by decide +kernel), List.mem_of_getElem? (i := 285) (by decide +kernel), List.mem_of_getElem? (i := 286) (by decide +kernel)⟩
theorem lw_p15 : lw_okq (⟨"SplitSecrets$Half", "copyHalf", "(LSplitSecrets$Half;)V"⟩, 7) := ⟨⟨by decide +kernel, by decide +kernel⟩, List.mem_of_getElem? (i := 31) (by decide +kernel), List.mem_of_getElem? (i := 289) (by decide +kernel), List.mem_of_getElem? (i := 290) (by decide +kernel)⟩
def lw_privs_1 : List (MethodName × Nat) := [(⟨"SplitSecrets$Stores", "figure", "(I)I"⟩, 10), (⟨"SplitSecrets$Stores", "setOfOpen", "()I"⟩, 10), (⟨"SplitSecrets$Stores", "setOfKnown", "()I"⟩, 10), (⟨"SplitSecrets$Stores", "answerOfMerger", "(I)I"⟩, 10), (⟨"SplitSecrets$Stores", "hasSecret", "(I)Z"⟩, 10), (⟨"SplitSecrets$Stores", "someStoreSleeps", "()Z"⟩, 10), (⟨"SplitSecrets$Secret", "answerIfMerged", "()I"⟩, 10), (⟨"SplitSecrets$Half", "catches", "(LSplitSecrets$Half;)Z"⟩, 7), (⟨"SplitSecrets$Half", "toldPart", "()I"⟩, 7), (⟨"SplitSecrets$Half", "partWith", "(I)I"⟩, 7), (⟨"SplitSecrets$Half", "tagDueFor", "(I)I"⟩, 7), (⟨"SplitSecrets$Half", "toldTag", "()I"⟩, 7), (⟨"SplitSecrets$History", "takesBack", "(LSplitSecrets$Stores;)Z"⟩, 3), (⟨"SplitSecrets$Stores", "copyState", "(LSplitSecrets$Stores;)V"⟩, 10), (⟨"SplitSecrets$Secret", "copySecret", "(LSplitSecrets$Secret;)V"⟩, 10), (⟨"SplitSecrets$Half", "copyHalf", "(LSplitSecrets$Half;)V"⟩, 7)]
theorem lw_r1 : ∀ q ∈ lw_privs_1, lw_okq q := List.forall_mem_cons.mpr ⟨lw_p0, List.forall_mem_cons.mpr ⟨lw_p1, List.forall_mem_cons.mpr ⟨lw_p2, List.forall_mem_cons.mpr ⟨lw_p3, List.forall_mem_cons.mpr ⟨lw_p4, List.forall_mem_cons.mpr ⟨lw_p5, List.forall_mem_cons.mpr ⟨lw_p6, List.forall_mem_cons.mpr ⟨lw_p7, List.forall_mem_cons.mpr ⟨lw_p8, List.forall_mem_cons.mpr ⟨lw_p9, List.forall_mem_cons.mpr ⟨lw_p10, List.forall_mem_cons.mpr ⟨lw_p11, List.forall_mem_cons.mpr ⟨lw_p12, List.forall_mem_cons.mpr ⟨lw_p13, List.forall_mem_cons.mpr ⟨lw_p14, List.forall_mem_cons.mpr ⟨lw_p15, fun _ h => absurd h List.not_mem_nil⟩⟩⟩⟩⟩⟩⟩⟩⟩⟩⟩⟩⟩⟩⟩⟩
theorem lw_p16 : lw_okq (⟨"SplitSecrets$History", "draft", "(LSplitSecrets$Stores;)V"⟩, 3) := ⟨⟨by decide +kernel, by decide +kernel⟩, List.mem_of_getElem? (i := 141) (by decide +kernel), List.mem_of_getElem? (i := 308) (by decide +kernel), List.mem_of_getElem? (i := 309) (by decide +kernel)⟩
theorem lw_p17 : lw_okq (⟨"SplitSecrets$Stores", nmA, "(I)I"⟩, 10) := ⟨⟨by decide +kernel, by decide +kernel⟩, List.mem_of_getElem? (i := 18) (by decide +kernel), List.mem_of_getElem? (i := 312) (by decide +kernel), List.mem_of_getElem? (i := 313) (by decide +kernel)⟩
theorem lw_p18 : lw_okq (⟨"SplitSecrets$Stores", "makeVersion", "(LSplitSecrets$Secret;I)V"⟩, 10) := ⟨⟨by decide +kernel, by decide +kernel⟩, List.mem_of_getElem? (i := 18) (by decide +kernel), List.mem_of_getElem? (i := 319) (by decide +kernel), List.mem_of_getElem? (i := 320) (by decide +kernel)⟩
theorem lw_p19 : lw_okq (⟨"SplitSecrets$Stores", "drawn", "()I"⟩, 10) := ⟨⟨by decide +kernel, by decide +kernel⟩, List.mem_of_getElem? (i := 18) (by decide +kernel), List.mem_of_getElem? (i := 323) (by decide +kernel), List.mem_of_getElem? (i := 324) (by decide +kernel)⟩
theorem lw_p20 : lw_okq (⟨"SplitSecrets", "recorded", "(I)I"⟩, 6) := ⟨⟨by decide +kernel, by decide +kernel⟩, List.mem_of_getElem? (i := 10) (by decide +kernel), List.mem_of_getElem? (i := 332) (by decide +kernel), List.mem_of_getElem? (i := 333) (by decide +kernel)⟩
theorem lw_p21 : lw_okq (⟨"SplitSecrets$History", "recordDraft", "()V"⟩, 3) := ⟨⟨by decide +kernel, by decide +kernel⟩, List.mem_of_getElem? (i := 141) (by decide +kernel), List.mem_of_getElem? (i := 336) (by decide +kernel), List.mem_of_getElem? (i := 337) (by decide +kernel)⟩
theorem lw_p22 : lw_okq (⟨"SplitSecrets$Stores", "renew", "(I)I"⟩, 10) := ⟨⟨by decide +kernel, by decide +kernel⟩, List.mem_of_getElem? (i := 18) (by decide +kernel), List.mem_of_getElem? (i := 344) (by decide +kernel), List.mem_of_getElem? (i := 345) (by decide +kernel)⟩
theorem lw_p23 : lw_okq (⟨"SplitSecrets$Stores", "makeNextVersion", "(LSplitSecrets$Secret;)V"⟩, 10) := ⟨⟨by decide +kernel, by decide +kernel⟩, List.mem_of_getElem? (i := 18) (by decide +kernel), List.mem_of_getElem? (i := 348) (by decide +kernel), List.mem_of_getElem? (i := 349) (by decide +kernel)⟩
theorem lw_p24 : lw_okq (⟨"SplitSecrets$Secret", "value", "()I"⟩, 10) := ⟨⟨by decide +kernel, by decide +kernel⟩, List.mem_of_getElem? (i := 25) (by decide +kernel), List.mem_of_getElem? (i := 352) (by decide +kernel), List.mem_of_getElem? (i := 353) (by decide +kernel)⟩
theorem lw_p25 : lw_okq (⟨"SplitSecrets$Secret", "ageKeeping", "(I)I"⟩, 10) := ⟨⟨by decide +kernel, by decide +kernel⟩, List.mem_of_getElem? (i := 25) (by decide +kernel), List.mem_of_getElem? (i := 356) (by decide +kernel), List.mem_of_getElem? (i := 357) (by decide +kernel)⟩
theorem lw_p26 : lw_okq (⟨"SplitSecrets$Half", "freeRowOfNow", "()V"⟩, 7) := ⟨⟨by decide +kernel, by decide +kernel⟩, List.mem_of_getElem? (i := 31) (by decide +kernel), List.mem_of_getElem? (i := 360) (by decide +kernel), List.mem_of_getElem? (i := 361) (by decide +kernel)⟩
theorem lw_p27 : lw_okq (⟨"SplitSecrets$Stores", "burnOldVersions", "(I)I"⟩, 10) := ⟨⟨by decide +kernel, by decide +kernel⟩, List.mem_of_getElem? (i := 18) (by decide +kernel), List.mem_of_getElem? (i := 371) (by decide +kernel), List.mem_of_getElem? (i := 372) (by decide +kernel)⟩
theorem lw_p28 : lw_okq (⟨"SplitSecrets$Stores", "turnSleep", "(I)I"⟩, 10) := ⟨⟨by decide +kernel, by decide +kernel⟩, List.mem_of_getElem? (i := 18) (by decide +kernel), List.mem_of_getElem? (i := 379) (by decide +kernel), List.mem_of_getElem? (i := 380) (by decide +kernel)⟩
theorem lw_p29 : lw_okq (⟨"SplitSecrets$Stores", "takeUpLie", "(IIII)I"⟩, 10) := ⟨⟨by decide +kernel, by decide +kernel⟩, List.mem_of_getElem? (i := 18) (by decide +kernel), List.mem_of_getElem? (i := 390) (by decide +kernel), List.mem_of_getElem? (i := 391) (by decide +kernel)⟩
theorem lw_p30 : lw_okq (⟨"SplitSecrets$Stores", "hasHalf", "(II)Z"⟩, 10) := ⟨⟨by decide +kernel, by decide +kernel⟩, List.mem_of_getElem? (i := 18) (by decide +kernel), List.mem_of_getElem? (i := 394) (by decide +kernel), List.mem_of_getElem? (i := 395) (by decide +kernel)⟩
theorem lw_p31 : lw_okq (⟨"SplitSecrets$Secret", "halfIn", "(I)LSplitSecrets$Half;"⟩, 10) := ⟨⟨by decide +kernel, by decide +kernel⟩, List.mem_of_getElem? (i := 25) (by decide +kernel), List.mem_of_getElem? (i := 401) (by decide +kernel), List.mem_of_getElem? (i := 402) (by decide +kernel)⟩
def lw_privs_2 : List (MethodName × Nat) := [(⟨"SplitSecrets$History", "draft", "(LSplitSecrets$Stores;)V"⟩, 3), (⟨"SplitSecrets$Stores", nmA, "(I)I"⟩, 10), (⟨"SplitSecrets$Stores", "makeVersion", "(LSplitSecrets$Secret;I)V"⟩, 10), (⟨"SplitSecrets$Stores", "drawn", "()I"⟩, 10), (⟨"SplitSecrets", "recorded", "(I)I"⟩, 6), (⟨"SplitSecrets$History", "recordDraft", "()V"⟩, 3), (⟨"SplitSecrets$Stores", "renew", "(I)I"⟩, 10), (⟨"SplitSecrets$Stores", "makeNextVersion", "(LSplitSecrets$Secret;)V"⟩, 10), (⟨"SplitSecrets$Secret", "value", "()I"⟩, 10), (⟨"SplitSecrets$Secret", "ageKeeping", "(I)I"⟩, 10), (⟨"SplitSecrets$Half", "freeRowOfNow", "()V"⟩, 7), (⟨"SplitSecrets$Stores", "burnOldVersions", "(I)I"⟩, 10), (⟨"SplitSecrets$Stores", "turnSleep", "(I)I"⟩, 10), (⟨"SplitSecrets$Stores", "takeUpLie", "(IIII)I"⟩, 10), (⟨"SplitSecrets$Stores", "hasHalf", "(II)Z"⟩, 10), (⟨"SplitSecrets$Secret", "halfIn", "(I)LSplitSecrets$Half;"⟩, 10)]
theorem lw_r2 : ∀ q ∈ lw_privs_2, lw_okq q := List.forall_mem_cons.mpr ⟨lw_p16, List.forall_mem_cons.mpr ⟨lw_p17, List.forall_mem_cons.mpr ⟨lw_p18, List.forall_mem_cons.mpr ⟨lw_p19, List.forall_mem_cons.mpr ⟨lw_p20, List.forall_mem_cons.mpr ⟨lw_p21, List.forall_mem_cons.mpr ⟨lw_p22, List.forall_mem_cons.mpr ⟨lw_p23, List.forall_mem_cons.mpr ⟨lw_p24, List.forall_mem_cons.mpr ⟨lw_p25, List.forall_mem_cons.mpr ⟨lw_p26, List.forall_mem_cons.mpr ⟨lw_p27, List.forall_mem_cons.mpr ⟨lw_p28, List.forall_mem_cons.mpr ⟨lw_p29, List.forall_mem_cons.mpr ⟨lw_p30, List.forall_mem_cons.mpr ⟨lw_p31, fun _ h => absurd h List.not_mem_nil⟩⟩⟩⟩⟩⟩⟩⟩⟩⟩⟩⟩⟩⟩⟩⟩
theorem lw_p32 : lw_okq (⟨"SplitSecrets$Stores", "tagOffsetThatPasses", "(III)I"⟩, 10) := ⟨⟨by decide +kernel, by decide +kernel⟩, List.mem_of_getElem? (i := 18) (by decide +kernel), List.mem_of_getElem? (i := 409) (by decide +kernel), List.mem_of_getElem? (i := 410) (by decide +kernel)⟩
theorem lw_p33 : lw_okq (⟨"SplitSecrets$Secret", "halfBeside", "(I)LSplitSecrets$Half;"⟩, 10) := ⟨⟨by decide +kernel, by decide +kernel⟩, List.mem_of_getElem? (i := 25) (by decide +kernel), List.mem_of_getElem? (i := 413) (by decide +kernel), List.mem_of_getElem? (i := 414) (by decide +kernel)⟩
theorem lw_p34 : lw_okq (⟨"SplitSecrets$Stores", "mergeParts", "(I)I"⟩, 10) := ⟨⟨by decide +kernel, by decide +kernel⟩, List.mem_of_getElem? (i := 18) (by decide +kernel), List.mem_of_getElem? (i := 422) (by decide +kernel), List.mem_of_getElem? (i := 423) (by decide +kernel)⟩
theorem lw_p35 : lw_okq (⟨"SplitSecrets$Secret", "open", "(II)V"⟩, 10) := ⟨⟨by decide +kernel, by decide +kernel⟩, List.mem_of_getElem? (i := 25) (by decide +kernel), List.mem_of_getElem? (i := 427) (by decide +kernel), List.mem_of_getElem? (i := 428) (by decide +kernel)⟩
theorem lw_p36 : lw_okq (⟨"SplitSecrets$Half", "lies", "()Z"⟩, 7) := ⟨⟨by decide +kernel, by decide +kernel⟩, List.mem_of_getElem? (i := 31) (by decide +kernel), List.mem_of_getElem? (i := 431) (by decide +kernel), List.mem_of_getElem? (i := 432) (by decide +kernel)⟩
theorem lw_p37 : lw_okq (⟨"SplitSecrets$Stores", "figureOfSecret", "(II)I"⟩, 10) := ⟨⟨by decide +kernel, by decide +kernel⟩, List.mem_of_getElem? (i := 18) (by decide +kernel), List.mem_of_getElem? (i := 439) (by decide +kernel), List.mem_of_getElem? (i := 440) (by decide +kernel)⟩
theorem lw_p38 : lw_okq (⟨"SplitSecrets$Stores", "givePartToThief", "(III)I"⟩, 10) := ⟨⟨by decide +kernel, by decide +kernel⟩, List.mem_of_getElem? (i := 18) (by decide +kernel), List.mem_of_getElem? (i := 447) (by decide +kernel), List.mem_of_getElem? (i := 448) (by decide +kernel)⟩
theorem lw_p39 : lw_okq (⟨"SplitSecrets$Secret", "partForThief", "(II)I"⟩, 10) := ⟨⟨by decide +kernel, by decide +kernel⟩, List.mem_of_getElem? (i := 25) (by decide +kernel), List.mem_of_getElem? (i := 451) (by decide +kernel), List.mem_of_getElem? (i := 452) (by decide +kernel)⟩
theorem lw_p40 : lw_okq (⟨"SplitSecrets$Secret", "takenSet", "(I)I"⟩, 10) := ⟨⟨by decide +kernel, by decide +kernel⟩, List.mem_of_getElem? (i := 25) (by decide +kernel), List.mem_of_getElem? (i := 456) (by decide +kernel), List.mem_of_getElem? (i := 457) (by decide +kernel)⟩
theorem lw_p41 : lw_okq (⟨"SplitSecrets$Stores", "passBeats", "(I)I"⟩, 10) := ⟨⟨by decide +kernel, by decide +kernel⟩, List.mem_of_getElem? (i := 18) (by decide +kernel), List.mem_of_getElem? (i := 464) (by decide +kernel), List.mem_of_getElem? (i := 465) (by decide +kernel)⟩
theorem lw_p42 : lw_okq (⟨"SplitSecrets$Stores", "passOneBeat", "()V"⟩, 10) := ⟨⟨by decide +kernel, by decide +kernel⟩, List.mem_of_getElem? (i := 18) (by decide +kernel), List.mem_of_getElem? (i := 468) (by decide +kernel), List.mem_of_getElem? (i := 469) (by decide +kernel)⟩
theorem lw_p43 : lw_okq (⟨"SplitSecrets$Stores", "changeSetting", "(II)I"⟩, 10) := ⟨⟨by decide +kernel, by decide +kernel⟩, List.mem_of_getElem? (i := 18) (by decide +kernel), List.mem_of_getElem? (i := 479) (by decide +kernel), List.mem_of_getElem? (i := 480) (by decide +kernel)⟩
theorem lw_p44 : lw_okq (⟨"SplitSecrets$Stores", "changeX", "(I)I"⟩, 10) := ⟨⟨by decide +kernel, by decide +kernel⟩, List.mem_of_getElem? (i := 18) (by decide +kernel), List.mem_of_getElem? (i := 491) (by decide +kernel), List.mem_of_getElem? (i := 492) (by decide +kernel)⟩
theorem lw_p45 : lw_okq (⟨"SplitSecrets$Stores", "figureOfHalf", "(III)I"⟩, 10) := ⟨⟨by decide +kernel, by decide +kernel⟩, List.mem_of_getElem? (i := 18) (by decide +kernel), List.mem_of_getElem? (i := 505) (by decide +kernel), List.mem_of_getElem? (i := 506) (by decide +kernel)⟩
theorem lw_p46 : lw_okq (⟨"SplitSecrets$Stores", "offsetsThatPass", "(III)I"⟩, 10) := ⟨⟨by decide +kernel, by decide +kernel⟩, List.mem_of_getElem? (i := 18) (by decide +kernel), List.mem_of_getElem? (i := 515) (by decide +kernel), List.mem_of_getElem? (i := 516) (by decide +kernel)⟩
theorem lw_p47 : lw_okq (⟨"SplitSecrets$Stores", "otherPartFor", "(III)I"⟩, 10) := ⟨⟨by decide +kernel, by decide +kernel⟩, List.mem_of_getElem? (i := 18) (by decide +kernel), List.mem_of_getElem? (i := 527) (by decide +kernel), List.mem_of_getElem? (i := 528) (by decide +kernel)⟩
def lw_privs_3 : List (MethodName × Nat) := [(⟨"SplitSecrets$Stores", "tagOffsetThatPasses", "(III)I"⟩, 10), (⟨"SplitSecrets$Secret", "halfBeside", "(I)LSplitSecrets$Half;"⟩, 10), (⟨"SplitSecrets$Stores", "mergeParts", "(I)I"⟩, 10), (⟨"SplitSecrets$Secret", "open", "(II)V"⟩, 10), (⟨"SplitSecrets$Half", "lies", "()Z"⟩, 7), (⟨"SplitSecrets$Stores", "figureOfSecret", "(II)I"⟩, 10), (⟨"SplitSecrets$Stores", "givePartToThief", "(III)I"⟩, 10), (⟨"SplitSecrets$Secret", "partForThief", "(II)I"⟩, 10), (⟨"SplitSecrets$Secret", "takenSet", "(I)I"⟩, 10), (⟨"SplitSecrets$Stores", "passBeats", "(I)I"⟩, 10), (⟨"SplitSecrets$Stores", "passOneBeat", "()V"⟩, 10), (⟨"SplitSecrets$Stores", "changeSetting", "(II)I"⟩, 10), (⟨"SplitSecrets$Stores", "changeX", "(I)I"⟩, 10), (⟨"SplitSecrets$Stores", "figureOfHalf", "(III)I"⟩, 10), (⟨"SplitSecrets$Stores", "offsetsThatPass", "(III)I"⟩, 10), (⟨"SplitSecrets$Stores", "otherPartFor", "(III)I"⟩, 10)]
theorem lw_r3 : ∀ q ∈ lw_privs_3, lw_okq q := List.forall_mem_cons.mpr ⟨lw_p32, List.forall_mem_cons.mpr ⟨lw_p33, List.forall_mem_cons.mpr ⟨lw_p34, List.forall_mem_cons.mpr ⟨lw_p35, List.forall_mem_cons.mpr ⟨lw_p36, List.forall_mem_cons.mpr ⟨lw_p37, List.forall_mem_cons.mpr ⟨lw_p38, List.forall_mem_cons.mpr ⟨lw_p39, List.forall_mem_cons.mpr ⟨lw_p40, List.forall_mem_cons.mpr ⟨lw_p41, List.forall_mem_cons.mpr ⟨lw_p42, List.forall_mem_cons.mpr ⟨lw_p43, List.forall_mem_cons.mpr ⟨lw_p44, List.forall_mem_cons.mpr ⟨lw_p45, List.forall_mem_cons.mpr ⟨lw_p46, List.forall_mem_cons.mpr ⟨lw_p47, fun _ h => absurd h List.not_mem_nil⟩⟩⟩⟩⟩⟩⟩⟩⟩⟩⟩⟩⟩⟩⟩⟩
theorem lw_p48 : lw_okq (⟨"SplitSecrets$Stores", "figureOfOldVersion", "(III)I"⟩, 10) := ⟨⟨by decide +kernel, by decide +kernel⟩, List.mem_of_getElem? (i := 18) (by decide +kernel), List.mem_of_getElem? (i := 535) (by decide +kernel), List.mem_of_getElem? (i := 536) (by decide +kernel)⟩
theorem lw_p49 : lw_okq (⟨"SplitSecrets$Stores", "versionsAtRisk", "(I)I"⟩, 10) := ⟨⟨by decide +kernel, by decide +kernel⟩, List.mem_of_getElem? (i := 18) (by decide +kernel), List.mem_of_getElem? (i := 544) (by decide +kernel), List.mem_of_getElem? (i := 545) (by decide +kernel)⟩
theorem lw_p50 : lw_okq (⟨"SplitSecrets$Secret", "rowsAtRisk", "()I"⟩, 10) := ⟨⟨by decide +kernel, by decide +kernel⟩, List.mem_of_getElem? (i := 25) (by decide +kernel), List.mem_of_getElem? (i := 548) (by decide +kernel), List.mem_of_getElem? (i := 549) (by decide +kernel)⟩
theorem lw_p51 : lw_okq (⟨"SplitSecrets$Stores", "partsNeeded", "(I)I"⟩, 10) := ⟨⟨by decide +kernel, by decide +kernel⟩, List.mem_of_getElem? (i := 18) (by decide +kernel), List.mem_of_getElem? (i := 556) (by decide +kernel), List.mem_of_getElem? (i := 557) (by decide +kernel)⟩
def lw_privs_4 : List (MethodName × Nat) := [(⟨"SplitSecrets$Stores", "figureOfOldVersion", "(III)I"⟩, 10), (⟨"SplitSecrets$Stores", "versionsAtRisk", "(I)I"⟩, 10), (⟨"SplitSecrets$Secret", "rowsAtRisk", "()I"⟩, 10), (⟨"SplitSecrets$Stores", "partsNeeded", "(I)I"⟩, 10)]
theorem lw_r4 : ∀ q ∈ lw_privs_4, lw_okq q := List.forall_mem_cons.mpr ⟨lw_p48, List.forall_mem_cons.mpr ⟨lw_p49, List.forall_mem_cons.mpr ⟨lw_p50, List.forall_mem_cons.mpr ⟨lw_p51, fun _ h => absurd h List.not_mem_nil⟩⟩⟩⟩
def lw_privs : List (MethodName × Nat) := lw_privs_1 ++ (lw_privs_2 ++ (lw_privs_3 ++ (lw_privs_4)))
def lw_tbl : List Cond := k2_sels lw_privs ++ tables_1
theorem lw_privs_ok : ∀ q ∈ lw_privs, lw_okq q := by
  show ∀ q ∈ lw_privs_1 ++ (lw_privs_2 ++ (lw_privs_3 ++ (lw_privs_4))), lw_okq q
  exact List.forall_mem_append.mpr ⟨lw_r1, List.forall_mem_append.mpr ⟨lw_r2, List.forall_mem_append.mpr ⟨lw_r3, lw_r4⟩⟩⟩
end
section
def RX0 : String := "SplitSecrets$Half"
def TX0 : u_T := fun k => match k with
  | 0 => ("SplitSecrets$Half", "parts", "[I", true)
  | 1 => ("SplitSecrets$Half", "taken", "[Z", true)
  | 2 => ("SplitSecrets$Half", "tag", "I", false)
  | 3 => ("SplitSecrets$Half", "factor", "I", false)
  | 4 => ("SplitSecrets$Half", "sum", "I", false)
  | 5 => ("SplitSecrets$Half", "offset", "I", false)
  | _ => ("SplitSecrets$Half", "tagOffset", "I", false)
def tyX0 : Nat → FieldType := fun k => match k with
  | 0 => .array .int
  | 1 => .array .boolean
  | 2 => .int
  | 3 => .int
  | 4 => .int
  | 5 => .int
  | _ => .int
theorem nmX0 : ∀ a, a < 7 → ∀ b, b < 7 → a ≠ b → (TX0 a).2.1 ≠ (TX0 b).2.1 := by decide +kernel
theorem tyX0_ok : ∀ k, k < 7 → parseFieldDescriptor (TX0 k).2.2.1 = some (tyX0 k) := by decide +kernel
abbrev cX0_init : ByteArray := prog_2_method_1_code
def yX0_init : MethodName := ⟨RX0, "<init>", "()V"⟩
abbrev cX0_copyHalf : ByteArray := prog_2_method_2_code
def yX0_copyHalf : MethodName := ⟨RX0, "copyHalf", "(LSplitSecrets$Half;)V"⟩
abbrev cX0_partWith : ByteArray := prog_2_method_3_code
def yX0_partWith : MethodName := ⟨RX0, "partWith", "(I)I"⟩
abbrev cX0_toldPart : ByteArray := prog_2_method_4_code
def yX0_toldPart : MethodName := ⟨RX0, "toldPart", "()I"⟩
abbrev cX0_toldTag : ByteArray := prog_2_method_5_code
def yX0_toldTag : MethodName := ⟨RX0, "toldTag", "()I"⟩
abbrev cX0_lies : ByteArray := prog_2_method_6_code
def yX0_lies : MethodName := ⟨RX0, "lies", "()Z"⟩
abbrev cX0_tagDueFor : ByteArray := prog_2_method_7_code
def yX0_tagDueFor : MethodName := ⟨RX0, "tagDueFor", "(I)I"⟩
abbrev cX0_catches : ByteArray := prog_2_method_8_code
def yX0_catches : MethodName := ⟨RX0, "catches", "(LSplitSecrets$Half;)Z"⟩
abbrev cX0_freeRowOfNow : ByteArray := prog_2_method_9_code
def yX0_freeRowOfNow : MethodName := ⟨RX0, "freeRowOfNow", "()V"⟩
def RX1 : String := "SplitSecrets$History"
def TX1 : u_T := fun k => match k with
  | 0 => ("SplitSecrets$History", "rows", "[LSplitSecrets$Stores;", true)
  | 1 => ("SplitSecrets$History", "oldest", "I", false)
  | _ => ("SplitSecrets$History", "size", "I", false)
def tyX1 : Nat → FieldType := fun k => match k with
  | 0 => .array (.object "SplitSecrets$Stores")
  | 1 => .int
  | _ => .int
theorem nmX1 : ∀ a, a < 3 → ∀ b, b < 3 → a ≠ b → (TX1 a).2.1 ≠ (TX1 b).2.1 := by decide +kernel
theorem tyX1_ok : ∀ k, k < 3 → parseFieldDescriptor (TX1 k).2.2.1 = some (tyX1 k) := by decide +kernel
abbrev cX1_init : ByteArray := prog_3_method_1_code
def yX1_init : MethodName := ⟨RX1, "<init>", "()V"⟩
abbrev cX1_draft : ByteArray := prog_3_method_2_code
def yX1_draft : MethodName := ⟨RX1, "draft", "(LSplitSecrets$Stores;)V"⟩
abbrev cX1_recordDraft : ByteArray := prog_3_method_3_code
def yX1_recordDraft : MethodName := ⟨RX1, "recordDraft", "()V"⟩
abbrev cX1_takesBack : ByteArray := prog_3_method_4_code
def yX1_takesBack : MethodName := ⟨RX1, "takesBack", "(LSplitSecrets$Stores;)Z"⟩
def RX2 : String := "SplitSecrets$Pad"
def TX2 : u_T := fun k => match k with
  | 0 => ("SplitSecrets$Pad", "signs", "[C", true)
  | _ => ("SplitSecrets$Pad", "length", "I", false)
def tyX2 : Nat → FieldType := fun k => match k with
  | 0 => .array .char
  | _ => .int
theorem nmX2 : ∀ a, a < 2 → ∀ b, b < 2 → a ≠ b → (TX2 a).2.1 ≠ (TX2 b).2.1 := by decide +kernel
theorem tyX2_ok : ∀ k, k < 2 → parseFieldDescriptor (TX2 k).2.2.1 = some (tyX2 k) := by decide +kernel
abbrev cX2_init : ByteArray := prog_4_method_1_code
def yX2_init : MethodName := ⟨RX2, "<init>", "()V"⟩
def RX3 : String := "SplitSecrets$Reader"
def TX3 : u_T := fun k => match k with
  | 0 => ("SplitSecrets$Reader", "pad", "LSplitSecrets$Pad;", true)
  | 1 => ("SplitSecrets$Reader", "at", "I", false)
  | 2 => ("SplitSecrets$Reader", "letter", "C", false)
  | 3 => ("SplitSecrets$Reader", "store", "I", false)
  | 4 => ("SplitSecrets$Reader", "secret", "I", false)
  | 5 => ("SplitSecrets$Reader", "number", "I", false)
  | _ => ("SplitSecrets$Reader", "tag", "I", false)
def tyX3 : Nat → FieldType := fun k => match k with
  | 0 => .object "SplitSecrets$Pad"
  | 1 => .int
  | 2 => .char
  | 3 => .int
  | 4 => .int
  | 5 => .int
  | _ => .int
theorem nmX3 : ∀ a, a < 7 → ∀ b, b < 7 → a ≠ b → (TX3 a).2.1 ≠ (TX3 b).2.1 := by decide +kernel
theorem tyX3_ok : ∀ k, k < 7 → parseFieldDescriptor (TX3 k).2.2.1 = some (tyX3 k) := by decide +kernel
abbrev cX3_init : ByteArray := prog_5_method_1_code
def yX3_init : MethodName := ⟨RX3, "<init>", "(LSplitSecrets$Pad;)V"⟩
def RX4 : String := "SplitSecrets$Secret"
def TX4 : u_T := fun k => match k with
  | 0 => ("SplitSecrets$Secret", "first", "LSplitSecrets$Half;", true)
  | 1 => ("SplitSecrets$Secret", "second", "LSplitSecrets$Half;", true)
  | 2 => ("SplitSecrets$Secret", "version", "I", false)
  | 3 => ("SplitSecrets$Secret", "olds", "I", false)
  | 4 => ("SplitSecrets$Secret", "openAs", "I", false)
  | 5 => ("SplitSecrets$Secret", "openFor", "I", false)
  | 6 => ("SplitSecrets$Secret", "caught", "I", false)
  | 7 => ("SplitSecrets$Secret", "opened", "I", false)
  | 8 => ("SplitSecrets$Secret", "stolen", "I", false)
  | _ => ("SplitSecrets$Secret", "known", "Z", false)
def tyX4 : Nat → FieldType := fun k => match k with
  | 0 => .object "SplitSecrets$Half"
  | 1 => .object "SplitSecrets$Half"
  | 2 => .int
  | 3 => .int
  | 4 => .int
  | 5 => .int
  | 6 => .int
  | 7 => .int
  | 8 => .int
  | _ => .boolean
theorem nmX4 : ∀ a, a < 10 → ∀ b, b < 10 → a ≠ b → (TX4 a).2.1 ≠ (TX4 b).2.1 := by decide +kernel
theorem tyX4_ok : ∀ k, k < 10 → parseFieldDescriptor (TX4 k).2.2.1 = some (tyX4 k) := by decide +kernel
abbrev cX4_init : ByteArray := prog_6_method_1_code
def yX4_init : MethodName := ⟨RX4, "<init>", "()V"⟩
abbrev cX4_copySecret : ByteArray := prog_6_method_2_code
def yX4_copySecret : MethodName := ⟨RX4, "copySecret", "(LSplitSecrets$Secret;)V"⟩
abbrev cX4_halfIn : ByteArray := prog_6_method_3_code
def yX4_halfIn : MethodName := ⟨RX4, "halfIn", "(I)LSplitSecrets$Half;"⟩
abbrev cX4_halfBeside : ByteArray := prog_6_method_4_code
def yX4_halfBeside : MethodName := ⟨RX4, "halfBeside", "(I)LSplitSecrets$Half;"⟩
abbrev cX4_value : ByteArray := prog_6_method_5_code
def yX4_value : MethodName := ⟨RX4, "value", "()I"⟩
abbrev cX4_ageKeeping : ByteArray := prog_6_method_6_code
def yX4_ageKeeping : MethodName := ⟨RX4, "ageKeeping", "(I)I"⟩
abbrev cX4_answerIfMerged : ByteArray := prog_6_method_7_code
def yX4_answerIfMerged : MethodName := ⟨RX4, "answerIfMerged", "()I"⟩
abbrev cX4_open : ByteArray := prog_6_method_8_code
def yX4_open : MethodName := ⟨RX4, "open", "(II)V"⟩
abbrev cX4_partForThief : ByteArray := prog_6_method_9_code
def yX4_partForThief : MethodName := ⟨RX4, "partForThief", "(II)I"⟩
abbrev cX4_takenSet : ByteArray := prog_6_method_10_code
def yX4_takenSet : MethodName := ⟨RX4, "takenSet", "(I)I"⟩
abbrev cX4_rowsAtRisk : ByteArray := prog_6_method_11_code
def yX4_rowsAtRisk : MethodName := ⟨RX4, "rowsAtRisk", "()I"⟩
def RX5 : String := "SplitSecrets$Stores"
def TX5 : u_T := fun k => match k with
  | 0 => ("SplitSecrets$Stores", "secrets", "[LSplitSecrets$Secret;", true)
  | 1 => ("SplitSecrets$Stores", "settings", "[I", true)
  | 2 => ("SplitSecrets$Stores", "asleep", "[Z", true)
  | 3 => ("SplitSecrets$Stores", "kept", "I", false)
  | 4 => ("SplitSecrets$Stores", "x", "I", false)
  | 5 => ("SplitSecrets$Stores", "beatsSoFar", "I", false)
  | 6 => ("SplitSecrets$Stores", "made", "I", false)
  | 7 => ("SplitSecrets$Stores", "burnt", "I", false)
  | 8 => ("SplitSecrets$Stores", "caught", "I", false)
  | _ => ("SplitSecrets$Stores", "liesPassed", "I", false)
def tyX5 : Nat → FieldType := fun k => match k with
  | 0 => .array (.object "SplitSecrets$Secret")
  | 1 => .array .int
  | 2 => .array .boolean
  | 3 => .int
  | 4 => .int
  | 5 => .int
  | 6 => .int
  | 7 => .int
  | 8 => .int
  | _ => .int
theorem nmX5 : ∀ a, a < 10 → ∀ b, b < 10 → a ≠ b → (TX5 a).2.1 ≠ (TX5 b).2.1 := by decide +kernel
theorem tyX5_ok : ∀ k, k < 10 → parseFieldDescriptor (TX5 k).2.2.1 = some (tyX5 k) := by decide +kernel
abbrev cX5_init : ByteArray := prog_7_method_1_code
def yX5_init : MethodName := ⟨RX5, "<init>", "()V"⟩
abbrev cX5_copyState : ByteArray := prog_7_method_2_code
def yX5_copyState : MethodName := ⟨RX5, "copyState", "(LSplitSecrets$Stores;)V"⟩
abbrev cX5_hasSecret : ByteArray := prog_7_method_3_code
def yX5_hasSecret : MethodName := ⟨RX5, "hasSecret", "(I)Z"⟩
abbrev cX5_hasHalf : ByteArray := prog_7_method_4_code
def yX5_hasHalf : MethodName := ⟨RX5, "hasHalf", "(II)Z"⟩
abbrev cX5_someStoreSleeps : ByteArray := prog_7_method_5_code
def yX5_someStoreSleeps : MethodName := ⟨RX5, "someStoreSleeps", "()Z"⟩
abbrev cX5_changeSetting : ByteArray := prog_7_method_7_code
def yX5_changeSetting : MethodName := ⟨RX5, "changeSetting", "(II)I"⟩
abbrev cX5_changeX : ByteArray := prog_7_method_8_code
def yX5_changeX : MethodName := ⟨RX5, "changeX", "(I)I"⟩
abbrev cX5_drawn : ByteArray := prog_7_method_9_code
def yX5_drawn : MethodName := ⟨RX5, "drawn", "()I"⟩
abbrev cX5_adm : ByteArray := prog_7_method_10_code
def yX5_adm : MethodName := ⟨RX5, nmA, "(I)I"⟩
abbrev cX5_makeVersion : ByteArray := prog_7_method_11_code
def yX5_makeVersion : MethodName := ⟨RX5, "makeVersion", "(LSplitSecrets$Secret;I)V"⟩
abbrev cX5_makeNextVersion : ByteArray := prog_7_method_12_code
def yX5_makeNextVersion : MethodName := ⟨RX5, "makeNextVersion", "(LSplitSecrets$Secret;)V"⟩
abbrev cX5_renew : ByteArray := prog_7_method_13_code
def yX5_renew : MethodName := ⟨RX5, "renew", "(I)I"⟩
abbrev cX5_burnOldVersions : ByteArray := prog_7_method_14_code
def yX5_burnOldVersions : MethodName := ⟨RX5, "burnOldVersions", "(I)I"⟩
abbrev cX5_turnSleep : ByteArray := prog_7_method_15_code
def yX5_turnSleep : MethodName := ⟨RX5, "turnSleep", "(I)I"⟩
abbrev cX5_takeUpLie : ByteArray := prog_7_method_16_code
def yX5_takeUpLie : MethodName := ⟨RX5, "takeUpLie", "(IIII)I"⟩
abbrev cX5_answerOfMerger : ByteArray := prog_7_method_17_code
def yX5_answerOfMerger : MethodName := ⟨RX5, "answerOfMerger", "(I)I"⟩
abbrev cX5_mergeParts : ByteArray := prog_7_method_18_code
def yX5_mergeParts : MethodName := ⟨RX5, "mergeParts", "(I)I"⟩
abbrev cX5_givePartToThief : ByteArray := prog_7_method_19_code
def yX5_givePartToThief : MethodName := ⟨RX5, "givePartToThief", "(III)I"⟩
abbrev cX5_passBeats : ByteArray := prog_7_method_20_code
def yX5_passBeats : MethodName := ⟨RX5, "passBeats", "(I)I"⟩
abbrev cX5_passOneBeat : ByteArray := prog_7_method_21_code
def yX5_passOneBeat : MethodName := ⟨RX5, "passOneBeat", "()V"⟩
abbrev cX5_figureOfHalf : ByteArray := prog_7_method_22_code
def yX5_figureOfHalf : MethodName := ⟨RX5, "figureOfHalf", "(III)I"⟩
abbrev cX5_figureOfSecret : ByteArray := prog_7_method_23_code
def yX5_figureOfSecret : MethodName := ⟨RX5, "figureOfSecret", "(II)I"⟩
abbrev cX5_figureOfOldVersion : ByteArray := prog_7_method_24_code
def yX5_figureOfOldVersion : MethodName := ⟨RX5, "figureOfOldVersion", "(III)I"⟩
abbrev cX5_figure : ByteArray := prog_7_method_25_code
def yX5_figure : MethodName := ⟨RX5, "figure", "(I)I"⟩
abbrev cX5_setOfOpen : ByteArray := prog_7_method_26_code
def yX5_setOfOpen : MethodName := ⟨RX5, "setOfOpen", "()I"⟩
abbrev cX5_setOfKnown : ByteArray := prog_7_method_27_code
def yX5_setOfKnown : MethodName := ⟨RX5, "setOfKnown", "()I"⟩
abbrev cX5_otherPartFor : ByteArray := prog_7_method_28_code
def yX5_otherPartFor : MethodName := ⟨RX5, "otherPartFor", "(III)I"⟩
abbrev cX5_tagOffsetThatPasses : ByteArray := prog_7_method_29_code
def yX5_tagOffsetThatPasses : MethodName := ⟨RX5, "tagOffsetThatPasses", "(III)I"⟩
abbrev cX5_offsetsThatPass : ByteArray := prog_7_method_30_code
def yX5_offsetsThatPass : MethodName := ⟨RX5, "offsetsThatPass", "(III)I"⟩
abbrev cX5_partsNeeded : ByteArray := prog_7_method_31_code
def yX5_partsNeeded : MethodName := ⟨RX5, "partsNeeded", "(I)I"⟩
abbrev cX5_versionsAtRisk : ByteArray := prog_7_method_32_code
def yX5_versionsAtRisk : MethodName := ⟨RX5, "versionsAtRisk", "(I)I"⟩
def RX6 : String := "SplitSecrets"
def TX6 : u_T := fun k => match k with
  | 0 => ("SplitSecrets", "now", "LSplitSecrets$Stores;", true)
  | 1 => ("SplitSecrets", "history", "LSplitSecrets$History;", true)
  | 2 => ("SplitSecrets", "slots", "[LSplitSecrets$Stores;", true)
  | 3 => ("SplitSecrets", "saved", "[Z", true)
  | 4 => ("SplitSecrets", "pad", "LSplitSecrets$Pad;", true)
  | _ => ("SplitSecrets", "reader", "LSplitSecrets$Reader;", true)
def tyX6 : Nat → FieldType := fun k => match k with
  | 0 => .object "SplitSecrets$Stores"
  | 1 => .object "SplitSecrets$History"
  | 2 => .array (.object "SplitSecrets$Stores")
  | 3 => .array .boolean
  | 4 => .object "SplitSecrets$Pad"
  | _ => .object "SplitSecrets$Reader"
theorem nmX6 : ∀ a, a < 6 → ∀ b, b < 6 → a ≠ b → (TX6 a).2.1 ≠ (TX6 b).2.1 := by decide +kernel
theorem tyX6_ok : ∀ k, k < 6 → parseFieldDescriptor (TX6 k).2.2.1 = some (tyX6 k) := by decide +kernel
abbrev cX6_init : ByteArray := prog_1_method_1_code
def yX6_init : MethodName := ⟨RX6, "<init>", "()V"⟩
abbrev cX6_set : ByteArray := prog_1_method_2_code
def yX6_set : MethodName := ⟨RX6, "set", "(II)I"⟩
abbrev cX6_seed : ByteArray := prog_1_method_3_code
def yX6_seed : MethodName := ⟨RX6, "seed", "(I)I"⟩
abbrev cX6_keep : ByteArray := prog_1_method_4_code
def yX6_keep : MethodName := ⟨RX6, "keep", "(I)I"⟩
abbrev cX6_refresh : ByteArray := prog_1_method_5_code
def yX6_refresh : MethodName := ⟨RX6, "refresh", "(I)I"⟩
abbrev cX6_burn : ByteArray := prog_1_method_6_code
def yX6_burn : MethodName := ⟨RX6, "burn", "(I)I"⟩
abbrev cX6_sleep : ByteArray := prog_1_method_7_code
def yX6_sleep : MethodName := ⟨RX6, "sleep", "(I)I"⟩
abbrev cX6_lie : ByteArray := prog_1_method_8_code
def yX6_lie : MethodName := ⟨RX6, "lie", "(IIII)I"⟩
abbrev cX6_merge : ByteArray := prog_1_method_9_code
def yX6_merge : MethodName := ⟨RX6, "merge", "(I)I"⟩
abbrev cX6_steal : ByteArray := prog_1_method_10_code
def yX6_steal : MethodName := ⟨RX6, "steal", "(III)I"⟩
abbrev cX6_pass : ByteArray := prog_1_method_11_code
def yX6_pass : MethodName := ⟨RX6, "pass", "(I)I"⟩
abbrev cX6_of : ByteArray := prog_1_method_12_code
def yX6_of : MethodName := ⟨RX6, "of", "(III)I"⟩
abbrev cX6_ofSecret : ByteArray := prog_1_method_13_code
def yX6_ofSecret : MethodName := ⟨RX6, "ofSecret", "(II)I"⟩
abbrev cX6_old : ByteArray := prog_1_method_14_code
def yX6_old : MethodName := ⟨RX6, "old", "(III)I"⟩
abbrev cX6_count : ByteArray := prog_1_method_15_code
def yX6_count : MethodName := ⟨RX6, "count", "(I)I"⟩
abbrev cX6_otherwise : ByteArray := prog_1_method_16_code
def yX6_otherwise : MethodName := ⟨RX6, "otherwise", "(III)I"⟩
abbrev cX6_passing : ByteArray := prog_1_method_17_code
def yX6_passing : MethodName := ⟨RX6, "passing", "(III)I"⟩
abbrev cX6_passes : ByteArray := prog_1_method_18_code
def yX6_passes : MethodName := ⟨RX6, "passes", "(III)I"⟩
abbrev cX6_needed : ByteArray := prog_1_method_19_code
def yX6_needed : MethodName := ⟨RX6, "needed", "(I)I"⟩
abbrev cX6_atRisk : ByteArray := prog_1_method_20_code
def yX6_atRisk : MethodName := ⟨RX6, "atRisk", "(I)I"⟩
abbrev cX6_ifMerged : ByteArray := prog_1_method_21_code
def yX6_ifMerged : MethodName := ⟨RX6, "ifMerged", "(I)I"⟩
abbrev cX6_undo : ByteArray := prog_1_method_26_code
def yX6_undo : MethodName := ⟨RX6, "undo", "()I"⟩
abbrev cX6_recorded : ByteArray := prog_1_method_29_code
def yX6_recorded : MethodName := ⟨RX6, "recorded", "(I)I"⟩
abbrev cX6_isStore : ByteArray := prog_1_method_33_code
def yX6_isStore : MethodName := ⟨RX6, "isStore", "(I)Z"⟩
abbrev cX6_isPart : ByteArray := prog_1_method_34_code
def yX6_isPart : MethodName := ⟨RX6, "isPart", "(I)Z"⟩
abbrev cX6_isTag : ByteArray := prog_1_method_35_code
def yX6_isTag : MethodName := ⟨RX6, "isTag", "(I)Z"⟩
def RX7 : String := "SplitSecretsModel"
def TX7 : u_T := fun k => match k with
  | _ => ("", "", "", false)
def tyX7 : Nat → FieldType := fun k => match k with
  | _ => .int
theorem nmX7 : ∀ a, a < 0 → ∀ b, b < 0 → a ≠ b → (TX7 a).2.1 ≠ (TX7 b).2.1 := by decide +kernel
theorem tyX7_ok : ∀ k, k < 0 → parseFieldDescriptor (TX7 k).2.2.1 = some (tyX7 k) := by decide +kernel
def RJ9 : String := "java/lang/Math"
abbrev cJ9_floorMod_7cf53 : ByteArray := prog_10_method_50_code
def yJ9_floorMod_7cf53 : MethodName := ⟨RJ9, "floorMod", "(II)I"⟩
abbrev cJ9_max_7cf53 : ByteArray := prog_10_method_65_code
def yJ9_max_7cf53 : MethodName := ⟨RJ9, "max", "(II)I"⟩
abbrev cJ9_min_7cf53 : ByteArray := prog_10_method_69_code
def yJ9_min_7cf53 : MethodName := ⟨RJ9, "min", "(II)I"⟩
def RL : String := "SplitSecretsLaw"
abbrev cL_cell : ByteArray := method_2_code
def yL_cell : MethodName := ⟨RL, "cell", "([II)I"⟩
abbrev cL_low : ByteArray := method_3_code
def yL_low : MethodName := ⟨RL, "low", "(II)I"⟩
abbrev cL_change : ByteArray := method_4_code
def yL_change : MethodName := ⟨RL, "change", "(LSplitSecrets;[IIII)I"⟩
abbrev cL_isStore : ByteArray := method_5_code
def yL_isStore : MethodName := ⟨RL, "isStore", "(LSplitSecrets;II)Z"⟩
abbrev cL_isCaught : ByteArray := method_6_code
def yL_isCaught : MethodName := ⟨RL, "isCaught", "(LSplitSecrets;II)Z"⟩
abbrev cL_isSecret : ByteArray := method_7_code
def yL_isSecret : MethodName := ⟨RL, "isSecret", "(LSplitSecrets;II)Z"⟩
abbrev cL_holds : ByteArray := method_8_code
def yL_holds : MethodName := ⟨RL, "holds", "(LSplitSecrets;[I)Z"⟩
abbrev cL_law : ByteArray := code
def yL_law : MethodName := ⟨RL, "law", "([I)Z"⟩
abbrev vwCl : List vw_C := [(RX0, TX0, 7), (RX1, TX1, 3), (RX2, TX2, 2), (RX3, TX3, 7), (RX4, TX4, 10), (RX5, TX5, 10), (RX6, TX6, 6)]
end
section
/-! THE PICTURE: every cell that the run makes has a name (kind, t, j, b); a heap is a function from names to ints (hp), and from names to names (rp). V is the judgement of a method's walk in these words alone. -/
abbrev A4 : Type := Nat × Nat × Nat × Nat
abbrev Vv : Type := Int32 ⊕ (Int64 ⊕ Option A4)
abbrev vI (x : Int32) : Vv := Sum.inl x
abbrev vJ (x : Int64) : Vv := Sum.inr (Sum.inl x)
abbrev vR (a : A4) : Vv := Sum.inr (Sum.inr (some a))
abbrev vN : Vv := Sum.inr (Sum.inr none)
abbrev RPt : Type := A4 → Nat → Option A4
abbrev HPt : Type := A4 → Nat → Int32
/-- ghosts: class numbers, array class numbers, the first address, the addresses of the arrays that nobody writes (0 the script, 1 LEAST, 2 MOST), their lengths and contents -/
abbrev Gh : Type := va_G × (Nat → ClassId) × Nat × (Nat → Nat) × (Nat → Nat × (Nat → Int32))
/-- a kind's class -/
def okd : Nat → Option Nat := fun k => match k with
  | 0 => some 5
  | 4 => some 4
  | 5 => some 0
  | 8 => some 1
  | 12 => some 2
  | 14 => some 3
  | 15 => some 6
  | _ => none
/-- a kind's array of numbers: type (0 int, 1 boolean, 2 char), length -/
def akd : Nat → Option (Nat × Nat) := fun k => match k with
  | 2 => some (0, 3)
  | 3 => some (1, 2)
  | 6 => some (0, 5)
  | 7 => some (1, 5)
  | 11 => some (1, 2)
  | 13 => some (2, 80)
  | 16 => some (0, 8)
  | _ => none
/-- a kind's array of references: type (3 Stores, 4 Secret), length -/
def rkd : Nat → Option (Nat × Nat) := fun k => match k with
  | 1 => some (4, 8)
  | 9 => some (3, 7)
  | 10 => some (3, 2)
  | _ => none
/-- which fields hold references -/
def rfT : Nat → Nat → Bool := fun c i => match c with
  | 0 => Nat.blt i 2
  | 1 => Nat.beq i 0
  | 2 => Nat.beq i 0
  | 3 => Nat.beq i 0
  | 4 => Nat.blt i 2
  | 5 => Nat.blt i 3
  | _ => true
def nfT : Nat → Nat := fun c => match c with
  | 0 => 7
  | 1 => 3
  | 2 => 2
  | 3 => 7
  | 4 => 10
  | 5 => 10
  | _ => 6
def tyT : Nat → Nat → FieldType := fun c => match c with
  | 0 => tyX0
  | 1 => tyX1
  | 2 => tyX2
  | 3 => tyX3
  | 4 => tyX4
  | 5 => tyX5
  | _ => tyX6
def baseT (t : Nat) : Nat := if t = 0 then 1 else if t < 8 then 3 + 60 * t else 4 + 60 * t
/-- a name's place in the order of making -/
def pos (a : A4) : Nat := match a with
  | (k, t, j, b) => if k < 4 then baseT t + k else if k = 4 then baseT t + 4 + 7 * j else if k < 8 then baseT t + 7 * j + 3 * b + k else if k = 8 then 61 else if k = 9 then 62 else if k = 10 then 483 else if k < 15 then k + 593 else if k = 15 then 0 else k + 592
def stn (t o : Nat) : A4 := if o < 4 then (o, t, 0, 0) else if (o - 4) % 7 = 0 then (4, t, (o - 4) / 7, 0) else (5 + ((o - 4) % 7 - 1) % 3, t, (o - 4) / 7, ((o - 4) % 7 - 1) / 3)
/-- the name at a place -/
def nm (i : Nat) : A4 := if i = 0 then (15, 0, 0, 0) else if i < 61 then stn 0 (i - 1) else if i = 61 then (8, 0, 0, 0) else if i = 62 then (9, 0, 0, 0) else if i < 483 then stn ((i - 3) / 60) ((i - 3) % 60) else if i = 483 then (10, 0, 0, 0) else if i < 604 then stn ((i - 4) / 60) ((i - 4) % 60) else if i < 608 then (i - 593, 0, 0, 0) else (i - 592, 0, 0, 0)
theorem pos_nm : ∀ i, i < 609 → pos (nm i) = i := by decide +kernel
theorem nm_24 : ∀ i, i < 609 → (nm i).1 ≠ 24 := by decide +kernel
/-- the name is made already, when n are -/
def lvp (n : Nat) (a : A4) : Prop := nm (pos a) = a ∧ pos a < n
def al (g : Gh) (a : A4) : Nat := if a.1 = 24 then g.2.2.2.1 a.2.1 else g.2.2.1 + pos a
def trv (g : Gh) : Vv → Value := fun v => match v with
  | .inl x => .int x
  | .inr (.inl x) => .long x
  | .inr (.inr o) => va_rf (o.map (al g))
def cn (g : Gh) (rp : RPt) (hp : HPt) (a : A4) : va_E := match okd a.1 with
  | some ci => .inr (ci, (List.range (nfT ci)).map (fun i => if rfT ci i = true then va_rf ((rp a i).map (al g)) else .int (hp a i)))
  | none => match akd a.1 with
    | some (t, len) => .inl (g.2.1 t, len, .inl (hp a))
    | none => match rkd a.1 with
      | some (t, len) => .inl (g.2.1 t, len, .inr (.inr (.inr (.inr (fun i => (rp a i).map (al g))))))
      | none => .inl (0, 0, .inl (fun _ => 0))
def wl (g : Gh) (n : Nat) (rp : RPt) (hp : HPt) : va_W := (List.range n).map (fun i => (g.2.2.1 + i, cn g rp hp (nm i)))
def Af (g : Gh) : Nat → Prop := fun q => g.2.2.1 ≤ q
def tysF (g : Gh) : List (ClassId × FieldType) := [(g.2.1 0, .int), (g.2.1 1, .boolean), (g.2.1 2, .char), (g.2.1 3, .object RX5), (g.2.1 4, .object RX4)]
theorem lvp_al {g : Gh} {n : Nat} {a : A4} (hn : n ≤ 609) (h : lvp n a) : al g a = g.2.2.1 + pos a := by
  have h1 := nm_24 (pos a) (Nat.lt_of_lt_of_le h.2 hn)
  rw [h.1] at h1
  unfold al
  rw [if_neg h1]
theorem wl_get {g : Gh} {n : Nat} {rp : RPt} {hp : HPt} {a : A4} (hn : n ≤ 609) (h : lvp n a) : (wl g n rp hp)[pos a]? = some (al g a, cn g rp hp a) := by
  unfold wl
  rw [List.getElem?_map, List.getElem?_range h.2, Option.map_some, h.1, lvp_al hn h]
theorem wl_D {g : Gh} {n : Nat} {rp : RPt} {hp : HPt} : va_D (Af g) (wl g n rp hp) := by
  have key : ∀ (k : Nat) (q : Nat × va_E), (wl g n rp hp)[k]? = some q → q.1 = g.2.2.1 + k := by
    intro k q h
    unfold wl at h
    rw [List.getElem?_map] at h
    by_cases hk : k < n
    · rw [List.getElem?_range hk, Option.map_some] at h
      cases h
      rfl
    · rw [List.getElem?_eq_none (by rw [List.length_range]; omega), Option.map_none] at h
      cases h
  refine ⟨fun i j p q hi hj hpq => ?_, fun k q hk => ?_⟩
  · rw [key i p hi, key j q hj] at hpq
    omega
  · rw [key k q hk]
    exact Nat.le_add_right _ _
theorem wl_cong {g : Gh} {n : Nat} {rp rp' : RPt} {hp hp' : HPt} (h : ∀ i, i < n → cn g rp hp (nm i) = cn g rp' hp' (nm i)) : wl g n rp hp = wl g n rp' hp' := by
  unfold wl
  refine List.map_congr_left (fun i hi => ?_)
  rw [h i (List.mem_range.mp hi)]
theorem cn_cong {g : Gh} {rp rp' : RPt} {hp hp' : HPt} {a : A4} (h1 : rp a = rp' a) (h2 : hp a = hp' a) : cn g rp hp a = cn g rp' hp' a := by
  unfold cn
  rw [h1, h2]
theorem wl_set {g : Gh} {n : Nat} {rp rp' : RPt} {hp hp' : HPt} {a : A4} (hn : n ≤ 609) (h : lvp n a) (hrp : ∀ b, b ≠ a → rp b = rp' b) (hhp : ∀ b, b ≠ a → hp b = hp' b) : (wl g n rp hp).set (pos a) (al g a, cn g rp' hp' a) = wl g n rp' hp' := by
  refine List.ext_getElem? (fun i => ?_)
  by_cases hi : i = pos a
  · subst hi
    rw [List.getElem?_set_self (by unfold wl; rw [List.length_map, List.length_range]; exact h.2), wl_get hn h]
  · rw [List.getElem?_set_ne (Ne.symm hi)]
    unfold wl
    rw [List.getElem?_map, List.getElem?_map]
    by_cases hk : i < n
    · rw [List.getElem?_range hk, Option.map_some, Option.map_some]
      have hne : nm i ≠ a := by
        intro q
        have h1 := pos_nm i (by omega)
        rw [q] at h1
        exact hi h1.symm
      rw [cn_cong (hrp _ hne) (hhp _ hne)]
    · rw [List.getElem?_eq_none (by rw [List.length_range]; omega), Option.map_none, Option.map_none]
theorem wl_push {g : Gh} {n : Nat} {rp : RPt} {hp : HPt} : wl g (n + 1) rp hp = wl g n rp hp ++ [(g.2.2.1 + n, cn g rp hp (nm n))] := by
  unfold wl
  rw [List.range_succ, List.map_append]
  rfl
/-- the tables' words that hold everywhere -/
def lw_good : List Cond := lw_tbl.filter goodWord
def isNest : Cond → Bool
  | .fieldLinkNest .. => true
  | .methodLinkNest .. => true
  | _ => false
def lw_nest : List Cond := lw_tbl.filter isNest
theorem gd_i {w : Cond} (i : Nat) (h : lw_tbl[i]? = some w) (hg : goodWord w = true) : w ∈ lw_good := List.mem_filter.mpr ⟨List.mem_of_getElem? h, hg⟩
theorem ns_i {w : Cond} (i : Nat) (h : lw_tbl[i]? = some w) (hg : isNest w = true) : w ∈ lw_nest := List.mem_filter.mpr ⟨List.mem_of_getElem? h, hg⟩
theorem gd_ok {w : Cond} (h : w ∈ lw_good) : (w.onTables && w.keeps) = true ∨ ∃ ty, w = .arrayClass ty := good_of_word (List.mem_filter.mp h).2
/-- what a state's tables, and the arrays that nobody writes, are -/
def SX (g : Gh) (U : State) : Prop := va_K (g.1.1, g.1.2) vwCl (tysF g) U ∧ (∀ w ∈ lw_nest, va_Nw w U) ∧ (va_AO RX5 U ∧ va_AO RX4 U) ∧ va_Z "SplitSecrets" "LEAST_OF_SETTING" "[I" (.ref (g.2.2.2.1 1)) (Af g) U U.heap ∧ va_Z "SplitSecrets" "MOST_OF_SETTING" "[I" (.ref (g.2.2.2.1 2)) (Af g) U U.heap ∧ ∀ t, t < 3 → va_T .int (g.2.2.2.1 t) (g.2.2.2.2 t).1 (fun j => .int ((g.2.2.2.2 t).2 j)) (Af g) U U.heap
theorem SX.same {g : Gh} {u U : State} (h : SX g u) (hvm : u.vm = U.vm) (hh : u.heap = U.heap) : SX g U := by
  obtain ⟨h1, h2, h3, h4, h5, h6⟩ := h
  have ha : u.vm.Alike U.vm := by rw [hvm]; exact Vm.Alike.refl _
  refine ⟨va_K.moved ha h1, fun w hw => ?_, ⟨h3.1.moved ha, h3.2.moved ha⟩, ?_, ?_, fun t ht => ?_⟩
  · have hn := (List.mem_filter.mp hw).2
    refine va_Nw.same ?_ hvm (h2 w hw)
    cases w <;> first | rfl | (exact absurd hn (by decide)) | (simp [isNest] at hn)
  · rw [← hh]; exact va_Z.moved ha h4
  · rw [← hh]; exact va_Z.moved ha h5
  · rw [← hh]; exact va_T.moved ha (h6 t ht)
theorem SX.warm {g : Gh} {u U : State} {H : Heap} {locs : List Loc} (h : SX g u) (hS : va_S (Af g) u.heap H locs) (hU : U.heap = H) (hW : u.WarmedH U.vm) : SX g U := by
  obtain ⟨h1, h2, h3, h4, h5, h6⟩ := h
  have ha : u.vm.Alike U.vm := hW.alike
  refine ⟨va_K.moved ha h1, fun w hw => ?_, ⟨h3.1.moved ha, h3.2.moved ha⟩, ?_, ?_, fun t ht => ?_⟩
  · have hn := (List.mem_filter.mp hw).2
    have hw2 := h2 w hw
    cases w with
    | fieldLinkNest a i b n d h => exact va_Nw.warmF hW hw2
    | methodLinkNest a i x h => exact va_Nw.warmM hW hw2
    | _ => simp [isNest] at hn
  · rw [hU]; exact (va_Z.moved ha h4).kept hS.2.1
  · rw [hU]; exact (va_Z.moved ha h5).kept hS.2.1
  · rw [hU]; exact (va_T.moved ha (h6 t ht)).kept hS.2.1
/-- a method: name, code, locals, answer; frames and words below it -/
abbrev Md : Type := MethodName × ByteArray × Nat × Option FieldType × Nat × Nat
abbrev mY (M : Md) : MethodName := M.1
abbrev mK (M : Md) : String := M.1.cls
abbrev mC (M : Md) : ByteArray := M.2.1
abbrev mL (M : Md) : Nat := M.2.2.1
abbrev mR (M : Md) : Option FieldType := M.2.2.2.1
abbrev mF (M : Md) : Nat := M.2.2.2.2.1
abbrev mW (M : Md) : Nat := M.2.2.2.2.2
def HX (g : Gh) (n : Nat) (rp : RPt) (hp : HPt) (H : Heap) : Prop := va_P (g.1.1, g.1.2) vwCl (wl g n rp hp) H ∧ H.size = g.2.2.1 + n ∧ n ≤ 609
def CX (g : Gh) (M : Md) (mc ms : Nat) (p : Program) (R : Room) (s : State) (m : MethodId) (args : Array Value) (meth : Method) (c : Code) : Prop :=
  p.tables.exec = Jvm.exec ∧ c.code = mC M ∧ meth.sig.returnType = mR M ∧ c.maxLocals = mL M ∧ s.vm.findClass (mK M) = some m.cls ∧ (∀ w ∈ lw_good, w.before args s = true) ∧ meth.locks = false ∧ meth.name = (mY M).name ∧ SX g s ∧ (mF M ≤ R.frames ∧ mW M ≤ R.locals ∧ mc ≤ R.cells ∧ ms ≤ R.slots) ∧ g.2.2.1 ≤ s.heap.size
def cvL (g : Gh) (L : List (Option Vv)) : List (Nat × Value) := (List.range L.length).filterMap (fun i => (L.getD i none).map (fun v => (i, trv g v)))
/-- an end: what lies on the stack, at a return -/
def RTt (M : Md) (v : Option Vv) (pc : Nat) : Prop :=
  (v = none ∧ mR M = none ∧ decode (mC M) pc = .ok (.return_, 1)) ∨ (∃ (x : Int32) (ty : FieldType), v = some (vI x) ∧ mR M = some ty ∧ narrow ty (.int x) = .int x ∧ decode (mC M) pc = .ok (.ireturn, 1)) ∨ ∃ (a : A4) (C : String), v = some (vR a) ∧ mR M = some (.object C) ∧ decode (mC M) pc = .ok (.areturn, 1)
abbrev Pst : Type := Option Vv → Nat → RPt → HPt → Prop
/-- THE JUDGEMENT: the method M, with cu cells and su slots of its mc, ms used, n cells made, at pc, with locals L and stack st, ends with Post -/
def V (g : Gh) (M : Md) (mc ms cu su n pc : Nat) (L : List (Option Vv)) (st : List Vv) (rp : RPt) (hp : HPt) (Post : Pst) : Prop :=
  ∀ (p : Program) (l : Launch) (e : Env) (R : Room) (s : State) (m : MethodId) (args : Array Value) (below : List Frame) (meth : Method) (c : Code) (Q : State → Prop),
    CX g M mc ms p R s m args meth c →
    (∀ (v : Option Vv) (n' cu' su' : Nat) (rp' : RPt) (hp' : HPt) (H' : Heap) (locs' : List Loc) (LS' : Array Slot) (pc' : Nat), Post v n' rp' hp' → cu' ≤ mc → su' ≤ ms → HX g n' rp' hp' H' → va_S (Af g) s.heap H' locs' → RTt M v pc' →
      W p l e R s m args below meth c H' locs' cu' su' Q (F0 m pc' LS' (v.toList.map (trv g)))) →
    ∀ (H : Heap) (locs : List Loc) (LS : Array Slot), HX g n rp hp H → va_S (Af g) s.heap H locs → lv_has LS (mL M) (cvL g L) → W p l e R s m args below meth c H locs cu su Q (F0 m pc LS (st.map (trv g)))
theorem cvL_mem {g : Gh} {L : List (Option Vv)} {q : Nat × Value} : q ∈ cvL g L ↔ ∃ v, L[q.1]? = some (some v) ∧ q.2 = trv g v := by
  unfold cvL
  rw [List.mem_filterMap]
  constructor
  · rintro ⟨i, hi, h⟩
    have hi := List.mem_range.mp hi
    rw [List.getD_eq_getElem?_getD] at h
    cases hv : L[i]? with
    | none => rw [hv] at h; simp at h
    | some o =>
      cases o with
      | none => rw [hv] at h; simp at h
      | some v =>
        rw [hv] at h
        simp at h
        subst h
        exact ⟨v, hv, rfl⟩
  · rintro ⟨v, h1, h2⟩
    refine ⟨q.1, List.mem_range.mpr (List.getElem?_eq_some_iff.mp h1).1, ?_⟩
    rw [List.getD_eq_getElem?_getD, h1]
    simp
    rw [← h2]
theorem cvL_at {g : Gh} {L : List (Option Vv)} {LS : Array Slot} {nL i : Nat} {v : Vv} (h : lv_has LS nL (cvL g L)) (hv : L[i]? = some (some v)) : LS[i]? = some (.val (trv g v)) := h.2.2 (i, trv g v) (cvL_mem.mpr ⟨v, hv, rfl⟩)
/-- no long lies just below a place -/
def lnl (L : List (Option Vv)) (i : Nat) : Bool := match i with
  | 0 => true
  | k + 1 => match L[k]? with
    | some (some (.inr (.inl _))) => false
    | _ => true
theorem cvL_set {g : Gh} {L : List (Option Vv)} {LS : Array Slot} {nL i : Nat} {v : Vv} (hln : lnl L i = true) (h : lv_has LS nL ((i, trv g v) :: (cvL g L).filter (fun q => !(q.1 == i) && !(q.1 + 1 == i && q.2.category == 2)))) : lv_has LS nL (cvL g (L.set i (some v))) := by
  refine ⟨h.1, h.2.1, fun q hq => ?_⟩
  obtain ⟨w, h1, h2⟩ := cvL_mem.mp hq
  by_cases hi : q.1 = i
  · have hlt : i < L.length := by
      have := (List.getElem?_eq_some_iff.mp h1).1
      rw [List.length_set] at this
      omega
    rw [hi, List.getElem?_set_self hlt] at h1
    cases h1
    have h3 := h.2.2 (i, trv g v) List.mem_cons_self
    obtain ⟨q1, q2⟩ := q
    subst hi
    subst h2
    exact h3
  · rw [List.getElem?_set_ne (Ne.symm hi)] at h1
    refine h.2.2 q (List.mem_cons_of_mem _ (List.mem_filter.mpr ⟨cvL_mem.mpr ⟨w, h1, h2⟩, ?_⟩))
    have h4 : ¬ (q.1 + 1 = i ∧ q.2.category = 2) := by
      rintro ⟨e1, e2⟩
      rw [← e1] at hln
      dsimp only [lnl] at hln
      rw [h1] at hln
      rw [h2] at e2
      rcases w with x | x | x
      · simp [trv, Value.category] at e2
      · simp at hln
      · cases x <;> simp [trv, va_rf, Value.category] at e2
    simp only [Bool.and_eq_true, Bool.not_eq_true', beq_eq_false_iff_ne, ne_eq, Bool.and_eq_false_iff]
    refine ⟨hi, ?_⟩
    rcases Nat.decEq (q.1 + 1) i with z | z
    · exact Or.inl z
    · exact Or.inr (fun y => h4 ⟨z, y⟩)
end
section
section RW
variable {g : Gh} {M : Md} {mc ms cu su n pc : Nat} {L : List (Option Vv)} {st : List Vv} {rp : RPt} {hp : HPt} {P : Pst}
theorem r_iconst {i : Int} {v : Int32} (hd : decode (mC M) pc = .ok (.iconst i, 1)) (hv : Int32.ofInt i = v) (k : V g M mc ms cu su n (pc + 1) L (vI v :: st) rp hp P) : V g M mc ms cu su n pc L (st) rp hp P := by
  intro p l e R s m args below meth c Q C RT H locs LS hH hS hl
  exact lv_iconst C.1 C.2.1 hd hv (k p l e R s m args below meth c Q C RT H locs LS hH hS hl)
theorem r_bipush {i : Int} {v : Int32} (hd : decode (mC M) pc = .ok (.bipush i, 2)) (hv : (Int8.ofInt i).toInt32 = v) (k : V g M mc ms cu su n (pc + 2) L (vI v :: st) rp hp P) : V g M mc ms cu su n pc L (st) rp hp P := by
  intro p l e R s m args below meth c Q C RT H locs LS hH hS hl
  exact lv_bipush C.1 C.2.1 hd hv (k p l e R s m args below meth c Q C RT H locs LS hH hS hl)
theorem r_sipush {i : Int} {v : Int32} (hd : decode (mC M) pc = .ok (.sipush i, 3)) (hv : (Int16.ofInt i).toInt32 = v) (k : V g M mc ms cu su n (pc + 3) L (vI v :: st) rp hp P) : V g M mc ms cu su n pc L (st) rp hp P := by
  intro p l e R s m args below meth c Q C RT H locs LS hH hS hl
  exact lv_sipush C.1 C.2.1 hd hv (k p l e R s m args below meth c Q C RT H locs LS hH hS hl)
theorem r_lconst {i : Fin 2} {v : Int64} (hd : decode (mC M) pc = .ok (.lconst i, 1)) (hv : Int64.ofNat (i : Nat) = v) (k : V g M mc ms cu su n (pc + 1) L (vJ v :: st) rp hp P) : V g M mc ms cu su n pc L (st) rp hp P := by
  intro p l e R s m args below meth c Q C RT H locs LS hH hS hl
  exact lv_lconst C.1 C.2.1 hd hv (k p l e R s m args below meth c Q C RT H locs LS hH hS hl)
theorem r_ldc {i : Nat} {v : Int32} (hd : decode (mC M) pc = .ok (.ldc i, 2)) (hw : Jvm.Cond.constant (mK M) i v ∈ lw_good) (k : V g M mc ms cu su n (pc + 2) L (vI v :: st) rp hp P) : V g M mc ms cu su n pc L (st) rp hp P := by
  intro p l e R s m args below meth c Q C RT H locs LS hH hS hl
  exact lv_ldc C.1 C.2.1 C.2.2.2.2.1 (C.2.2.2.2.2.1 _ hw) hd (k p l e R s m args below meth c Q C RT H locs LS hH hS hl)
theorem r_ldc2 {i : Nat} {v : Int64} (hd : decode (mC M) pc = .ok (.ldc2_w i, 3)) (hw : Jvm.Cond.constantLong (mK M) i v ∈ lw_good) (k : V g M mc ms cu su n (pc + 3) L (vJ v :: st) rp hp P) : V g M mc ms cu su n pc L (st) rp hp P := by
  intro p l e R s m args below meth c Q C RT H locs LS hH hS hl
  exact lv_ldc2 C.1 C.2.1 C.2.2.2.2.1 (C.2.2.2.2.2.1 _ hw) hd (k p l e R s m args below meth c Q C RT H locs LS hH hS hl)
theorem r_iload_n {j : Fin 4} {i : Nat} {x : Int32} (hd : decode (mC M) pc = .ok (.iload_n j, 1)) (hi : (j : Nat) = i) (hv : L[i]? = some (some (vI x))) (k : V g M mc ms cu su n (pc + 1) L (vI x :: st) rp hp P) : V g M mc ms cu su n pc L (st) rp hp P := by
  intro p l e R s m args below meth c Q C RT H locs LS hH hS hl
  exact lv_iload_n C.1 C.2.1 hd hi (cvL_at hl hv) (k p l e R s m args below meth c Q C RT H locs LS hH hS hl)
theorem r_iload {i : Nat} {x : Int32} (hd : decode (mC M) pc = .ok (.iload i, 2)) (hv : L[i]? = some (some (vI x))) (k : V g M mc ms cu su n (pc + 2) L (vI x :: st) rp hp P) : V g M mc ms cu su n pc L (st) rp hp P := by
  intro p l e R s m args below meth c Q C RT H locs LS hH hS hl
  exact lv_iload C.1 C.2.1 hd (cvL_at hl hv) (k p l e R s m args below meth c Q C RT H locs LS hH hS hl)
theorem r_aload_n {j : Fin 4} {i : Nat} {x : A4} (hd : decode (mC M) pc = .ok (.aload_n j, 1)) (hi : (j : Nat) = i) (hv : L[i]? = some (some (vR x))) (k : V g M mc ms cu su n (pc + 1) L (vR x :: st) rp hp P) : V g M mc ms cu su n pc L (st) rp hp P := by
  intro p l e R s m args below meth c Q C RT H locs LS hH hS hl
  exact lv_aload_n C.1 C.2.1 hd hi (cvL_at hl hv) (k p l e R s m args below meth c Q C RT H locs LS hH hS hl)
theorem r_aload {i : Nat} {x : A4} (hd : decode (mC M) pc = .ok (.aload i, 2)) (hv : L[i]? = some (some (vR x))) (k : V g M mc ms cu su n (pc + 2) L (vR x :: st) rp hp P) : V g M mc ms cu su n pc L (st) rp hp P := by
  intro p l e R s m args below meth c Q C RT H locs LS hH hS hl
  exact lv_aload C.1 C.2.1 hd (cvL_at hl hv) (k p l e R s m args below meth c Q C RT H locs LS hH hS hl)
theorem r_lload_n {j : Fin 4} {i : Nat} {x : Int64} (hd : decode (mC M) pc = .ok (.lload_n j, 1)) (hi : (j : Nat) = i) (hv : L[i]? = some (some (vJ x))) (k : V g M mc ms cu su n (pc + 1) L (vJ x :: st) rp hp P) : V g M mc ms cu su n pc L (st) rp hp P := by
  intro p l e R s m args below meth c Q C RT H locs LS hH hS hl
  exact lv_lload_n C.1 C.2.1 hd hi (cvL_at hl hv) (k p l e R s m args below meth c Q C RT H locs LS hH hS hl)
theorem r_istore_n {j : Fin 4} {i : Nat} {x : Int32} {L2 : List (Option Vv)} (hd : decode (mC M) pc = .ok (.istore_n j, 1)) (hi : (j : Nat) = i) (hn : i < mL M) (hln : lnl L i = true) (hL : L.set i (some (vI x)) = L2) (k : V g M mc ms cu su n (pc + 1) L2 st rp hp P) : V g M mc ms cu su n pc L (vI x :: st) rp hp P := by
  subst hL
  intro p l e R s m args below meth c Q C RT H locs LS hH hS hl
  exact lv_istore_n C.1 C.2.1 hd hi hl hn rfl (fun LS' hl' => k p l e R s m args below meth c Q C RT H locs LS' hH hS (cvL_set (v := vI x) hln hl'))
theorem r_istore {i : Nat} {x : Int32} {L2 : List (Option Vv)} (hd : decode (mC M) pc = .ok (.istore i, 2)) (hn : i < mL M) (hln : lnl L i = true) (hL : L.set i (some (vI x)) = L2) (k : V g M mc ms cu su n (pc + 2) L2 st rp hp P) : V g M mc ms cu su n pc L (vI x :: st) rp hp P := by
  subst hL
  intro p l e R s m args below meth c Q C RT H locs LS hH hS hl
  exact lv_istore C.1 C.2.1 hd hl hn rfl (fun LS' hl' => k p l e R s m args below meth c Q C RT H locs LS' hH hS (cvL_set (v := vI x) hln hl'))
theorem r_astore_n {j : Fin 4} {i : Nat} {x : A4} {L2 : List (Option Vv)} (hd : decode (mC M) pc = .ok (.astore_n j, 1)) (hi : (j : Nat) = i) (hn : i < mL M) (hln : lnl L i = true) (hL : L.set i (some (vR x)) = L2) (k : V g M mc ms cu su n (pc + 1) L2 st rp hp P) : V g M mc ms cu su n pc L (vR x :: st) rp hp P := by
  subst hL
  intro p l e R s m args below meth c Q C RT H locs LS hH hS hl
  exact lv_astore_n C.1 C.2.1 hd hi hl hn rfl (fun LS' hl' => k p l e R s m args below meth c Q C RT H locs LS' hH hS (cvL_set (v := vR x) hln hl'))
theorem r_astore {i : Nat} {x : A4} {L2 : List (Option Vv)} (hd : decode (mC M) pc = .ok (.astore i, 2)) (hn : i < mL M) (hln : lnl L i = true) (hL : L.set i (some (vR x)) = L2) (k : V g M mc ms cu su n (pc + 2) L2 st rp hp P) : V g M mc ms cu su n pc L (vR x :: st) rp hp P := by
  subst hL
  intro p l e R s m args below meth c Q C RT H locs LS hH hS hl
  exact lv_astore C.1 C.2.1 hd hl hn rfl (fun LS' hl' => k p l e R s m args below meth c Q C RT H locs LS' hH hS (cvL_set (v := vR x) hln hl'))
theorem r_iinc {i : Nat} {j : Int} {x v : Int32} {L2 : List (Option Vv)} (hd : decode (mC M) pc = .ok (.iinc i j, 3)) (hx : L[i]? = some (some (vI x))) (hv : x + Int32.ofInt j = v) (hn : i < mL M) (hln : lnl L i = true) (hL : L.set i (some (vI v)) = L2) (k : V g M mc ms cu su n (pc + 3) L2 st rp hp P) : V g M mc ms cu su n pc L st rp hp P := by
  subst hL
  intro p l e R s m args below meth c Q C RT H locs LS hH hS hl
  obtain ⟨q, hq⟩ := List.getElem?_of_mem (cvL_mem (g := g) (L := L) (q := (i, .int x)) |>.mpr ⟨vI x, hx, rfl⟩)
  exact lv_iinc C.1 C.2.1 hd hl hq hv hn rfl (fun LS' hl' => k p l e R s m args below meth c Q C RT H locs LS' hH hS (cvL_set (v := vI v) hln hl'))
theorem r_iadd {x y : Int32} (hd : decode (mC M) pc = .ok (.iadd, 1)) (k : V g M mc ms cu su n (pc + 1) L (vI (x + y) :: st) rp hp P) : V g M mc ms cu su n pc L (vI y :: vI x :: st) rp hp P := by
  intro p l e R s m args below meth c Q C RT H locs LS hH hS hl
  exact lv_iadd C.1 C.2.1 hd (k p l e R s m args below meth c Q C RT H locs LS hH hS hl)
theorem r_isub {x y : Int32} (hd : decode (mC M) pc = .ok (.isub, 1)) (k : V g M mc ms cu su n (pc + 1) L (vI (x - y) :: st) rp hp P) : V g M mc ms cu su n pc L (vI y :: vI x :: st) rp hp P := by
  intro p l e R s m args below meth c Q C RT H locs LS hH hS hl
  exact lv_isub C.1 C.2.1 hd (k p l e R s m args below meth c Q C RT H locs LS hH hS hl)
theorem r_imul {x y : Int32} (hd : decode (mC M) pc = .ok (.imul, 1)) (k : V g M mc ms cu su n (pc + 1) L (vI (x * y) :: st) rp hp P) : V g M mc ms cu su n pc L (vI y :: vI x :: st) rp hp P := by
  intro p l e R s m args below meth c Q C RT H locs LS hH hS hl
  exact lv_imul C.1 C.2.1 hd (k p l e R s m args below meth c Q C RT H locs LS hH hS hl)
theorem r_iand {x y : Int32} (hd : decode (mC M) pc = .ok (.iand, 1)) (k : V g M mc ms cu su n (pc + 1) L (vI (x &&& y) :: st) rp hp P) : V g M mc ms cu su n pc L (vI y :: vI x :: st) rp hp P := by
  intro p l e R s m args below meth c Q C RT H locs LS hH hS hl
  exact lv_iand C.1 C.2.1 hd (k p l e R s m args below meth c Q C RT H locs LS hH hS hl)
theorem r_ior {x y : Int32} (hd : decode (mC M) pc = .ok (.ior, 1)) (k : V g M mc ms cu su n (pc + 1) L (vI (x ||| y) :: st) rp hp P) : V g M mc ms cu su n pc L (vI y :: vI x :: st) rp hp P := by
  intro p l e R s m args below meth c Q C RT H locs LS hH hS hl
  exact lv_ior C.1 C.2.1 hd (k p l e R s m args below meth c Q C RT H locs LS hH hS hl)
def jrem (x y : Int32) : Int32 := x - x / y * y
theorem r_irem {x y : Int32} (hd : decode (mC M) pc = .ok (.irem, 1)) (hne : ¬ y = 0) (k : V g M mc ms cu su n (pc + 1) L (vI (jrem x y) :: st) rp hp P) : V g M mc ms cu su n pc L (vI y :: vI x :: st) rp hp P := by
  intro p l e R s m args below meth c Q C RT H locs LS hH hS hl
  exact lv_irem C.1 C.2.1 hd hne (k p l e R s m args below meth c Q C RT H locs LS hH hS hl)
theorem r_idiv {x y : Int32} (hd : decode (mC M) pc = .ok (.idiv, 1)) (hne : ¬ y = 0) (k : V g M mc ms cu su n (pc + 1) L (vI (x / y) :: st) rp hp P) : V g M mc ms cu su n pc L (vI y :: vI x :: st) rp hp P := by
  intro p l e R s m args below meth c Q C RT H locs LS hH hS hl
  exact lv_idiv C.1 C.2.1 hd hne (k p l e R s m args below meth c Q C RT H locs LS hH hS hl)
theorem r_ishl {x y : Int32} (hd : decode (mC M) pc = .ok (.ishl, 1)) (k : V g M mc ms cu su n (pc + 1) L (vI (x <<< (y &&& 31)) :: st) rp hp P) : V g M mc ms cu su n pc L (vI y :: vI x :: st) rp hp P := by
  intro p l e R s m args below meth c Q C RT H locs LS hH hS hl
  exact lv_ishl C.1 C.2.1 hd (k p l e R s m args below meth c Q C RT H locs LS hH hS hl)
theorem r_ishr {x y : Int32} (hd : decode (mC M) pc = .ok (.ishr, 1)) (k : V g M mc ms cu su n (pc + 1) L (vI (x >>> (y &&& 31)) :: st) rp hp P) : V g M mc ms cu su n pc L (vI y :: vI x :: st) rp hp P := by
  intro p l e R s m args below meth c Q C RT H locs LS hH hS hl
  exact lv_ishr C.1 C.2.1 hd (k p l e R s m args below meth c Q C RT H locs LS hH hS hl)
theorem r_land {x y : Int64} (hd : decode (mC M) pc = .ok (.land, 1)) (k : V g M mc ms cu su n (pc + 1) L (vJ (x &&& y) :: st) rp hp P) : V g M mc ms cu su n pc L (vJ y :: vJ x :: st) rp hp P := by
  intro p l e R s m args below meth c Q C RT H locs LS hH hS hl
  exact lv_land C.1 C.2.1 hd (k p l e R s m args below meth c Q C RT H locs LS hH hS hl)
theorem r_lor {x y : Int64} (hd : decode (mC M) pc = .ok (.lor, 1)) (k : V g M mc ms cu su n (pc + 1) L (vJ (x ||| y) :: st) rp hp P) : V g M mc ms cu su n pc L (vJ y :: vJ x :: st) rp hp P := by
  intro p l e R s m args below meth c Q C RT H locs LS hH hS hl
  exact lv_lor C.1 C.2.1 hd (k p l e R s m args below meth c Q C RT H locs LS hH hS hl)
theorem r_lcmp {x y : Int64} (hd : decode (mC M) pc = .ok (.lcmp, 1)) (k : V g M mc ms cu su n (pc + 1) L (vI (lg_cmp x y) :: st) rp hp P) : V g M mc ms cu su n pc L (vJ y :: vJ x :: st) rp hp P := by
  intro p l e R s m args below meth c Q C RT H locs LS hH hS hl
  exact W.lcmp C.1 C.2.1 hd (k p l e R s m args below meth c Q C RT H locs LS hH hS hl)
theorem r_i2l {x : Int32} (hd : decode (mC M) pc = .ok (.i2l, 1)) (k : V g M mc ms cu su n (pc + 1) L (vJ x.toInt64 :: st) rp hp P) : V g M mc ms cu su n pc L (vI x :: st) rp hp P := by
  intro p l e R s m args below meth c Q C RT H locs LS hH hS hl
  exact lv_i2l C.1 C.2.1 hd rfl (k p l e R s m args below meth c Q C RT H locs LS hH hS hl)
theorem r_l2i {x : Int64} (hd : decode (mC M) pc = .ok (.l2i, 1)) (k : V g M mc ms cu su n (pc + 1) L (vI x.toInt32 :: st) rp hp P) : V g M mc ms cu su n pc L (vJ x :: st) rp hp P := by
  intro p l e R s m args below meth c Q C RT H locs LS hH hS hl
  exact lv_l2i C.1 C.2.1 hd rfl (k p l e R s m args below meth c Q C RT H locs LS hH hS hl)
theorem r_i2c {x : Int32} (hd : decode (mC M) pc = .ok (.i2c, 1)) (k : V g M mc ms cu su n (pc + 1) L (vI (x.toUInt32 % 65536).toInt32 :: st) rp hp P) : V g M mc ms cu su n pc L (vI x :: st) rp hp P := by
  intro p l e R s m args below meth c Q C RT H locs LS hH hS hl
  exact lv_i2c C.1 C.2.1 hd rfl (k p l e R s m args below meth c Q C RT H locs LS hH hS hl)
theorem r_lushr {x : Int64} {y : Int32} (hd : decode (mC M) pc = .ok (.lushr, 1)) (k : V g M mc ms cu su n (pc + 1) L (vJ (x.toUInt64 >>> (y.toInt64.toUInt64 &&& Int64.toUInt64 63)).toInt64 :: st) rp hp P) : V g M mc ms cu su n pc L (vI y :: vJ x :: st) rp hp P := by
  intro p l e R s m args below meth c Q C RT H locs LS hH hS hl
  exact lv_lushr C.1 C.2.1 hd rfl (k p l e R s m args below meth c Q C RT H locs LS hH hS hl)
theorem r_lshl {x : Int64} {y : Int32} (hd : decode (mC M) pc = .ok (.lshl, 1)) (k : V g M mc ms cu su n (pc + 1) L (vJ (x <<< (y.toInt64 &&& 63)) :: st) rp hp P) : V g M mc ms cu su n pc L (vI y :: vJ x :: st) rp hp P := by
  intro p l e R s m args below meth c Q C RT H locs LS hH hS hl
  exact lv_lshl C.1 C.2.1 hd rfl (k p l e R s m args below meth c Q C RT H locs LS hH hS hl)
theorem r_dup {a : Vv} (hd : decode (mC M) pc = .ok (.dup, 1)) (ha : (trv g a).category = 1) (k : V g M mc ms cu su n (pc + 1) L (a :: a :: st) rp hp P) : V g M mc ms cu su n pc L (a :: st) rp hp P := by
  intro p l e R s m args below meth c Q C RT H locs LS hH hS hl
  exact lv_dup C.1 C.2.1 hd ha (k p l e R s m args below meth c Q C RT H locs LS hH hS hl)
theorem r_pop {a : Vv} (hd : decode (mC M) pc = .ok (.pop, 1)) (ha : (trv g a).category = 1) (k : V g M mc ms cu su n (pc + 1) L (st) rp hp P) : V g M mc ms cu su n pc L (a :: st) rp hp P := by
  intro p l e R s m args below meth c Q C RT H locs LS hH hS hl
  exact lv_pop C.1 C.2.1 hd ha (k p l e R s m args below meth c Q C RT H locs LS hH hS hl)
theorem r_dup2 {a b : Vv} (hd : decode (mC M) pc = .ok (.dup2, 1)) (ha : (trv g a).category = 1) (hb : (trv g b).category = 1) (k : V g M mc ms cu su n (pc + 1) L (a :: b :: a :: b :: st) rp hp P) : V g M mc ms cu su n pc L (a :: b :: st) rp hp P := by
  intro p l e R s m args below meth c Q C RT H locs LS hH hS hl
  exact lv_dup2_11 C.1 C.2.1 hd ha hb (k p l e R s m args below meth c Q C RT H locs LS hH hS hl)
theorem r_if_eq {x : Int32} {off : Int} {tgt : Nat} (hd : decode (mC M) pc = .ok (.ifCond .eq off, 3)) (ht : (pc : Int) + off = (tgt : Int)) (kt : x = 0 → V g M mc ms cu su n tgt L st rp hp P) (kf : ¬ x = 0 → V g M mc ms cu su n (pc + 3) L st rp hp P) : V g M mc ms cu su n pc L (vI x :: st) rp hp P := by
  intro p l e R s m args below meth c Q C RT H locs LS hH hS hl
  exact lv_if_eq C.1 C.2.1 hd ht (fun h => kt h p l e R s m args below meth c Q C RT H locs LS hH hS hl) (fun h => kf h p l e R s m args below meth c Q C RT H locs LS hH hS hl)
theorem r_if_ne {x : Int32} {off : Int} {tgt : Nat} (hd : decode (mC M) pc = .ok (.ifCond .ne off, 3)) (ht : (pc : Int) + off = (tgt : Int)) (kt : ¬ x = 0 → V g M mc ms cu su n tgt L st rp hp P) (kf : x = 0 → V g M mc ms cu su n (pc + 3) L st rp hp P) : V g M mc ms cu su n pc L (vI x :: st) rp hp P := by
  intro p l e R s m args below meth c Q C RT H locs LS hH hS hl
  exact lv_if_ne C.1 C.2.1 hd ht (fun h => kt h p l e R s m args below meth c Q C RT H locs LS hH hS hl) (fun h => kf h p l e R s m args below meth c Q C RT H locs LS hH hS hl)
theorem r_if_lt {x : Int32} {off : Int} {tgt : Nat} (hd : decode (mC M) pc = .ok (.ifCond .lt off, 3)) (ht : (pc : Int) + off = (tgt : Int)) (kt : x < 0 → V g M mc ms cu su n tgt L st rp hp P) (kf : ¬ x < 0 → V g M mc ms cu su n (pc + 3) L st rp hp P) : V g M mc ms cu su n pc L (vI x :: st) rp hp P := by
  intro p l e R s m args below meth c Q C RT H locs LS hH hS hl
  exact lv_if_lt C.1 C.2.1 hd ht (fun h => kt h p l e R s m args below meth c Q C RT H locs LS hH hS hl) (fun h => kf h p l e R s m args below meth c Q C RT H locs LS hH hS hl)
theorem r_if_ge {x : Int32} {off : Int} {tgt : Nat} (hd : decode (mC M) pc = .ok (.ifCond .ge off, 3)) (ht : (pc : Int) + off = (tgt : Int)) (kt : 0 ≤ x → V g M mc ms cu su n tgt L st rp hp P) (kf : ¬ 0 ≤ x → V g M mc ms cu su n (pc + 3) L st rp hp P) : V g M mc ms cu su n pc L (vI x :: st) rp hp P := by
  intro p l e R s m args below meth c Q C RT H locs LS hH hS hl
  exact lv_if_ge C.1 C.2.1 hd ht (fun h => kt h p l e R s m args below meth c Q C RT H locs LS hH hS hl) (fun h => kf h p l e R s m args below meth c Q C RT H locs LS hH hS hl)
theorem r_if_gt {x : Int32} {off : Int} {tgt : Nat} (hd : decode (mC M) pc = .ok (.ifCond .gt off, 3)) (ht : (pc : Int) + off = (tgt : Int)) (kt : 0 < x → V g M mc ms cu su n tgt L st rp hp P) (kf : ¬ 0 < x → V g M mc ms cu su n (pc + 3) L st rp hp P) : V g M mc ms cu su n pc L (vI x :: st) rp hp P := by
  intro p l e R s m args below meth c Q C RT H locs LS hH hS hl
  exact lv_if_gt C.1 C.2.1 hd ht (fun h => kt h p l e R s m args below meth c Q C RT H locs LS hH hS hl) (fun h => kf h p l e R s m args below meth c Q C RT H locs LS hH hS hl)
theorem r_if_le {x : Int32} {off : Int} {tgt : Nat} (hd : decode (mC M) pc = .ok (.ifCond .le off, 3)) (ht : (pc : Int) + off = (tgt : Int)) (kt : x ≤ 0 → V g M mc ms cu su n tgt L st rp hp P) (kf : ¬ x ≤ 0 → V g M mc ms cu su n (pc + 3) L st rp hp P) : V g M mc ms cu su n pc L (vI x :: st) rp hp P := by
  intro p l e R s m args below meth c Q C RT H locs LS hH hS hl
  exact lv_if_le C.1 C.2.1 hd ht (fun h => kt h p l e R s m args below meth c Q C RT H locs LS hH hS hl) (fun h => kf h p l e R s m args below meth c Q C RT H locs LS hH hS hl)
theorem r_icmp_eq {x y : Int32} {off : Int} {tgt : Nat} (hd : decode (mC M) pc = .ok (.if_icmp .eq off, 3)) (ht : (pc : Int) + off = (tgt : Int)) (kt : x = y → V g M mc ms cu su n tgt L st rp hp P) (kf : ¬ x = y → V g M mc ms cu su n (pc + 3) L st rp hp P) : V g M mc ms cu su n pc L (vI y :: vI x :: st) rp hp P := by
  intro p l e R s m args below meth c Q C RT H locs LS hH hS hl
  exact lv_icmp_eq C.1 C.2.1 hd ht (fun h => kt h p l e R s m args below meth c Q C RT H locs LS hH hS hl) (fun h => kf h p l e R s m args below meth c Q C RT H locs LS hH hS hl)
theorem r_icmp_ne {x y : Int32} {off : Int} {tgt : Nat} (hd : decode (mC M) pc = .ok (.if_icmp .ne off, 3)) (ht : (pc : Int) + off = (tgt : Int)) (kt : ¬ x = y → V g M mc ms cu su n tgt L st rp hp P) (kf : x = y → V g M mc ms cu su n (pc + 3) L st rp hp P) : V g M mc ms cu su n pc L (vI y :: vI x :: st) rp hp P := by
  intro p l e R s m args below meth c Q C RT H locs LS hH hS hl
  exact lv_icmp_ne C.1 C.2.1 hd ht (fun h => kt h p l e R s m args below meth c Q C RT H locs LS hH hS hl) (fun h => kf h p l e R s m args below meth c Q C RT H locs LS hH hS hl)
theorem r_icmp_lt {x y : Int32} {off : Int} {tgt : Nat} (hd : decode (mC M) pc = .ok (.if_icmp .lt off, 3)) (ht : (pc : Int) + off = (tgt : Int)) (kt : x < y → V g M mc ms cu su n tgt L st rp hp P) (kf : ¬ x < y → V g M mc ms cu su n (pc + 3) L st rp hp P) : V g M mc ms cu su n pc L (vI y :: vI x :: st) rp hp P := by
  intro p l e R s m args below meth c Q C RT H locs LS hH hS hl
  exact lv_icmp_lt C.1 C.2.1 hd ht (fun h => kt h p l e R s m args below meth c Q C RT H locs LS hH hS hl) (fun h => kf h p l e R s m args below meth c Q C RT H locs LS hH hS hl)
theorem r_icmp_ge {x y : Int32} {off : Int} {tgt : Nat} (hd : decode (mC M) pc = .ok (.if_icmp .ge off, 3)) (ht : (pc : Int) + off = (tgt : Int)) (kt : y ≤ x → V g M mc ms cu su n tgt L st rp hp P) (kf : ¬ y ≤ x → V g M mc ms cu su n (pc + 3) L st rp hp P) : V g M mc ms cu su n pc L (vI y :: vI x :: st) rp hp P := by
  intro p l e R s m args below meth c Q C RT H locs LS hH hS hl
  exact lv_icmp_ge C.1 C.2.1 hd ht (fun h => kt h p l e R s m args below meth c Q C RT H locs LS hH hS hl) (fun h => kf h p l e R s m args below meth c Q C RT H locs LS hH hS hl)
theorem r_icmp_gt {x y : Int32} {off : Int} {tgt : Nat} (hd : decode (mC M) pc = .ok (.if_icmp .gt off, 3)) (ht : (pc : Int) + off = (tgt : Int)) (kt : y < x → V g M mc ms cu su n tgt L st rp hp P) (kf : ¬ y < x → V g M mc ms cu su n (pc + 3) L st rp hp P) : V g M mc ms cu su n pc L (vI y :: vI x :: st) rp hp P := by
  intro p l e R s m args below meth c Q C RT H locs LS hH hS hl
  exact lv_icmp_gt C.1 C.2.1 hd ht (fun h => kt h p l e R s m args below meth c Q C RT H locs LS hH hS hl) (fun h => kf h p l e R s m args below meth c Q C RT H locs LS hH hS hl)
theorem r_icmp_le {x y : Int32} {off : Int} {tgt : Nat} (hd : decode (mC M) pc = .ok (.if_icmp .le off, 3)) (ht : (pc : Int) + off = (tgt : Int)) (kt : x ≤ y → V g M mc ms cu su n tgt L st rp hp P) (kf : ¬ x ≤ y → V g M mc ms cu su n (pc + 3) L st rp hp P) : V g M mc ms cu su n pc L (vI y :: vI x :: st) rp hp P := by
  intro p l e R s m args below meth c Q C RT H locs LS hH hS hl
  exact lv_icmp_le C.1 C.2.1 hd ht (fun h => kt h p l e R s m args below meth c Q C RT H locs LS hH hS hl) (fun h => kf h p l e R s m args below meth c Q C RT H locs LS hH hS hl)
theorem r_goto {off : Int} {tgt : Nat} (hd : decode (mC M) pc = .ok (.goto off, 3)) (ht : (pc : Int) + off = (tgt : Int)) (k : V g M mc ms cu su n tgt L st rp hp P) : V g M mc ms cu su n pc L st rp hp P := by
  intro p l e R s m args below meth c Q C RT H locs LS hH hS hl
  exact lv_goto C.1 C.2.1 hd ht (k p l e R s m args below meth c Q C RT H locs LS hH hS hl)
theorem r_tabOut {x : Int32} {dflt lo hi : Int} {offs : Array Int} {len tgt : Nat} (hd : decode (mC M) pc = .ok (.tableswitch dflt lo hi offs, len)) (h : x.toInt < lo ∨ hi < x.toInt) (ht : (pc : Int) + dflt = (tgt : Int)) (k : V g M mc ms cu su n tgt L st rp hp P) : V g M mc ms cu su n pc L (vI x :: st) rp hp P := by
  intro p l e R s m args below meth c Q C RT H locs LS hH hS hl
  exact lv_tableOut C.1 C.2.1 hd h ht (k p l e R s m args below meth c Q C RT H locs LS hH hS hl)
theorem r_tabIn {x : Int32} {dflt lo hi off : Int} {offs : Array Int} {len tgt : Nat} (hd : decode (mC M) pc = .ok (.tableswitch dflt lo hi offs, len)) (h1 : ¬ x.toInt < lo) (h2 : ¬ hi < x.toInt) (ho : offs[(x.toInt - lo).toNat]? = some off) (ht : (pc : Int) + off = (tgt : Int)) (k : V g M mc ms cu su n tgt L st rp hp P) : V g M mc ms cu su n pc L (vI x :: st) rp hp P := by
  intro p l e R s m args below meth c Q C RT H locs LS hH hS hl
  exact lv_tableIn C.1 C.2.1 hd h1 h2 ho ht (k p l e R s m args below meth c Q C RT H locs LS hH hS hl)
end RW

def hset (hp : HPt) (a : A4) (i : Nat) (x : Int32) : HPt := fun b j => if b = a ∧ j = i then x else hp b j
def rset (rp : RPt) (a : A4) (i : Nat) (x : A4) : RPt := fun b j => if b = a ∧ j = i then some x else rp b j
/-- what the tables say of a field at a pool index of a class: field fi of class ci -/
def LK (own : String) (idx ci fi : Nat) : Prop := ∃ q : vw_C, vwCl[ci]? = some q ∧ fi < nfT ci ∧ (Cond.fieldLink own idx (q.2.1 fi).1 (q.2.1 fi).2.1 (q.2.1 fi).2.2.1 ∈ lw_good ∨ ∃ host, Cond.fieldLinkNest own idx (q.2.1 fi).1 (q.2.1 fi).2.1 (q.2.1 fi).2.2.1 host ∈ lw_nest)
def CLf (ci : Nat) (q : vw_C) : Prop := (∀ w ∈ u_ws q.1 q.2.1 q.2.2, w ∈ lw_good) ∧ (∀ k, k < q.2.2 → parseFieldDescriptor (q.2.1 k).2.2.1 = some (tyT ci k)) ∧ (∀ a, a < q.2.2 → ∀ b, b < q.2.2 → a ≠ b → (q.2.1 a).2.1 ≠ (q.2.1 b).2.1) ∧ q.2.2 = nfT ci
def CLg (ci : Nat) (q : vw_C) : Prop := ∀ k, k < q.2.2 → (rfT ci k = (q.2.1 k).2.2.2) ∧ (rfT ci k = true → (q.2.1 k).1 = q.1 ∧ ((∃ n, tyT ci k = .object n) ∨ ∃ t, tyT ci k = .array t)) ∧ (rfT ci k = false → tyT ci k = .int ∨ tyT ci k = .boolean ∨ tyT ci k = .char)

theorem clf_0 : CLf 0 (RX0, TX0, 7) := by
  refine ⟨fun w hw => ?_, tyX0_ok, nmX0, rfl⟩
  have h1 : (u_ws RX0 TX0 7).all goodWord = true := by decide +kernel
  have h2 : u_ws RX0 TX0 7 = ([103, 105, 107, 109, 111, 113, 115] : List Nat).filterMap (fun k => lw_tbl[k]?) := by decide +kernel
  have h3 := List.all_eq_true.mp h1 w hw
  rw [h2] at hw
  obtain ⟨k, -, hk⟩ := List.mem_filterMap.mp hw
  exact gd_i k hk h3
theorem clg_0 : CLg 0 (RX0, TX0, 7) := by
  intro k hk
  have hk : k < 7 := hk
  rcases (show k = 0 ∨ k = 1 ∨ k = 2 ∨ k = 3 ∨ k = 4 ∨ k = 5 ∨ k = 6 by omega) with rfl | rfl | rfl | rfl | rfl | rfl | rfl <;> simp [rfT, TX0, RX0, tyT, tyX0] <;> decide
theorem clf_1 : CLf 1 (RX1, TX1, 3) := by
  refine ⟨fun w hw => ?_, tyX1_ok, nmX1, rfl⟩
  have h1 : (u_ws RX1 TX1 3).all goodWord = true := by decide +kernel
  have h2 : u_ws RX1 TX1 3 = ([205, 207, 209] : List Nat).filterMap (fun k => lw_tbl[k]?) := by decide +kernel
  have h3 := List.all_eq_true.mp h1 w hw
  rw [h2] at hw
  obtain ⟨k, -, hk⟩ := List.mem_filterMap.mp hw
  exact gd_i k hk h3
theorem clg_1 : CLg 1 (RX1, TX1, 3) := by
  intro k hk
  have hk : k < 3 := hk
  rcases (show k = 0 ∨ k = 1 ∨ k = 2 by omega) with rfl | rfl | rfl <;> simp [rfT, TX1, RX1, tyT, tyX1] <;> decide
theorem clf_2 : CLf 2 (RX2, TX2, 2) := by
  refine ⟨fun w hw => ?_, tyX2_ok, nmX2, rfl⟩
  have h1 : (u_ws RX2 TX2 2).all goodWord = true := by decide +kernel
  have h2 : u_ws RX2 TX2 2 = ([220, 222] : List Nat).filterMap (fun k => lw_tbl[k]?) := by decide +kernel
  have h3 := List.all_eq_true.mp h1 w hw
  rw [h2] at hw
  obtain ⟨k, -, hk⟩ := List.mem_filterMap.mp hw
  exact gd_i k hk h3
theorem clg_2 : CLg 2 (RX2, TX2, 2) := by
  intro k hk
  have hk : k < 2 := hk
  rcases (show k = 0 ∨ k = 1 by omega) with rfl | rfl <;> simp [rfT, TX2, RX2, tyT, tyX2] <;> decide
theorem clf_3 : CLf 3 (RX3, TX3, 7) := by
  refine ⟨fun w hw => ?_, tyX3_ok, nmX3, rfl⟩
  have h1 : (u_ws RX3 TX3 7).all goodWord = true := by decide +kernel
  have h2 : u_ws RX3 TX3 7 = ([233, 235, 237, 239, 241, 243, 245] : List Nat).filterMap (fun k => lw_tbl[k]?) := by decide +kernel
  have h3 := List.all_eq_true.mp h1 w hw
  rw [h2] at hw
  obtain ⟨k, -, hk⟩ := List.mem_filterMap.mp hw
  exact gd_i k hk h3
theorem clg_3 : CLg 3 (RX3, TX3, 7) := by
  intro k hk
  have hk : k < 7 := hk
  rcases (show k = 0 ∨ k = 1 ∨ k = 2 ∨ k = 3 ∨ k = 4 ∨ k = 5 ∨ k = 6 by omega) with rfl | rfl | rfl | rfl | rfl | rfl | rfl <;> simp [rfT, TX3, RX3, tyT, tyX3] <;> decide
theorem clf_4 : CLf 4 (RX4, TX4, 10) := by
  refine ⟨fun w hw => ?_, tyX4_ok, nmX4, rfl⟩
  have h1 : (u_ws RX4 TX4 10).all goodWord = true := by decide +kernel
  have h2 : u_ws RX4 TX4 10 = ([140, 142, 144, 146, 148, 150, 152, 154, 156, 158] : List Nat).filterMap (fun k => lw_tbl[k]?) := by decide +kernel
  have h3 := List.all_eq_true.mp h1 w hw
  rw [h2] at hw
  obtain ⟨k, -, hk⟩ := List.mem_filterMap.mp hw
  exact gd_i k hk h3
theorem clg_4 : CLg 4 (RX4, TX4, 10) := by
  intro k hk
  have hk : k < 10 := hk
  rcases (show k = 0 ∨ k = 1 ∨ k = 2 ∨ k = 3 ∨ k = 4 ∨ k = 5 ∨ k = 6 ∨ k = 7 ∨ k = 8 ∨ k = 9 by omega) with rfl | rfl | rfl | rfl | rfl | rfl | rfl | rfl | rfl | rfl <;> simp [rfT, TX4, RX4, tyT, tyX4] <;> decide
theorem clf_5 : CLf 5 (RX5, TX5, 10) := by
  refine ⟨fun w hw => ?_, tyX5_ok, nmX5, rfl⟩
  have h1 : (u_ws RX5 TX5 10).all goodWord = true := by decide +kernel
  have h2 : u_ws RX5 TX5 10 = ([171, 173, 175, 177, 179, 181, 183, 185, 187, 189] : List Nat).filterMap (fun k => lw_tbl[k]?) := by decide +kernel
  have h3 := List.all_eq_true.mp h1 w hw
  rw [h2] at hw
  obtain ⟨k, -, hk⟩ := List.mem_filterMap.mp hw
  exact gd_i k hk h3
theorem clg_5 : CLg 5 (RX5, TX5, 10) := by
  intro k hk
  have hk : k < 10 := hk
  rcases (show k = 0 ∨ k = 1 ∨ k = 2 ∨ k = 3 ∨ k = 4 ∨ k = 5 ∨ k = 6 ∨ k = 7 ∨ k = 8 ∨ k = 9 by omega) with rfl | rfl | rfl | rfl | rfl | rfl | rfl | rfl | rfl | rfl <;> simp [rfT, TX5, RX5, tyT, tyX5] <;> decide
theorem clf_6 : CLf 6 (RX6, TX6, 6) := by
  refine ⟨fun w hw => ?_, tyX6_ok, nmX6, rfl⟩
  have h1 : (u_ws RX6 TX6 6).all goodWord = true := by decide +kernel
  have h2 : u_ws RX6 TX6 6 = ([254, 256, 258, 260, 262, 264] : List Nat).filterMap (fun k => lw_tbl[k]?) := by decide +kernel
  have h3 := List.all_eq_true.mp h1 w hw
  rw [h2] at hw
  obtain ⟨k, -, hk⟩ := List.mem_filterMap.mp hw
  exact gd_i k hk h3
theorem clg_6 : CLg 6 (RX6, TX6, 6) := by
  intro k hk
  have hk : k < 6 := hk
  rcases (show k = 0 ∨ k = 1 ∨ k = 2 ∨ k = 3 ∨ k = 4 ∨ k = 5 by omega) with rfl | rfl | rfl | rfl | rfl | rfl <;> simp [rfT, TX6, RX6, tyT, tyX6] <;> decide
theorem cls_ok {ci : Nat} {q : vw_C} (h : vwCl[ci]? = some q) : CLf ci q ∧ CLg ci q := by
  match ci, h with
  | 0, h => cases h; exact ⟨clf_0, clg_0⟩
  | 1, h => cases h; exact ⟨clf_1, clg_1⟩
  | 2, h => cases h; exact ⟨clf_2, clg_2⟩
  | 3, h => cases h; exact ⟨clf_3, clg_3⟩
  | 4, h => cases h; exact ⟨clf_4, clg_4⟩
  | 5, h => cases h; exact ⟨clf_5, clg_5⟩
  | 6, h => cases h; exact ⟨clf_6, clg_6⟩
  | k + 7, h => simp [vwCl] at h
theorem mrs {α : Type} {N fi : Nat} {f f' : Nat → α} (h : ∀ i, i ≠ fi → f i = f' i) (hf : fi < N) : ((List.range N).map f).set fi (f' fi) = (List.range N).map f' := by
  refine List.ext_getElem? (fun i => ?_)
  by_cases hi : i = fi
  · subst hi
    rw [List.getElem?_set_self (by simp; exact hf), List.getElem?_map, List.getElem?_range hf]
    rfl
  · rw [List.getElem?_set_ne (Ne.symm hi), List.getElem?_map, List.getElem?_map]
    by_cases hk : i < N
    · rw [List.getElem?_range hk, Option.map_some, Option.map_some, h i hi]
    · rw [List.getElem?_eq_none (by rw [List.length_range]; omega), Option.map_none, Option.map_none]
theorem cn_ob {g : Gh} {rp : RPt} {hp : HPt} {a : A4} {ci : Nat} (ho : okd a.1 = some ci) : cn g rp hp a = .inr (ci, (List.range (nfT ci)).map (fun i => if rfT ci i = true then va_rf ((rp a i).map (al g)) else .int (hp a i))) := by
  unfold cn
  rw [ho]
theorem okd_akd {k ci : Nat} (ho : okd k = some ci) : akd k = none := by
  unfold okd at ho
  split at ho <;> first | rfl | cases ho
theorem akd_okd {k : Nat} {x : Nat × Nat} (ho : akd k = some x) : okd k = none := by
  cases h : okd k with
  | none => rfl
  | some c => rw [okd_akd h] at ho; cases ho
theorem rkd_okd {k : Nat} {x : Nat × Nat} (ho : rkd k = some x) : okd k = none ∧ akd k = none := by
  unfold rkd at ho
  split at ho <;> first | exact ⟨rfl, rfl⟩ | cases ho
theorem cn_ar {g : Gh} {rp : RPt} {hp : HPt} {a : A4} {t len : Nat} (ho : akd a.1 = some (t, len)) : cn g rp hp a = .inl (g.2.1 t, len, .inl (hp a)) := by
  unfold cn
  rw [akd_okd ho, ho]
theorem cn_rr {g : Gh} {rp : RPt} {hp : HPt} {a : A4} {t len : Nat} (ho : rkd a.1 = some (t, len)) : cn g rp hp a = .inl (g.2.1 t, len, .inr (.inr (.inr (.inr (fun i => (rp a i).map (al g)))))) := by
  unfold cn
  rw [(rkd_okd ho).1, (rkd_okd ho).2, ho]
section RH
variable {g : Gh} {M : Md} {mc ms cu su n pc : Nat} {L : List (Option Vv)} {st : List Vv} {rp : RPt} {hp : HPt} {P : Pst}
variable {p : Program} {l : Launch} {e : Env} {R : Room} {s : State} {m : MethodId} {args : Array Value} {below : List Frame} {meth : Method} {c : Code} {Q : State → Prop} {H : Heap} {locs : List Loc} {LS : Array Slot}
theorem w_get {a : A4} {idx ci fi : Nat} {rest : List Value} (C : CX g M mc ms p R s m args meth c) (hH : HX g n rp hp H) (hd : decode (mC M) pc = .ok (.getfield idx, 3)) (lk : LK (mK M) idx ci fi) (ho : okd a.1 = some ci) (hlv : lvp n a) {v : Value} (hv : (if rfT ci fi = true then va_rf ((rp a fi).map (al g)) else .int (hp a fi)) = v)
    (kk : W p l e R s m args below meth c H locs cu su Q (F0 m (pc + 3) LS (v :: rest))) : W p l e R s m args below meth c H locs cu su Q (F0 m pc LS (.ref (al g a) :: rest)) := by
  obtain ⟨hP, hz, hn⟩ := hH
  obtain ⟨q, hc, hfi, hlk⟩ := lk
  obtain ⟨⟨co1, co2, co3, co4⟩, -⟩ := cls_ok hc
  have he := wl_get (g := g) (rp := rp) (hp := hp) hn hlv
  rw [cn_ob ho] at he
  have hv2 : ((List.range (nfT ci)).map (fun i => if rfT ci i = true then va_rf ((rp a i).map (al g)) else .int (hp a i)))[fi]? = some v := by
    rw [List.getElem?_map, List.getElem?_range hfi, Option.map_some, hv]
  rcases hlk with hlk | ⟨host, hlk⟩
  · exact va_get C.1 C.2.1 C.2.2.2.2.2.1 co1 C.2.2.2.2.1 C.2.2.2.2.2.2.2.2.1.1 hP (pos a) he hc fi (by rw [co4]; exact hfi) (C.2.2.2.2.2.1 _ hlk) (fun _ h => h) hv2 hd kk
  · exact va_getN C.1 C.2.1 C.2.2.2.2.2.1 co1 C.2.2.2.2.1 C.2.2.2.2.2.2.2.2.1.1 hP (pos a) he hc fi (by rw [co4]; exact hfi) (va_Nw.use rfl (C.2.2.2.2.2.2.2.2.1.2.1 _ hlk)) (fun _ h => h) hv2 hd kk
theorem r_getI {a : A4} {idx ci fi : Nat} (hd : decode (mC M) pc = .ok (.getfield idx, 3)) (lk : LK (mK M) idx ci fi) (ho : okd a.1 = some ci) (hr : rfT ci fi = false) (hlv : lvp n a) (k : V g M mc ms cu su n (pc + 3) L (vI (hp a fi) :: st) rp hp P) : V g M mc ms cu su n pc L (vR a :: st) rp hp P := by
  intro p l e R s m args below meth c Q C RT H locs LS hH hS hl
  exact w_get C hH hd lk ho hlv (v := .int (hp a fi)) (by rw [hr]; rfl) (k p l e R s m args below meth c Q C RT H locs LS hH hS hl)
theorem r_getR {a b : A4} {idx ci fi : Nat} (hd : decode (mC M) pc = .ok (.getfield idx, 3)) (lk : LK (mK M) idx ci fi) (ho : okd a.1 = some ci) (hr : rfT ci fi = true) (hb : rp a fi = some b) (hlv : lvp n a) (k : V g M mc ms cu su n (pc + 3) L (vR b :: st) rp hp P) : V g M mc ms cu su n pc L (vR a :: st) rp hp P := by
  intro p l e R s m args below meth c Q C RT H locs LS hH hS hl
  exact w_get C hH hd lk ho hlv (v := .ref (al g b)) (by rw [hr, hb]; rfl) (k p l e R s m args below meth c Q C RT H locs LS hH hS hl)
theorem hx_set {rp' : RPt} {hp' : HPt} {a : A4} {H1 : Heap} (hH : HX g n rp hp H) (hlv : lvp n a) (ee : va_at (g.1.1, g.1.2) vwCl (al g a, cn g rp' hp' a) H1) (z : H1.size = H.size) (oq : ∀ q : Nat, q ≠ al g a → H1[q]? = H[q]?) (hrp : ∀ b, b ≠ a → rp b = rp' b) (hhp : ∀ b, b ≠ a → hp b = hp' b) : HX g n rp' hp' H1 := by
  obtain ⟨hP, hz, hn⟩ := hH
  have h1 := hP.set wl_D (wl_get hn hlv) ee oq
  rw [wl_set hn hlv hrp hhp] at h1
  exact ⟨h1, by rw [z]; exact hz, hn⟩
theorem al_Af {a : A4} (hn : n ≤ 609) (hlv : lvp n a) : Af g (al g a) := by
  rw [lvp_al hn hlv]
  exact Nat.le_add_right _ _
theorem ob_set {f : Nat → Value} {nf fi : Nat} {v : Value} {iS : Nat → Nat} {cell : Cell} {C0 : ClassId} {q : Nat} {H1 : Heap} {f' : Nat → Value} (h4 : ∀ k, k < nf → cell.slots[iS k]? = some (vp_V ((List.range nf).map f) k)) (hap : ∀ x y, x < nf → y < nf → x ≠ y → iS x ≠ iS y) (hf : fi < nf) (hcl : cell.cls = C0) (hvm : cell.vm = .none) (e1 : H1[q]? = some (cell.setSlot (iS fi) v)) (h : ∀ i, i ≠ fi → f i = f' i) (hv : f' fi = v) : t_OB q C0 nf iS H1 (vp_V ((List.range nf).map f')) := by
  refine t_OB.to (V := updV (vp_V ((List.range nf).map f)) fi v) ⟨_, e1, hcl, hvm, t_set h4 hap hf v⟩ (fun j hj => ?_)
  unfold updV vp_V
  rw [List.getD_eq_getElem?_getD, List.getD_eq_getElem?_getD, List.getElem?_map, List.getElem?_map, List.getElem?_range hj, Option.map_some, Option.map_some]
  by_cases hjf : j = fi
  · subst hjf
    simp [hv]
  · simp [hjf, h j hjf]
theorem r_putI {a : A4} {x : Int32} {idx ci fi : Nat} (hd : decode (mC M) pc = .ok (.putfield idx, 3)) (lk : LK (mK M) idx ci fi) (ho : okd a.1 = some ci) (hr : rfT ci fi = false) (hlv : lvp n a) (hx : narrow (tyT ci fi) (.int x) = .int x ∧ fits (tyT ci fi) (.int x) = true) (k : V g M mc ms cu su n (pc + 3) L st rp (hset hp a fi x) P) : V g M mc ms cu su n pc L (vI x :: vR a :: st) rp hp P := by
  intro p l e R s m args below meth c Q C RT H locs LS hH hS hl
  obtain ⟨hP, hz, hn⟩ := id hH
  obtain ⟨q, hc, hfi, hlk⟩ := lk
  obtain ⟨⟨co1, co2, co3, co4⟩, cg⟩ := cls_ok hc
  have hfq : fi < q.2.2 := by rw [co4]; exact hfi
  have hfin : (q.2.1 fi).2.2.2 = false := by rw [← (cg fi hfq).1]; exact hr
  have hK := C.2.2.2.2.2.2.2.2.1.1
  have hts := C.2.2.2.2.2.1
  have he := hP (pos a) _ (wl_get hn hlv)
  rw [cn_ob ho] at he
  have hap := va_apart (own := mK M) (s := s) hts co1 (tyT ci) co2 co3 hK hc
  obtain ⟨r, h1, cell, q1, q2, q3, q4⟩ := he
  have hr1 : r = q := Option.some.inj (h1.symm.trans hc)
  subst hr1
  obtain ⟨hSl, hfc, kC, hkC, hkind⟩ := hK.1 ci _ hc
  obtain ⟨cf, kf, f0, f, hi, hsl⟩ := hSl fi hfq
  have hlay := hts _ (co1 _ (u_in_lay hfq))
  unfold u_lay at hlay
  rw [if_neg (by rw [hfin]; decide)] at hlay
  have hst := (u_facts hfc hkC (u_lays hts co1 hfq) hi).1
  have h6 := u_store hfc hkC hkind hlay hi (co2 fi hfq) hx.1 hx.2
  have fin : ∀ (H1 : Heap), H1[al g a]? = some (cell.setSlot f.slot (.int x)) → H1.size = H.size → (∀ q : Nat, q ≠ al g a → H1[q]? = H[q]?) → W p l e R s m args below meth c H1 (locs ++ [⟨al g a, f.slot⟩]) cu su Q (F0 m (pc + 3) LS (st.map (trv g))) := by
    intro H1 e1 e2 e3
    refine k p l e R s m args below meth c Q C RT H1 _ LS (hx_set hH hlv ?_ e2 e3 (fun b _ => rfl) (fun b hb => by funext j; simp [hset, hb])) (hS.put e2 e3 (al_Af hn hlv)) hl
    rw [cn_ob ho]
    refine ⟨r, hc, ?_⟩
    rw [hsl] at e1
    rw [co4] at q4 hap ⊢
    exact ob_set q4 hap hfi q2 q3 e1 (fun i hi => by simp [hset, hi]) (by simp [hr, hset])
  rcases hlk with hlk | ⟨host, hlk⟩
  · exact W.putK C.1 C.2.1 (f := f) ⟨C.2.2.2.2.1, hts _ hlk, ⟨_, _, _, hi⟩, hst⟩ (by rw [q2]; exact h6) q1 q3 (by rw [hsl]; exact k2_hasslot (q4 fi hfq)) rfl rfl hd fin
  · exact va_WputK C.1 C.2.1 (f := f) C.2.2.2.2.1 (va_Nw.use rfl (C.2.2.2.2.2.2.2.2.1.2.1 _ hlk)) hi hst (by rw [q2]; exact h6) q1 q3 (by rw [hsl]; exact k2_hasslot (q4 fi hfq)) rfl rfl hd fin
/-- a final field, of references, in its class's constructor -/
theorem r_putF {a b : A4} {idx ci fi : Nat} (hd : decode (mC M) pc = .ok (.putfield idx, 3)) (lk : LK (mK M) idx ci fi) (ho : okd a.1 = some ci) (hr : rfT ci fi = true) (hlv : lvp n a) (hin : (mY M).name = "<init>") (hown : ∀ q, vwCl[ci]? = some q → q.1 = mK M) (hnn : ∀ q, vwCl[ci]? = some q → ∀ host, Cond.fieldLinkNest (mK M) idx (q.2.1 fi).1 (q.2.1 fi).2.1 (q.2.1 fi).2.2.1 host ∉ lw_nest) (k : V g M mc ms cu su n (pc + 3) L st (rset rp a fi b) hp P) : V g M mc ms cu su n pc L (vR b :: vR a :: st) rp hp P := by
  intro p l e R s m args below meth c Q C RT H locs LS hH hS hl
  obtain ⟨hP, hz, hn⟩ := id hH
  obtain ⟨q, hc, hfi, hlk⟩ := lk
  obtain ⟨⟨co1, co2, co3, co4⟩, cg⟩ := cls_ok hc
  have hfq : fi < q.2.2 := by rw [co4]; exact hfi
  have hfin : (q.2.1 fi).2.2.2 = true := by rw [← (cg fi hfq).1]; exact hr
  obtain ⟨hq1, hty⟩ := (cg fi hfq).2.1 hr
  have hK := C.2.2.2.2.2.2.2.2.1.1
  have hts := C.2.2.2.2.2.1
  have he := hP (pos a) _ (wl_get hn hlv)
  rw [cn_ob ho] at he
  have hap := va_apart (own := mK M) (s := s) hts co1 (tyT ci) co2 co3 hK hc
  obtain ⟨r, h1, cell, q1, q2, q3, q4⟩ := he
  have hr1 : r = q := Option.some.inj (h1.symm.trans hc)
  subst hr1
  obtain ⟨hSl, hfc, kC, hkC, hkind⟩ := hK.1 ci _ hc
  obtain ⟨cf, kf, f0, f, hi, hsl⟩ := hSl fi hfq
  have hlay := hts _ (co1 _ (u_in_lay hfq))
  unfold u_lay at hlay
  rw [if_pos hfin] at hlay
  have hst := (u_facts hfc hkC (u_lays hts co1 hfq) hi).1
  have hcf : m.cls = cf := by
    obtain ⟨_, _, c', _, _, _, -, -, hf', -, -, -, hown2, -⟩ := Cond.laysFinal_spec hlay
    have e1 : c' = cf := by have := hi.symm.trans hf'; simp at this; exact this.1.symm
    rw [hq1, hown r hc] at hown2
    rw [← e1]; exact Option.some.inj (C.2.2.2.2.1.symm.trans hown2)
  have hnv : narrow (tyT ci fi) (.ref (al g b)) = .ref (al g b) ∧ fits (tyT ci fi) (.ref (al g b)) = true := by
    rcases hty with ⟨z, hz⟩ | ⟨z, hz⟩ <;> rw [hz] <;> exact ⟨rfl, rfl⟩
  have h6 := u_fits hfc hkC hkind (Or.inr hlay) hi (co2 fi hfq) hnv.1 hnv.2
  rcases hlk with hlk | ⟨host, hlk⟩
  · refine W.putFinK C.1 C.2.1 C.2.2.2.2.1 (hts _ hlk) hi hst hcf (by rw [C.2.2.2.2.2.2.2.1]; exact hin) (by rw [q2]; exact h6) q1 q3 (by rw [hsl]; exact k2_hasslot (q4 fi hfq)) rfl rfl hd fun H1 e1 e2 e3 => ?_
    refine k p l e R s m args below meth c Q C RT H1 _ LS (hx_set hH hlv ?_ e2 e3 (fun b hb => by funext j; simp [rset, hb]) (fun b hb => rfl)) (hS.put e2 e3 (al_Af hn hlv)) hl
    rw [cn_ob ho]
    refine ⟨r, hc, ?_⟩
    rw [hsl] at e1
    rw [co4] at q4 hap ⊢
    exact ob_set q4 hap hfi q2 q3 e1 (fun i hi => by simp [rset, hi]) (by simp [hr, rset, va_rf] <;> rfl)
  · exact absurd hlk (hnn r hc host)
theorem ty_at {t : Nat} {ty : FieldType} {k : Nat} (h : (tysF g)[k]? = some (g.2.1 t, ty)) : (tysF g)[k]? = some (g.2.1 t, ty) := h
theorem r_iald {a : A4} {i : Int32} {len : Nat} (hd : decode (mC M) pc = .ok (.iaload, 1)) (ho : akd a.1 = some (0, len)) (hlv : lvp n a) (hi : vp_in i len) (k : V g M mc ms cu su n (pc + 1) L (vI (hp a i.toNatClampNeg) :: st) rp hp P) : V g M mc ms cu su n pc L (vI i :: vR a :: st) rp hp P := by
  intro p l e R s m args below meth c Q C RT H locs LS hH hS hl
  have he := wl_get (g := g) (rp := rp) (hp := hp) hH.2.2 hlv
  rw [cn_ar ho] at he
  exact va_iald C.1 C.2.1 C.2.2.2.2.2.2.2.2.1.1 hH.1 (pos a) 0 he rfl hi hd (k p l e R s m args below meth c Q C RT H locs LS hH hS hl)
theorem r_zald {a : A4} {i : Int32} {len : Nat} (hd : decode (mC M) pc = .ok (.baload, 1)) (ho : akd a.1 = some (1, len)) (hlv : lvp n a) (hi : vp_in i len) (k : V g M mc ms cu su n (pc + 1) L (vI (hp a i.toNatClampNeg) :: st) rp hp P) : V g M mc ms cu su n pc L (vI i :: vR a :: st) rp hp P := by
  intro p l e R s m args below meth c Q C RT H locs LS hH hS hl
  have he := wl_get (g := g) (rp := rp) (hp := hp) hH.2.2 hlv
  rw [cn_ar ho] at he
  exact va_zald C.1 C.2.1 C.2.2.2.2.2.2.2.2.1.1 hH.1 (pos a) 1 he rfl hi hd (k p l e R s m args below meth c Q C RT H locs LS hH hS hl)
theorem r_cald {a : A4} {i : Int32} {len : Nat} (hd : decode (mC M) pc = .ok (.caload, 1)) (ho : akd a.1 = some (2, len)) (hlv : lvp n a) (hi : vp_in i len) (k : V g M mc ms cu su n (pc + 1) L (vI (hp a i.toNatClampNeg) :: st) rp hp P) : V g M mc ms cu su n pc L (vI i :: vR a :: st) rp hp P := by
  intro p l e R s m args below meth c Q C RT H locs LS hH hS hl
  have he := wl_get (g := g) (rp := rp) (hp := hp) hH.2.2 hlv
  rw [cn_ar ho] at he
  exact va_cald C.1 C.2.1 C.2.2.2.2.2.2.2.2.1.1 hH.1 (pos a) 2 he rfl hi hd (k p l e R s m args below meth c Q C RT H locs LS hH hS hl)
theorem r_aald {a b : A4} {i : Int32} {t len : Nat} (hd : decode (mC M) pc = .ok (.aaload, 1)) (ho : rkd a.1 = some (t, len)) (hlv : lvp n a) (hi : vp_in i len) (hb : rp a i.toNatClampNeg = some b) (k : V g M mc ms cu su n (pc + 1) L (vR b :: st) rp hp P) : V g M mc ms cu su n pc L (vI i :: vR a :: st) rp hp P := by
  intro p l e R s m args below meth c Q C RT H locs LS hH hS hl
  have he := wl_get (g := g) (rp := rp) (hp := hp) hH.2.2 hlv
  rw [cn_rr ho] at he
  have ht : ∃ (j : Nat) (D : String), (tysF g)[j]? = some (g.2.1 t, .object D) := by
    have h0 := ho
    unfold rkd at h0
    split at h0 <;> cases h0
    · exact ⟨4, RX4, rfl⟩
    · exact ⟨3, RX5, rfl⟩
    · exact ⟨3, RX5, rfl⟩
  obtain ⟨j, D, ht⟩ := ht
  refine va_aldq C.1 C.2.1 C.2.2.2.2.2.2.2.2.1.1 hH.1 (pos a) j he ht hi hd ?_
  rw [hb]
  exact k p l e R s m args below meth c Q C RT H locs LS hH hS hl
theorem r_xald {t : Nat} {i : Int32} (hd : decode (mC M) pc = .ok (.iaload, 1)) (ht : t < 3) (hi : vp_in i (g.2.2.2.2 t).1) (k : V g M mc ms cu su n (pc + 1) L (vI ((g.2.2.2.2 t).2 i.toNatClampNeg) :: st) rp hp P) : V g M mc ms cu su n pc L (vI i :: vR (24, t, 0, 0) :: st) rp hp P := by
  intro p l e R s m args below meth c Q C RT H locs LS hH hS hl
  exact va_ti C.1 C.2.1 (C.2.2.2.2.2.2.2.2.1.2.2.2.2.2 t ht) hS hi rfl hd (k p l e R s m args below meth c Q C RT H locs LS hH hS hl)
theorem r_xlen {t : Nat} (hd : decode (mC M) pc = .ok (.arraylength, 1)) (ht : t < 3) (k : V g M mc ms cu su n (pc + 1) L (vI (nI (g.2.2.2.2 t).1) :: st) rp hp P) : V g M mc ms cu su n pc L (vR (24, t, 0, 0) :: st) rp hp P := by
  intro p l e R s m args below meth c Q C RT H locs LS hH hS hl
  exact va_tlen C.1 C.2.1 (C.2.2.2.2.2.2.2.2.1.2.2.2.2.2 t ht) hS rfl hd (k p l e R s m args below meth c Q C RT H locs LS hH hS hl)
theorem r_getL {idx : Nat} {host : String} (hd : decode (mC M) pc = .ok (.getstatic idx, 3)) (hw : Cond.fieldLinkNest (mK M) idx "SplitSecrets" "LEAST_OF_SETTING" "[I" host ∈ lw_nest) (k : V g M mc ms cu su n (pc + 3) L (vR (24, 1, 0, 0) :: st) rp hp P) : V g M mc ms cu su n pc L st rp hp P := by
  intro p l e R s m args below meth c Q C RT H locs LS hH hS hl
  exact va_getsN C.1 C.2.1 C.2.2.2.2.2.2.2.2.1.2.2.2.1 hS C.2.2.2.2.1 (va_Nw.use rfl (C.2.2.2.2.2.2.2.2.1.2.1 _ hw)) (fun _ h => h) hd (k p l e R s m args below meth c Q C RT H locs LS hH hS hl)
theorem r_getM {idx : Nat} {host : String} (hd : decode (mC M) pc = .ok (.getstatic idx, 3)) (hw : Cond.fieldLinkNest (mK M) idx "SplitSecrets" "MOST_OF_SETTING" "[I" host ∈ lw_nest) (k : V g M mc ms cu su n (pc + 3) L (vR (24, 2, 0, 0) :: st) rp hp P) : V g M mc ms cu su n pc L st rp hp P := by
  intro p l e R s m args below meth c Q C RT H locs LS hH hS hl
  exact va_getsN C.1 C.2.1 C.2.2.2.2.2.2.2.2.1.2.2.2.2.1 hS C.2.2.2.2.1 (va_Nw.use rfl (C.2.2.2.2.2.2.2.2.1.2.1 _ hw)) (fun _ h => h) hd (k p l e R s m args below meth c Q C RT H locs LS hH hS hl)
theorem hset_upd {a : A4} {i : Nat} {x : Int32} : hset hp a i x a = upd (hp a) i x := by
  funext j
  by_cases h : j = i <;> simp [hset, upd, h]
theorem r_iast {a : A4} {i x : Int32} {len : Nat} (hd : decode (mC M) pc = .ok (.iastore, 1)) (ho : akd a.1 = some (0, len)) (hlv : lvp n a) (hi : vp_in i len) (k : V g M mc ms cu su n (pc + 1) L st rp (hset hp a i.toNatClampNeg x) P) : V g M mc ms cu su n pc L (vI x :: vI i :: vR a :: st) rp hp P := by
  intro p l e R s m args below meth c Q C RT H locs LS hH hS hl
  have he := wl_get (g := g) (rp := rp) (hp := hp) hH.2.2 hlv
  rw [cn_ar ho] at he
  refine W.iast C.1 C.2.1 (hH.1 (pos a) _ he) ((C.2.2.2.2.2.2.2.2.1.1.2 0 _ rfl).1 len (fun j => .int (hp a j))) (fun q => by cases q) (by show ¬ (i < 0 ∨ (arrV _ _ _).slots.size ≤ _); rw [arrV_size]; exact hi) rfl rfl hd fun H1 ee z oq => ?_
  refine k p l e R s m args below meth c Q C RT H1 _ LS (hx_set hH hlv ?_ z oq (fun b _ => rfl) (fun b hb => by funext j; simp [hset, hb])) (hS.put z oq (al_Af hH.2.2 hlv)) hl
  rw [cn_ar ho, hset_upd]
  show H1[al g a]? = some (vp_cell _ _)
  rw [ee, vp_cell_i, vp_cell_i, arrV_store]
  congr 2
  funext q
  by_cases hq : q = i.toNatClampNeg
  · subst hq
    simp [updV, upd]
  · simp [updV, upd, hq]
theorem r_zast {a : A4} {i x : Int32} {len : Nat} (hd : decode (mC M) pc = .ok (.bastore, 1)) (ho : akd a.1 = some (1, len)) (hlv : lvp n a) (hi : vp_in i len) (hx : vp_nar .boolean x = x) (k : V g M mc ms cu su n (pc + 1) L st rp (hset hp a i.toNatClampNeg x) P) : V g M mc ms cu su n pc L (vI x :: vI i :: vR a :: st) rp hp P := by
  intro p l e R s m args below meth c Q C RT H locs LS hH hS hl
  have he := wl_get (g := g) (rp := rp) (hp := hp) hH.2.2 hlv
  rw [cn_ar ho] at he
  refine W.zast C.1 C.2.1 (hH.1 (pos a) _ he) ((C.2.2.2.2.2.2.2.2.1.1.2 1 _ rfl).1 len (fun j => .int (hp a j))) (fun q => by cases q) (by show ¬ (i < 0 ∨ (arrV _ _ _).slots.size ≤ _); rw [arrV_size]; exact hi) rfl rfl hd fun H1 ee z oq => ?_
  refine k p l e R s m args below meth c Q C RT H1 _ LS (hx_set hH hlv ?_ z oq (fun b _ => rfl) (fun b hb => by funext j; simp [hset, hb])) (hS.put z oq (al_Af hH.2.2 hlv)) hl
  rw [cn_ar ho, hset_upd]
  show H1[al g a]? = some (vp_cell _ _)
  rw [ee, vp_cell_i, vp_cell_i, arrV_store]
  congr 2
  funext q
  by_cases hq : q = i.toNatClampNeg
  · subst hq
    have h2 : narrow .boolean (.int x) = .int (vp_nar .boolean x) := rfl
    rw [hx] at h2
    simp [updV, upd, h2]
  · simp [updV, upd, hq]
theorem r_cast {a : A4} {i x : Int32} {len : Nat} (hd : decode (mC M) pc = .ok (.castore, 1)) (ho : akd a.1 = some (2, len)) (hlv : lvp n a) (hi : vp_in i len) (hx : vp_nar .char x = x) (k : V g M mc ms cu su n (pc + 1) L st rp (hset hp a i.toNatClampNeg x) P) : V g M mc ms cu su n pc L (vI x :: vI i :: vR a :: st) rp hp P := by
  intro p l e R s m args below meth c Q C RT H locs LS hH hS hl
  have he := wl_get (g := g) (rp := rp) (hp := hp) hH.2.2 hlv
  rw [cn_ar ho] at he
  refine W.cast C.1 C.2.1 (hH.1 (pos a) _ he) ((C.2.2.2.2.2.2.2.2.1.1.2 2 _ rfl).1 len (fun j => .int (hp a j))) (fun q => by cases q) (by show ¬ (i < 0 ∨ (arrV _ _ _).slots.size ≤ _); rw [arrV_size]; exact hi) rfl rfl hd fun H1 ee z oq => ?_
  refine k p l e R s m args below meth c Q C RT H1 _ LS (hx_set hH hlv ?_ z oq (fun b _ => rfl) (fun b hb => by funext j; simp [hset, hb])) (hS.put z oq (al_Af hH.2.2 hlv)) hl
  rw [cn_ar ho, hset_upd]
  show H1[al g a]? = some (vp_cell _ _)
  rw [ee, vp_cell_i, vp_cell_i, arrV_store]
  congr 2
  funext q
  by_cases hq : q = i.toNatClampNeg
  · subst hq
    have h2 : narrow .char (.int x) = .int (vp_nar .char x) := rfl
    rw [hx] at h2
    simp [updV, upd, h2]
  · simp [updV, upd, hq]
theorem hx_push {H1 : Heap} (hH : HX g n rp hp H) (hn : n < 609) (ee : va_at (g.1.1, g.1.2) vwCl (g.2.2.1 + n, cn g rp hp (nm n)) H1) (z : H1.size = H.size + 1) (oq : ∀ q : Nat, q < H.size → H1[q]? = H[q]?) : HX g (n + 1) rp hp H1 := by
  obtain ⟨hP, hz, -⟩ := hH
  have hk : va_P (g.1.1, g.1.2) vwCl (wl g n rp hp) H1 := hP.kept (fun k x hx => oq x.1 ((hP k x hx).lt))
  refine ⟨?_, by rw [z, hz, Nat.add_assoc], hn⟩
  rw [wl_push]
  refine hk.app (fun k x hx => ?_)
  have hz1 : k < 1 := (List.getElem?_eq_some_iff.mp hx).1
  rw [show k = 0 by omega] at hx
  cases hx
  exact ee
theorem S_push {A0 : Nat → Prop} {H0 H1 : Heap} (hS : va_S A0 H0 H locs) (z : H1.size = H.size + 1) (oq : ∀ q : Nat, q < H.size → H1[q]? = H[q]?) : va_S A0 H0 H1 locs := ⟨Nat.le_trans hS.1 (by omega), fun x h1 h2 => (oq x (Nat.lt_of_lt_of_le h1 hS.1)).trans (hS.2.1 x h1 h2), hS.2.2⟩
theorem al_nm (hn : n < 609) : al g (nm n) = g.2.2.1 + n := by
  unfold al
  rw [if_neg (nm_24 n hn), pos_nm n hn]
theorem dv_ob {ci : Nat} {q : vw_C} (hc : vwCl[ci]? = some q) {k : Nat} (hk : k < nfT ci) : defaultValue (tyT ci k) = if rfT ci k = true then Value.null else .int 0 := by
  obtain ⟨⟨-, -, -, co4⟩, cg⟩ := cls_ok hc
  obtain ⟨-, g2, g3⟩ := cg k (by rw [co4]; exact hk)
  by_cases h : rfT ci k = true
  · rw [if_pos h]
    rcases (g2 h).2 with ⟨z, hz⟩ | ⟨z, hz⟩ <;> rw [hz] <;> rfl
  · rw [if_neg h]
    rcases g3 (by simpa using h) with hz | hz | hz <;> rw [hz] <;> rfl
theorem r_new {idx ci : Nat} {Cn : String} {T : u_T} {N : Nat} (hd : decode (mC M) pc = .ok (.new idx, 3)) (hc : vwCl[ci]? = some (Cn, T, N)) (w1 : Cond.classLink (mK M) idx Cn ∈ lw_good) (w2 : Cond.instantiable Cn N ∈ lw_good) (w3 : Cond.initialized Cn ∈ lw_good) (hn : n < 609) (hk : okd (nm n).1 = some ci) (hrp : rp (nm n) = fun _ => none) (hhp : hp (nm n) = fun _ => 0) (hcu : cu + 1 ≤ mc) (hsu : su + N ≤ ms) (k : V g M mc ms (cu + 1) (su + N) (n + 1) (pc + 3) L (vR (nm n) :: st) rp hp P) : V g M mc ms cu su n pc L st rp hp P := by
  intro p l e R s m args below meth c Q C RT H locs LS hH hS hl
  have hts := C.2.2.2.2.2.1
  have hK := C.2.2.2.2.2.2.2.2.1.1
  obtain ⟨⟨co1, co2, co3, co4⟩, cg⟩ := cls_ok hc
  have co4 : N = nfT ci := co4
  have hKn := hK.1 ci _ hc
  have hR := C.2.2.2.2.2.2.2.2.2.1
  refine W.newcK C.1 C.2.1 C.2.2.2.2.1 (hts _ w1) (hts _ w2) (hts _ w3) rfl hd (Nat.le_trans hcu hR.2.2.1) (Nat.le_trans hsu hR.2.2.2) hKn.2.1 hH.2.1 fun H1 kC hkC e1 z1 o1 => ?_
  have hz := hH.2.1
  have e3 := k p l e R s m args below meth c Q C RT H1 locs LS (hx_push hH hn ?_ (by rw [z1, hz]) (fun q hq => o1 q (by rw [← hz]; exact hq))) (S_push hS (by rw [z1, hz]) (fun q hq => o1 q (by rw [← hz]; exact hq))) hl
  · have e4 : trv g (vR (nm n)) = .ref (g.2.2.1 + n) := by show Value.ref (al g (nm n)) = _; rw [al_nm hn]
    rw [List.map_cons, e4] at e3
    exact e3
  · rw [cn_ob hk]
    refine ⟨_, hc, (u_born (tyT ci) hts co1 hKn hkC e1 co2).to (fun j hj => ?_)⟩
    have hj : j < N := hj
    rw [co4] at hj
    rw [dv_ob hc hj]
    unfold vp_V
    rw [List.getD_eq_getElem?_getD, List.getElem?_map, List.getElem?_range hj, Option.map_some, hrp, hhp]
    by_cases h : rfT ci j = true <;> simp [h, va_rf]
theorem cls_arr {t : Nat} {ty : FieldType} {s : State} {cA : ClassId} (hK : va_K (g.1.1, g.1.2) vwCl (tysF g) s) (ht : (tysF g)[t]? = some (g.2.1 t, ty)) (hty : ∀ Cn, ty ≠ .object Cn) (h : s.vm.findClass ("[" ++ ty.toString) = some cA) : g.2.1 t = cA := by
  have h1 := (hK.2 t _ ht).2
  have h2 : s.vm.findClass ("[" ++ ty.toString) = some (g.2.1 t) := by
    cases ty with
    | object z => exact absurd rfl (hty z)
    | _ => exact h1
  exact Option.some.inj (h2.symm.trans h)
theorem r_newa {atype : ArrayType} {ty : FieldType} {t len : Nat} {x : Int32} (hd : decode (mC M) pc = .ok (.newarray atype, 2)) (hw : Cond.arrayClass (newarray.typeOf atype) ∈ lw_good) (hty : newarray.typeOf atype = ty) (ht : (tysF g)[t]? = some (g.2.1 t, ty)) (hno : ∀ Cn, ty ≠ .object Cn) (hdv : defaultValue ty = .int 0) (hx : x = nI len) (hlen : len < 100000) (hn : n < 609) (hk : akd (nm n).1 = some (t, len)) (hb : len * componentBytes ty ≤ 536870912) (hhp : hp (nm n) = fun _ => 0) (hcu : cu + 1 ≤ mc) (hsu : su + len ≤ ms) (k : V g M mc ms (cu + 1) (su + len) (n + 1) (pc + 2) L (vR (nm n) :: st) rp hp P) : V g M mc ms cu su n pc L (vI x :: st) rp hp P := by
  intro p l e R s m args below meth c Q C RT H locs LS hH hS hl
  subst hty
  have hts := C.2.2.2.2.2.1
  have hK := C.2.2.2.2.2.2.2.2.1.1
  have hR := C.2.2.2.2.2.2.2.2.2.1
  have hcl : x.toNatClampNeg = len := by rw [hx]; exact nI_clamp (by omega)
  refine va_newaK C.1 C.2.1 (hts _ hw) rfl hd rfl (by rw [hx]; exact nI_pos (by omega)) hcl hb (Nat.le_trans hcu hR.2.2.1) (Nat.le_trans hsu hR.2.2.2) hH.2.1 fun H1 cA e1 z1 o1 hAr hNm => ?_
  have hz := hH.2.1
  have e3 := k p l e R s m args below meth c Q C RT H1 locs LS (hx_push hH hn ?_ (by rw [z1, hz]) (fun q hq => o1 q (by rw [← hz]; exact hq))) (S_push hS (by rw [z1, hz]) (fun q hq => o1 q (by rw [← hz]; exact hq))) hl
  · have e4 : trv g (vR (nm n)) = .ref (g.2.2.1 + n) := by show Value.ref (al g (nm n)) = _; rw [al_nm hn]
    rw [List.map_cons, e4] at e3
    exact e3
  · rw [cn_ar hk]
    show H1[g.2.2.1 + n]? = some (vp_cell _ _)
    rw [e1, vp_cell_i, hhp, cls_arr hK ht hno hNm, hdv]
theorem r_anew {idx t len : Nat} {Cn : String} {x : Int32} (hd : decode (mC M) pc = .ok (.anewarray idx, 3)) (hw : Cond.classLink (mK M) idx Cn ∈ lw_good) (hCn : Cn = RX5 ∨ Cn = RX4) (ht : (tysF g)[t]? = some (g.2.1 t, .object Cn)) (hx : x = nI len) (hlen : len < 100000) (hn : n < 609) (hk : rkd (nm n).1 = some (t, len)) (hrp : rp (nm n) = fun _ => none) (hcu : cu + 1 ≤ mc) (hsu : su + len ≤ ms) (k : V g M mc ms (cu + 1) (su + len) (n + 1) (pc + 3) L (vR (nm n) :: st) rp hp P) : V g M mc ms cu su n pc L (vI x :: st) rp hp P := by
  intro p l e R s m args below meth c Q C RT H locs LS hH hS hl
  have hts := C.2.2.2.2.2.1
  have hSX := C.2.2.2.2.2.2.2.2.1
  have hK := hSX.1
  have hR := C.2.2.2.2.2.2.2.2.2.1
  have hAO : va_AO Cn s := by rcases hCn with h | h <;> rw [h]; exact hSX.2.2.1.1; exact hSX.2.2.1.2
  have hcl : x.toNatClampNeg = len := by rw [hx]; exact nI_clamp (by omega)
  refine W.anew C.1 C.2.1 C.2.2.2.2.1 (hts _ hw) (va_AO.use hAO) rfl hd rfl (by rw [hx]; exact nI_pos (by omega)) (by rw [hcl]; omega) (Nat.le_trans hcu hR.2.2.1) (by rw [hcl]; exact Nat.le_trans hsu hR.2.2.2) fun cA kA comp f1 f2 f3 f4 => ?_
  rw [hcl]
  generalize hH1 : H.push ({ cls := cA, slots := Array.replicate len .null, vm := .none } : Cell) = H1
  have z1 : H1.size = H.size + 1 := by rw [← hH1, Array.size_push]
  have e1 : H1[H.size]? = some (arrV cA len (fun _ => .null)) := by rw [← hH1, Array.getElem?_push_size, ← arrV_new]
  have o1 : ∀ q : Nat, q < H.size → H1[q]? = H[q]? := fun q hq => by rw [← hH1, Array.getElem?_push, if_neg (Nat.ne_of_lt hq)]
  have hz := hH.2.1
  have e3 := k p l e R s m args below meth c Q C RT H1 locs LS (hx_push hH hn ?_ z1 o1) (S_push hS z1 o1) hl
  · have e4 : trv g (vR (nm n)) = .ref (g.2.2.1 + n) := by show Value.ref (al g (nm n)) = _; rw [al_nm hn]
    rw [List.map_cons, e4, ← hz] at e3
    exact e3
  · rw [cn_rr hk]
    show H1[g.2.2.1 + n]? = some (vp_cell _ _)
    obtain ⟨kB, comp2, k1, k2, k3, k4⟩ := (hK.2 t _ ht).2
    have hcA : g.2.1 t = cA := Option.some.inj (k4.symm.trans f1)
    rw [← hz, e1, vp_cell_q, hrp, hcA]
    rfl
theorem r_aast {a b : A4} {i : Int32} {t len ci : Nat} {q : vw_C} (hd : decode (mC M) pc = .ok (.aastore, 1)) (ho : rkd a.1 = some (t, len)) (hlv : lvp n a) (hlb : lvp n b) (hob : okd b.1 = some ci) (hc : vwCl[ci]? = some q) (ht : (tysF g)[t]? = some (g.2.1 t, .object q.1)) (hi : vp_in i len) (k : V g M mc ms cu su n (pc + 1) L st (rset rp a i.toNatClampNeg b) hp P) : V g M mc ms cu su n pc L (vR b :: vI i :: vR a :: st) rp hp P := by
  intro p l e R s m args below meth c Q C RT H locs LS hH hS hl
  have hK := C.2.2.2.2.2.2.2.2.1.1
  have ha := hH.1 (pos a) _ (wl_get hH.2.2 hlv)
  rw [cn_rr ho] at ha
  have hv := hH.1 (pos b) _ (wl_get hH.2.2 hlb)
  rw [cn_ob hob] at hv
  have hlt : i.toNatClampNeg < len := Nat.not_le.mp fun q => hi (Or.inr q)
  have h0 : ¬ i < 0 := fun q => hi (Or.inl q)
  obtain ⟨r', hr', cellV, g1, g2, g3, -⟩ := hv
  have hcls := (hK.1 ci q hc).2
  obtain ⟨kA, comp, k1, k2, k3, -⟩ := (hK.2 t _ ht).2
  have hcomp : comp = g.1.1 ci := Option.some.inj (k3.symm.trans hcls.1)
  subst hcomp
  obtain ⟨kC, hkC, -⟩ := hcls.2
  refine W.aast C.1 C.2.1 ha (fun q h => by cases h) (fun h => by cases h) k1 k2 rfl hkC ⟨h0, by show _ < (arrV _ _ _).slots.size; rw [arrV_size]; exact hlt⟩ g1 (fun q h => by rw [g3] at h; cases h) (by rw [g2]; exact hkC) (by rw [g2]; exact va_assign hcls) rfl rfl hd fun H1 ee z oq => ?_
  refine k p l e R s m args below meth c Q C RT H1 _ LS (hx_set hH hlv ?_ z oq (fun b hb => by funext j; simp [rset, hb]) (fun b _ => rfl)) (hS.put z oq (al_Af hH.2.2 hlv)) hl
  rw [cn_rr ho]
  show H1[al g a]? = some (vp_cell _ _)
  rw [ee, vp_cell_q, vp_cell_q, arrV_store]
  congr 2
  funext q
  by_cases hq : q = i.toNatClampNeg
  · subst hq
    simp [updV, rset, va_rf, trv]
  · simp [updV, rset, hq]
theorem r_objInit {a : A4} {idx : Nat} (hd : decode (mC M) pc = .ok (.invokespecial idx, 3)) (w1 : Cond.methodLink (mK M) idx objectInit ∈ lw_good) (w2 : Cond.instanceMethod objectInit ∈ lw_good) (w3 : Cond.code objectInit ⟨#[0xb1]⟩ 1 none ∈ lw_good) (hf : 1 ≤ mF M) (hw : (st.map fun v => (trv g v).category).sum + 12 ≤ mW M) (k : V g M mc ms cu su n (pc + 3) L st rp hp P) : V g M mc ms cu su n pc L (vR a :: st) rp hp P := by
  intro p l e R s m args below meth c Q C RT H locs LS hH hS hl
  have hts := C.2.2.2.2.2.1
  have hR := C.2.2.2.2.2.2.2.2.2.1
  refine W.objInit C.1 C.2.1 C.2.2.2.2.1 (hts _ w1) (hts _ w2) (hts _ w3) rfl (by rw [C.2.2.2.1]; exact hl.1) rfl hd (Nat.le_trans hf hR.1) ?_ (k p l e R s m args below meth c Q C RT H locs LS hH hS hl)
  rw [List.map_map]
  show 2 * 0 + _ + 12 ≤ _
  rw [Nat.mul_zero, Nat.zero_add]
  exact Nat.le_trans hw hR.2.1
theorem r_retV (hd : decode (mC M) pc = .ok (.return_, 1)) (hr : mR M = none) (hcu : cu ≤ mc) (hsu : su ≤ ms) (hP : P none n rp hp) : V g M mc ms cu su n pc L [] rp hp P := by
  intro p l e R s m args below meth c Q C RT H locs LS hH hS hl
  exact RT none n cu su rp hp H locs LS pc hP hcu hsu hH hS (Or.inl ⟨rfl, hr, hd⟩)
theorem r_retI {x : Int32} {ty : FieldType} (hd : decode (mC M) pc = .ok (.ireturn, 1)) (hr : mR M = some ty) (hx : narrow ty (.int x) = .int x) (hcu : cu ≤ mc) (hsu : su ≤ ms) (hP : P (some (vI x)) n rp hp) : V g M mc ms cu su n pc L [vI x] rp hp P := by
  intro p l e R s m args below meth c Q C RT H locs LS hH hS hl
  exact RT (some (vI x)) n cu su rp hp H locs LS pc hP hcu hsu hH hS (Or.inr (Or.inl ⟨x, ty, rfl, hr, hx, hd⟩))
theorem r_retA {a : A4} {Cn : String} (hd : decode (mC M) pc = .ok (.areturn, 1)) (hr : mR M = some (.object Cn)) (hcu : cu ≤ mc) (hsu : su ≤ ms) (hP : P (some (vR a)) n rp hp) : V g M mc ms cu su n pc L [vR a] rp hp P := by
  intro p l e R s m args below meth c Q C RT H locs LS hH hS hl
  exact RT (some (vR a)) n cu su rp hp H locs LS pc hP hcu hsu hH hS (Or.inr (Or.inr ⟨a, Cn, rfl, hr, hd⟩))
end RH
end
section
/-- the locals with which a method begins -/
def inL : List Vv → Nat → List (Option Vv)
  | [], k => List.replicate k none
  | v :: vs, k => match v with
    | .inr (.inl _) => some v :: none :: inL vs (k - 2)
    | _ => some v :: inL vs (k - 1)
theorem inL_mem {g : Gh} : ∀ (vs : List Vv) (k off i : Nat) (v : Vv), (inL vs k)[i]? = some (some v) → (off + i, trv g v) ∈ lv_args off (vs.map (trv g))
  | [], k, off, i, v, h => by
    unfold inL at h
    rw [List.getElem?_replicate] at h
    split at h <;> cases h
  | w :: vs, k, off, i, v, h => by
    rcases w with x | x | x
    · cases i with
      | zero => simp [inL] at h; subst h; exact List.mem_cons_self
      | succ i =>
        have h2 : (inL vs (k - 1))[i]? = some (some v) := by simpa [inL] using h
        have h3 := inL_mem (g := g) vs (k - 1) (off + 1) i v h2
        rw [show off + 1 + i = off + (i + 1) by omega] at h3
        exact List.mem_cons_of_mem _ h3
    · cases i with
      | zero => simp [inL] at h; subst h; exact List.mem_cons_self
      | succ i =>
        cases i with
        | zero => simp [inL] at h
        | succ i =>
          have h2 : (inL vs (k - 2))[i]? = some (some v) := by simpa [inL] using h
          have h3 := inL_mem (g := g) vs (k - 2) (off + 2) i v h2
          rw [show off + 2 + i = off + (i + 1 + 1) by omega] at h3
          exact List.mem_cons_of_mem _ h3
    · cases i with
      | zero => simp [inL] at h; subst h; exact List.mem_cons_self
      | succ i =>
        have h2 : (inL vs (k - 1))[i]? = some (some v) := by simpa [inL] using h
        have h3 := inL_mem (g := g) vs (k - 1) (off + 1) i v h2
        rw [show off + 1 + i = off + (i + 1) by omega] at h3
        have hc : (trv g (Sum.inr (Sum.inr x))).category = 1 := by cases x <;> rfl
        show _ ∈ _ :: lv_args (if (trv g (Sum.inr (Sum.inr x))).category = 2 then off + 2 else off + 1) _
        rw [if_neg (by rw [hc]; decide)]
        exact List.mem_cons_of_mem _ h3
/-- how many words the arguments take -/
def wdL : List Vv → Nat
  | [] => 0
  | v :: vs => (match v with
    | .inr (.inl _) => 2
    | _ => 1) + wdL vs
theorem wdL_sl {g : Gh} : ∀ vs : List Vv, (lg_sl (vs.map (trv g))).length = wdL vs
  | [] => rfl
  | v :: vs => by
    have h := wdL_sl (g := g) vs
    unfold lg_sl at h ⊢
    rw [List.map_cons, List.flatMap_cons, List.length_append, h]
    rcases v with x | x | x
    · rfl
    · rfl
    · cases x <;> rfl
abbrev MS (M : Md) : List Cond := Cond.code (mY M) (mC M) (mL M) (mR M) :: lw_good
abbrev rmM (M : Md) (mc ms : Nat) : Room := { frames := mF M, cells := mc, slots := ms, locals := mW M }
def Qx (g : Gh) (P : Pst) : Array Value → State → Outcome → State → Prop := fun _ st o t => ∃ (v : Option Vv) (n' : Nat) (rp' : RPt) (hp' : HPt), o = .returned (v.map (trv g)) ∧ P v n' rp' hp' ∧ HX g n' rp' hp' t.heap ∧ va_F (Af g) st t
abbrev Px (g : Gh) (as : List Vv) (n : Nat) (rp : RPt) (hp : HPt) : Array Value → State → Prop := va_Pc (as.map (trv g)) (fun U => HX g n rp hp U.heap ∧ SX g U)
/-- the contract out of the walk, for a method that no entry runs in its bytecode's place -/
theorem met_ofF {l : Launch} {y : MethodName} {ws ws' : List Cond} {rm : Room} {Pc : Array Value → State → Prop} {Qc : Array Value → State → Outcome → State → Prop} {mc ms : Nat} {free : Addr → Prop} {cc : ByteArray} {maxL : Nat} {ret : Option FieldType}
    (hy : plainFor y = true) (hw : ws = Cond.code y cc maxL ret :: ws')
    (body : ∀ p e s m args below meth c s₁, BodyLoose p l y (headSpec ws rm) cc maxL ret e s m args below meth c s₁ → c.maxLocals = maxL → Pc args s →
      W p l e (headSpec ws rm).room s m args below meth c s.heap [] 0 0 (MQ below Qc args s mc ms free) (entryFrame m args maxL)) : Met l y ws rm Pc Qc mc ms free := by
  refine MetFree.of_bodySF (code := cc) (maxLocals := maxL) (ret := ret) hy ?_ ?_
  · intro args s m h hn
    obtain ⟨meth, c, h1, h2, h3, h4, h5, h6, -, -⟩ := Cond.code_spec hn (atoms_spec (ws := ws) h _ (by rw [hw]; exact List.mem_cons_self))
    exact ⟨meth, c, h1, h2, h3, h4, h5, h6⟩
  · intro p e s m args below meth c s₁ B hml hP _
    have hh0 : s₁.heap = s.heap := by rw [B.state]; rfl
    obtain ⟨t, a1, o, b1, b2, b3⟩ := body p e s m args below meth c s₁ B hml hP s₁ hh0 (Stand.of_body B)
    exact ⟨t, o, a1, b1, b2, ⟨b3.1, b3.2⟩⟩
/-- a method's judgement from its entry is its contract -/
theorem met_of {g : Gh} {M : Md} {mc ms n : Nat} {as : List Vv} {rp : RPt} {hp : HPt} {P : Pst} (l : Launch) (hy : plainFor (mY M) = true) (hw : wdL as ≤ mL M) (hV : V g M mc ms 0 0 n 0 (inL as (mL M)) [] rp hp P) : Met l (mY M) (MS M) (rmM M mc ms) (Px g as n rp hp) (Qx g P) mc ms (Af g) := by
  refine met_ofF (cc := mC M) (maxL := mL M) (ret := mR M) hy rfl ?_
  intro p e s m args below meth c s₁ B hml hv
  obtain ⟨rfl, hH, hSX⟩ := hv
  have hts := atoms_spec (ws := MS M) B.pre
  have hin : meth.name = (mY M).name := (name_of_methodNamed B.named B.method).1
  have C : CX g M mc ms p (headSpec (MS M) (rmM M mc ms)).room s m (as.map (trv g)).toArray meth c := ⟨B.exec, B.bytes, B.returns, hml, findClass_of_methodNamed B.named, fun w h => hts w (List.mem_cons_of_mem _ h), B.notSynchronized, hin, hSX, ⟨Nat.le_refl _, Nat.le_refl _, Nat.le_refl _, Nat.le_refl _⟩, by rw [hH.2.1]; exact Nat.le_add_right _ _⟩
  have hl := lv_entry (as.map (trv g)) (n := mL M) (by rw [wdL_sl]; exact hw)
  rw [lg_entry_eq]
  refine hV p l e _ s m _ below meth c _ C ?_ s.heap [] _ hH va_S.rf ⟨hl.1, hl.2.1, fun q hq => ?_⟩
  · intro v n' cu' su' rp' hp' H' locs' LS' pc' hP hcu hsu hH' hS' hret
    refine W.widen hcu hsu ?_
    have hq : ∀ t : State, t.heap = H' → Qx g P (as.map (trv g)).toArray s (.returned (v.map (trv g))) t := fun t ht => ⟨v, n', rp', hp', rfl, hP, by rw [ht]; exact hH', hS'.F ht⟩
    rcases hret with ⟨rfl, hr, hd⟩ | ⟨x, ty, rfl, hr, hx, hd⟩ | ⟨a, Cn, rfl, hr, hd⟩
    · exact W.vret B.exec B.bytes (B.returns.trans hr) (fun t ht _ => hq t ht) hS'.2.2 hd B.notSynchronized
    · exact W.zret B.exec B.bytes (B.returns.trans hr) hx (fun t ht _ => hq t ht) hS'.2.2 hd B.notSynchronized
    · exact W.aret (v := .ref (al g a)) B.exec B.bytes (B.returns.trans hr) (Or.inl ⟨Cn, rfl⟩) (Or.inr ⟨_, rfl⟩) (fun t ht _ => hq t ht) hS'.2.2 hd B.notSynchronized
  · obtain ⟨v, h1, h2⟩ := cvL_mem.mp hq
    have h3 := inL_mem (g := g) as (mL M) 0 q.1 v h1
    rw [Nat.zero_add, ← h2] at h3
    exact hl.2.2 q h3
section RC
variable {g : Gh} {M J : Md} {mc ms cu su n pc mcj msj : Nat} {L : List (Option Vv)} {st : List Vv} {rp : RPt} {hp : HPt} {P PJ : Pst}
variable {p : Program} {l : Launch} {e : Env} {R : Room} {s : State} {m : MethodId} {args : Array Value} {below : List Frame} {meth : Method} {c : Code} {Q : State → Prop} {H : Heap} {locs : List Loc} {LS : Array Slot}
/-- behind a call -/
theorem w_call {rest : List Value} {st0 : List Value} {a : Array Value} {pc : Nat} (hr : va_Run p l e R s m args below meth c H locs cu su mcj msj (F0 m pc LS st0) rest (Qx g PJ a) (Af g)) (hS : va_S (Af g) s.heap H locs)
    (kk : ∀ (v : Option Vv) (n' : Nat) (rp' : RPt) (hp' : HPt) (H1 : Heap) (locs1 : List Loc), PJ v n' rp' hp' → HX g n' rp' hp' H1 → va_S (Af g) s.heap H1 locs1 → W p l e R s m args below meth c H1 locs1 (cu + mcj) (su + msj) Q (F0 m (pc + 3) LS ((v.map (trv g)).toList ++ rest))) : W p l e R s m args below meth c H locs cu su Q (F0 m pc LS st0) := by
  intro T hT X
  obtain ⟨v, st₀, t, T', L, h0, X', hL, e1, e2, ⟨w, n', rp', hp', hv, hP, hH, hz, hk⟩, st⟩ := hr T hT X
  have hv : v = w.map (trv g) := by cases hv; rfl
  subst hv
  rw [h0] at hz hk
  obtain ⟨t2, a1, b1⟩ := kk w n' rp' hp' T'.heap (locs ++ L) hP (by rw [e1]; exact hH)
    ⟨Nat.le_trans hS.1 (by rw [e1]; exact hz), fun q h1 h2 => by rw [e1, hk q (Nat.lt_of_lt_of_le h1 hS.1) h2]; exact hS.2.1 q h1 h2, fun q hq => by
      rcases List.mem_append.mp hq with h | h
      · exact hS.2.2 q h
      · exact hL q h⟩ T' rfl X'
  exact ⟨t2, st t2 a1, b1⟩
theorem c_blind {as : List Vv} : FrameBlind (Px g as n rp hp) := by
  intro a U gg mk q
  obtain ⟨q0, q1, q2⟩ := q
  exact ⟨q0, q1, q2.same rfl rfl⟩
theorem c_preS {as : List Vv} (C : CX g M mc ms p R s m args meth c) (hH : HX g n rp hp H) (hS : va_S (Af g) s.heap H locs) : PreS s H (Px g as n rp hp) (as.map (trv g)) := by
  refine ⟨c_blind, fun U hU hW => ⟨rfl, by rw [hU]; exact hH, ?_⟩⟩
  exact C.2.2.2.2.2.2.2.2.1.warm hS hU hW
theorem c_preV {as : List Vv} {b : A4} {ci : Nat} {q : vw_C} (C : CX g M mc ms p R s m args meth c) (hH : HX g n rp hp H) (hS : va_S (Af g) s.heap H locs) (hob : okd b.1 = some ci) (hc : vwCl[ci]? = some q) (hlv : lvp n b) : PreV s H q.1 (al g b) (Px g (vR b :: as) n rp hp) (as.map (trv g)) := by
  refine ⟨c_blind, ?_, fun U hU hW => ⟨rfl, by rw [hU]; exact hH, C.2.2.2.2.2.2.2.2.1.warm hS hU hW⟩⟩
  have he := wl_get (g := g) (rp := rp) (hp := hp) hH.2.2 hlv
  rw [cn_ob hob] at he
  exact va_recv C.2.2.2.2.2.2.2.2.1.1 hH.1 hc he
/-- the facts of a call's method: its words among the tables', its number of parameters, its room below the caller's -/
def CLo (M J : Md) (k : Nat) : Prop := plainFor (mY J) = true ∧ Cond.code (mY J) (mC J) (mL J) (mR J) ∈ lw_good ∧ (mK J ≠ "java/lang/invoke/MethodHandle" ∧ mK J ≠ "java/lang/invoke/VarHandle") ∧ (parseMethodDescriptor (mY J).desc).map (fun d => d.parameters.length) = some k ∧ mF J + 1 ≤ mF M ∧ 8 + (mL J + 11) + mW J ≤ mW M ∧ Cond.initialized (mK J) ∈ lw_good
theorem c_good (hc : Cond.code (mY J) (mC J) (mL J) (mR J) ∈ lw_good) : GoodIn lw_good (MS J) := by
  intro w hw
  rcases List.mem_cons.mp hw with rfl | hw
  · exact ⟨hc, gd_ok hc⟩
  · exact ⟨hw, gd_ok hw⟩
theorem c_room (C : CX g M mc ms p R s m args meth c) {k : Nat} (h : CLo M J k) : (rmM J mcj msj).frames + 1 ≤ R.frames ∧ 8 + (mL J + 11) + (rmM J mcj msj).locals ≤ R.locals := by
  have hR := C.2.2.2.2.2.2.2.2.2.1
  exact ⟨Nat.le_trans h.2.2.2.2.1 hR.1, Nat.le_trans h.2.2.2.2.2.1 hR.2.1⟩
theorem c_budget (C : CX g M mc ms p R s m args meth c) (h1 : cu + mcj ≤ mc) (h2 : su + msj ≤ ms) : cu + mcj ≤ R.cells ∧ su + msj ≤ R.slots := by
  have hR := C.2.2.2.2.2.2.2.2.2.1
  exact ⟨Nat.le_trans h1 hR.2.2.1, Nat.le_trans h2 hR.2.2.2⟩
theorem c_cat {st : List Vv} (h : (st.map fun v => (trv g v).category).sum ≤ 8) : ((st.map (trv g)).map fun v => v.category).sum ≤ 8 := by
  rw [List.map_map]
  exact h
theorem c_fin (C : CX g M mc ms p R s m args meth c) (RT : ∀ (v : Option Vv) (n' cu' su' : Nat) (rp' : RPt) (hp' : HPt) (H' : Heap) (locs' : List Loc) (LS' : Array Slot) (pc' : Nat), P v n' rp' hp' → cu' ≤ mc → su' ≤ ms → HX g n' rp' hp' H' → va_S (Af g) s.heap H' locs' → RTt M v pc' →
      W p l e R s m args below meth c H' locs' cu' su' Q (F0 m pc' LS' (v.toList.map (trv g)))) (hl : lv_has LS (mL M) (cvL g L))
    (k : ∀ v n' rp' hp', PJ v n' rp' hp' → V g M mc ms (cu + mcj) (su + msj) n' (pc + 3) L (v.toList ++ st) rp' hp' P) : ∀ (v : Option Vv) (n' : Nat) (rp' : RPt) (hp' : HPt) (H1 : Heap) (locs1 : List Loc), PJ v n' rp' hp' → HX g n' rp' hp' H1 → va_S (Af g) s.heap H1 locs1 → W p l e R s m args below meth c H1 locs1 (cu + mcj) (su + msj) Q (F0 m (pc + 3) LS ((v.map (trv g)).toList ++ st.map (trv g))) := by
  intro v n' rp' hp' H1 locs1 hP hH1 hS1
  have h := k v n' rp' hp' hP p l e R s m args below meth c Q C RT H1 locs1 LS hH1 hS1 hl
  cases v <;> exact h
theorem c_stk {as : List Vv} {b : Vv} : (as.reverse ++ b :: st).map (trv g) = (as.map (trv g)).reverse ++ trv g b :: st.map (trv g) := by
  rw [List.map_append, List.map_reverse, List.map_cons]
theorem c_stkS {as : List Vv} : (as.reverse ++ st).map (trv g) = (as.map (trv g)).reverse ++ st.map (trv g) := by
  rw [List.map_append, List.map_reverse]
/-- invokevirtual, the method linked plainly -/
theorem r_callV {as : List Vv} {b : A4} {idx ci k : Nat} {q : vw_C} {S : List Vv} (hd : decode (mC M) pc = .ok (.invokevirtual idx, 3)) (co : CLo M J k) (w1 : Cond.methodLink (mK M) idx (mY J) ∈ lw_good) (w2 : Cond.instanceMethod (mY J) ∈ lw_good) (w3 : Cond.selects (mK J) (mY J) (mY J) ∈ lw_good) (hob : okd b.1 = some ci) (hc : vwCl[ci]? = some q) (hq : q.1 = mK J) (hS0 : S = as.reverse ++ vR b :: st) (hlv : lvp n b) (hk : as.length = k) (hcat : (st.map fun v => (trv g v).category).sum ≤ 8) (hb1 : cu + mcj ≤ mc) (hb2 : su + msj ≤ ms) (hwd : wdL (vR b :: as) ≤ mL J)
    (hJ : V g J mcj msj 0 0 n 0 (inL (vR b :: as) (mL J)) [] rp hp PJ) (kk : ∀ v n' rp' hp', PJ v n' rp' hp' → V g M mc ms (cu + mcj) (su + msj) n' (pc + 3) L (v.toList ++ st) rp' hp' P) : V g M mc ms cu su n pc L S rp hp P := by
  subst hS0
  intro p l e R s m args below meth c Q C RT H locs LS hH hS hl
  rw [c_stk]
  have hp0 := c_preV (as := as) C hH hS hob hc hlv
  rw [hq] at hp0
  exact w_call (va_runV (As := as.map (trv g)) (rest := st.map (trv g)) ⟨C.1, C.2.1, C.2.2.2.1, C.2.2.2.2.1, C.2.2.2.2.2.1⟩ (met_of l co.1 hwd hJ) (cwV k C.2.2.2.2.2.1 (fun w hw => by
      rcases List.mem_append.mp hw with h | h
      · have hm : w ∈ lw_good := by
          simp only [List.mem_cons, List.not_mem_nil, or_false] at h
          rcases h with rfl | rfl | rfl | rfl
          · exact w1
          · exact w2
          · exact w3
          · exact co.2.2.2.2.2.2
        exact ⟨hm, gd_ok hm⟩
      · exact c_good co.2.1 w h) rfl rfl rfl ⟨rfl, co.2.2.1.1, co.2.2.1.2, co.2.2.2.1⟩ (c_room C co)) hp0 rfl (by rw [List.length_map]; exact hk) (by rw [← C.2.2.2.1, C.2.2.2.1]; exact hl.1) rfl (lv_room (c_cat hcat)) hd (c_budget C hb1 hb2)) hS (c_fin C RT hl kk)
/-- invokevirtual of a nest mate's private method -/
theorem r_callVN {as : List Vv} {b : A4} {idx ci k : Nat} {host : String} {q : vw_C} {S : List Vv} (hd : decode (mC M) pc = .ok (.invokevirtual idx, 3)) (co : CLo M J k) (w1 : Cond.methodLinkNest (mK M) idx (mY J) host ∈ lw_nest) (w2 : Cond.instanceMethod (mY J) ∈ lw_good) (w3 : Cond.selects (mK J) (mY J) (mY J) ∈ lw_good) (hob : okd b.1 = some ci) (hc : vwCl[ci]? = some q) (hq : q.1 = mK J) (hS0 : S = as.reverse ++ vR b :: st) (hlv : lvp n b) (hk : as.length = k) (hcat : (st.map fun v => (trv g v).category).sum ≤ 8) (hb1 : cu + mcj ≤ mc) (hb2 : su + msj ≤ ms) (hwd : wdL (vR b :: as) ≤ mL J)
    (hJ : V g J mcj msj 0 0 n 0 (inL (vR b :: as) (mL J)) [] rp hp PJ) (kk : ∀ v n' rp' hp', PJ v n' rp' hp' → V g M mc ms (cu + mcj) (su + msj) n' (pc + 3) L (v.toList ++ st) rp' hp' P) : V g M mc ms cu su n pc L S rp hp P := by
  subst hS0
  intro p l e R s m args below meth c Q C RT H locs LS hH hS hl
  rw [c_stk]
  have hp0 := c_preV (as := as) C hH hS hob hc hlv
  rw [hq] at hp0
  exact w_call (va_runVN (As := as.map (trv g)) (rest := st.map (trv g)) ⟨C.1, C.2.1, C.2.2.2.1, C.2.2.2.2.1, C.2.2.2.2.2.1⟩ (met_of l co.1 hwd hJ) ⟨va_cnB k C.2.2.2.2.2.1 (c_good co.2.1) rfl rfl rfl (C.2.2.2.2.2.2.2.2.1.2.1 _ w1) (C.2.2.2.2.2.1 _ co.2.2.2.2.2.2) ⟨co.2.2.1.1, co.2.2.1.2, co.2.2.2.1⟩ (c_room C co), C.2.2.2.2.2.1 _ w2, C.2.2.2.2.2.1 _ w3⟩ hp0 rfl (by rw [List.length_map]; exact hk) hl.1 rfl (lv_room (c_cat hcat)) hd (c_budget C hb1 hb2)) hS (c_fin C RT hl kk)
/-- invokestatic -/
theorem r_callS {as : List Vv} {idx k : Nat} {S : List Vv} (hd : decode (mC M) pc = .ok (.invokestatic idx, 3)) (co : CLo M J k) (w1 : Cond.methodLink (mK M) idx (mY J) ∈ lw_good) (w2 : Cond.static (mY J) ∈ lw_good) (hS0 : S = as.reverse ++ st) (hk : as.length = k) (hcat : (st.map fun v => (trv g v).category).sum ≤ 8) (hb1 : cu + mcj ≤ mc) (hb2 : su + msj ≤ ms) (hwd : wdL as ≤ mL J)
    (hJ : V g J mcj msj 0 0 n 0 (inL as (mL J)) [] rp hp PJ) (kk : ∀ v n' rp' hp', PJ v n' rp' hp' → V g M mc ms (cu + mcj) (su + msj) n' (pc + 3) L (v.toList ++ st) rp' hp' P) : V g M mc ms cu su n pc L S rp hp P := by
  subst hS0
  intro p l e R s m args below meth c Q C RT H locs LS hH hS hl
  rw [c_stkS]
  exact w_call (va_runS (As := as.map (trv g)) (rest := st.map (trv g)) ⟨C.1, C.2.1, C.2.2.2.1, C.2.2.2.2.1, C.2.2.2.2.2.1⟩ (met_of l co.1 hwd hJ) (va_cwS k C.2.2.2.2.2.1 (fun w hw => by
      rcases List.mem_append.mp hw with h | h
      · have hm : w ∈ lw_good := by
          simp only [List.mem_cons, List.not_mem_nil, or_false] at h
          rcases h with rfl | rfl | rfl
          · exact w1
          · exact w2
          · exact co.2.2.2.2.2.2
        exact ⟨hm, gd_ok hm⟩
      · exact c_good co.2.1 w h) rfl rfl rfl ⟨co.2.2.1.1, co.2.2.1.2, co.2.2.2.1⟩ (c_room C co)) (c_preS C hH hS) rfl (by rw [List.length_map]; exact hk) hl.1 rfl (lv_room (c_cat hcat)) hd (c_budget C hb1 hb2)) hS (c_fin C RT hl kk)
/-- invokestatic of a nest mate's private method -/
theorem r_callSN {as : List Vv} {idx k : Nat} {host : String} {S : List Vv} (hd : decode (mC M) pc = .ok (.invokestatic idx, 3)) (co : CLo M J k) (w1 : Cond.methodLinkNest (mK M) idx (mY J) host ∈ lw_nest) (w2 : Cond.static (mY J) ∈ lw_good) (hS0 : S = as.reverse ++ st) (hk : as.length = k) (hcat : (st.map fun v => (trv g v).category).sum ≤ 8) (hb1 : cu + mcj ≤ mc) (hb2 : su + msj ≤ ms) (hwd : wdL as ≤ mL J)
    (hJ : V g J mcj msj 0 0 n 0 (inL as (mL J)) [] rp hp PJ) (kk : ∀ v n' rp' hp', PJ v n' rp' hp' → V g M mc ms (cu + mcj) (su + msj) n' (pc + 3) L (v.toList ++ st) rp' hp' P) : V g M mc ms cu su n pc L S rp hp P := by
  subst hS0
  intro p l e R s m args below meth c Q C RT H locs LS hH hS hl
  rw [c_stkS]
  exact w_call (va_runSN (As := as.map (trv g)) (rest := st.map (trv g)) ⟨C.1, C.2.1, C.2.2.2.1, C.2.2.2.2.1, C.2.2.2.2.2.1⟩ (met_of l co.1 hwd hJ) ⟨va_cnB k C.2.2.2.2.2.1 (c_good co.2.1) rfl rfl rfl (C.2.2.2.2.2.2.2.2.1.2.1 _ w1) (C.2.2.2.2.2.1 _ co.2.2.2.2.2.2) ⟨co.2.2.1.1, co.2.2.1.2, co.2.2.2.1⟩ (c_room C co), C.2.2.2.2.2.1 _ w2, trivial⟩ (c_preS C hH hS) rfl (by rw [List.length_map]; exact hk) hl.1 rfl (lv_room (c_cat hcat)) hd (c_budget C hb1 hb2)) hS (c_fin C RT hl kk)
/-- a constructor, linked plainly -/
theorem r_callI {as : List Vv} {b : A4} {idx k : Nat} {S : List Vv} (hd : decode (mC M) pc = .ok (.invokespecial idx, 3)) (co : CLo M J k) (w1 : Cond.methodLink (mK M) idx (mY J) ∈ lw_good) (w2 : Cond.instanceMethod (mY J) ∈ lw_good) (hi : (mY J).name = "<init>") (hret : mR J = none) (hS0 : S = as.reverse ++ vR b :: st) (hk : as.length = k) (hcat : (st.map fun v => (trv g v).category).sum ≤ 8) (hb1 : cu + mcj ≤ mc) (hb2 : su + msj ≤ ms) (hwd : wdL (vR b :: as) ≤ mL J)
    (hJ : V g J mcj msj 0 0 n 0 (inL (vR b :: as) (mL J)) [] rp hp PJ) (kk : ∀ v n' rp' hp', PJ v n' rp' hp' → V g M mc ms (cu + mcj) (su + msj) n' (pc + 3) L (v.toList ++ st) rp' hp' P) : V g M mc ms cu su n pc L S rp hp P := by
  subst hS0
  intro p l e R s m args below meth c Q C RT H locs LS hH hS hl
  rw [c_stk]
  exact w_call (va_runI (As := as.map (trv g)) (rest := st.map (trv g)) ⟨C.1, C.2.1, C.2.2.2.1, C.2.2.2.2.1, C.2.2.2.2.2.1⟩ (met_of l co.1 hwd hJ) (cwI (bytes := mC J) (maxL := mL J) k C.2.2.2.2.2.1 (c_good co.2.1) (ws' := lw_good) (show Cond.code (mY J) (mC J) (mL J) (mR J) :: lw_good = _ by rw [hret]) rfl rfl (C.2.2.2.2.2.1 _ co.2.2.2.2.2.2) (C.2.2.2.2.2.1 _ w1) (C.2.2.2.2.2.1 _ w2) hi ⟨co.2.2.1.1, co.2.2.1.2, co.2.2.2.1⟩ (c_room C co)) (c_preS (as := vR b :: as) C hH hS) rfl (by rw [List.length_map]; exact hk) hl.1 rfl (lv_room (c_cat hcat)) hd (c_budget C hb1 hb2)) hS (c_fin C RT hl kk)
/-- a nest mate's private constructor -/
theorem r_callIN {as : List Vv} {b : A4} {idx k : Nat} {host : String} {S : List Vv} (hd : decode (mC M) pc = .ok (.invokespecial idx, 3)) (co : CLo M J k) (w1 : Cond.methodLinkNest (mK M) idx (mY J) host ∈ lw_nest) (w2 : Cond.instanceMethod (mY J) ∈ lw_good) (hi : (mY J).name = "<init>") (hret : mR J = none) (hS0 : S = as.reverse ++ vR b :: st) (hk : as.length = k) (hcat : (st.map fun v => (trv g v).category).sum ≤ 8) (hb1 : cu + mcj ≤ mc) (hb2 : su + msj ≤ ms) (hwd : wdL (vR b :: as) ≤ mL J)
    (hJ : V g J mcj msj 0 0 n 0 (inL (vR b :: as) (mL J)) [] rp hp PJ) (kk : ∀ v n' rp' hp', PJ v n' rp' hp' → V g M mc ms (cu + mcj) (su + msj) n' (pc + 3) L (v.toList ++ st) rp' hp' P) : V g M mc ms cu su n pc L S rp hp P := by
  subst hS0
  intro p l e R s m args below meth c Q C RT H locs LS hH hS hl
  rw [c_stk]
  exact w_call (va_runIN (As := as.map (trv g)) (rest := st.map (trv g)) ⟨C.1, C.2.1, C.2.2.2.1, C.2.2.2.2.1, C.2.2.2.2.2.1⟩ (met_of l co.1 hwd hJ) ⟨va_cnB (bytes := mC J) (maxL := mL J) (ret := none) k C.2.2.2.2.2.1 (c_good co.2.1) (ws' := lw_good) (show Cond.code (mY J) (mC J) (mL J) (mR J) :: lw_good = _ by rw [hret]) rfl rfl (C.2.2.2.2.2.2.2.2.1.2.1 _ w1) (C.2.2.2.2.2.1 _ co.2.2.2.2.2.2) ⟨co.2.2.1.1, co.2.2.1.2, co.2.2.2.1⟩ (c_room C co), hi, C.2.2.2.2.2.1 _ w2⟩ (c_preS (as := vR b :: as) C hH hS) rfl (by rw [List.length_map]; exact hk) hl.1 rfl (lv_room (c_cat hcat)) hd (c_budget C hb1 hb2)) hS (c_fin C RT hl kk)
end RC
end
section
/-- the names that the references hold, once all is made -/
def RP : RPt := fun a i => match a, i with
  | (0, t, _, _), 0 => some (1, t, 0, 0)
  | (0, t, _, _), 1 => some (2, t, 0, 0)
  | (0, t, _, _), 2 => some (3, t, 0, 0)
  | (1, t, _, _), j => some (4, t, j, 0)
  | (4, t, j, _), 0 => some (5, t, j, 0)
  | (4, t, j, _), 1 => some (5, t, j, 1)
  | (5, t, j, b), 0 => some (6, t, j, b)
  | (5, t, j, b), 1 => some (7, t, j, b)
  | (8, _, _, _), 0 => some (9, 0, 0, 0)
  | (9, _, _, _), i => some (0, i + 1, 0, 0)
  | (10, _, _, _), i => some (0, i + 8, 0, 0)
  | (12, _, _, _), 0 => some (13, 0, 0, 0)
  | (14, _, _, _), 0 => some (12, 0, 0, 0)
  | (15, _, _, _), 0 => some (0, 0, 0, 0)
  | (15, _, _, _), 1 => some (8, 0, 0, 0)
  | (15, _, _, _), 2 => some (10, 0, 0, 0)
  | (15, _, _, _), 3 => some (11, 0, 0, 0)
  | (15, _, _, _), 4 => some (12, 0, 0, 0)
  | (15, _, _, _), 5 => some (14, 0, 0, 0)
  | _, _ => none
theorem lv_t : ∀ k, k < 4 → ∀ t, t < 10 → nm (pos (k, t, 0, 0)) = (k, t, 0, 0) ∧ pos (k, t, 0, 0) < 609 := by decide +kernel
theorem lv_s : ∀ t, t < 10 → ∀ j, j < 8 → nm (pos (4, t, j, 0)) = (4, t, j, 0) ∧ pos (4, t, j, 0) < 609 := by decide +kernel
theorem lv_h50 : ∀ t, t < 10 → ∀ j, j < 8 → nm (pos (5, t, j, 0)) = (5, t, j, 0) ∧ pos (5, t, j, 0) < 609 := by decide +kernel
theorem lv_h51 : ∀ t, t < 10 → ∀ j, j < 8 → nm (pos (5, t, j, 1)) = (5, t, j, 1) ∧ pos (5, t, j, 1) < 609 := by decide +kernel
theorem lv_h5 {t j b : Nat} (h : t < 10) (hj : j < 8) (hb : b < 2) : lvp 609 (5, t, j, b) := by
  match b, hb with
  | 0, _ => exact lv_h50 t h j hj
  | 1, _ => exact lv_h51 t h j hj
theorem lv_h60 : ∀ t, t < 10 → ∀ j, j < 8 → nm (pos (6, t, j, 0)) = (6, t, j, 0) ∧ pos (6, t, j, 0) < 609 := by decide +kernel
theorem lv_h61 : ∀ t, t < 10 → ∀ j, j < 8 → nm (pos (6, t, j, 1)) = (6, t, j, 1) ∧ pos (6, t, j, 1) < 609 := by decide +kernel
theorem lv_h6 {t j b : Nat} (h : t < 10) (hj : j < 8) (hb : b < 2) : lvp 609 (6, t, j, b) := by
  match b, hb with
  | 0, _ => exact lv_h60 t h j hj
  | 1, _ => exact lv_h61 t h j hj
theorem lv_h70 : ∀ t, t < 10 → ∀ j, j < 8 → nm (pos (7, t, j, 0)) = (7, t, j, 0) ∧ pos (7, t, j, 0) < 609 := by decide +kernel
theorem lv_h71 : ∀ t, t < 10 → ∀ j, j < 8 → nm (pos (7, t, j, 1)) = (7, t, j, 1) ∧ pos (7, t, j, 1) < 609 := by decide +kernel
theorem lv_h7 {t j b : Nat} (h : t < 10) (hj : j < 8) (hb : b < 2) : lvp 609 (7, t, j, b) := by
  match b, hb with
  | 0, _ => exact lv_h70 t h j hj
  | 1, _ => exact lv_h71 t h j hj
theorem lv_k : ∀ k, k < 9 → nm (pos (8 + k, 0, 0, 0)) = (8 + k, 0, 0, 0) ∧ pos (8 + k, 0, 0, 0) < 609 := by decide +kernel
theorem lv0 {t : Nat} (h : t < 10) : lvp 609 (0, t, 0, 0) := lv_t 0 (by decide) t h
theorem lv1 {t : Nat} (h : t < 10) : lvp 609 (1, t, 0, 0) := lv_t 1 (by decide) t h
theorem lv2 {t : Nat} (h : t < 10) : lvp 609 (2, t, 0, 0) := lv_t 2 (by decide) t h
theorem lv3 {t : Nat} (h : t < 10) : lvp 609 (3, t, 0, 0) := lv_t 3 (by decide) t h
theorem lv4 {t j : Nat} (h : t < 10) (hj : j < 8) : lvp 609 (4, t, j, 0) := lv_s t h j hj
theorem lv5 {t j b : Nat} (h : t < 10) (hj : j < 8) (hb : b < 2) : lvp 609 (5, t, j, b) := lv_h5 h hj hb
theorem lv6 {t j b : Nat} (h : t < 10) (hj : j < 8) (hb : b < 2) : lvp 609 (6, t, j, b) := lv_h6 h hj hb
theorem lv7 {t j b : Nat} (h : t < 10) (hj : j < 8) (hb : b < 2) : lvp 609 (7, t, j, b) := lv_h7 h hj hb
theorem lv8 : lvp 609 (8, 0, 0, 0) := lv_k 0 (by decide)
theorem lv9 : lvp 609 (9, 0, 0, 0) := lv_k 1 (by decide)
theorem lv10 : lvp 609 (10, 0, 0, 0) := lv_k 2 (by decide)
theorem lv11 : lvp 609 (11, 0, 0, 0) := lv_k 3 (by decide)
theorem lv12 : lvp 609 (12, 0, 0, 0) := lv_k 4 (by decide)
theorem lv13 : lvp 609 (13, 0, 0, 0) := lv_k 5 (by decide)
theorem lv14 : lvp 609 (14, 0, 0, 0) := lv_k 6 (by decide)
theorem lv15 : lvp 609 (15, 0, 0, 0) := lv_k 7 (by decide)
theorem lv16 : lvp 609 (16, 0, 0, 0) := lv_k 8 (by decide)
/-- answers: the ends of methods that make no cell -/
abbrev Pi (r : Int32) (h1 : HPt) : Pst := fun v n' rp' hp' => v = some (vI r) ∧ n' = 609 ∧ rp' = RP ∧ hp' = h1
abbrev Pv (h1 : HPt) : Pst := fun v n' rp' hp' => v = none ∧ n' = 609 ∧ rp' = RP ∧ hp' = h1
abbrev Pa (r : A4) (h1 : HPt) : Pst := fun v n' rp' hp' => v = some (vR r) ∧ n' = 609 ∧ rp' = RP ∧ hp' = h1
/-- contracts of methods that make no cell -/
def Ci (g : Gh) (J : Md) (as : List Vv) (hp : HPt) (r : Int32) (h1 : HPt) : Prop := V g J 0 0 0 0 609 0 (inL as (mL J)) [] RP hp (Pi r h1)
def Cv (g : Gh) (J : Md) (as : List Vv) (hp : HPt) (h1 : HPt) : Prop := V g J 0 0 0 0 609 0 (inL as (mL J)) [] RP hp (Pv h1)
def Ca (g : Gh) (J : Md) (as : List Vv) (hp : HPt) (r : A4) (h1 : HPt) : Prop := V g J 0 0 0 0 609 0 (inL as (mL J)) [] RP hp (Pa r h1)
abbrev mJ9_floorMod_7cf53 : Md := (yJ9_floorMod_7cf53, cJ9_floorMod_7cf53, 3, some .int, 0, 0)
abbrev mJ9_max_7cf53 : Md := (yJ9_max_7cf53, cJ9_max_7cf53, 2, some .int, 0, 0)
abbrev mJ9_min_7cf53 : Md := (yJ9_min_7cf53, cJ9_min_7cf53, 2, some .int, 0, 0)
abbrev mL_cell : Md := (yL_cell, cL_cell, 2, some .int, 0, 0)
abbrev mL_change : Md := (yL_change, cL_change, 9, some .int, 7, 147)
abbrev mL_holds : Md := (yL_holds, cL_holds, 7, some .boolean, 7, 153)
abbrev mL_isCaught : Md := (yL_isCaught, cL_isCaught, 3, some .boolean, 4, 90)
abbrev mL_isSecret : Md := (yL_isSecret, cL_isSecret, 10, some .boolean, 6, 124)
abbrev mL_isStore : Md := (yL_isStore, cL_isStore, 7, some .boolean, 5, 116)
abbrev mL_law : Md := (yL_law, cL_law, 12, some .boolean, 8, 179)
abbrev mL_low : Md := (yL_low, cL_low, 2, some .int, 0, 0)
abbrev mX0_catches : Md := (yX0_catches, cX0_catches, 2, some .boolean, 2, 41)
abbrev mX0_copyHalf : Md := (yX0_copyHalf, cX0_copyHalf, 3, none, 0, 0)
abbrev mX0_freeRowOfNow : Md := (yX0_freeRowOfNow, cX0_freeRowOfNow, 2, none, 0, 0)
abbrev mX0_init : Md := (yX0_init, cX0_init, 1, none, 1, 20)
abbrev mX0_lies : Md := (yX0_lies, cX0_lies, 1, some .boolean, 0, 0)
abbrev mX0_partWith : Md := (yX0_partWith, cX0_partWith, 2, some .int, 0, 0)
abbrev mX0_tagDueFor : Md := (yX0_tagDueFor, cX0_tagDueFor, 2, some .int, 0, 0)
abbrev mX0_toldPart : Md := (yX0_toldPart, cX0_toldPart, 1, some .int, 1, 21)
abbrev mX0_toldTag : Md := (yX0_toldTag, cX0_toldTag, 1, some .int, 0, 0)
abbrev mX1_draft : Md := (yX1_draft, cX1_draft, 2, none, 3, 65)
abbrev mX1_init : Md := (yX1_init, cX1_init, 2, none, 4, 81)
abbrev mX1_recordDraft : Md := (yX1_recordDraft, cX1_recordDraft, 1, none, 0, 0)
abbrev mX1_takesBack : Md := (yX1_takesBack, cX1_takesBack, 2, some .boolean, 3, 65)
abbrev mX2_init : Md := (yX2_init, cX2_init, 1, none, 1, 20)
abbrev mX3_init : Md := (yX3_init, cX3_init, 2, none, 1, 20)
abbrev mX4_ageKeeping : Md := (yX4_ageKeeping, cX4_ageKeeping, 3, some .int, 1, 21)
abbrev mX4_answerIfMerged : Md := (yX4_answerIfMerged, cX4_answerIfMerged, 1, some .int, 3, 62)
abbrev mX4_copySecret : Md := (yX4_copySecret, cX4_copySecret, 2, none, 1, 22)
abbrev mX4_halfBeside : Md := (yX4_halfBeside, cX4_halfBeside, 2, some (.object "SplitSecrets$Half"), 0, 0)
abbrev mX4_halfIn : Md := (yX4_halfIn, cX4_halfIn, 2, some (.object "SplitSecrets$Half"), 0, 0)
abbrev mX4_init : Md := (yX4_init, cX4_init, 1, none, 2, 40)
abbrev mX4_open : Md := (yX4_open, cX4_open, 3, none, 0, 0)
abbrev mX4_partForThief : Md := (yX4_partForThief, cX4_partForThief, 4, some .int, 1, 21)
abbrev mX4_rowsAtRisk : Md := (yX4_rowsAtRisk, cX4_rowsAtRisk, 3, some .int, 0, 0)
abbrev mX4_takenSet : Md := (yX4_takenSet, cX4_takenSet, 2, some .int, 0, 0)
abbrev mX4_value : Md := (yX4_value, cX4_value, 1, some .int, 0, 0)
abbrev mX5_adm : Md := (yX5_adm, cX5_adm, 2, some .int, 2, 46)
abbrev mX5_answerOfMerger : Md := (yX5_answerOfMerger, cX5_answerOfMerger, 2, some .int, 4, 82)
abbrev mX5_burnOldVersions : Md := (yX5_burnOldVersions, cX5_burnOldVersions, 3, some .int, 1, 21)
abbrev mX5_changeSetting : Md := (yX5_changeSetting, cX5_changeSetting, 4, some .int, 0, 0)
abbrev mX5_changeX : Md := (yX5_changeX, cX5_changeX, 3, some .int, 0, 0)
abbrev mX5_copyState : Md := (yX5_copyState, cX5_copyState, 3, none, 2, 43)
abbrev mX5_drawn : Md := (yX5_drawn, cX5_drawn, 1, some .int, 0, 0)
abbrev mX5_figure : Md := (yX5_figure, cX5_figure, 2, some .int, 1, 22)
abbrev mX5_figureOfHalf : Md := (yX5_figureOfHalf, cX5_figureOfHalf, 5, some .int, 2, 43)
abbrev mX5_figureOfOldVersion : Md := (yX5_figureOfOldVersion, cX5_figureOfOldVersion, 6, some .int, 1, 21)
abbrev mX5_figureOfSecret : Md := (yX5_figureOfSecret, cX5_figureOfSecret, 4, some .int, 1, 21)
abbrev mX5_givePartToThief : Md := (yX5_givePartToThief, cX5_givePartToThief, 5, some .int, 2, 44)
abbrev mX5_hasHalf : Md := (yX5_hasHalf, cX5_hasHalf, 3, some .boolean, 1, 21)
abbrev mX5_hasSecret : Md := (yX5_hasSecret, cX5_hasSecret, 2, some .boolean, 0, 0)
abbrev mX5_init : Md := (yX5_init, cX5_init, 2, none, 3, 60)
abbrev mX5_makeNextVersion : Md := (yX5_makeNextVersion, cX5_makeNextVersion, 3, none, 2, 46)
abbrev mX5_makeVersion : Md := (yX5_makeVersion, cX5_makeVersion, 5, none, 1, 22)
abbrev mX5_mergeParts : Md := (yX5_mergeParts, cX5_mergeParts, 4, some .int, 5, 103)
abbrev mX5_offsetsThatPass : Md := (yX5_offsetsThatPass, cX5_offsetsThatPass, 6, some .int, 3, 68)
abbrev mX5_otherPartFor : Md := (yX5_otherPartFor, cX5_otherPartFor, 4, some .int, 2, 43)
abbrev mX5_partsNeeded : Md := (yX5_partsNeeded, cX5_partsNeeded, 2, some .int, 1, 22)
abbrev mX5_passBeats : Md := (yX5_passBeats, cX5_passBeats, 4, some .int, 4, 89)
abbrev mX5_passOneBeat : Md := (yX5_passOneBeat, cX5_passOneBeat, 2, none, 3, 68)
abbrev mX5_renew : Md := (yX5_renew, cX5_renew, 3, some .int, 3, 68)
abbrev mX5_setOfKnown : Md := (yX5_setOfKnown, cX5_setOfKnown, 3, some .int, 0, 0)
abbrev mX5_setOfOpen : Md := (yX5_setOfOpen, cX5_setOfOpen, 3, some .int, 0, 0)
abbrev mX5_someStoreSleeps : Md := (yX5_someStoreSleeps, cX5_someStoreSleeps, 1, some .boolean, 0, 0)
abbrev mX5_tagOffsetThatPasses : Md := (yX5_tagOffsetThatPasses, cX5_tagOffsetThatPasses, 6, some .int, 2, 43)
abbrev mX5_takeUpLie : Md := (yX5_takeUpLie, cX5_takeUpLie, 7, some .int, 2, 43)
abbrev mX5_turnSleep : Md := (yX5_turnSleep, cX5_turnSleep, 2, some .int, 1, 20)
abbrev mX5_versionsAtRisk : Md := (yX5_versionsAtRisk, cX5_versionsAtRisk, 2, some .int, 1, 22)
abbrev mX6_atRisk : Md := (yX6_atRisk, cX6_atRisk, 2, some .int, 2, 43)
abbrev mX6_burn : Md := (yX6_burn, cX6_burn, 2, some .int, 4, 86)
abbrev mX6_count : Md := (yX6_count, cX6_count, 2, some .int, 2, 43)
abbrev mX6_ifMerged : Md := (yX6_ifMerged, cX6_ifMerged, 2, some .int, 5, 103)
abbrev mX6_init : Md := (yX6_init, cX6_init, 2, none, 5, 102)
abbrev mX6_isPart : Md := (yX6_isPart, cX6_isPart, 1, some .boolean, 0, 0)
abbrev mX6_isStore : Md := (yX6_isStore, cX6_isStore, 1, some .boolean, 0, 0)
abbrev mX6_isTag : Md := (yX6_isTag, cX6_isTag, 1, some .boolean, 0, 0)
abbrev mX6_keep : Md := (yX6_keep, cX6_keep, 2, some .int, 4, 86)
abbrev mX6_lie : Md := (yX6_lie, cX6_lie, 5, some .int, 4, 86)
abbrev mX6_merge : Md := (yX6_merge, cX6_merge, 2, some .int, 6, 126)
abbrev mX6_needed : Md := (yX6_needed, cX6_needed, 2, some .int, 2, 43)
abbrev mX6_of : Md := (yX6_of, cX6_of, 4, some .int, 3, 67)
abbrev mX6_ofSecret : Md := (yX6_ofSecret, cX6_ofSecret, 3, some .int, 2, 44)
abbrev mX6_old : Md := (yX6_old, cX6_old, 4, some .int, 2, 46)
abbrev mX6_otherwise : Md := (yX6_otherwise, cX6_otherwise, 4, some .int, 3, 66)
abbrev mX6_pass : Md := (yX6_pass, cX6_pass, 2, some .int, 5, 112)
abbrev mX6_passes : Md := (yX6_passes, cX6_passes, 4, some .int, 4, 93)
abbrev mX6_passing : Md := (yX6_passing, cX6_passing, 4, some .int, 3, 68)
abbrev mX6_recorded : Md := (yX6_recorded, cX6_recorded, 2, some .int, 1, 20)
abbrev mX6_refresh : Md := (yX6_refresh, cX6_refresh, 2, some .int, 4, 90)
abbrev mX6_seed : Md := (yX6_seed, cX6_seed, 2, some .int, 4, 86)
abbrev mX6_set : Md := (yX6_set, cX6_set, 3, some .int, 4, 86)
abbrev mX6_sleep : Md := (yX6_sleep, cX6_sleep, 2, some .int, 4, 86)
abbrev mX6_steal : Md := (yX6_steal, cX6_steal, 4, some .int, 4, 86)
abbrev mX6_undo : Md := (yX6_undo, cX6_undo, 1, some .int, 4, 86)
end
section
theorem wd_0 : Cond.selects RX5 yX5_figure yX5_figure ∈ lw_good := gd_i 0 (by decide +kernel) (by decide +kernel)
theorem wd_1 : Cond.selects RX5 yX5_setOfOpen yX5_setOfOpen ∈ lw_good := gd_i 1 (by decide +kernel) (by decide +kernel)
theorem wd_2 : Cond.selects RX5 yX5_setOfKnown yX5_setOfKnown ∈ lw_good := gd_i 2 (by decide +kernel) (by decide +kernel)
theorem wd_3 : Cond.selects RX5 yX5_answerOfMerger yX5_answerOfMerger ∈ lw_good := gd_i 3 (by decide +kernel) (by decide +kernel)
theorem wd_4 : Cond.selects RX5 yX5_hasSecret yX5_hasSecret ∈ lw_good := gd_i 4 (by decide +kernel) (by decide +kernel)
theorem wd_5 : Cond.selects RX5 yX5_someStoreSleeps yX5_someStoreSleeps ∈ lw_good := gd_i 5 (by decide +kernel) (by decide +kernel)
theorem wd_6 : Cond.selects RX4 yX4_answerIfMerged yX4_answerIfMerged ∈ lw_good := gd_i 6 (by decide +kernel) (by decide +kernel)
theorem wd_7 : Cond.selects RX0 yX0_catches yX0_catches ∈ lw_good := gd_i 7 (by decide +kernel) (by decide +kernel)
theorem wd_8 : Cond.selects RX0 yX0_toldPart yX0_toldPart ∈ lw_good := gd_i 8 (by decide +kernel) (by decide +kernel)
theorem wd_9 : Cond.selects RX0 yX0_partWith yX0_partWith ∈ lw_good := gd_i 9 (by decide +kernel) (by decide +kernel)
theorem wd_10 : Cond.selects RX0 yX0_tagDueFor yX0_tagDueFor ∈ lw_good := gd_i 10 (by decide +kernel) (by decide +kernel)
theorem wd_11 : Cond.selects RX0 yX0_toldTag yX0_toldTag ∈ lw_good := gd_i 11 (by decide +kernel) (by decide +kernel)
theorem wd_12 : Cond.selects RX1 yX1_takesBack yX1_takesBack ∈ lw_good := gd_i 12 (by decide +kernel) (by decide +kernel)
theorem wd_13 : Cond.selects RX5 yX5_copyState yX5_copyState ∈ lw_good := gd_i 13 (by decide +kernel) (by decide +kernel)
theorem wd_14 : Cond.selects RX4 yX4_copySecret yX4_copySecret ∈ lw_good := gd_i 14 (by decide +kernel) (by decide +kernel)
theorem wd_15 : Cond.selects RX0 yX0_copyHalf yX0_copyHalf ∈ lw_good := gd_i 15 (by decide +kernel) (by decide +kernel)
theorem wd_16 : Cond.selects RX1 yX1_draft yX1_draft ∈ lw_good := gd_i 16 (by decide +kernel) (by decide +kernel)
theorem wd_17 : Cond.selects RX5 yX5_adm yX5_adm ∈ lw_good := gd_i 17 (by decide +kernel) (by decide +kernel)
theorem wd_18 : Cond.selects RX5 yX5_makeVersion yX5_makeVersion ∈ lw_good := gd_i 18 (by decide +kernel) (by decide +kernel)
theorem wd_19 : Cond.selects RX5 yX5_drawn yX5_drawn ∈ lw_good := gd_i 19 (by decide +kernel) (by decide +kernel)
theorem wd_20 : Cond.selects RX6 yX6_recorded yX6_recorded ∈ lw_good := gd_i 20 (by decide +kernel) (by decide +kernel)
theorem wd_21 : Cond.selects RX1 yX1_recordDraft yX1_recordDraft ∈ lw_good := gd_i 21 (by decide +kernel) (by decide +kernel)
theorem wd_22 : Cond.selects RX5 yX5_renew yX5_renew ∈ lw_good := gd_i 22 (by decide +kernel) (by decide +kernel)
theorem wd_23 : Cond.selects RX5 yX5_makeNextVersion yX5_makeNextVersion ∈ lw_good := gd_i 23 (by decide +kernel) (by decide +kernel)
theorem wd_24 : Cond.selects RX4 yX4_value yX4_value ∈ lw_good := gd_i 24 (by decide +kernel) (by decide +kernel)
theorem wd_25 : Cond.selects RX4 yX4_ageKeeping yX4_ageKeeping ∈ lw_good := gd_i 25 (by decide +kernel) (by decide +kernel)
theorem wd_26 : Cond.selects RX0 yX0_freeRowOfNow yX0_freeRowOfNow ∈ lw_good := gd_i 26 (by decide +kernel) (by decide +kernel)
theorem wd_27 : Cond.selects RX5 yX5_burnOldVersions yX5_burnOldVersions ∈ lw_good := gd_i 27 (by decide +kernel) (by decide +kernel)
theorem wd_28 : Cond.selects RX5 yX5_turnSleep yX5_turnSleep ∈ lw_good := gd_i 28 (by decide +kernel) (by decide +kernel)
theorem wd_29 : Cond.selects RX5 yX5_takeUpLie yX5_takeUpLie ∈ lw_good := gd_i 29 (by decide +kernel) (by decide +kernel)
theorem wd_30 : Cond.selects RX5 yX5_hasHalf yX5_hasHalf ∈ lw_good := gd_i 30 (by decide +kernel) (by decide +kernel)
theorem wd_31 : Cond.selects RX4 yX4_halfIn yX4_halfIn ∈ lw_good := gd_i 31 (by decide +kernel) (by decide +kernel)
theorem wd_32 : Cond.selects RX5 yX5_tagOffsetThatPasses yX5_tagOffsetThatPasses ∈ lw_good := gd_i 32 (by decide +kernel) (by decide +kernel)
theorem wd_33 : Cond.selects RX4 yX4_halfBeside yX4_halfBeside ∈ lw_good := gd_i 33 (by decide +kernel) (by decide +kernel)
theorem wd_34 : Cond.selects RX5 yX5_mergeParts yX5_mergeParts ∈ lw_good := gd_i 34 (by decide +kernel) (by decide +kernel)
theorem wd_35 : Cond.selects RX4 yX4_open yX4_open ∈ lw_good := gd_i 35 (by decide +kernel) (by decide +kernel)
theorem wd_36 : Cond.selects RX0 yX0_lies yX0_lies ∈ lw_good := gd_i 36 (by decide +kernel) (by decide +kernel)
theorem wd_37 : Cond.selects RX5 yX5_figureOfSecret yX5_figureOfSecret ∈ lw_good := gd_i 37 (by decide +kernel) (by decide +kernel)
theorem wd_38 : Cond.selects RX5 yX5_givePartToThief yX5_givePartToThief ∈ lw_good := gd_i 38 (by decide +kernel) (by decide +kernel)
theorem wd_39 : Cond.selects RX4 yX4_partForThief yX4_partForThief ∈ lw_good := gd_i 39 (by decide +kernel) (by decide +kernel)
theorem wd_40 : Cond.selects RX4 yX4_takenSet yX4_takenSet ∈ lw_good := gd_i 40 (by decide +kernel) (by decide +kernel)
theorem wd_41 : Cond.selects RX5 yX5_passBeats yX5_passBeats ∈ lw_good := gd_i 41 (by decide +kernel) (by decide +kernel)
theorem wd_42 : Cond.selects RX5 yX5_passOneBeat yX5_passOneBeat ∈ lw_good := gd_i 42 (by decide +kernel) (by decide +kernel)
theorem wd_43 : Cond.selects RX5 yX5_changeSetting yX5_changeSetting ∈ lw_good := gd_i 43 (by decide +kernel) (by decide +kernel)
theorem wd_44 : Cond.selects RX5 yX5_changeX yX5_changeX ∈ lw_good := gd_i 44 (by decide +kernel) (by decide +kernel)
theorem wd_45 : Cond.selects RX5 yX5_figureOfHalf yX5_figureOfHalf ∈ lw_good := gd_i 45 (by decide +kernel) (by decide +kernel)
theorem wd_46 : Cond.selects RX5 yX5_offsetsThatPass yX5_offsetsThatPass ∈ lw_good := gd_i 46 (by decide +kernel) (by decide +kernel)
theorem wd_47 : Cond.selects RX5 yX5_otherPartFor yX5_otherPartFor ∈ lw_good := gd_i 47 (by decide +kernel) (by decide +kernel)
theorem wd_48 : Cond.selects RX5 yX5_figureOfOldVersion yX5_figureOfOldVersion ∈ lw_good := gd_i 48 (by decide +kernel) (by decide +kernel)
theorem wd_49 : Cond.selects RX5 yX5_versionsAtRisk yX5_versionsAtRisk ∈ lw_good := gd_i 49 (by decide +kernel) (by decide +kernel)
theorem wd_50 : Cond.selects RX4 yX4_rowsAtRisk yX4_rowsAtRisk ∈ lw_good := gd_i 50 (by decide +kernel) (by decide +kernel)
theorem wd_51 : Cond.selects RX5 yX5_partsNeeded yX5_partsNeeded ∈ lw_good := gd_i 51 (by decide +kernel) (by decide +kernel)
theorem wd_52 : Cond.initialized RL ∈ lw_good := gd_i 52 (by decide +kernel) (by decide +kernel)
theorem wd_53 : Cond.initialized RX6 ∈ lw_good := gd_i 53 (by decide +kernel) (by decide +kernel)
theorem wd_54 : Cond.initialized RX5 ∈ lw_good := gd_i 54 (by decide +kernel) (by decide +kernel)
theorem wd_55 : Cond.initialized RX4 ∈ lw_good := gd_i 55 (by decide +kernel) (by decide +kernel)
theorem wd_56 : Cond.initialized RX0 ∈ lw_good := gd_i 56 (by decide +kernel) (by decide +kernel)
theorem wd_57 : Cond.initialized RX1 ∈ lw_good := gd_i 57 (by decide +kernel) (by decide +kernel)
theorem wd_58 : Cond.initialized RX2 ∈ lw_good := gd_i 58 (by decide +kernel) (by decide +kernel)
theorem wd_59 : Cond.initialized RX3 ∈ lw_good := gd_i 59 (by decide +kernel) (by decide +kernel)
theorem wd_60 : Cond.initialized RJ9 ∈ lw_good := gd_i 60 (by decide +kernel) (by decide +kernel)
theorem wd_61 : Cond.classLink RL 10 RX6 ∈ lw_good := gd_i 61 (by decide +kernel) (by decide +kernel)
theorem wd_62 : Cond.instantiable RX6 6 ∈ lw_good := gd_i 62 (by decide +kernel) (by decide +kernel)
theorem wd_63 : Cond.methodLink RL 90 yX6_init ∈ lw_good := gd_i 63 (by decide +kernel) (by decide +kernel)
theorem wd_64 : Cond.instanceMethod yX6_init ∈ lw_good := gd_i 64 (by decide +kernel) (by decide +kernel)
theorem wd_65 : Cond.code yX6_init cX6_init 2 (none) ∈ lw_good := gd_i 65 (by decide +kernel) (by decide +kernel)
theorem wd_66 : Cond.methodLink RX6 3 objectInit ∈ lw_good := gd_i 66 (by decide +kernel) (by decide +kernel)
theorem wd_67 : Cond.instanceMethod objectInit ∈ lw_good := gd_i 67 (by decide +kernel) (by decide +kernel)
theorem wd_68 : Cond.code objectInit ⟨#[0xb1]⟩ 1 none ∈ lw_good := gd_i 68 (by decide +kernel) (by decide +kernel)
theorem wd_69 : Cond.classLink RX6 9 RX5 ∈ lw_good := gd_i 69 (by decide +kernel) (by decide +kernel)
theorem wd_70 : Cond.instantiable RX5 10 ∈ lw_good := gd_i 70 (by decide +kernel) (by decide +kernel)
theorem wd_71 : Cond.methodLinkNest RX6 11 yX5_init "SplitSecrets" ∈ lw_nest := ns_i 71 (by decide +kernel) (by decide +kernel)
theorem wd_72 : Cond.instanceMethod yX5_init ∈ lw_good := gd_i 72 (by decide +kernel) (by decide +kernel)
theorem wd_73 : Cond.code yX5_init cX5_init 2 (none) ∈ lw_good := gd_i 73 (by decide +kernel) (by decide +kernel)
theorem wd_74 : Cond.methodLink RX5 3 objectInit ∈ lw_good := gd_i 74 (by decide +kernel) (by decide +kernel)
theorem wd_75 : Cond.classLink RX5 9 RX4 ∈ lw_good := gd_i 75 (by decide +kernel) (by decide +kernel)
theorem wd_77 : Cond.instantiable RX4 10 ∈ lw_good := gd_i 77 (by decide +kernel) (by decide +kernel)
theorem wd_78 : Cond.methodLinkNest RX5 29 yX4_init "SplitSecrets" ∈ lw_nest := ns_i 78 (by decide +kernel) (by decide +kernel)
theorem wd_79 : Cond.instanceMethod yX4_init ∈ lw_good := gd_i 79 (by decide +kernel) (by decide +kernel)
theorem wd_80 : Cond.code yX4_init cX4_init 1 (none) ∈ lw_good := gd_i 80 (by decide +kernel) (by decide +kernel)
theorem wd_81 : Cond.methodLink RX4 3 objectInit ∈ lw_good := gd_i 81 (by decide +kernel) (by decide +kernel)
theorem wd_82 : Cond.classLink RX4 9 RX0 ∈ lw_good := gd_i 82 (by decide +kernel) (by decide +kernel)
theorem wd_83 : Cond.instantiable RX0 7 ∈ lw_good := gd_i 83 (by decide +kernel) (by decide +kernel)
theorem wd_84 : Cond.methodLinkNest RX4 11 yX0_init "SplitSecrets" ∈ lw_nest := ns_i 84 (by decide +kernel) (by decide +kernel)
theorem wd_85 : Cond.instanceMethod yX0_init ∈ lw_good := gd_i 85 (by decide +kernel) (by decide +kernel)
theorem wd_86 : Cond.code yX0_init cX0_init 1 (none) ∈ lw_good := gd_i 86 (by decide +kernel) (by decide +kernel)
theorem wd_87 : Cond.methodLink RX0 3 objectInit ∈ lw_good := gd_i 87 (by decide +kernel) (by decide +kernel)
theorem wd_88 : Cond.fieldLink RX0 9 "SplitSecrets$Half" "parts" "[I" ∈ lw_good := gd_i 88 (by decide +kernel) (by decide +kernel)
theorem wd_89 : Cond.fieldLinkNest RX4 51 "SplitSecrets$Half" "parts" "[I" "SplitSecrets" ∈ lw_nest := ns_i 89 (by decide +kernel) (by decide +kernel)
theorem wd_90 : Cond.fieldLinkNest RX5 87 "SplitSecrets$Half" "parts" "[I" "SplitSecrets" ∈ lw_nest := ns_i 90 (by decide +kernel) (by decide +kernel)
theorem wd_91 : Cond.fieldLink RX0 15 "SplitSecrets$Half" "taken" "[Z" ∈ lw_good := gd_i 91 (by decide +kernel) (by decide +kernel)
theorem wd_92 : Cond.fieldLinkNest RX4 76 "SplitSecrets$Half" "taken" "[Z" "SplitSecrets" ∈ lw_nest := ns_i 92 (by decide +kernel) (by decide +kernel)
theorem wd_93 : Cond.fieldLink RX0 19 "SplitSecrets$Half" "tag" "I" ∈ lw_good := gd_i 93 (by decide +kernel) (by decide +kernel)
theorem wd_94 : Cond.fieldLinkNest RX5 112 "SplitSecrets$Half" "tag" "I" "SplitSecrets" ∈ lw_nest := ns_i 94 (by decide +kernel) (by decide +kernel)
theorem wd_95 : Cond.fieldLink RX0 23 "SplitSecrets$Half" "factor" "I" ∈ lw_good := gd_i 95 (by decide +kernel) (by decide +kernel)
theorem wd_96 : Cond.fieldLinkNest RX5 102 "SplitSecrets$Half" "factor" "I" "SplitSecrets" ∈ lw_nest := ns_i 96 (by decide +kernel) (by decide +kernel)
theorem wd_97 : Cond.fieldLink RX0 26 "SplitSecrets$Half" "sum" "I" ∈ lw_good := gd_i 97 (by decide +kernel) (by decide +kernel)
theorem wd_98 : Cond.fieldLinkNest RX5 105 "SplitSecrets$Half" "sum" "I" "SplitSecrets" ∈ lw_nest := ns_i 98 (by decide +kernel) (by decide +kernel)
theorem wd_99 : Cond.fieldLink RX0 29 "SplitSecrets$Half" "offset" "I" ∈ lw_good := gd_i 99 (by decide +kernel) (by decide +kernel)
theorem wd_100 : Cond.fieldLinkNest RX5 138 "SplitSecrets$Half" "offset" "I" "SplitSecrets" ∈ lw_nest := ns_i 100 (by decide +kernel) (by decide +kernel)
theorem wd_101 : Cond.fieldLink RX0 32 "SplitSecrets$Half" "tagOffset" "I" ∈ lw_good := gd_i 101 (by decide +kernel) (by decide +kernel)
theorem wd_102 : Cond.fieldLinkNest RX5 141 "SplitSecrets$Half" "tagOffset" "I" "SplitSecrets" ∈ lw_nest := ns_i 102 (by decide +kernel) (by decide +kernel)
theorem wd_118 : Cond.arrayClass FieldType.int ∈ lw_good := gd_i 118 (by decide +kernel) (by decide +kernel)
theorem wd_119 : Cond.arrayClass FieldType.boolean ∈ lw_good := gd_i 119 (by decide +kernel) (by decide +kernel)
theorem wd_120 : Cond.fieldLink RX4 12 "SplitSecrets$Secret" "first" "LSplitSecrets$Half;" ∈ lw_good := gd_i 120 (by decide +kernel) (by decide +kernel)
theorem wd_121 : Cond.fieldLinkNest RX5 80 "SplitSecrets$Secret" "first" "LSplitSecrets$Half;" "SplitSecrets" ∈ lw_nest := ns_i 121 (by decide +kernel) (by decide +kernel)
theorem wd_122 : Cond.fieldLink RX4 18 "SplitSecrets$Secret" "second" "LSplitSecrets$Half;" ∈ lw_good := gd_i 122 (by decide +kernel) (by decide +kernel)
theorem wd_123 : Cond.fieldLinkNest RX5 84 "SplitSecrets$Secret" "second" "LSplitSecrets$Half;" "SplitSecrets" ∈ lw_nest := ns_i 123 (by decide +kernel) (by decide +kernel)
theorem wd_124 : Cond.fieldLink RX4 25 "SplitSecrets$Secret" "version" "I" ∈ lw_good := gd_i 124 (by decide +kernel) (by decide +kernel)
theorem wd_125 : Cond.fieldLinkNest RX5 59 "SplitSecrets$Secret" "version" "I" "SplitSecrets" ∈ lw_nest := ns_i 125 (by decide +kernel) (by decide +kernel)
theorem wd_126 : Cond.fieldLink RX4 29 "SplitSecrets$Secret" "olds" "I" ∈ lw_good := gd_i 126 (by decide +kernel) (by decide +kernel)
theorem wd_127 : Cond.fieldLinkNest RX5 124 "SplitSecrets$Secret" "olds" "I" "SplitSecrets" ∈ lw_nest := ns_i 127 (by decide +kernel) (by decide +kernel)
theorem wd_128 : Cond.fieldLink RX4 32 "SplitSecrets$Secret" "openAs" "I" ∈ lw_good := gd_i 128 (by decide +kernel) (by decide +kernel)
theorem wd_129 : Cond.fieldLinkNest RX5 176 "SplitSecrets$Secret" "openAs" "I" "SplitSecrets" ∈ lw_nest := ns_i 129 (by decide +kernel) (by decide +kernel)
theorem wd_130 : Cond.fieldLink RX4 35 "SplitSecrets$Secret" "openFor" "I" ∈ lw_good := gd_i 130 (by decide +kernel) (by decide +kernel)
theorem wd_131 : Cond.fieldLinkNest RX5 164 "SplitSecrets$Secret" "openFor" "I" "SplitSecrets" ∈ lw_nest := ns_i 131 (by decide +kernel) (by decide +kernel)
theorem wd_132 : Cond.fieldLink RX4 38 "SplitSecrets$Secret" "caught" "I" ∈ lw_good := gd_i 132 (by decide +kernel) (by decide +kernel)
theorem wd_133 : Cond.fieldLinkNest RX5 150 "SplitSecrets$Secret" "caught" "I" "SplitSecrets" ∈ lw_nest := ns_i 133 (by decide +kernel) (by decide +kernel)
theorem wd_134 : Cond.fieldLink RX4 41 "SplitSecrets$Secret" "opened" "I" ∈ lw_good := gd_i 134 (by decide +kernel) (by decide +kernel)
theorem wd_135 : Cond.fieldLinkNest RX5 186 "SplitSecrets$Secret" "opened" "I" "SplitSecrets" ∈ lw_nest := ns_i 135 (by decide +kernel) (by decide +kernel)
theorem wd_136 : Cond.fieldLink RX4 44 "SplitSecrets$Secret" "stolen" "I" ∈ lw_good := gd_i 136 (by decide +kernel) (by decide +kernel)
theorem wd_137 : Cond.fieldLinkNest RX5 183 "SplitSecrets$Secret" "stolen" "I" "SplitSecrets" ∈ lw_nest := ns_i 137 (by decide +kernel) (by decide +kernel)
theorem wd_138 : Cond.fieldLink RX4 47 "SplitSecrets$Secret" "known" "Z" ∈ lw_good := gd_i 138 (by decide +kernel) (by decide +kernel)
theorem wd_139 : Cond.fieldLinkNest RX5 179 "SplitSecrets$Secret" "known" "Z" "SplitSecrets" ∈ lw_nest := ns_i 139 (by decide +kernel) (by decide +kernel)
theorem wd_161 : Cond.fieldLink RX5 11 "SplitSecrets$Stores" "secrets" "[LSplitSecrets$Secret;" ∈ lw_good := gd_i 161 (by decide +kernel) (by decide +kernel)
theorem wd_162 : Cond.fieldLink RX5 17 "SplitSecrets$Stores" "settings" "[I" ∈ lw_good := gd_i 162 (by decide +kernel) (by decide +kernel)
theorem wd_163 : Cond.fieldLink RX5 21 "SplitSecrets$Stores" "asleep" "[Z" ∈ lw_good := gd_i 163 (by decide +kernel) (by decide +kernel)
theorem wd_164 : Cond.fieldLink RX5 34 "SplitSecrets$Stores" "kept" "I" ∈ lw_good := gd_i 164 (by decide +kernel) (by decide +kernel)
theorem wd_165 : Cond.fieldLink RX5 25 "SplitSecrets$Stores" "x" "I" ∈ lw_good := gd_i 165 (by decide +kernel) (by decide +kernel)
theorem wd_166 : Cond.fieldLink RX5 37 "SplitSecrets$Stores" "beatsSoFar" "I" ∈ lw_good := gd_i 166 (by decide +kernel) (by decide +kernel)
theorem wd_167 : Cond.fieldLink RX5 40 "SplitSecrets$Stores" "made" "I" ∈ lw_good := gd_i 167 (by decide +kernel) (by decide +kernel)
theorem wd_168 : Cond.fieldLink RX5 43 "SplitSecrets$Stores" "burnt" "I" ∈ lw_good := gd_i 168 (by decide +kernel) (by decide +kernel)
theorem wd_169 : Cond.fieldLink RX5 46 "SplitSecrets$Stores" "caught" "I" ∈ lw_good := gd_i 169 (by decide +kernel) (by decide +kernel)
theorem wd_170 : Cond.fieldLink RX5 49 "SplitSecrets$Stores" "liesPassed" "I" ∈ lw_good := gd_i 170 (by decide +kernel) (by decide +kernel)
theorem wd_192 : Cond.classLink RX6 16 RX1 ∈ lw_good := gd_i 192 (by decide +kernel) (by decide +kernel)
theorem wd_193 : Cond.instantiable RX1 3 ∈ lw_good := gd_i 193 (by decide +kernel) (by decide +kernel)
theorem wd_194 : Cond.methodLinkNest RX6 18 yX1_init "SplitSecrets" ∈ lw_nest := ns_i 194 (by decide +kernel) (by decide +kernel)
theorem wd_195 : Cond.instanceMethod yX1_init ∈ lw_good := gd_i 195 (by decide +kernel) (by decide +kernel)
theorem wd_196 : Cond.code yX1_init cX1_init 2 (none) ∈ lw_good := gd_i 196 (by decide +kernel) (by decide +kernel)
theorem wd_197 : Cond.methodLink RX1 3 objectInit ∈ lw_good := gd_i 197 (by decide +kernel) (by decide +kernel)
theorem wd_198 : Cond.classLink RX1 9 RX5 ∈ lw_good := gd_i 198 (by decide +kernel) (by decide +kernel)
theorem wd_200 : Cond.methodLinkNest RX1 17 yX5_init "SplitSecrets" ∈ lw_nest := ns_i 200 (by decide +kernel) (by decide +kernel)
theorem wd_201 : Cond.fieldLink RX1 11 "SplitSecrets$History" "rows" "[LSplitSecrets$Stores;" ∈ lw_good := gd_i 201 (by decide +kernel) (by decide +kernel)
theorem wd_202 : Cond.fieldLink RX1 18 "SplitSecrets$History" "oldest" "I" ∈ lw_good := gd_i 202 (by decide +kernel) (by decide +kernel)
theorem wd_203 : Cond.fieldLink RX1 22 "SplitSecrets$History" "size" "I" ∈ lw_good := gd_i 203 (by decide +kernel) (by decide +kernel)
theorem wd_204 : Cond.fieldLinkNest RX6 101 "SplitSecrets$History" "size" "I" "SplitSecrets" ∈ lw_nest := ns_i 204 (by decide +kernel) (by decide +kernel)
theorem wd_212 : Cond.classLink RX6 31 RX2 ∈ lw_good := gd_i 212 (by decide +kernel) (by decide +kernel)
theorem wd_213 : Cond.instantiable RX2 2 ∈ lw_good := gd_i 213 (by decide +kernel) (by decide +kernel)
theorem wd_214 : Cond.methodLinkNest RX6 33 yX2_init "SplitSecrets" ∈ lw_nest := ns_i 214 (by decide +kernel) (by decide +kernel)
theorem wd_215 : Cond.instanceMethod yX2_init ∈ lw_good := gd_i 215 (by decide +kernel) (by decide +kernel)
theorem wd_216 : Cond.code yX2_init cX2_init 1 (none) ∈ lw_good := gd_i 216 (by decide +kernel) (by decide +kernel)
theorem wd_217 : Cond.methodLink RX2 3 objectInit ∈ lw_good := gd_i 217 (by decide +kernel) (by decide +kernel)
theorem wd_218 : Cond.fieldLink RX2 9 "SplitSecrets$Pad" "signs" "[C" ∈ lw_good := gd_i 218 (by decide +kernel) (by decide +kernel)
theorem wd_219 : Cond.fieldLinkNest RX6 97 "SplitSecrets$Pad" "length" "I" "SplitSecrets" ∈ lw_nest := ns_i 219 (by decide +kernel) (by decide +kernel)
theorem wd_225 : Cond.arrayClass FieldType.char ∈ lw_good := gd_i 225 (by decide +kernel) (by decide +kernel)
theorem wd_226 : Cond.classLink RX6 38 RX3 ∈ lw_good := gd_i 226 (by decide +kernel) (by decide +kernel)
theorem wd_227 : Cond.instantiable RX3 7 ∈ lw_good := gd_i 227 (by decide +kernel) (by decide +kernel)
theorem wd_228 : Cond.methodLinkNest RX6 40 yX3_init "SplitSecrets" ∈ lw_nest := ns_i 228 (by decide +kernel) (by decide +kernel)
theorem wd_229 : Cond.instanceMethod yX3_init ∈ lw_good := gd_i 229 (by decide +kernel) (by decide +kernel)
theorem wd_230 : Cond.code yX3_init cX3_init 2 (none) ∈ lw_good := gd_i 230 (by decide +kernel) (by decide +kernel)
theorem wd_231 : Cond.methodLink RX3 3 objectInit ∈ lw_good := gd_i 231 (by decide +kernel) (by decide +kernel)
theorem wd_232 : Cond.fieldLink RX3 9 "SplitSecrets$Reader" "pad" "LSplitSecrets$Pad;" ∈ lw_good := gd_i 232 (by decide +kernel) (by decide +kernel)
theorem wd_248 : Cond.fieldLink RX6 12 "SplitSecrets" "now" "LSplitSecrets$Stores;" ∈ lw_good := gd_i 248 (by decide +kernel) (by decide +kernel)
theorem wd_249 : Cond.fieldLink RX6 19 "SplitSecrets" "history" "LSplitSecrets$History;" ∈ lw_good := gd_i 249 (by decide +kernel) (by decide +kernel)
theorem wd_250 : Cond.fieldLink RX6 23 "SplitSecrets" "slots" "[LSplitSecrets$Stores;" ∈ lw_good := gd_i 250 (by decide +kernel) (by decide +kernel)
theorem wd_251 : Cond.fieldLink RX6 27 "SplitSecrets" "saved" "[Z" ∈ lw_good := gd_i 251 (by decide +kernel) (by decide +kernel)
theorem wd_252 : Cond.fieldLink RX6 34 "SplitSecrets" "pad" "LSplitSecrets$Pad;" ∈ lw_good := gd_i 252 (by decide +kernel) (by decide +kernel)
theorem wd_253 : Cond.fieldLink RX6 43 "SplitSecrets" "reader" "LSplitSecrets$Reader;" ∈ lw_good := gd_i 253 (by decide +kernel) (by decide +kernel)
theorem wd_267 : Cond.methodLink RL 9 yX6_count ∈ lw_good := gd_i 267 (by decide +kernel) (by decide +kernel)
theorem wd_268 : Cond.instanceMethod yX6_count ∈ lw_good := gd_i 268 (by decide +kernel) (by decide +kernel)
theorem wd_269 : Cond.selects RX6 yX6_count yX6_count ∈ lw_good := gd_i 269 (by decide +kernel) (by decide +kernel)
theorem wd_270 : Cond.code yX6_count cX6_count 2 (some .int) ∈ lw_good := gd_i 270 (by decide +kernel) (by decide +kernel)
theorem wd_271 : Cond.methodLinkNest RX6 104 yX5_figure "SplitSecrets" ∈ lw_nest := ns_i 271 (by decide +kernel) (by decide +kernel)
theorem wd_273 : Cond.instanceMethod yX5_figure ∈ lw_good := gd_i 273 (by decide +kernel) (by decide +kernel)
theorem wd_274 : Cond.code yX5_figure cX5_figure 2 (some .int) ∈ lw_good := gd_i 274 (by decide +kernel) (by decide +kernel)
theorem wd_275 : Cond.methodLink RX5 192 yX5_setOfOpen ∈ lw_good := gd_i 275 (by decide +kernel) (by decide +kernel)
theorem wd_277 : Cond.instanceMethod yX5_setOfOpen ∈ lw_good := gd_i 277 (by decide +kernel) (by decide +kernel)
theorem wd_278 : Cond.code yX5_setOfOpen cX5_setOfOpen 3 (some .int) ∈ lw_good := gd_i 278 (by decide +kernel) (by decide +kernel)
theorem wd_279 : Cond.methodLink RX5 195 yX5_setOfKnown ∈ lw_good := gd_i 279 (by decide +kernel) (by decide +kernel)
theorem wd_281 : Cond.instanceMethod yX5_setOfKnown ∈ lw_good := gd_i 281 (by decide +kernel) (by decide +kernel)
theorem wd_282 : Cond.code yX5_setOfKnown cX5_setOfKnown 3 (some .int) ∈ lw_good := gd_i 282 (by decide +kernel) (by decide +kernel)
theorem wd_283 : Cond.methodLink RL 81 yX6_ifMerged ∈ lw_good := gd_i 283 (by decide +kernel) (by decide +kernel)
theorem wd_284 : Cond.instanceMethod yX6_ifMerged ∈ lw_good := gd_i 284 (by decide +kernel) (by decide +kernel)
theorem wd_285 : Cond.selects RX6 yX6_ifMerged yX6_ifMerged ∈ lw_good := gd_i 285 (by decide +kernel) (by decide +kernel)
theorem wd_286 : Cond.code yX6_ifMerged cX6_ifMerged 2 (some .int) ∈ lw_good := gd_i 286 (by decide +kernel) (by decide +kernel)
theorem wd_287 : Cond.methodLinkNest RX6 122 yX5_answerOfMerger "SplitSecrets" ∈ lw_nest := ns_i 287 (by decide +kernel) (by decide +kernel)
theorem wd_289 : Cond.instanceMethod yX5_answerOfMerger ∈ lw_good := gd_i 289 (by decide +kernel) (by decide +kernel)
theorem wd_290 : Cond.code yX5_answerOfMerger cX5_answerOfMerger 2 (some .int) ∈ lw_good := gd_i 290 (by decide +kernel) (by decide +kernel)
theorem wd_291 : Cond.methodLink RX5 56 yX5_hasSecret ∈ lw_good := gd_i 291 (by decide +kernel) (by decide +kernel)
theorem wd_293 : Cond.instanceMethod yX5_hasSecret ∈ lw_good := gd_i 293 (by decide +kernel) (by decide +kernel)
theorem wd_294 : Cond.code yX5_hasSecret cX5_hasSecret 2 (some .boolean) ∈ lw_good := gd_i 294 (by decide +kernel) (by decide +kernel)
theorem wd_295 : Cond.methodLink RX5 72 yX5_someStoreSleeps ∈ lw_good := gd_i 295 (by decide +kernel) (by decide +kernel)
theorem wd_297 : Cond.instanceMethod yX5_someStoreSleeps ∈ lw_good := gd_i 297 (by decide +kernel) (by decide +kernel)
theorem wd_298 : Cond.code yX5_someStoreSleeps cX5_someStoreSleeps 1 (some .boolean) ∈ lw_good := gd_i 298 (by decide +kernel) (by decide +kernel)
theorem wd_299 : Cond.methodLinkNest RX5 144 yX4_answerIfMerged "SplitSecrets" ∈ lw_nest := ns_i 299 (by decide +kernel) (by decide +kernel)
theorem wd_301 : Cond.instanceMethod yX4_answerIfMerged ∈ lw_good := gd_i 301 (by decide +kernel) (by decide +kernel)
theorem wd_302 : Cond.code yX4_answerIfMerged cX4_answerIfMerged 1 (some .int) ∈ lw_good := gd_i 302 (by decide +kernel) (by decide +kernel)
theorem wd_303 : Cond.methodLinkNest RX4 64 yX0_catches "SplitSecrets" ∈ lw_nest := ns_i 303 (by decide +kernel) (by decide +kernel)
theorem wd_305 : Cond.instanceMethod yX0_catches ∈ lw_good := gd_i 305 (by decide +kernel) (by decide +kernel)
theorem wd_306 : Cond.code yX0_catches cX0_catches 2 (some .boolean) ∈ lw_good := gd_i 306 (by decide +kernel) (by decide +kernel)
theorem wd_307 : Cond.methodLink RX0 39 yX0_toldPart ∈ lw_good := gd_i 307 (by decide +kernel) (by decide +kernel)
theorem wd_309 : Cond.instanceMethod yX0_toldPart ∈ lw_good := gd_i 309 (by decide +kernel) (by decide +kernel)
theorem wd_310 : Cond.code yX0_toldPart cX0_toldPart 1 (some .int) ∈ lw_good := gd_i 310 (by decide +kernel) (by decide +kernel)
theorem wd_311 : Cond.methodLink RX0 35 yX0_partWith ∈ lw_good := gd_i 311 (by decide +kernel) (by decide +kernel)
theorem wd_313 : Cond.instanceMethod yX0_partWith ∈ lw_good := gd_i 313 (by decide +kernel) (by decide +kernel)
theorem wd_314 : Cond.code yX0_partWith cX0_partWith 2 (some .int) ∈ lw_good := gd_i 314 (by decide +kernel) (by decide +kernel)
theorem wd_315 : Cond.methodLink RX0 43 yX0_tagDueFor ∈ lw_good := gd_i 315 (by decide +kernel) (by decide +kernel)
theorem wd_317 : Cond.instanceMethod yX0_tagDueFor ∈ lw_good := gd_i 317 (by decide +kernel) (by decide +kernel)
theorem wd_318 : Cond.code yX0_tagDueFor cX0_tagDueFor 2 (some .int) ∈ lw_good := gd_i 318 (by decide +kernel) (by decide +kernel)
theorem wd_319 : Cond.methodLink RX0 46 yX0_toldTag ∈ lw_good := gd_i 319 (by decide +kernel) (by decide +kernel)
theorem wd_321 : Cond.instanceMethod yX0_toldTag ∈ lw_good := gd_i 321 (by decide +kernel) (by decide +kernel)
theorem wd_322 : Cond.code yX0_toldTag cX0_toldTag 1 (some .int) ∈ lw_good := gd_i 322 (by decide +kernel) (by decide +kernel)
theorem wd_323 : Cond.methodLinkNest RX4 68 yX0_toldPart "SplitSecrets" ∈ lw_nest := ns_i 323 (by decide +kernel) (by decide +kernel)
theorem wd_324 : Cond.methodLink RL 91 yX6_undo ∈ lw_good := gd_i 324 (by decide +kernel) (by decide +kernel)
theorem wd_325 : Cond.instanceMethod yX6_undo ∈ lw_good := gd_i 325 (by decide +kernel) (by decide +kernel)
theorem wd_326 : Cond.selects RX6 yX6_undo yX6_undo ∈ lw_good := gd_i 326 (by decide +kernel) (by decide +kernel)
theorem wd_327 : Cond.code yX6_undo cX6_undo 1 (some .int) ∈ lw_good := gd_i 327 (by decide +kernel) (by decide +kernel)
theorem wd_328 : Cond.methodLinkNest RX6 146 yX1_takesBack "SplitSecrets" ∈ lw_nest := ns_i 328 (by decide +kernel) (by decide +kernel)
theorem wd_330 : Cond.instanceMethod yX1_takesBack ∈ lw_good := gd_i 330 (by decide +kernel) (by decide +kernel)
theorem wd_331 : Cond.code yX1_takesBack cX1_takesBack 2 (some .boolean) ∈ lw_good := gd_i 331 (by decide +kernel) (by decide +kernel)
theorem wd_332 : Cond.methodLinkNest RX1 25 yX5_copyState "SplitSecrets" ∈ lw_nest := ns_i 332 (by decide +kernel) (by decide +kernel)
theorem wd_334 : Cond.instanceMethod yX5_copyState ∈ lw_good := gd_i 334 (by decide +kernel) (by decide +kernel)
theorem wd_335 : Cond.code yX5_copyState cX5_copyState 3 (none) ∈ lw_good := gd_i 335 (by decide +kernel) (by decide +kernel)
theorem wd_336 : Cond.methodLinkNest RX5 30 yX4_copySecret "SplitSecrets" ∈ lw_nest := ns_i 336 (by decide +kernel) (by decide +kernel)
theorem wd_338 : Cond.instanceMethod yX4_copySecret ∈ lw_good := gd_i 338 (by decide +kernel) (by decide +kernel)
theorem wd_339 : Cond.code yX4_copySecret cX4_copySecret 2 (none) ∈ lw_good := gd_i 339 (by decide +kernel) (by decide +kernel)
theorem wd_340 : Cond.methodLinkNest RX4 21 yX0_copyHalf "SplitSecrets" ∈ lw_nest := ns_i 340 (by decide +kernel) (by decide +kernel)
theorem wd_342 : Cond.instanceMethod yX0_copyHalf ∈ lw_good := gd_i 342 (by decide +kernel) (by decide +kernel)
theorem wd_343 : Cond.code yX0_copyHalf cX0_copyHalf 3 (none) ∈ lw_good := gd_i 343 (by decide +kernel) (by decide +kernel)
theorem wd_344 : Cond.methodLink RL 99 yL_cell ∈ lw_good := gd_i 344 (by decide +kernel) (by decide +kernel)
theorem wd_345 : Cond.static yL_cell ∈ lw_good := gd_i 345 (by decide +kernel) (by decide +kernel)
theorem wd_346 : Cond.code yL_cell cL_cell 2 (some .int) ∈ lw_good := gd_i 346 (by decide +kernel) (by decide +kernel)
theorem wd_347 : Jvm.Cond.constant RL 7 40503 ∈ lw_good := gd_i 347 (by decide +kernel) (by decide +kernel)
theorem wd_348 : Cond.methodLink RL 15 yL_low ∈ lw_good := gd_i 348 (by decide +kernel) (by decide +kernel)
theorem wd_349 : Cond.static yL_low ∈ lw_good := gd_i 349 (by decide +kernel) (by decide +kernel)
theorem wd_350 : Cond.code yL_low cL_low 2 (some .int) ∈ lw_good := gd_i 350 (by decide +kernel) (by decide +kernel)
theorem wd_351 : Jvm.Cond.constant RL 8 2147483647 ∈ lw_good := gd_i 351 (by decide +kernel) (by decide +kernel)
theorem wd_352 : Cond.methodLink RL 103 yL_change ∈ lw_good := gd_i 352 (by decide +kernel) (by decide +kernel)
theorem wd_353 : Cond.static yL_change ∈ lw_good := gd_i 353 (by decide +kernel) (by decide +kernel)
theorem wd_354 : Cond.code yL_change cL_change 9 (some .int) ∈ lw_good := gd_i 354 (by decide +kernel) (by decide +kernel)
theorem wd_355 : Cond.methodLink RL 21 yX6_keep ∈ lw_good := gd_i 355 (by decide +kernel) (by decide +kernel)
theorem wd_356 : Cond.instanceMethod yX6_keep ∈ lw_good := gd_i 356 (by decide +kernel) (by decide +kernel)
theorem wd_357 : Cond.selects RX6 yX6_keep yX6_keep ∈ lw_good := gd_i 357 (by decide +kernel) (by decide +kernel)
theorem wd_358 : Cond.code yX6_keep cX6_keep 2 (some .int) ∈ lw_good := gd_i 358 (by decide +kernel) (by decide +kernel)
theorem wd_359 : Cond.methodLinkNest RX6 47 yX1_draft "SplitSecrets" ∈ lw_nest := ns_i 359 (by decide +kernel) (by decide +kernel)
theorem wd_361 : Cond.instanceMethod yX1_draft ∈ lw_good := gd_i 361 (by decide +kernel) (by decide +kernel)
theorem wd_362 : Cond.code yX1_draft cX1_draft 2 (none) ∈ lw_good := gd_i 362 (by decide +kernel) (by decide +kernel)
theorem wd_363 : Cond.methodLinkNest RX6 62 yX5_adm "SplitSecrets" ∈ lw_nest := ns_i 363 (by decide +kernel) (by decide +kernel)
theorem wd_365 : Cond.instanceMethod yX5_adm ∈ lw_good := gd_i 365 (by decide +kernel) (by decide +kernel)
theorem wd_366 : Cond.code yX5_adm cX5_adm 2 (some .int) ∈ lw_good := gd_i 366 (by decide +kernel) (by decide +kernel)
theorem wd_367 : Cond.methodLinkNest RX5 69 yX6_isPart "SplitSecrets" ∈ lw_nest := ns_i 367 (by decide +kernel) (by decide +kernel)
theorem wd_368 : Cond.static yX6_isPart ∈ lw_good := gd_i 368 (by decide +kernel) (by decide +kernel)
theorem wd_369 : Cond.code yX6_isPart cX6_isPart 1 (some .boolean) ∈ lw_good := gd_i 369 (by decide +kernel) (by decide +kernel)
theorem wd_370 : Cond.methodLink RX5 76 yX5_makeVersion ∈ lw_good := gd_i 370 (by decide +kernel) (by decide +kernel)
theorem wd_372 : Cond.instanceMethod yX5_makeVersion ∈ lw_good := gd_i 372 (by decide +kernel) (by decide +kernel)
theorem wd_373 : Cond.code yX5_makeVersion cX5_makeVersion 5 (none) ∈ lw_good := gd_i 373 (by decide +kernel) (by decide +kernel)
theorem wd_374 : Cond.methodLink RX5 92 yX5_drawn ∈ lw_good := gd_i 374 (by decide +kernel) (by decide +kernel)
theorem wd_376 : Cond.instanceMethod yX5_drawn ∈ lw_good := gd_i 376 (by decide +kernel) (by decide +kernel)
theorem wd_377 : Cond.code yX5_drawn cX5_drawn 1 (some .int) ∈ lw_good := gd_i 377 (by decide +kernel) (by decide +kernel)
theorem wd_378 : Jvm.Cond.constant RX5 68 65537 ∈ lw_good := gd_i 378 (by decide +kernel) (by decide +kernel)
theorem wd_379 : Cond.methodLink RX5 96 yJ9_floorMod_7cf53 ∈ lw_good := gd_i 379 (by decide +kernel) (by decide +kernel)
theorem wd_380 : Cond.static yJ9_floorMod_7cf53 ∈ lw_good := gd_i 380 (by decide +kernel) (by decide +kernel)
theorem wd_381 : Cond.code yJ9_floorMod_7cf53 cJ9_floorMod_7cf53 3 (some .int) ∈ lw_good := gd_i 381 (by decide +kernel) (by decide +kernel)
theorem wd_382 : Cond.methodLinkNest RX5 108 yX0_tagDueFor "SplitSecrets" ∈ lw_nest := ns_i 382 (by decide +kernel) (by decide +kernel)
theorem wd_383 : Cond.methodLink RX6 55 yX6_recorded ∈ lw_good := gd_i 383 (by decide +kernel) (by decide +kernel)
theorem wd_385 : Cond.instanceMethod yX6_recorded ∈ lw_good := gd_i 385 (by decide +kernel) (by decide +kernel)
theorem wd_386 : Cond.code yX6_recorded cX6_recorded 2 (some .int) ∈ lw_good := gd_i 386 (by decide +kernel) (by decide +kernel)
theorem wd_387 : Cond.methodLinkNest RX6 160 yX1_recordDraft "SplitSecrets" ∈ lw_nest := ns_i 387 (by decide +kernel) (by decide +kernel)
theorem wd_389 : Cond.instanceMethod yX1_recordDraft ∈ lw_good := gd_i 389 (by decide +kernel) (by decide +kernel)
theorem wd_390 : Cond.code yX1_recordDraft cX1_recordDraft 1 (none) ∈ lw_good := gd_i 390 (by decide +kernel) (by decide +kernel)
theorem wd_391 : Cond.methodLink RL 24 yX6_refresh ∈ lw_good := gd_i 391 (by decide +kernel) (by decide +kernel)
theorem wd_392 : Cond.instanceMethod yX6_refresh ∈ lw_good := gd_i 392 (by decide +kernel) (by decide +kernel)
theorem wd_393 : Cond.selects RX6 yX6_refresh yX6_refresh ∈ lw_good := gd_i 393 (by decide +kernel) (by decide +kernel)
theorem wd_394 : Cond.code yX6_refresh cX6_refresh 2 (some .int) ∈ lw_good := gd_i 394 (by decide +kernel) (by decide +kernel)
theorem wd_395 : Cond.methodLinkNest RX6 65 yX5_renew "SplitSecrets" ∈ lw_nest := ns_i 395 (by decide +kernel) (by decide +kernel)
theorem wd_397 : Cond.instanceMethod yX5_renew ∈ lw_good := gd_i 397 (by decide +kernel) (by decide +kernel)
theorem wd_398 : Cond.code yX5_renew cX5_renew 3 (some .int) ∈ lw_good := gd_i 398 (by decide +kernel) (by decide +kernel)
theorem wd_399 : Cond.methodLink RX5 121 yX5_makeNextVersion ∈ lw_good := gd_i 399 (by decide +kernel) (by decide +kernel)
theorem wd_401 : Cond.instanceMethod yX5_makeNextVersion ∈ lw_good := gd_i 401 (by decide +kernel) (by decide +kernel)
theorem wd_402 : Cond.code yX5_makeNextVersion cX5_makeNextVersion 3 (none) ∈ lw_good := gd_i 402 (by decide +kernel) (by decide +kernel)
theorem wd_403 : Cond.methodLinkNest RX5 115 yX4_value "SplitSecrets" ∈ lw_nest := ns_i 403 (by decide +kernel) (by decide +kernel)
theorem wd_405 : Cond.instanceMethod yX4_value ∈ lw_good := gd_i 405 (by decide +kernel) (by decide +kernel)
theorem wd_406 : Cond.code yX4_value cX4_value 1 (some .int) ∈ lw_good := gd_i 406 (by decide +kernel) (by decide +kernel)
theorem wd_407 : Cond.methodLinkNest RX5 118 yX4_ageKeeping "SplitSecrets" ∈ lw_nest := ns_i 407 (by decide +kernel) (by decide +kernel)
theorem wd_409 : Cond.instanceMethod yX4_ageKeeping ∈ lw_good := gd_i 409 (by decide +kernel) (by decide +kernel)
theorem wd_410 : Cond.code yX4_ageKeeping cX4_ageKeeping 3 (some .int) ∈ lw_good := gd_i 410 (by decide +kernel) (by decide +kernel)
theorem wd_411 : Cond.methodLinkNest RX4 55 yX0_freeRowOfNow "SplitSecrets" ∈ lw_nest := ns_i 411 (by decide +kernel) (by decide +kernel)
theorem wd_413 : Cond.instanceMethod yX0_freeRowOfNow ∈ lw_good := gd_i 413 (by decide +kernel) (by decide +kernel)
theorem wd_414 : Cond.code yX0_freeRowOfNow cX0_freeRowOfNow 2 (none) ∈ lw_good := gd_i 414 (by decide +kernel) (by decide +kernel)
theorem wd_415 : Cond.methodLink RX4 58 yJ9_min_7cf53 ∈ lw_good := gd_i 415 (by decide +kernel) (by decide +kernel)
theorem wd_416 : Cond.static yJ9_min_7cf53 ∈ lw_good := gd_i 416 (by decide +kernel) (by decide +kernel)
theorem wd_417 : Cond.code yJ9_min_7cf53 cJ9_min_7cf53 2 (some .int) ∈ lw_good := gd_i 417 (by decide +kernel) (by decide +kernel)
theorem wd_418 : Cond.methodLink RL 27 yX6_burn ∈ lw_good := gd_i 418 (by decide +kernel) (by decide +kernel)
theorem wd_419 : Cond.instanceMethod yX6_burn ∈ lw_good := gd_i 419 (by decide +kernel) (by decide +kernel)
theorem wd_420 : Cond.selects RX6 yX6_burn yX6_burn ∈ lw_good := gd_i 420 (by decide +kernel) (by decide +kernel)
theorem wd_421 : Cond.code yX6_burn cX6_burn 2 (some .int) ∈ lw_good := gd_i 421 (by decide +kernel) (by decide +kernel)
theorem wd_422 : Cond.methodLinkNest RX6 68 yX5_burnOldVersions "SplitSecrets" ∈ lw_nest := ns_i 422 (by decide +kernel) (by decide +kernel)
theorem wd_424 : Cond.instanceMethod yX5_burnOldVersions ∈ lw_good := gd_i 424 (by decide +kernel) (by decide +kernel)
theorem wd_425 : Cond.code yX5_burnOldVersions cX5_burnOldVersions 3 (some .int) ∈ lw_good := gd_i 425 (by decide +kernel) (by decide +kernel)
theorem wd_426 : Cond.methodLink RL 30 yX6_sleep ∈ lw_good := gd_i 426 (by decide +kernel) (by decide +kernel)
theorem wd_427 : Cond.instanceMethod yX6_sleep ∈ lw_good := gd_i 427 (by decide +kernel) (by decide +kernel)
theorem wd_428 : Cond.selects RX6 yX6_sleep yX6_sleep ∈ lw_good := gd_i 428 (by decide +kernel) (by decide +kernel)
theorem wd_429 : Cond.code yX6_sleep cX6_sleep 2 (some .int) ∈ lw_good := gd_i 429 (by decide +kernel) (by decide +kernel)
theorem wd_430 : Cond.methodLinkNest RX6 71 yX5_turnSleep "SplitSecrets" ∈ lw_nest := ns_i 430 (by decide +kernel) (by decide +kernel)
theorem wd_432 : Cond.instanceMethod yX5_turnSleep ∈ lw_good := gd_i 432 (by decide +kernel) (by decide +kernel)
theorem wd_433 : Cond.code yX5_turnSleep cX5_turnSleep 2 (some .int) ∈ lw_good := gd_i 433 (by decide +kernel) (by decide +kernel)
theorem wd_434 : Cond.methodLinkNest RX5 52 yX6_isStore "SplitSecrets" ∈ lw_nest := ns_i 434 (by decide +kernel) (by decide +kernel)
theorem wd_435 : Cond.static yX6_isStore ∈ lw_good := gd_i 435 (by decide +kernel) (by decide +kernel)
theorem wd_436 : Cond.code yX6_isStore cX6_isStore 1 (some .boolean) ∈ lw_good := gd_i 436 (by decide +kernel) (by decide +kernel)
theorem wd_437 : Cond.methodLink RL 33 yX6_lie ∈ lw_good := gd_i 437 (by decide +kernel) (by decide +kernel)
theorem wd_438 : Cond.instanceMethod yX6_lie ∈ lw_good := gd_i 438 (by decide +kernel) (by decide +kernel)
theorem wd_439 : Cond.selects RX6 yX6_lie yX6_lie ∈ lw_good := gd_i 439 (by decide +kernel) (by decide +kernel)
theorem wd_440 : Cond.code yX6_lie cX6_lie 5 (some .int) ∈ lw_good := gd_i 440 (by decide +kernel) (by decide +kernel)
theorem wd_441 : Cond.methodLinkNest RX6 74 yX5_takeUpLie "SplitSecrets" ∈ lw_nest := ns_i 441 (by decide +kernel) (by decide +kernel)
theorem wd_443 : Cond.instanceMethod yX5_takeUpLie ∈ lw_good := gd_i 443 (by decide +kernel) (by decide +kernel)
theorem wd_444 : Cond.code yX5_takeUpLie cX5_takeUpLie 7 (some .int) ∈ lw_good := gd_i 444 (by decide +kernel) (by decide +kernel)
theorem wd_445 : Cond.methodLink RX5 127 yX5_hasHalf ∈ lw_good := gd_i 445 (by decide +kernel) (by decide +kernel)
theorem wd_447 : Cond.instanceMethod yX5_hasHalf ∈ lw_good := gd_i 447 (by decide +kernel) (by decide +kernel)
theorem wd_448 : Cond.code yX5_hasHalf cX5_hasHalf 3 (some .boolean) ∈ lw_good := gd_i 448 (by decide +kernel) (by decide +kernel)
theorem wd_449 : Cond.methodLinkNest RX5 131 yX6_isTag "SplitSecrets" ∈ lw_nest := ns_i 449 (by decide +kernel) (by decide +kernel)
theorem wd_450 : Cond.static yX6_isTag ∈ lw_good := gd_i 450 (by decide +kernel) (by decide +kernel)
theorem wd_451 : Cond.code yX6_isTag cX6_isTag 1 (some .boolean) ∈ lw_good := gd_i 451 (by decide +kernel) (by decide +kernel)
theorem wd_452 : Cond.methodLinkNest RX5 134 yX4_halfIn "SplitSecrets" ∈ lw_nest := ns_i 452 (by decide +kernel) (by decide +kernel)
theorem wd_454 : Cond.instanceMethod yX4_halfIn ∈ lw_good := gd_i 454 (by decide +kernel) (by decide +kernel)
theorem wd_455 : Cond.code yX4_halfIn cX4_halfIn 2 (some (.object "SplitSecrets$Half")) ∈ lw_good := gd_i 455 (by decide +kernel) (by decide +kernel)
theorem wd_456 : Cond.methodLink RL 37 yX6_passing ∈ lw_good := gd_i 456 (by decide +kernel) (by decide +kernel)
theorem wd_457 : Cond.instanceMethod yX6_passing ∈ lw_good := gd_i 457 (by decide +kernel) (by decide +kernel)
theorem wd_458 : Cond.selects RX6 yX6_passing yX6_passing ∈ lw_good := gd_i 458 (by decide +kernel) (by decide +kernel)
theorem wd_459 : Cond.code yX6_passing cX6_passing 4 (some .int) ∈ lw_good := gd_i 459 (by decide +kernel) (by decide +kernel)
theorem wd_460 : Cond.methodLinkNest RX6 110 yX5_tagOffsetThatPasses "SplitSecrets" ∈ lw_nest := ns_i 460 (by decide +kernel) (by decide +kernel)
theorem wd_462 : Cond.instanceMethod yX5_tagOffsetThatPasses ∈ lw_good := gd_i 462 (by decide +kernel) (by decide +kernel)
theorem wd_463 : Cond.code yX5_tagOffsetThatPasses cX5_tagOffsetThatPasses 6 (some .int) ∈ lw_good := gd_i 463 (by decide +kernel) (by decide +kernel)
theorem wd_464 : Cond.methodLinkNest RX5 198 yX4_halfBeside "SplitSecrets" ∈ lw_nest := ns_i 464 (by decide +kernel) (by decide +kernel)
theorem wd_466 : Cond.instanceMethod yX4_halfBeside ∈ lw_good := gd_i 466 (by decide +kernel) (by decide +kernel)
theorem wd_467 : Cond.code yX4_halfBeside cX4_halfBeside 2 (some (.object "SplitSecrets$Half")) ∈ lw_good := gd_i 467 (by decide +kernel) (by decide +kernel)
theorem wd_468 : Cond.methodLinkNest RX5 201 yX0_partWith "SplitSecrets" ∈ lw_nest := ns_i 468 (by decide +kernel) (by decide +kernel)
theorem wd_469 : Cond.methodLink RL 41 yX6_merge ∈ lw_good := gd_i 469 (by decide +kernel) (by decide +kernel)
theorem wd_470 : Cond.instanceMethod yX6_merge ∈ lw_good := gd_i 470 (by decide +kernel) (by decide +kernel)
theorem wd_471 : Cond.selects RX6 yX6_merge yX6_merge ∈ lw_good := gd_i 471 (by decide +kernel) (by decide +kernel)
theorem wd_472 : Cond.code yX6_merge cX6_merge 2 (some .int) ∈ lw_good := gd_i 472 (by decide +kernel) (by decide +kernel)
theorem wd_473 : Cond.methodLinkNest RX6 78 yX5_mergeParts "SplitSecrets" ∈ lw_nest := ns_i 473 (by decide +kernel) (by decide +kernel)
theorem wd_475 : Cond.instanceMethod yX5_mergeParts ∈ lw_good := gd_i 475 (by decide +kernel) (by decide +kernel)
theorem wd_476 : Cond.code yX5_mergeParts cX5_mergeParts 4 (some .int) ∈ lw_good := gd_i 476 (by decide +kernel) (by decide +kernel)
theorem wd_477 : Cond.methodLink RX5 147 yX5_answerOfMerger ∈ lw_good := gd_i 477 (by decide +kernel) (by decide +kernel)
theorem wd_478 : Cond.methodLinkNest RX5 151 yX4_open "SplitSecrets" ∈ lw_nest := ns_i 478 (by decide +kernel) (by decide +kernel)
theorem wd_480 : Cond.instanceMethod yX4_open ∈ lw_good := gd_i 480 (by decide +kernel) (by decide +kernel)
theorem wd_481 : Cond.code yX4_open cX4_open 3 (none) ∈ lw_good := gd_i 481 (by decide +kernel) (by decide +kernel)
theorem wd_482 : Cond.methodLinkNest RX5 155 yX0_lies "SplitSecrets" ∈ lw_nest := ns_i 482 (by decide +kernel) (by decide +kernel)
theorem wd_484 : Cond.instanceMethod yX0_lies ∈ lw_good := gd_i 484 (by decide +kernel) (by decide +kernel)
theorem wd_485 : Cond.code yX0_lies cX0_lies 1 (some .boolean) ∈ lw_good := gd_i 485 (by decide +kernel) (by decide +kernel)
theorem wd_486 : Cond.methodLink RL 44 yX6_ofSecret ∈ lw_good := gd_i 486 (by decide +kernel) (by decide +kernel)
theorem wd_487 : Cond.instanceMethod yX6_ofSecret ∈ lw_good := gd_i 487 (by decide +kernel) (by decide +kernel)
theorem wd_488 : Cond.selects RX6 yX6_ofSecret yX6_ofSecret ∈ lw_good := gd_i 488 (by decide +kernel) (by decide +kernel)
theorem wd_489 : Cond.code yX6_ofSecret cX6_ofSecret 3 (some .int) ∈ lw_good := gd_i 489 (by decide +kernel) (by decide +kernel)
theorem wd_490 : Cond.methodLinkNest RX6 91 yX5_figureOfSecret "SplitSecrets" ∈ lw_nest := ns_i 490 (by decide +kernel) (by decide +kernel)
theorem wd_492 : Cond.instanceMethod yX5_figureOfSecret ∈ lw_good := gd_i 492 (by decide +kernel) (by decide +kernel)
theorem wd_493 : Cond.code yX5_figureOfSecret cX5_figureOfSecret 4 (some .int) ∈ lw_good := gd_i 493 (by decide +kernel) (by decide +kernel)
theorem wd_494 : Cond.methodLink RL 47 yX6_steal ∈ lw_good := gd_i 494 (by decide +kernel) (by decide +kernel)
theorem wd_495 : Cond.instanceMethod yX6_steal ∈ lw_good := gd_i 495 (by decide +kernel) (by decide +kernel)
theorem wd_496 : Cond.selects RX6 yX6_steal yX6_steal ∈ lw_good := gd_i 496 (by decide +kernel) (by decide +kernel)
theorem wd_497 : Cond.code yX6_steal cX6_steal 4 (some .int) ∈ lw_good := gd_i 497 (by decide +kernel) (by decide +kernel)
theorem wd_498 : Cond.methodLinkNest RX6 81 yX5_givePartToThief "SplitSecrets" ∈ lw_nest := ns_i 498 (by decide +kernel) (by decide +kernel)
theorem wd_500 : Cond.instanceMethod yX5_givePartToThief ∈ lw_good := gd_i 500 (by decide +kernel) (by decide +kernel)
theorem wd_501 : Cond.code yX5_givePartToThief cX5_givePartToThief 5 (some .int) ∈ lw_good := gd_i 501 (by decide +kernel) (by decide +kernel)
theorem wd_502 : Cond.methodLinkNest RX5 158 yX4_partForThief "SplitSecrets" ∈ lw_nest := ns_i 502 (by decide +kernel) (by decide +kernel)
theorem wd_504 : Cond.instanceMethod yX4_partForThief ∈ lw_good := gd_i 504 (by decide +kernel) (by decide +kernel)
theorem wd_505 : Cond.code yX4_partForThief cX4_partForThief 4 (some .int) ∈ lw_good := gd_i 505 (by decide +kernel) (by decide +kernel)
theorem wd_506 : Cond.methodLink RX4 72 yX4_halfIn ∈ lw_good := gd_i 506 (by decide +kernel) (by decide +kernel)
theorem wd_507 : Cond.methodLink RX4 80 yX4_takenSet ∈ lw_good := gd_i 507 (by decide +kernel) (by decide +kernel)
theorem wd_509 : Cond.instanceMethod yX4_takenSet ∈ lw_good := gd_i 509 (by decide +kernel) (by decide +kernel)
theorem wd_510 : Cond.code yX4_takenSet cX4_takenSet 2 (some .int) ∈ lw_good := gd_i 510 (by decide +kernel) (by decide +kernel)
theorem wd_511 : Cond.methodLink RL 50 yX6_pass ∈ lw_good := gd_i 511 (by decide +kernel) (by decide +kernel)
theorem wd_512 : Cond.instanceMethod yX6_pass ∈ lw_good := gd_i 512 (by decide +kernel) (by decide +kernel)
theorem wd_513 : Cond.selects RX6 yX6_pass yX6_pass ∈ lw_good := gd_i 513 (by decide +kernel) (by decide +kernel)
theorem wd_514 : Cond.code yX6_pass cX6_pass 2 (some .int) ∈ lw_good := gd_i 514 (by decide +kernel) (by decide +kernel)
theorem wd_515 : Cond.methodLinkNest RX6 85 yX5_passBeats "SplitSecrets" ∈ lw_nest := ns_i 515 (by decide +kernel) (by decide +kernel)
theorem wd_517 : Cond.instanceMethod yX5_passBeats ∈ lw_good := gd_i 517 (by decide +kernel) (by decide +kernel)
theorem wd_518 : Cond.code yX5_passBeats cX5_passBeats 4 (some .int) ∈ lw_good := gd_i 518 (by decide +kernel) (by decide +kernel)
theorem wd_519 : Cond.methodLink RX5 161 yX5_passOneBeat ∈ lw_good := gd_i 519 (by decide +kernel) (by decide +kernel)
theorem wd_521 : Cond.instanceMethod yX5_passOneBeat ∈ lw_good := gd_i 521 (by decide +kernel) (by decide +kernel)
theorem wd_522 : Cond.code yX5_passOneBeat cX5_passOneBeat 2 (none) ∈ lw_good := gd_i 522 (by decide +kernel) (by decide +kernel)
theorem wd_523 : Cond.methodLink RX5 167 yJ9_max_7cf53 ∈ lw_good := gd_i 523 (by decide +kernel) (by decide +kernel)
theorem wd_524 : Cond.static yJ9_max_7cf53 ∈ lw_good := gd_i 524 (by decide +kernel) (by decide +kernel)
theorem wd_525 : Cond.code yJ9_max_7cf53 cJ9_max_7cf53 2 (some .int) ∈ lw_good := gd_i 525 (by decide +kernel) (by decide +kernel)
theorem wd_526 : Cond.methodLink RL 53 yX6_set ∈ lw_good := gd_i 526 (by decide +kernel) (by decide +kernel)
theorem wd_527 : Cond.instanceMethod yX6_set ∈ lw_good := gd_i 527 (by decide +kernel) (by decide +kernel)
theorem wd_528 : Cond.selects RX6 yX6_set yX6_set ∈ lw_good := gd_i 528 (by decide +kernel) (by decide +kernel)
theorem wd_529 : Cond.code yX6_set cX6_set 3 (some .int) ∈ lw_good := gd_i 529 (by decide +kernel) (by decide +kernel)
theorem wd_530 : Cond.methodLinkNest RX6 51 yX5_changeSetting "SplitSecrets" ∈ lw_nest := ns_i 530 (by decide +kernel) (by decide +kernel)
theorem wd_532 : Cond.instanceMethod yX5_changeSetting ∈ lw_good := gd_i 532 (by decide +kernel) (by decide +kernel)
theorem wd_533 : Cond.code yX5_changeSetting cX5_changeSetting 4 (some .int) ∈ lw_good := gd_i 533 (by decide +kernel) (by decide +kernel)
theorem wd_534 : Cond.fieldLinkNest RX5 62 "SplitSecrets" "LEAST_OF_SETTING" "[I" "SplitSecrets" ∈ lw_nest := ns_i 534 (by decide +kernel) (by decide +kernel)
theorem wd_536 : Cond.fieldLinkNest RX5 65 "SplitSecrets" "MOST_OF_SETTING" "[I" "SplitSecrets" ∈ lw_nest := ns_i 536 (by decide +kernel) (by decide +kernel)
theorem wd_538 : Cond.methodLink RL 56 yX6_seed ∈ lw_good := gd_i 538 (by decide +kernel) (by decide +kernel)
theorem wd_539 : Cond.instanceMethod yX6_seed ∈ lw_good := gd_i 539 (by decide +kernel) (by decide +kernel)
theorem wd_540 : Cond.selects RX6 yX6_seed yX6_seed ∈ lw_good := gd_i 540 (by decide +kernel) (by decide +kernel)
theorem wd_541 : Cond.code yX6_seed cX6_seed 2 (some .int) ∈ lw_good := gd_i 541 (by decide +kernel) (by decide +kernel)
theorem wd_542 : Cond.methodLinkNest RX6 59 yX5_changeX "SplitSecrets" ∈ lw_nest := ns_i 542 (by decide +kernel) (by decide +kernel)
theorem wd_544 : Cond.instanceMethod yX5_changeX ∈ lw_good := gd_i 544 (by decide +kernel) (by decide +kernel)
theorem wd_545 : Cond.code yX5_changeX cX5_changeX 3 (some .int) ∈ lw_good := gd_i 545 (by decide +kernel) (by decide +kernel)
theorem wd_546 : Cond.methodLink RL 95 yL_holds ∈ lw_good := gd_i 546 (by decide +kernel) (by decide +kernel)
theorem wd_547 : Cond.static yL_holds ∈ lw_good := gd_i 547 (by decide +kernel) (by decide +kernel)
theorem wd_548 : Cond.code yL_holds cL_holds 7 (some .boolean) ∈ lw_good := gd_i 548 (by decide +kernel) (by decide +kernel)
theorem wd_549 : Cond.methodLink RL 84 yL_isStore ∈ lw_good := gd_i 549 (by decide +kernel) (by decide +kernel)
theorem wd_550 : Cond.static yL_isStore ∈ lw_good := gd_i 550 (by decide +kernel) (by decide +kernel)
theorem wd_551 : Cond.code yL_isStore cL_isStore 7 (some .boolean) ∈ lw_good := gd_i 551 (by decide +kernel) (by decide +kernel)
theorem wd_552 : Cond.methodLink RL 59 yX6_of ∈ lw_good := gd_i 552 (by decide +kernel) (by decide +kernel)
theorem wd_553 : Cond.instanceMethod yX6_of ∈ lw_good := gd_i 553 (by decide +kernel) (by decide +kernel)
theorem wd_554 : Cond.selects RX6 yX6_of yX6_of ∈ lw_good := gd_i 554 (by decide +kernel) (by decide +kernel)
theorem wd_555 : Cond.code yX6_of cX6_of 4 (some .int) ∈ lw_good := gd_i 555 (by decide +kernel) (by decide +kernel)
theorem wd_556 : Cond.methodLinkNest RX6 88 yX5_figureOfHalf "SplitSecrets" ∈ lw_nest := ns_i 556 (by decide +kernel) (by decide +kernel)
theorem wd_558 : Cond.instanceMethod yX5_figureOfHalf ∈ lw_good := gd_i 558 (by decide +kernel) (by decide +kernel)
theorem wd_559 : Cond.code yX5_figureOfHalf cX5_figureOfHalf 5 (some .int) ∈ lw_good := gd_i 559 (by decide +kernel) (by decide +kernel)
theorem wd_560 : Cond.methodLinkNest RX5 170 yX0_toldPart "SplitSecrets" ∈ lw_nest := ns_i 560 (by decide +kernel) (by decide +kernel)
theorem wd_561 : Cond.methodLinkNest RX5 173 yX0_toldTag "SplitSecrets" ∈ lw_nest := ns_i 561 (by decide +kernel) (by decide +kernel)
theorem wd_562 : Cond.methodLink RL 62 yX6_passes ∈ lw_good := gd_i 562 (by decide +kernel) (by decide +kernel)
theorem wd_563 : Cond.instanceMethod yX6_passes ∈ lw_good := gd_i 563 (by decide +kernel) (by decide +kernel)
theorem wd_564 : Cond.selects RX6 yX6_passes yX6_passes ∈ lw_good := gd_i 564 (by decide +kernel) (by decide +kernel)
theorem wd_565 : Cond.code yX6_passes cX6_passes 4 (some .int) ∈ lw_good := gd_i 565 (by decide +kernel) (by decide +kernel)
theorem wd_566 : Cond.methodLinkNest RX6 113 yX5_offsetsThatPass "SplitSecrets" ∈ lw_nest := ns_i 566 (by decide +kernel) (by decide +kernel)
theorem wd_568 : Cond.instanceMethod yX5_offsetsThatPass ∈ lw_good := gd_i 568 (by decide +kernel) (by decide +kernel)
theorem wd_569 : Cond.code yX5_offsetsThatPass cX5_offsetsThatPass 6 (some .int) ∈ lw_good := gd_i 569 (by decide +kernel) (by decide +kernel)
theorem wd_570 : Cond.methodLink RX5 204 yX5_tagOffsetThatPasses ∈ lw_good := gd_i 570 (by decide +kernel) (by decide +kernel)
theorem wd_571 : Cond.methodLink RL 87 yL_isSecret ∈ lw_good := gd_i 571 (by decide +kernel) (by decide +kernel)
theorem wd_572 : Cond.static yL_isSecret ∈ lw_good := gd_i 572 (by decide +kernel) (by decide +kernel)
theorem wd_573 : Cond.code yL_isSecret cL_isSecret 10 (some .boolean) ∈ lw_good := gd_i 573 (by decide +kernel) (by decide +kernel)
theorem wd_574 : Cond.methodLink RL 65 yX6_otherwise ∈ lw_good := gd_i 574 (by decide +kernel) (by decide +kernel)
theorem wd_575 : Cond.instanceMethod yX6_otherwise ∈ lw_good := gd_i 575 (by decide +kernel) (by decide +kernel)
theorem wd_576 : Cond.selects RX6 yX6_otherwise yX6_otherwise ∈ lw_good := gd_i 576 (by decide +kernel) (by decide +kernel)
theorem wd_577 : Cond.code yX6_otherwise cX6_otherwise 4 (some .int) ∈ lw_good := gd_i 577 (by decide +kernel) (by decide +kernel)
theorem wd_578 : Cond.methodLinkNest RX6 107 yX5_otherPartFor "SplitSecrets" ∈ lw_nest := ns_i 578 (by decide +kernel) (by decide +kernel)
theorem wd_580 : Cond.instanceMethod yX5_otherPartFor ∈ lw_good := gd_i 580 (by decide +kernel) (by decide +kernel)
theorem wd_581 : Cond.code yX5_otherPartFor cX5_otherPartFor 4 (some .int) ∈ lw_good := gd_i 581 (by decide +kernel) (by decide +kernel)
theorem wd_582 : Cond.methodLink RL 68 yX6_old ∈ lw_good := gd_i 582 (by decide +kernel) (by decide +kernel)
theorem wd_583 : Cond.instanceMethod yX6_old ∈ lw_good := gd_i 583 (by decide +kernel) (by decide +kernel)
theorem wd_584 : Cond.selects RX6 yX6_old yX6_old ∈ lw_good := gd_i 584 (by decide +kernel) (by decide +kernel)
theorem wd_585 : Cond.code yX6_old cX6_old 4 (some .int) ∈ lw_good := gd_i 585 (by decide +kernel) (by decide +kernel)
theorem wd_586 : Cond.methodLinkNest RX6 94 yX5_figureOfOldVersion "SplitSecrets" ∈ lw_nest := ns_i 586 (by decide +kernel) (by decide +kernel)
theorem wd_588 : Cond.instanceMethod yX5_figureOfOldVersion ∈ lw_good := gd_i 588 (by decide +kernel) (by decide +kernel)
theorem wd_589 : Cond.code yX5_figureOfOldVersion cX5_figureOfOldVersion 6 (some .int) ∈ lw_good := gd_i 589 (by decide +kernel) (by decide +kernel)
theorem wd_590 : Cond.methodLinkNest RX5 189 yX4_takenSet "SplitSecrets" ∈ lw_nest := ns_i 590 (by decide +kernel) (by decide +kernel)
theorem wd_591 : Cond.methodLink RL 71 yX6_atRisk ∈ lw_good := gd_i 591 (by decide +kernel) (by decide +kernel)
theorem wd_592 : Cond.instanceMethod yX6_atRisk ∈ lw_good := gd_i 592 (by decide +kernel) (by decide +kernel)
theorem wd_593 : Cond.selects RX6 yX6_atRisk yX6_atRisk ∈ lw_good := gd_i 593 (by decide +kernel) (by decide +kernel)
theorem wd_594 : Cond.code yX6_atRisk cX6_atRisk 2 (some .int) ∈ lw_good := gd_i 594 (by decide +kernel) (by decide +kernel)
theorem wd_595 : Cond.methodLinkNest RX6 119 yX5_versionsAtRisk "SplitSecrets" ∈ lw_nest := ns_i 595 (by decide +kernel) (by decide +kernel)
theorem wd_597 : Cond.instanceMethod yX5_versionsAtRisk ∈ lw_good := gd_i 597 (by decide +kernel) (by decide +kernel)
theorem wd_598 : Cond.code yX5_versionsAtRisk cX5_versionsAtRisk 2 (some .int) ∈ lw_good := gd_i 598 (by decide +kernel) (by decide +kernel)
theorem wd_599 : Cond.methodLinkNest RX5 208 yX4_rowsAtRisk "SplitSecrets" ∈ lw_nest := ns_i 599 (by decide +kernel) (by decide +kernel)
theorem wd_601 : Cond.instanceMethod yX4_rowsAtRisk ∈ lw_good := gd_i 601 (by decide +kernel) (by decide +kernel)
theorem wd_602 : Cond.code yX4_rowsAtRisk cX4_rowsAtRisk 3 (some .int) ∈ lw_good := gd_i 602 (by decide +kernel) (by decide +kernel)
theorem wd_603 : Cond.methodLink RL 74 yX6_needed ∈ lw_good := gd_i 603 (by decide +kernel) (by decide +kernel)
theorem wd_604 : Cond.instanceMethod yX6_needed ∈ lw_good := gd_i 604 (by decide +kernel) (by decide +kernel)
theorem wd_605 : Cond.selects RX6 yX6_needed yX6_needed ∈ lw_good := gd_i 605 (by decide +kernel) (by decide +kernel)
theorem wd_606 : Cond.code yX6_needed cX6_needed 2 (some .int) ∈ lw_good := gd_i 606 (by decide +kernel) (by decide +kernel)
theorem wd_607 : Cond.methodLinkNest RX6 116 yX5_partsNeeded "SplitSecrets" ∈ lw_nest := ns_i 607 (by decide +kernel) (by decide +kernel)
theorem wd_609 : Cond.instanceMethod yX5_partsNeeded ∈ lw_good := gd_i 609 (by decide +kernel) (by decide +kernel)
theorem wd_610 : Cond.code yX5_partsNeeded cX5_partsNeeded 2 (some .int) ∈ lw_good := gd_i 610 (by decide +kernel) (by decide +kernel)
theorem wd_611 : Cond.methodLink RL 77 yL_isCaught ∈ lw_good := gd_i 611 (by decide +kernel) (by decide +kernel)
theorem wd_612 : Cond.static yL_isCaught ∈ lw_good := gd_i 612 (by decide +kernel) (by decide +kernel)
theorem wd_613 : Cond.code yL_isCaught cL_isCaught 3 (some .boolean) ∈ lw_good := gd_i 613 (by decide +kernel) (by decide +kernel)
theorem f_6_12 : LK RX6 12 6 0 := ⟨(RX6, TX6, 6), rfl, by decide, Or.inl wd_248⟩
theorem f_6_19 : LK RX6 19 6 1 := ⟨(RX6, TX6, 6), rfl, by decide, Or.inl wd_249⟩
theorem f_6_23 : LK RX6 23 6 2 := ⟨(RX6, TX6, 6), rfl, by decide, Or.inl wd_250⟩
theorem f_6_27 : LK RX6 27 6 3 := ⟨(RX6, TX6, 6), rfl, by decide, Or.inl wd_251⟩
theorem f_6_34 : LK RX6 34 6 4 := ⟨(RX6, TX6, 6), rfl, by decide, Or.inl wd_252⟩
theorem f_6_43 : LK RX6 43 6 5 := ⟨(RX6, TX6, 6), rfl, by decide, Or.inl wd_253⟩
theorem f_6_97 : LK RX6 97 2 1 := ⟨(RX2, TX2, 2), rfl, by decide, Or.inr ⟨_, wd_219⟩⟩
theorem f_6_101 : LK RX6 101 1 2 := ⟨(RX1, TX1, 3), rfl, by decide, Or.inr ⟨_, wd_204⟩⟩
theorem f_0_9 : LK RX0 9 0 0 := ⟨(RX0, TX0, 7), rfl, by decide, Or.inl wd_88⟩
theorem f_0_15 : LK RX0 15 0 1 := ⟨(RX0, TX0, 7), rfl, by decide, Or.inl wd_91⟩
theorem f_0_19 : LK RX0 19 0 2 := ⟨(RX0, TX0, 7), rfl, by decide, Or.inl wd_93⟩
theorem f_0_23 : LK RX0 23 0 3 := ⟨(RX0, TX0, 7), rfl, by decide, Or.inl wd_95⟩
theorem f_0_26 : LK RX0 26 0 4 := ⟨(RX0, TX0, 7), rfl, by decide, Or.inl wd_97⟩
theorem f_0_29 : LK RX0 29 0 5 := ⟨(RX0, TX0, 7), rfl, by decide, Or.inl wd_99⟩
theorem f_0_32 : LK RX0 32 0 6 := ⟨(RX0, TX0, 7), rfl, by decide, Or.inl wd_101⟩
theorem f_1_11 : LK RX1 11 1 0 := ⟨(RX1, TX1, 3), rfl, by decide, Or.inl wd_201⟩
theorem f_1_18 : LK RX1 18 1 1 := ⟨(RX1, TX1, 3), rfl, by decide, Or.inl wd_202⟩
theorem f_1_22 : LK RX1 22 1 2 := ⟨(RX1, TX1, 3), rfl, by decide, Or.inl wd_203⟩
theorem f_2_9 : LK RX2 9 2 0 := ⟨(RX2, TX2, 2), rfl, by decide, Or.inl wd_218⟩
theorem f_3_9 : LK RX3 9 3 0 := ⟨(RX3, TX3, 7), rfl, by decide, Or.inl wd_232⟩
theorem f_4_12 : LK RX4 12 4 0 := ⟨(RX4, TX4, 10), rfl, by decide, Or.inl wd_120⟩
theorem f_4_18 : LK RX4 18 4 1 := ⟨(RX4, TX4, 10), rfl, by decide, Or.inl wd_122⟩
theorem f_4_25 : LK RX4 25 4 2 := ⟨(RX4, TX4, 10), rfl, by decide, Or.inl wd_124⟩
theorem f_4_29 : LK RX4 29 4 3 := ⟨(RX4, TX4, 10), rfl, by decide, Or.inl wd_126⟩
theorem f_4_32 : LK RX4 32 4 4 := ⟨(RX4, TX4, 10), rfl, by decide, Or.inl wd_128⟩
theorem f_4_35 : LK RX4 35 4 5 := ⟨(RX4, TX4, 10), rfl, by decide, Or.inl wd_130⟩
theorem f_4_38 : LK RX4 38 4 6 := ⟨(RX4, TX4, 10), rfl, by decide, Or.inl wd_132⟩
theorem f_4_41 : LK RX4 41 4 7 := ⟨(RX4, TX4, 10), rfl, by decide, Or.inl wd_134⟩
theorem f_4_44 : LK RX4 44 4 8 := ⟨(RX4, TX4, 10), rfl, by decide, Or.inl wd_136⟩
theorem f_4_47 : LK RX4 47 4 9 := ⟨(RX4, TX4, 10), rfl, by decide, Or.inl wd_138⟩
theorem f_4_51 : LK RX4 51 0 0 := ⟨(RX0, TX0, 7), rfl, by decide, Or.inr ⟨_, wd_89⟩⟩
theorem f_4_76 : LK RX4 76 0 1 := ⟨(RX0, TX0, 7), rfl, by decide, Or.inr ⟨_, wd_92⟩⟩
theorem f_5_11 : LK RX5 11 5 0 := ⟨(RX5, TX5, 10), rfl, by decide, Or.inl wd_161⟩
theorem f_5_17 : LK RX5 17 5 1 := ⟨(RX5, TX5, 10), rfl, by decide, Or.inl wd_162⟩
theorem f_5_21 : LK RX5 21 5 2 := ⟨(RX5, TX5, 10), rfl, by decide, Or.inl wd_163⟩
theorem f_5_25 : LK RX5 25 5 4 := ⟨(RX5, TX5, 10), rfl, by decide, Or.inl wd_165⟩
theorem f_5_34 : LK RX5 34 5 3 := ⟨(RX5, TX5, 10), rfl, by decide, Or.inl wd_164⟩
theorem f_5_37 : LK RX5 37 5 5 := ⟨(RX5, TX5, 10), rfl, by decide, Or.inl wd_166⟩
theorem f_5_40 : LK RX5 40 5 6 := ⟨(RX5, TX5, 10), rfl, by decide, Or.inl wd_167⟩
theorem f_5_43 : LK RX5 43 5 7 := ⟨(RX5, TX5, 10), rfl, by decide, Or.inl wd_168⟩
theorem f_5_46 : LK RX5 46 5 8 := ⟨(RX5, TX5, 10), rfl, by decide, Or.inl wd_169⟩
theorem f_5_49 : LK RX5 49 5 9 := ⟨(RX5, TX5, 10), rfl, by decide, Or.inl wd_170⟩
theorem f_5_59 : LK RX5 59 4 2 := ⟨(RX4, TX4, 10), rfl, by decide, Or.inr ⟨_, wd_125⟩⟩
theorem f_5_80 : LK RX5 80 4 0 := ⟨(RX4, TX4, 10), rfl, by decide, Or.inr ⟨_, wd_121⟩⟩
theorem f_5_84 : LK RX5 84 4 1 := ⟨(RX4, TX4, 10), rfl, by decide, Or.inr ⟨_, wd_123⟩⟩
theorem f_5_87 : LK RX5 87 0 0 := ⟨(RX0, TX0, 7), rfl, by decide, Or.inr ⟨_, wd_90⟩⟩
theorem f_5_102 : LK RX5 102 0 3 := ⟨(RX0, TX0, 7), rfl, by decide, Or.inr ⟨_, wd_96⟩⟩
theorem f_5_105 : LK RX5 105 0 4 := ⟨(RX0, TX0, 7), rfl, by decide, Or.inr ⟨_, wd_98⟩⟩
theorem f_5_112 : LK RX5 112 0 2 := ⟨(RX0, TX0, 7), rfl, by decide, Or.inr ⟨_, wd_94⟩⟩
theorem f_5_124 : LK RX5 124 4 3 := ⟨(RX4, TX4, 10), rfl, by decide, Or.inr ⟨_, wd_127⟩⟩
theorem f_5_138 : LK RX5 138 0 5 := ⟨(RX0, TX0, 7), rfl, by decide, Or.inr ⟨_, wd_100⟩⟩
theorem f_5_141 : LK RX5 141 0 6 := ⟨(RX0, TX0, 7), rfl, by decide, Or.inr ⟨_, wd_102⟩⟩
theorem f_5_150 : LK RX5 150 4 6 := ⟨(RX4, TX4, 10), rfl, by decide, Or.inr ⟨_, wd_133⟩⟩
theorem f_5_164 : LK RX5 164 4 5 := ⟨(RX4, TX4, 10), rfl, by decide, Or.inr ⟨_, wd_131⟩⟩
theorem f_5_176 : LK RX5 176 4 4 := ⟨(RX4, TX4, 10), rfl, by decide, Or.inr ⟨_, wd_129⟩⟩
theorem f_5_179 : LK RX5 179 4 9 := ⟨(RX4, TX4, 10), rfl, by decide, Or.inr ⟨_, wd_139⟩⟩
theorem f_5_183 : LK RX5 183 4 8 := ⟨(RX4, TX4, 10), rfl, by decide, Or.inr ⟨_, wd_137⟩⟩
theorem f_5_186 : LK RX5 186 4 7 := ⟨(RX4, TX4, 10), rfl, by decide, Or.inr ⟨_, wd_135⟩⟩
theorem coJ9_floorMod_7cf53 {M : Md} (h1 : mF mJ9_floorMod_7cf53 + 1 ≤ mF M) (h2 : 8 + (mL mJ9_floorMod_7cf53 + 11) + mW mJ9_floorMod_7cf53 ≤ mW M) : CLo M mJ9_floorMod_7cf53 2 := ⟨by decide +kernel, wd_381, by decide +kernel, by decide +kernel, h1, h2, wd_60⟩
theorem coJ9_max_7cf53 {M : Md} (h1 : mF mJ9_max_7cf53 + 1 ≤ mF M) (h2 : 8 + (mL mJ9_max_7cf53 + 11) + mW mJ9_max_7cf53 ≤ mW M) : CLo M mJ9_max_7cf53 2 := ⟨by decide +kernel, wd_525, by decide +kernel, by decide +kernel, h1, h2, wd_60⟩
theorem coJ9_min_7cf53 {M : Md} (h1 : mF mJ9_min_7cf53 + 1 ≤ mF M) (h2 : 8 + (mL mJ9_min_7cf53 + 11) + mW mJ9_min_7cf53 ≤ mW M) : CLo M mJ9_min_7cf53 2 := ⟨by decide +kernel, wd_417, by decide +kernel, by decide +kernel, h1, h2, wd_60⟩
theorem coL_cell {M : Md} (h1 : mF mL_cell + 1 ≤ mF M) (h2 : 8 + (mL mL_cell + 11) + mW mL_cell ≤ mW M) : CLo M mL_cell 2 := ⟨by decide +kernel, wd_346, by decide +kernel, by decide +kernel, h1, h2, wd_52⟩
theorem coL_change {M : Md} (h1 : mF mL_change + 1 ≤ mF M) (h2 : 8 + (mL mL_change + 11) + mW mL_change ≤ mW M) : CLo M mL_change 5 := ⟨by decide +kernel, wd_354, by decide +kernel, by decide +kernel, h1, h2, wd_52⟩
theorem coL_holds {M : Md} (h1 : mF mL_holds + 1 ≤ mF M) (h2 : 8 + (mL mL_holds + 11) + mW mL_holds ≤ mW M) : CLo M mL_holds 2 := ⟨by decide +kernel, wd_548, by decide +kernel, by decide +kernel, h1, h2, wd_52⟩
theorem coL_isCaught {M : Md} (h1 : mF mL_isCaught + 1 ≤ mF M) (h2 : 8 + (mL mL_isCaught + 11) + mW mL_isCaught ≤ mW M) : CLo M mL_isCaught 3 := ⟨by decide +kernel, wd_613, by decide +kernel, by decide +kernel, h1, h2, wd_52⟩
theorem coL_isSecret {M : Md} (h1 : mF mL_isSecret + 1 ≤ mF M) (h2 : 8 + (mL mL_isSecret + 11) + mW mL_isSecret ≤ mW M) : CLo M mL_isSecret 3 := ⟨by decide +kernel, wd_573, by decide +kernel, by decide +kernel, h1, h2, wd_52⟩
theorem coL_isStore {M : Md} (h1 : mF mL_isStore + 1 ≤ mF M) (h2 : 8 + (mL mL_isStore + 11) + mW mL_isStore ≤ mW M) : CLo M mL_isStore 3 := ⟨by decide +kernel, wd_551, by decide +kernel, by decide +kernel, h1, h2, wd_52⟩
theorem coL_low {M : Md} (h1 : mF mL_low + 1 ≤ mF M) (h2 : 8 + (mL mL_low + 11) + mW mL_low ≤ mW M) : CLo M mL_low 2 := ⟨by decide +kernel, wd_350, by decide +kernel, by decide +kernel, h1, h2, wd_52⟩
theorem coX0_catches {M : Md} (h1 : mF mX0_catches + 1 ≤ mF M) (h2 : 8 + (mL mX0_catches + 11) + mW mX0_catches ≤ mW M) : CLo M mX0_catches 1 := ⟨by decide +kernel, wd_306, by decide +kernel, by decide +kernel, h1, h2, wd_56⟩
theorem coX0_copyHalf {M : Md} (h1 : mF mX0_copyHalf + 1 ≤ mF M) (h2 : 8 + (mL mX0_copyHalf + 11) + mW mX0_copyHalf ≤ mW M) : CLo M mX0_copyHalf 1 := ⟨by decide +kernel, wd_343, by decide +kernel, by decide +kernel, h1, h2, wd_56⟩
theorem coX0_freeRowOfNow {M : Md} (h1 : mF mX0_freeRowOfNow + 1 ≤ mF M) (h2 : 8 + (mL mX0_freeRowOfNow + 11) + mW mX0_freeRowOfNow ≤ mW M) : CLo M mX0_freeRowOfNow 0 := ⟨by decide +kernel, wd_414, by decide +kernel, by decide +kernel, h1, h2, wd_56⟩
theorem coX0_init {M : Md} (h1 : mF mX0_init + 1 ≤ mF M) (h2 : 8 + (mL mX0_init + 11) + mW mX0_init ≤ mW M) : CLo M mX0_init 0 := ⟨by decide +kernel, wd_86, by decide +kernel, by decide +kernel, h1, h2, wd_56⟩
theorem coX0_lies {M : Md} (h1 : mF mX0_lies + 1 ≤ mF M) (h2 : 8 + (mL mX0_lies + 11) + mW mX0_lies ≤ mW M) : CLo M mX0_lies 0 := ⟨by decide +kernel, wd_485, by decide +kernel, by decide +kernel, h1, h2, wd_56⟩
theorem coX0_partWith {M : Md} (h1 : mF mX0_partWith + 1 ≤ mF M) (h2 : 8 + (mL mX0_partWith + 11) + mW mX0_partWith ≤ mW M) : CLo M mX0_partWith 1 := ⟨by decide +kernel, wd_314, by decide +kernel, by decide +kernel, h1, h2, wd_56⟩
theorem coX0_tagDueFor {M : Md} (h1 : mF mX0_tagDueFor + 1 ≤ mF M) (h2 : 8 + (mL mX0_tagDueFor + 11) + mW mX0_tagDueFor ≤ mW M) : CLo M mX0_tagDueFor 1 := ⟨by decide +kernel, wd_318, by decide +kernel, by decide +kernel, h1, h2, wd_56⟩
theorem coX0_toldPart {M : Md} (h1 : mF mX0_toldPart + 1 ≤ mF M) (h2 : 8 + (mL mX0_toldPart + 11) + mW mX0_toldPart ≤ mW M) : CLo M mX0_toldPart 0 := ⟨by decide +kernel, wd_310, by decide +kernel, by decide +kernel, h1, h2, wd_56⟩
theorem coX0_toldTag {M : Md} (h1 : mF mX0_toldTag + 1 ≤ mF M) (h2 : 8 + (mL mX0_toldTag + 11) + mW mX0_toldTag ≤ mW M) : CLo M mX0_toldTag 0 := ⟨by decide +kernel, wd_322, by decide +kernel, by decide +kernel, h1, h2, wd_56⟩
theorem coX1_draft {M : Md} (h1 : mF mX1_draft + 1 ≤ mF M) (h2 : 8 + (mL mX1_draft + 11) + mW mX1_draft ≤ mW M) : CLo M mX1_draft 1 := ⟨by decide +kernel, wd_362, by decide +kernel, by decide +kernel, h1, h2, wd_57⟩
theorem coX1_init {M : Md} (h1 : mF mX1_init + 1 ≤ mF M) (h2 : 8 + (mL mX1_init + 11) + mW mX1_init ≤ mW M) : CLo M mX1_init 0 := ⟨by decide +kernel, wd_196, by decide +kernel, by decide +kernel, h1, h2, wd_57⟩
theorem coX1_recordDraft {M : Md} (h1 : mF mX1_recordDraft + 1 ≤ mF M) (h2 : 8 + (mL mX1_recordDraft + 11) + mW mX1_recordDraft ≤ mW M) : CLo M mX1_recordDraft 0 := ⟨by decide +kernel, wd_390, by decide +kernel, by decide +kernel, h1, h2, wd_57⟩
theorem coX1_takesBack {M : Md} (h1 : mF mX1_takesBack + 1 ≤ mF M) (h2 : 8 + (mL mX1_takesBack + 11) + mW mX1_takesBack ≤ mW M) : CLo M mX1_takesBack 1 := ⟨by decide +kernel, wd_331, by decide +kernel, by decide +kernel, h1, h2, wd_57⟩
theorem coX2_init {M : Md} (h1 : mF mX2_init + 1 ≤ mF M) (h2 : 8 + (mL mX2_init + 11) + mW mX2_init ≤ mW M) : CLo M mX2_init 0 := ⟨by decide +kernel, wd_216, by decide +kernel, by decide +kernel, h1, h2, wd_58⟩
theorem coX3_init {M : Md} (h1 : mF mX3_init + 1 ≤ mF M) (h2 : 8 + (mL mX3_init + 11) + mW mX3_init ≤ mW M) : CLo M mX3_init 1 := ⟨by decide +kernel, wd_230, by decide +kernel, by decide +kernel, h1, h2, wd_59⟩
theorem coX4_ageKeeping {M : Md} (h1 : mF mX4_ageKeeping + 1 ≤ mF M) (h2 : 8 + (mL mX4_ageKeeping + 11) + mW mX4_ageKeeping ≤ mW M) : CLo M mX4_ageKeeping 1 := ⟨by decide +kernel, wd_410, by decide +kernel, by decide +kernel, h1, h2, wd_55⟩
theorem coX4_answerIfMerged {M : Md} (h1 : mF mX4_answerIfMerged + 1 ≤ mF M) (h2 : 8 + (mL mX4_answerIfMerged + 11) + mW mX4_answerIfMerged ≤ mW M) : CLo M mX4_answerIfMerged 0 := ⟨by decide +kernel, wd_302, by decide +kernel, by decide +kernel, h1, h2, wd_55⟩
theorem coX4_copySecret {M : Md} (h1 : mF mX4_copySecret + 1 ≤ mF M) (h2 : 8 + (mL mX4_copySecret + 11) + mW mX4_copySecret ≤ mW M) : CLo M mX4_copySecret 1 := ⟨by decide +kernel, wd_339, by decide +kernel, by decide +kernel, h1, h2, wd_55⟩
theorem coX4_halfBeside {M : Md} (h1 : mF mX4_halfBeside + 1 ≤ mF M) (h2 : 8 + (mL mX4_halfBeside + 11) + mW mX4_halfBeside ≤ mW M) : CLo M mX4_halfBeside 1 := ⟨by decide +kernel, wd_467, by decide +kernel, by decide +kernel, h1, h2, wd_55⟩
theorem coX4_halfIn {M : Md} (h1 : mF mX4_halfIn + 1 ≤ mF M) (h2 : 8 + (mL mX4_halfIn + 11) + mW mX4_halfIn ≤ mW M) : CLo M mX4_halfIn 1 := ⟨by decide +kernel, wd_455, by decide +kernel, by decide +kernel, h1, h2, wd_55⟩
theorem coX4_init {M : Md} (h1 : mF mX4_init + 1 ≤ mF M) (h2 : 8 + (mL mX4_init + 11) + mW mX4_init ≤ mW M) : CLo M mX4_init 0 := ⟨by decide +kernel, wd_80, by decide +kernel, by decide +kernel, h1, h2, wd_55⟩
theorem coX4_open {M : Md} (h1 : mF mX4_open + 1 ≤ mF M) (h2 : 8 + (mL mX4_open + 11) + mW mX4_open ≤ mW M) : CLo M mX4_open 2 := ⟨by decide +kernel, wd_481, by decide +kernel, by decide +kernel, h1, h2, wd_55⟩
theorem coX4_partForThief {M : Md} (h1 : mF mX4_partForThief + 1 ≤ mF M) (h2 : 8 + (mL mX4_partForThief + 11) + mW mX4_partForThief ≤ mW M) : CLo M mX4_partForThief 2 := ⟨by decide +kernel, wd_505, by decide +kernel, by decide +kernel, h1, h2, wd_55⟩
theorem coX4_rowsAtRisk {M : Md} (h1 : mF mX4_rowsAtRisk + 1 ≤ mF M) (h2 : 8 + (mL mX4_rowsAtRisk + 11) + mW mX4_rowsAtRisk ≤ mW M) : CLo M mX4_rowsAtRisk 0 := ⟨by decide +kernel, wd_602, by decide +kernel, by decide +kernel, h1, h2, wd_55⟩
theorem coX4_takenSet {M : Md} (h1 : mF mX4_takenSet + 1 ≤ mF M) (h2 : 8 + (mL mX4_takenSet + 11) + mW mX4_takenSet ≤ mW M) : CLo M mX4_takenSet 1 := ⟨by decide +kernel, wd_510, by decide +kernel, by decide +kernel, h1, h2, wd_55⟩
theorem coX4_value {M : Md} (h1 : mF mX4_value + 1 ≤ mF M) (h2 : 8 + (mL mX4_value + 11) + mW mX4_value ≤ mW M) : CLo M mX4_value 0 := ⟨by decide +kernel, wd_406, by decide +kernel, by decide +kernel, h1, h2, wd_55⟩
theorem coX5_adm {M : Md} (h1 : mF mX5_adm + 1 ≤ mF M) (h2 : 8 + (mL mX5_adm + 11) + mW mX5_adm ≤ mW M) : CLo M mX5_adm 1 := ⟨by decide +kernel, wd_366, by decide +kernel, by decide +kernel, h1, h2, wd_54⟩
theorem coX5_answerOfMerger {M : Md} (h1 : mF mX5_answerOfMerger + 1 ≤ mF M) (h2 : 8 + (mL mX5_answerOfMerger + 11) + mW mX5_answerOfMerger ≤ mW M) : CLo M mX5_answerOfMerger 1 := ⟨by decide +kernel, wd_290, by decide +kernel, by decide +kernel, h1, h2, wd_54⟩
theorem coX5_burnOldVersions {M : Md} (h1 : mF mX5_burnOldVersions + 1 ≤ mF M) (h2 : 8 + (mL mX5_burnOldVersions + 11) + mW mX5_burnOldVersions ≤ mW M) : CLo M mX5_burnOldVersions 1 := ⟨by decide +kernel, wd_425, by decide +kernel, by decide +kernel, h1, h2, wd_54⟩
theorem coX5_changeSetting {M : Md} (h1 : mF mX5_changeSetting + 1 ≤ mF M) (h2 : 8 + (mL mX5_changeSetting + 11) + mW mX5_changeSetting ≤ mW M) : CLo M mX5_changeSetting 2 := ⟨by decide +kernel, wd_533, by decide +kernel, by decide +kernel, h1, h2, wd_54⟩
theorem coX5_changeX {M : Md} (h1 : mF mX5_changeX + 1 ≤ mF M) (h2 : 8 + (mL mX5_changeX + 11) + mW mX5_changeX ≤ mW M) : CLo M mX5_changeX 1 := ⟨by decide +kernel, wd_545, by decide +kernel, by decide +kernel, h1, h2, wd_54⟩
theorem coX5_copyState {M : Md} (h1 : mF mX5_copyState + 1 ≤ mF M) (h2 : 8 + (mL mX5_copyState + 11) + mW mX5_copyState ≤ mW M) : CLo M mX5_copyState 1 := ⟨by decide +kernel, wd_335, by decide +kernel, by decide +kernel, h1, h2, wd_54⟩
theorem coX5_drawn {M : Md} (h1 : mF mX5_drawn + 1 ≤ mF M) (h2 : 8 + (mL mX5_drawn + 11) + mW mX5_drawn ≤ mW M) : CLo M mX5_drawn 0 := ⟨by decide +kernel, wd_377, by decide +kernel, by decide +kernel, h1, h2, wd_54⟩
theorem coX5_figure {M : Md} (h1 : mF mX5_figure + 1 ≤ mF M) (h2 : 8 + (mL mX5_figure + 11) + mW mX5_figure ≤ mW M) : CLo M mX5_figure 1 := ⟨by decide +kernel, wd_274, by decide +kernel, by decide +kernel, h1, h2, wd_54⟩
theorem coX5_figureOfHalf {M : Md} (h1 : mF mX5_figureOfHalf + 1 ≤ mF M) (h2 : 8 + (mL mX5_figureOfHalf + 11) + mW mX5_figureOfHalf ≤ mW M) : CLo M mX5_figureOfHalf 3 := ⟨by decide +kernel, wd_559, by decide +kernel, by decide +kernel, h1, h2, wd_54⟩
theorem coX5_figureOfOldVersion {M : Md} (h1 : mF mX5_figureOfOldVersion + 1 ≤ mF M) (h2 : 8 + (mL mX5_figureOfOldVersion + 11) + mW mX5_figureOfOldVersion ≤ mW M) : CLo M mX5_figureOfOldVersion 3 := ⟨by decide +kernel, wd_589, by decide +kernel, by decide +kernel, h1, h2, wd_54⟩
theorem coX5_figureOfSecret {M : Md} (h1 : mF mX5_figureOfSecret + 1 ≤ mF M) (h2 : 8 + (mL mX5_figureOfSecret + 11) + mW mX5_figureOfSecret ≤ mW M) : CLo M mX5_figureOfSecret 2 := ⟨by decide +kernel, wd_493, by decide +kernel, by decide +kernel, h1, h2, wd_54⟩
theorem coX5_givePartToThief {M : Md} (h1 : mF mX5_givePartToThief + 1 ≤ mF M) (h2 : 8 + (mL mX5_givePartToThief + 11) + mW mX5_givePartToThief ≤ mW M) : CLo M mX5_givePartToThief 3 := ⟨by decide +kernel, wd_501, by decide +kernel, by decide +kernel, h1, h2, wd_54⟩
theorem coX5_hasHalf {M : Md} (h1 : mF mX5_hasHalf + 1 ≤ mF M) (h2 : 8 + (mL mX5_hasHalf + 11) + mW mX5_hasHalf ≤ mW M) : CLo M mX5_hasHalf 2 := ⟨by decide +kernel, wd_448, by decide +kernel, by decide +kernel, h1, h2, wd_54⟩
theorem coX5_hasSecret {M : Md} (h1 : mF mX5_hasSecret + 1 ≤ mF M) (h2 : 8 + (mL mX5_hasSecret + 11) + mW mX5_hasSecret ≤ mW M) : CLo M mX5_hasSecret 1 := ⟨by decide +kernel, wd_294, by decide +kernel, by decide +kernel, h1, h2, wd_54⟩
theorem coX5_init {M : Md} (h1 : mF mX5_init + 1 ≤ mF M) (h2 : 8 + (mL mX5_init + 11) + mW mX5_init ≤ mW M) : CLo M mX5_init 0 := ⟨by decide +kernel, wd_73, by decide +kernel, by decide +kernel, h1, h2, wd_54⟩
theorem coX5_makeNextVersion {M : Md} (h1 : mF mX5_makeNextVersion + 1 ≤ mF M) (h2 : 8 + (mL mX5_makeNextVersion + 11) + mW mX5_makeNextVersion ≤ mW M) : CLo M mX5_makeNextVersion 1 := ⟨by decide +kernel, wd_402, by decide +kernel, by decide +kernel, h1, h2, wd_54⟩
theorem coX5_makeVersion {M : Md} (h1 : mF mX5_makeVersion + 1 ≤ mF M) (h2 : 8 + (mL mX5_makeVersion + 11) + mW mX5_makeVersion ≤ mW M) : CLo M mX5_makeVersion 2 := ⟨by decide +kernel, wd_373, by decide +kernel, by decide +kernel, h1, h2, wd_54⟩
theorem coX5_mergeParts {M : Md} (h1 : mF mX5_mergeParts + 1 ≤ mF M) (h2 : 8 + (mL mX5_mergeParts + 11) + mW mX5_mergeParts ≤ mW M) : CLo M mX5_mergeParts 1 := ⟨by decide +kernel, wd_476, by decide +kernel, by decide +kernel, h1, h2, wd_54⟩
theorem coX5_offsetsThatPass {M : Md} (h1 : mF mX5_offsetsThatPass + 1 ≤ mF M) (h2 : 8 + (mL mX5_offsetsThatPass + 11) + mW mX5_offsetsThatPass ≤ mW M) : CLo M mX5_offsetsThatPass 3 := ⟨by decide +kernel, wd_569, by decide +kernel, by decide +kernel, h1, h2, wd_54⟩
theorem coX5_otherPartFor {M : Md} (h1 : mF mX5_otherPartFor + 1 ≤ mF M) (h2 : 8 + (mL mX5_otherPartFor + 11) + mW mX5_otherPartFor ≤ mW M) : CLo M mX5_otherPartFor 3 := ⟨by decide +kernel, wd_581, by decide +kernel, by decide +kernel, h1, h2, wd_54⟩
theorem coX5_partsNeeded {M : Md} (h1 : mF mX5_partsNeeded + 1 ≤ mF M) (h2 : 8 + (mL mX5_partsNeeded + 11) + mW mX5_partsNeeded ≤ mW M) : CLo M mX5_partsNeeded 1 := ⟨by decide +kernel, wd_610, by decide +kernel, by decide +kernel, h1, h2, wd_54⟩
theorem coX5_passBeats {M : Md} (h1 : mF mX5_passBeats + 1 ≤ mF M) (h2 : 8 + (mL mX5_passBeats + 11) + mW mX5_passBeats ≤ mW M) : CLo M mX5_passBeats 1 := ⟨by decide +kernel, wd_518, by decide +kernel, by decide +kernel, h1, h2, wd_54⟩
theorem coX5_passOneBeat {M : Md} (h1 : mF mX5_passOneBeat + 1 ≤ mF M) (h2 : 8 + (mL mX5_passOneBeat + 11) + mW mX5_passOneBeat ≤ mW M) : CLo M mX5_passOneBeat 0 := ⟨by decide +kernel, wd_522, by decide +kernel, by decide +kernel, h1, h2, wd_54⟩
theorem coX5_renew {M : Md} (h1 : mF mX5_renew + 1 ≤ mF M) (h2 : 8 + (mL mX5_renew + 11) + mW mX5_renew ≤ mW M) : CLo M mX5_renew 1 := ⟨by decide +kernel, wd_398, by decide +kernel, by decide +kernel, h1, h2, wd_54⟩
theorem coX5_setOfKnown {M : Md} (h1 : mF mX5_setOfKnown + 1 ≤ mF M) (h2 : 8 + (mL mX5_setOfKnown + 11) + mW mX5_setOfKnown ≤ mW M) : CLo M mX5_setOfKnown 0 := ⟨by decide +kernel, wd_282, by decide +kernel, by decide +kernel, h1, h2, wd_54⟩
theorem coX5_setOfOpen {M : Md} (h1 : mF mX5_setOfOpen + 1 ≤ mF M) (h2 : 8 + (mL mX5_setOfOpen + 11) + mW mX5_setOfOpen ≤ mW M) : CLo M mX5_setOfOpen 0 := ⟨by decide +kernel, wd_278, by decide +kernel, by decide +kernel, h1, h2, wd_54⟩
theorem coX5_someStoreSleeps {M : Md} (h1 : mF mX5_someStoreSleeps + 1 ≤ mF M) (h2 : 8 + (mL mX5_someStoreSleeps + 11) + mW mX5_someStoreSleeps ≤ mW M) : CLo M mX5_someStoreSleeps 0 := ⟨by decide +kernel, wd_298, by decide +kernel, by decide +kernel, h1, h2, wd_54⟩
theorem coX5_tagOffsetThatPasses {M : Md} (h1 : mF mX5_tagOffsetThatPasses + 1 ≤ mF M) (h2 : 8 + (mL mX5_tagOffsetThatPasses + 11) + mW mX5_tagOffsetThatPasses ≤ mW M) : CLo M mX5_tagOffsetThatPasses 3 := ⟨by decide +kernel, wd_463, by decide +kernel, by decide +kernel, h1, h2, wd_54⟩
theorem coX5_takeUpLie {M : Md} (h1 : mF mX5_takeUpLie + 1 ≤ mF M) (h2 : 8 + (mL mX5_takeUpLie + 11) + mW mX5_takeUpLie ≤ mW M) : CLo M mX5_takeUpLie 4 := ⟨by decide +kernel, wd_444, by decide +kernel, by decide +kernel, h1, h2, wd_54⟩
theorem coX5_turnSleep {M : Md} (h1 : mF mX5_turnSleep + 1 ≤ mF M) (h2 : 8 + (mL mX5_turnSleep + 11) + mW mX5_turnSleep ≤ mW M) : CLo M mX5_turnSleep 1 := ⟨by decide +kernel, wd_433, by decide +kernel, by decide +kernel, h1, h2, wd_54⟩
theorem coX5_versionsAtRisk {M : Md} (h1 : mF mX5_versionsAtRisk + 1 ≤ mF M) (h2 : 8 + (mL mX5_versionsAtRisk + 11) + mW mX5_versionsAtRisk ≤ mW M) : CLo M mX5_versionsAtRisk 1 := ⟨by decide +kernel, wd_598, by decide +kernel, by decide +kernel, h1, h2, wd_54⟩
theorem coX6_atRisk {M : Md} (h1 : mF mX6_atRisk + 1 ≤ mF M) (h2 : 8 + (mL mX6_atRisk + 11) + mW mX6_atRisk ≤ mW M) : CLo M mX6_atRisk 1 := ⟨by decide +kernel, wd_594, by decide +kernel, by decide +kernel, h1, h2, wd_53⟩
theorem coX6_burn {M : Md} (h1 : mF mX6_burn + 1 ≤ mF M) (h2 : 8 + (mL mX6_burn + 11) + mW mX6_burn ≤ mW M) : CLo M mX6_burn 1 := ⟨by decide +kernel, wd_421, by decide +kernel, by decide +kernel, h1, h2, wd_53⟩
theorem coX6_count {M : Md} (h1 : mF mX6_count + 1 ≤ mF M) (h2 : 8 + (mL mX6_count + 11) + mW mX6_count ≤ mW M) : CLo M mX6_count 1 := ⟨by decide +kernel, wd_270, by decide +kernel, by decide +kernel, h1, h2, wd_53⟩
theorem coX6_ifMerged {M : Md} (h1 : mF mX6_ifMerged + 1 ≤ mF M) (h2 : 8 + (mL mX6_ifMerged + 11) + mW mX6_ifMerged ≤ mW M) : CLo M mX6_ifMerged 1 := ⟨by decide +kernel, wd_286, by decide +kernel, by decide +kernel, h1, h2, wd_53⟩
theorem coX6_init {M : Md} (h1 : mF mX6_init + 1 ≤ mF M) (h2 : 8 + (mL mX6_init + 11) + mW mX6_init ≤ mW M) : CLo M mX6_init 0 := ⟨by decide +kernel, wd_65, by decide +kernel, by decide +kernel, h1, h2, wd_53⟩
theorem coX6_isPart {M : Md} (h1 : mF mX6_isPart + 1 ≤ mF M) (h2 : 8 + (mL mX6_isPart + 11) + mW mX6_isPart ≤ mW M) : CLo M mX6_isPart 1 := ⟨by decide +kernel, wd_369, by decide +kernel, by decide +kernel, h1, h2, wd_53⟩
theorem coX6_isStore {M : Md} (h1 : mF mX6_isStore + 1 ≤ mF M) (h2 : 8 + (mL mX6_isStore + 11) + mW mX6_isStore ≤ mW M) : CLo M mX6_isStore 1 := ⟨by decide +kernel, wd_436, by decide +kernel, by decide +kernel, h1, h2, wd_53⟩
theorem coX6_isTag {M : Md} (h1 : mF mX6_isTag + 1 ≤ mF M) (h2 : 8 + (mL mX6_isTag + 11) + mW mX6_isTag ≤ mW M) : CLo M mX6_isTag 1 := ⟨by decide +kernel, wd_451, by decide +kernel, by decide +kernel, h1, h2, wd_53⟩
theorem coX6_keep {M : Md} (h1 : mF mX6_keep + 1 ≤ mF M) (h2 : 8 + (mL mX6_keep + 11) + mW mX6_keep ≤ mW M) : CLo M mX6_keep 1 := ⟨by decide +kernel, wd_358, by decide +kernel, by decide +kernel, h1, h2, wd_53⟩
theorem coX6_lie {M : Md} (h1 : mF mX6_lie + 1 ≤ mF M) (h2 : 8 + (mL mX6_lie + 11) + mW mX6_lie ≤ mW M) : CLo M mX6_lie 4 := ⟨by decide +kernel, wd_440, by decide +kernel, by decide +kernel, h1, h2, wd_53⟩
theorem coX6_merge {M : Md} (h1 : mF mX6_merge + 1 ≤ mF M) (h2 : 8 + (mL mX6_merge + 11) + mW mX6_merge ≤ mW M) : CLo M mX6_merge 1 := ⟨by decide +kernel, wd_472, by decide +kernel, by decide +kernel, h1, h2, wd_53⟩
theorem coX6_needed {M : Md} (h1 : mF mX6_needed + 1 ≤ mF M) (h2 : 8 + (mL mX6_needed + 11) + mW mX6_needed ≤ mW M) : CLo M mX6_needed 1 := ⟨by decide +kernel, wd_606, by decide +kernel, by decide +kernel, h1, h2, wd_53⟩
theorem coX6_of {M : Md} (h1 : mF mX6_of + 1 ≤ mF M) (h2 : 8 + (mL mX6_of + 11) + mW mX6_of ≤ mW M) : CLo M mX6_of 3 := ⟨by decide +kernel, wd_555, by decide +kernel, by decide +kernel, h1, h2, wd_53⟩
theorem coX6_ofSecret {M : Md} (h1 : mF mX6_ofSecret + 1 ≤ mF M) (h2 : 8 + (mL mX6_ofSecret + 11) + mW mX6_ofSecret ≤ mW M) : CLo M mX6_ofSecret 2 := ⟨by decide +kernel, wd_489, by decide +kernel, by decide +kernel, h1, h2, wd_53⟩
theorem coX6_old {M : Md} (h1 : mF mX6_old + 1 ≤ mF M) (h2 : 8 + (mL mX6_old + 11) + mW mX6_old ≤ mW M) : CLo M mX6_old 3 := ⟨by decide +kernel, wd_585, by decide +kernel, by decide +kernel, h1, h2, wd_53⟩
theorem coX6_otherwise {M : Md} (h1 : mF mX6_otherwise + 1 ≤ mF M) (h2 : 8 + (mL mX6_otherwise + 11) + mW mX6_otherwise ≤ mW M) : CLo M mX6_otherwise 3 := ⟨by decide +kernel, wd_577, by decide +kernel, by decide +kernel, h1, h2, wd_53⟩
theorem coX6_pass {M : Md} (h1 : mF mX6_pass + 1 ≤ mF M) (h2 : 8 + (mL mX6_pass + 11) + mW mX6_pass ≤ mW M) : CLo M mX6_pass 1 := ⟨by decide +kernel, wd_514, by decide +kernel, by decide +kernel, h1, h2, wd_53⟩
theorem coX6_passes {M : Md} (h1 : mF mX6_passes + 1 ≤ mF M) (h2 : 8 + (mL mX6_passes + 11) + mW mX6_passes ≤ mW M) : CLo M mX6_passes 3 := ⟨by decide +kernel, wd_565, by decide +kernel, by decide +kernel, h1, h2, wd_53⟩
theorem coX6_passing {M : Md} (h1 : mF mX6_passing + 1 ≤ mF M) (h2 : 8 + (mL mX6_passing + 11) + mW mX6_passing ≤ mW M) : CLo M mX6_passing 3 := ⟨by decide +kernel, wd_459, by decide +kernel, by decide +kernel, h1, h2, wd_53⟩
theorem coX6_recorded {M : Md} (h1 : mF mX6_recorded + 1 ≤ mF M) (h2 : 8 + (mL mX6_recorded + 11) + mW mX6_recorded ≤ mW M) : CLo M mX6_recorded 1 := ⟨by decide +kernel, wd_386, by decide +kernel, by decide +kernel, h1, h2, wd_53⟩
theorem coX6_refresh {M : Md} (h1 : mF mX6_refresh + 1 ≤ mF M) (h2 : 8 + (mL mX6_refresh + 11) + mW mX6_refresh ≤ mW M) : CLo M mX6_refresh 1 := ⟨by decide +kernel, wd_394, by decide +kernel, by decide +kernel, h1, h2, wd_53⟩
theorem coX6_seed {M : Md} (h1 : mF mX6_seed + 1 ≤ mF M) (h2 : 8 + (mL mX6_seed + 11) + mW mX6_seed ≤ mW M) : CLo M mX6_seed 1 := ⟨by decide +kernel, wd_541, by decide +kernel, by decide +kernel, h1, h2, wd_53⟩
theorem coX6_set {M : Md} (h1 : mF mX6_set + 1 ≤ mF M) (h2 : 8 + (mL mX6_set + 11) + mW mX6_set ≤ mW M) : CLo M mX6_set 2 := ⟨by decide +kernel, wd_529, by decide +kernel, by decide +kernel, h1, h2, wd_53⟩
theorem coX6_sleep {M : Md} (h1 : mF mX6_sleep + 1 ≤ mF M) (h2 : 8 + (mL mX6_sleep + 11) + mW mX6_sleep ≤ mW M) : CLo M mX6_sleep 1 := ⟨by decide +kernel, wd_429, by decide +kernel, by decide +kernel, h1, h2, wd_53⟩
theorem coX6_steal {M : Md} (h1 : mF mX6_steal + 1 ≤ mF M) (h2 : 8 + (mL mX6_steal + 11) + mW mX6_steal ≤ mW M) : CLo M mX6_steal 3 := ⟨by decide +kernel, wd_497, by decide +kernel, by decide +kernel, h1, h2, wd_53⟩
theorem coX6_undo {M : Md} (h1 : mF mX6_undo + 1 ≤ mF M) (h2 : 8 + (mL mX6_undo + 11) + mW mX6_undo ≤ mW M) : CLo M mX6_undo 0 := ⟨by decide +kernel, wd_327, by decide +kernel, by decide +kernel, h1, h2, wd_53⟩
end
section
theorem dJ9_floorMod_7cf53_0 : decode cJ9_floorMod_7cf53 0 = .ok (.iload_n 0, 1) := by decide +kernel
theorem dJ9_floorMod_7cf53_1 : decode cJ9_floorMod_7cf53 1 = .ok (.iload_n 1, 1) := by decide +kernel
theorem dJ9_floorMod_7cf53_2 : decode cJ9_floorMod_7cf53 2 = .ok (.irem, 1) := by decide +kernel
theorem dJ9_floorMod_7cf53_3 : decode cJ9_floorMod_7cf53 3 = .ok (.istore_n 2, 1) := by decide +kernel
theorem dJ9_floorMod_7cf53_4 : decode cJ9_floorMod_7cf53 4 = .ok (.iload_n 0, 1) := by decide +kernel
theorem dJ9_floorMod_7cf53_5 : decode cJ9_floorMod_7cf53 5 = .ok (.iload_n 1, 1) := by decide +kernel
theorem dJ9_floorMod_7cf53_6 : decode cJ9_floorMod_7cf53 6 = .ok (.ixor, 1) := by decide +kernel
theorem dJ9_floorMod_7cf53_7 : decode cJ9_floorMod_7cf53 7 = .ok (.ifCond .ge 11, 3) := by decide +kernel
theorem dJ9_floorMod_7cf53_10 : decode cJ9_floorMod_7cf53 10 = .ok (.iload_n 2, 1) := by decide +kernel
theorem dJ9_floorMod_7cf53_11 : decode cJ9_floorMod_7cf53 11 = .ok (.ifCond .eq 7, 3) := by decide +kernel
theorem dJ9_floorMod_7cf53_14 : decode cJ9_floorMod_7cf53 14 = .ok (.iload_n 2, 1) := by decide +kernel
theorem dJ9_floorMod_7cf53_15 : decode cJ9_floorMod_7cf53 15 = .ok (.iload_n 1, 1) := by decide +kernel
theorem dJ9_floorMod_7cf53_16 : decode cJ9_floorMod_7cf53 16 = .ok (.iadd, 1) := by decide +kernel
theorem dJ9_floorMod_7cf53_17 : decode cJ9_floorMod_7cf53 17 = .ok (.ireturn, 1) := by decide +kernel
theorem dJ9_floorMod_7cf53_18 : decode cJ9_floorMod_7cf53 18 = .ok (.iload_n 2, 1) := by decide +kernel
theorem dJ9_floorMod_7cf53_19 : decode cJ9_floorMod_7cf53 19 = .ok (.ireturn, 1) := by decide +kernel
theorem dJ9_max_7cf53_0 : decode cJ9_max_7cf53 0 = .ok (.iload_n 0, 1) := by decide +kernel
theorem dJ9_max_7cf53_1 : decode cJ9_max_7cf53 1 = .ok (.iload_n 1, 1) := by decide +kernel
theorem dJ9_max_7cf53_2 : decode cJ9_max_7cf53 2 = .ok (.if_icmp .lt 7, 3) := by decide +kernel
theorem dJ9_max_7cf53_5 : decode cJ9_max_7cf53 5 = .ok (.iload_n 0, 1) := by decide +kernel
theorem dJ9_max_7cf53_6 : decode cJ9_max_7cf53 6 = .ok (.goto 4, 3) := by decide +kernel
theorem dJ9_max_7cf53_9 : decode cJ9_max_7cf53 9 = .ok (.iload_n 1, 1) := by decide +kernel
theorem dJ9_max_7cf53_10 : decode cJ9_max_7cf53 10 = .ok (.ireturn, 1) := by decide +kernel
theorem dJ9_min_7cf53_0 : decode cJ9_min_7cf53 0 = .ok (.iload_n 0, 1) := by decide +kernel
theorem dJ9_min_7cf53_1 : decode cJ9_min_7cf53 1 = .ok (.iload_n 1, 1) := by decide +kernel
theorem dJ9_min_7cf53_2 : decode cJ9_min_7cf53 2 = .ok (.if_icmp .gt 7, 3) := by decide +kernel
theorem dJ9_min_7cf53_5 : decode cJ9_min_7cf53 5 = .ok (.iload_n 0, 1) := by decide +kernel
theorem dJ9_min_7cf53_6 : decode cJ9_min_7cf53 6 = .ok (.goto 4, 3) := by decide +kernel
theorem dJ9_min_7cf53_9 : decode cJ9_min_7cf53 9 = .ok (.iload_n 1, 1) := by decide +kernel
theorem dJ9_min_7cf53_10 : decode cJ9_min_7cf53 10 = .ok (.ireturn, 1) := by decide +kernel
theorem dX0_catches_0 : decode cX0_catches 0 = .ok (.aload_n 0, 1) := by decide +kernel
theorem dX0_catches_1 : decode cX0_catches 1 = .ok (.aload_n 1, 1) := by decide +kernel
theorem dX0_catches_2 : decode cX0_catches 2 = .ok (.invokevirtual 39, 3) := by decide +kernel
theorem dX0_catches_5 : decode cX0_catches 5 = .ok (.invokevirtual 43, 3) := by decide +kernel
theorem dX0_catches_8 : decode cX0_catches 8 = .ok (.aload_n 1, 1) := by decide +kernel
theorem dX0_catches_9 : decode cX0_catches 9 = .ok (.invokevirtual 46, 3) := by decide +kernel
theorem dX0_catches_12 : decode cX0_catches 12 = .ok (.if_icmp .eq 7, 3) := by decide +kernel
theorem dX0_catches_15 : decode cX0_catches 15 = .ok (.iconst 1, 1) := by decide +kernel
theorem dX0_catches_16 : decode cX0_catches 16 = .ok (.goto 4, 3) := by decide +kernel
theorem dX0_catches_19 : decode cX0_catches 19 = .ok (.iconst 0, 1) := by decide +kernel
theorem dX0_catches_20 : decode cX0_catches 20 = .ok (.ireturn, 1) := by decide +kernel
theorem dX0_copyHalf_0 : decode cX0_copyHalf 0 = .ok (.iconst 0, 1) := by decide +kernel
theorem dX0_copyHalf_1 : decode cX0_copyHalf 1 = .ok (.istore_n 2, 1) := by decide +kernel
theorem dX0_copyHalf_2 : decode cX0_copyHalf 2 = .ok (.iload_n 2, 1) := by decide +kernel
theorem dX0_copyHalf_3 : decode cX0_copyHalf 3 = .ok (.iconst 5, 1) := by decide +kernel
theorem dX0_copyHalf_4 : decode cX0_copyHalf 4 = .ok (.if_icmp .ge 33, 3) := by decide +kernel
theorem dX0_copyHalf_7 : decode cX0_copyHalf 7 = .ok (.aload_n 0, 1) := by decide +kernel
theorem dX0_copyHalf_8 : decode cX0_copyHalf 8 = .ok (.getfield 9, 3) := by decide +kernel
theorem dX0_copyHalf_11 : decode cX0_copyHalf 11 = .ok (.iload_n 2, 1) := by decide +kernel
theorem dX0_copyHalf_12 : decode cX0_copyHalf 12 = .ok (.aload_n 1, 1) := by decide +kernel
theorem dX0_copyHalf_13 : decode cX0_copyHalf 13 = .ok (.getfield 9, 3) := by decide +kernel
theorem dX0_copyHalf_16 : decode cX0_copyHalf 16 = .ok (.iload_n 2, 1) := by decide +kernel
theorem dX0_copyHalf_17 : decode cX0_copyHalf 17 = .ok (.iaload, 1) := by decide +kernel
theorem dX0_copyHalf_18 : decode cX0_copyHalf 18 = .ok (.iastore, 1) := by decide +kernel
theorem dX0_copyHalf_19 : decode cX0_copyHalf 19 = .ok (.aload_n 0, 1) := by decide +kernel
theorem dX0_copyHalf_20 : decode cX0_copyHalf 20 = .ok (.getfield 15, 3) := by decide +kernel
theorem dX0_copyHalf_23 : decode cX0_copyHalf 23 = .ok (.iload_n 2, 1) := by decide +kernel
theorem dX0_copyHalf_24 : decode cX0_copyHalf 24 = .ok (.aload_n 1, 1) := by decide +kernel
theorem dX0_copyHalf_25 : decode cX0_copyHalf 25 = .ok (.getfield 15, 3) := by decide +kernel
theorem dX0_copyHalf_28 : decode cX0_copyHalf 28 = .ok (.iload_n 2, 1) := by decide +kernel
theorem dX0_copyHalf_29 : decode cX0_copyHalf 29 = .ok (.baload, 1) := by decide +kernel
theorem dX0_copyHalf_30 : decode cX0_copyHalf 30 = .ok (.bastore, 1) := by decide +kernel
theorem dX0_copyHalf_31 : decode cX0_copyHalf 31 = .ok (.iinc 2 1, 3) := by decide +kernel
theorem dX0_copyHalf_34 : decode cX0_copyHalf 34 = .ok (.goto (-32), 3) := by decide +kernel
theorem dX0_copyHalf_37 : decode cX0_copyHalf 37 = .ok (.aload_n 0, 1) := by decide +kernel
theorem dX0_copyHalf_38 : decode cX0_copyHalf 38 = .ok (.aload_n 1, 1) := by decide +kernel
theorem dX0_copyHalf_39 : decode cX0_copyHalf 39 = .ok (.getfield 19, 3) := by decide +kernel
theorem dX0_copyHalf_42 : decode cX0_copyHalf 42 = .ok (.putfield 19, 3) := by decide +kernel
theorem dX0_copyHalf_45 : decode cX0_copyHalf 45 = .ok (.aload_n 0, 1) := by decide +kernel
theorem dX0_copyHalf_46 : decode cX0_copyHalf 46 = .ok (.aload_n 1, 1) := by decide +kernel
theorem dX0_copyHalf_47 : decode cX0_copyHalf 47 = .ok (.getfield 23, 3) := by decide +kernel
theorem dX0_copyHalf_50 : decode cX0_copyHalf 50 = .ok (.putfield 23, 3) := by decide +kernel
theorem dX0_copyHalf_53 : decode cX0_copyHalf 53 = .ok (.aload_n 0, 1) := by decide +kernel
theorem dX0_copyHalf_54 : decode cX0_copyHalf 54 = .ok (.aload_n 1, 1) := by decide +kernel
theorem dX0_copyHalf_55 : decode cX0_copyHalf 55 = .ok (.getfield 26, 3) := by decide +kernel
theorem dX0_copyHalf_58 : decode cX0_copyHalf 58 = .ok (.putfield 26, 3) := by decide +kernel
theorem dX0_copyHalf_61 : decode cX0_copyHalf 61 = .ok (.aload_n 0, 1) := by decide +kernel
theorem dX0_copyHalf_62 : decode cX0_copyHalf 62 = .ok (.aload_n 1, 1) := by decide +kernel
theorem dX0_copyHalf_63 : decode cX0_copyHalf 63 = .ok (.getfield 29, 3) := by decide +kernel
theorem dX0_copyHalf_66 : decode cX0_copyHalf 66 = .ok (.putfield 29, 3) := by decide +kernel
theorem dX0_copyHalf_69 : decode cX0_copyHalf 69 = .ok (.aload_n 0, 1) := by decide +kernel
theorem dX0_copyHalf_70 : decode cX0_copyHalf 70 = .ok (.aload_n 1, 1) := by decide +kernel
theorem dX0_copyHalf_71 : decode cX0_copyHalf 71 = .ok (.getfield 32, 3) := by decide +kernel
theorem dX0_copyHalf_74 : decode cX0_copyHalf 74 = .ok (.putfield 32, 3) := by decide +kernel
theorem dX0_copyHalf_77 : decode cX0_copyHalf 77 = .ok (.return_, 1) := by decide +kernel
theorem dX0_freeRowOfNow_0 : decode cX0_freeRowOfNow 0 = .ok (.iconst 4, 1) := by decide +kernel
theorem dX0_freeRowOfNow_1 : decode cX0_freeRowOfNow 1 = .ok (.istore_n 1, 1) := by decide +kernel
theorem dX0_freeRowOfNow_2 : decode cX0_freeRowOfNow 2 = .ok (.iload_n 1, 1) := by decide +kernel
theorem dX0_freeRowOfNow_3 : decode cX0_freeRowOfNow 3 = .ok (.ifCond .le 37, 3) := by decide +kernel
theorem dX0_freeRowOfNow_6 : decode cX0_freeRowOfNow 6 = .ok (.aload_n 0, 1) := by decide +kernel
theorem dX0_freeRowOfNow_7 : decode cX0_freeRowOfNow 7 = .ok (.getfield 9, 3) := by decide +kernel
theorem dX0_freeRowOfNow_10 : decode cX0_freeRowOfNow 10 = .ok (.iload_n 1, 1) := by decide +kernel
theorem dX0_freeRowOfNow_11 : decode cX0_freeRowOfNow 11 = .ok (.aload_n 0, 1) := by decide +kernel
theorem dX0_freeRowOfNow_12 : decode cX0_freeRowOfNow 12 = .ok (.getfield 9, 3) := by decide +kernel
theorem dX0_freeRowOfNow_15 : decode cX0_freeRowOfNow 15 = .ok (.iload_n 1, 1) := by decide +kernel
theorem dX0_freeRowOfNow_16 : decode cX0_freeRowOfNow 16 = .ok (.iconst 1, 1) := by decide +kernel
theorem dX0_freeRowOfNow_17 : decode cX0_freeRowOfNow 17 = .ok (.isub, 1) := by decide +kernel
theorem dX0_freeRowOfNow_18 : decode cX0_freeRowOfNow 18 = .ok (.iaload, 1) := by decide +kernel
theorem dX0_freeRowOfNow_19 : decode cX0_freeRowOfNow 19 = .ok (.iastore, 1) := by decide +kernel
theorem dX0_freeRowOfNow_20 : decode cX0_freeRowOfNow 20 = .ok (.aload_n 0, 1) := by decide +kernel
theorem dX0_freeRowOfNow_21 : decode cX0_freeRowOfNow 21 = .ok (.getfield 15, 3) := by decide +kernel
theorem dX0_freeRowOfNow_24 : decode cX0_freeRowOfNow 24 = .ok (.iload_n 1, 1) := by decide +kernel
theorem dX0_freeRowOfNow_25 : decode cX0_freeRowOfNow 25 = .ok (.aload_n 0, 1) := by decide +kernel
theorem dX0_freeRowOfNow_26 : decode cX0_freeRowOfNow 26 = .ok (.getfield 15, 3) := by decide +kernel
theorem dX0_freeRowOfNow_29 : decode cX0_freeRowOfNow 29 = .ok (.iload_n 1, 1) := by decide +kernel
theorem dX0_freeRowOfNow_30 : decode cX0_freeRowOfNow 30 = .ok (.iconst 1, 1) := by decide +kernel
theorem dX0_freeRowOfNow_31 : decode cX0_freeRowOfNow 31 = .ok (.isub, 1) := by decide +kernel
theorem dX0_freeRowOfNow_32 : decode cX0_freeRowOfNow 32 = .ok (.baload, 1) := by decide +kernel
theorem dX0_freeRowOfNow_33 : decode cX0_freeRowOfNow 33 = .ok (.bastore, 1) := by decide +kernel
theorem dX0_freeRowOfNow_34 : decode cX0_freeRowOfNow 34 = .ok (.iinc 1 (-1), 3) := by decide +kernel
theorem dX0_freeRowOfNow_37 : decode cX0_freeRowOfNow 37 = .ok (.goto (-35), 3) := by decide +kernel
theorem dX0_freeRowOfNow_40 : decode cX0_freeRowOfNow 40 = .ok (.aload_n 0, 1) := by decide +kernel
theorem dX0_freeRowOfNow_41 : decode cX0_freeRowOfNow 41 = .ok (.getfield 15, 3) := by decide +kernel
theorem dX0_freeRowOfNow_44 : decode cX0_freeRowOfNow 44 = .ok (.iconst 0, 1) := by decide +kernel
theorem dX0_freeRowOfNow_45 : decode cX0_freeRowOfNow 45 = .ok (.iconst 0, 1) := by decide +kernel
theorem dX0_freeRowOfNow_46 : decode cX0_freeRowOfNow 46 = .ok (.bastore, 1) := by decide +kernel
theorem dX0_freeRowOfNow_47 : decode cX0_freeRowOfNow 47 = .ok (.return_, 1) := by decide +kernel
theorem dX0_init_0 : decode cX0_init 0 = .ok (.aload_n 0, 1) := by decide +kernel
theorem dX0_init_1 : decode cX0_init 1 = .ok (.invokespecial 3, 3) := by decide +kernel
theorem dX0_init_4 : decode cX0_init 4 = .ok (.aload_n 0, 1) := by decide +kernel
theorem dX0_init_5 : decode cX0_init 5 = .ok (.iconst 5, 1) := by decide +kernel
theorem dX0_init_6 : decode cX0_init 6 = .ok (.newarray .int, 2) := by decide +kernel
theorem dX0_init_8 : decode cX0_init 8 = .ok (.putfield 9, 3) := by decide +kernel
theorem dX0_init_11 : decode cX0_init 11 = .ok (.aload_n 0, 1) := by decide +kernel
theorem dX0_init_12 : decode cX0_init 12 = .ok (.iconst 5, 1) := by decide +kernel
theorem dX0_init_13 : decode cX0_init 13 = .ok (.newarray .boolean, 2) := by decide +kernel
theorem dX0_init_15 : decode cX0_init 15 = .ok (.putfield 15, 3) := by decide +kernel
theorem dX0_init_18 : decode cX0_init 18 = .ok (.return_, 1) := by decide +kernel
theorem dX0_lies_0 : decode cX0_lies 0 = .ok (.aload_n 0, 1) := by decide +kernel
theorem dX0_lies_1 : decode cX0_lies 1 = .ok (.getfield 29, 3) := by decide +kernel
theorem dX0_lies_4 : decode cX0_lies 4 = .ok (.ifCond .gt 10, 3) := by decide +kernel
theorem dX0_lies_7 : decode cX0_lies 7 = .ok (.aload_n 0, 1) := by decide +kernel
theorem dX0_lies_8 : decode cX0_lies 8 = .ok (.getfield 32, 3) := by decide +kernel
theorem dX0_lies_11 : decode cX0_lies 11 = .ok (.ifCond .le 7, 3) := by decide +kernel
theorem dX0_lies_14 : decode cX0_lies 14 = .ok (.iconst 1, 1) := by decide +kernel
theorem dX0_lies_15 : decode cX0_lies 15 = .ok (.goto 4, 3) := by decide +kernel
theorem dX0_lies_18 : decode cX0_lies 18 = .ok (.iconst 0, 1) := by decide +kernel
theorem dX0_lies_19 : decode cX0_lies 19 = .ok (.ireturn, 1) := by decide +kernel
theorem dX0_partWith_0 : decode cX0_partWith 0 = .ok (.aload_n 0, 1) := by decide +kernel
theorem dX0_partWith_1 : decode cX0_partWith 1 = .ok (.getfield 9, 3) := by decide +kernel
theorem dX0_partWith_4 : decode cX0_partWith 4 = .ok (.iconst 0, 1) := by decide +kernel
theorem dX0_partWith_5 : decode cX0_partWith 5 = .ok (.iaload, 1) := by decide +kernel
theorem dX0_partWith_6 : decode cX0_partWith 6 = .ok (.iload_n 1, 1) := by decide +kernel
theorem dX0_partWith_7 : decode cX0_partWith 7 = .ok (.iadd, 1) := by decide +kernel
theorem dX0_partWith_8 : decode cX0_partWith 8 = .ok (.sipush 256, 3) := by decide +kernel
theorem dX0_partWith_11 : decode cX0_partWith 11 = .ok (.irem, 1) := by decide +kernel
theorem dX0_partWith_12 : decode cX0_partWith 12 = .ok (.ireturn, 1) := by decide +kernel
theorem dX0_tagDueFor_0 : decode cX0_tagDueFor 0 = .ok (.aload_n 0, 1) := by decide +kernel
theorem dX0_tagDueFor_1 : decode cX0_tagDueFor 1 = .ok (.getfield 23, 3) := by decide +kernel
theorem dX0_tagDueFor_4 : decode cX0_tagDueFor 4 = .ok (.iload_n 1, 1) := by decide +kernel
theorem dX0_tagDueFor_5 : decode cX0_tagDueFor 5 = .ok (.imul, 1) := by decide +kernel
theorem dX0_tagDueFor_6 : decode cX0_tagDueFor 6 = .ok (.aload_n 0, 1) := by decide +kernel
theorem dX0_tagDueFor_7 : decode cX0_tagDueFor 7 = .ok (.getfield 26, 3) := by decide +kernel
theorem dX0_tagDueFor_10 : decode cX0_tagDueFor 10 = .ok (.iadd, 1) := by decide +kernel
theorem dX0_tagDueFor_11 : decode cX0_tagDueFor 11 = .ok (.sipush 257, 3) := by decide +kernel
theorem dX0_tagDueFor_14 : decode cX0_tagDueFor 14 = .ok (.irem, 1) := by decide +kernel
theorem dX0_tagDueFor_15 : decode cX0_tagDueFor 15 = .ok (.ireturn, 1) := by decide +kernel
theorem dX0_toldPart_0 : decode cX0_toldPart 0 = .ok (.aload_n 0, 1) := by decide +kernel
theorem dX0_toldPart_1 : decode cX0_toldPart 1 = .ok (.aload_n 0, 1) := by decide +kernel
theorem dX0_toldPart_2 : decode cX0_toldPart 2 = .ok (.getfield 29, 3) := by decide +kernel
theorem dX0_toldPart_5 : decode cX0_toldPart 5 = .ok (.invokevirtual 35, 3) := by decide +kernel
theorem dX0_toldPart_8 : decode cX0_toldPart 8 = .ok (.ireturn, 1) := by decide +kernel
theorem dX0_toldTag_0 : decode cX0_toldTag 0 = .ok (.aload_n 0, 1) := by decide +kernel
theorem dX0_toldTag_1 : decode cX0_toldTag 1 = .ok (.getfield 19, 3) := by decide +kernel
theorem dX0_toldTag_4 : decode cX0_toldTag 4 = .ok (.aload_n 0, 1) := by decide +kernel
theorem dX0_toldTag_5 : decode cX0_toldTag 5 = .ok (.getfield 32, 3) := by decide +kernel
theorem dX0_toldTag_8 : decode cX0_toldTag 8 = .ok (.iadd, 1) := by decide +kernel
theorem dX0_toldTag_9 : decode cX0_toldTag 9 = .ok (.sipush 257, 3) := by decide +kernel
theorem dX0_toldTag_12 : decode cX0_toldTag 12 = .ok (.irem, 1) := by decide +kernel
theorem dX0_toldTag_13 : decode cX0_toldTag 13 = .ok (.ireturn, 1) := by decide +kernel
theorem dX1_draft_0 : decode cX1_draft 0 = .ok (.aload_n 0, 1) := by decide +kernel
theorem dX1_draft_1 : decode cX1_draft 1 = .ok (.getfield 11, 3) := by decide +kernel
theorem dX1_draft_4 : decode cX1_draft 4 = .ok (.aload_n 0, 1) := by decide +kernel
theorem dX1_draft_5 : decode cX1_draft 5 = .ok (.getfield 18, 3) := by decide +kernel
theorem dX1_draft_8 : decode cX1_draft 8 = .ok (.aload_n 0, 1) := by decide +kernel
theorem dX1_draft_9 : decode cX1_draft 9 = .ok (.getfield 22, 3) := by decide +kernel
theorem dX1_draft_12 : decode cX1_draft 12 = .ok (.iadd, 1) := by decide +kernel
theorem dX1_draft_13 : decode cX1_draft 13 = .ok (.bipush 7, 2) := by decide +kernel
theorem dX1_draft_15 : decode cX1_draft 15 = .ok (.irem, 1) := by decide +kernel
theorem dX1_draft_16 : decode cX1_draft 16 = .ok (.aaload, 1) := by decide +kernel
theorem dX1_draft_17 : decode cX1_draft 17 = .ok (.aload_n 1, 1) := by decide +kernel
theorem dX1_draft_18 : decode cX1_draft 18 = .ok (.invokevirtual 25, 3) := by decide +kernel
theorem dX1_draft_21 : decode cX1_draft 21 = .ok (.return_, 1) := by decide +kernel
theorem dX1_init_0 : decode cX1_init 0 = .ok (.aload_n 0, 1) := by decide +kernel
theorem dX1_init_1 : decode cX1_init 1 = .ok (.invokespecial 3, 3) := by decide +kernel
theorem dX1_init_4 : decode cX1_init 4 = .ok (.aload_n 0, 1) := by decide +kernel
theorem dX1_init_5 : decode cX1_init 5 = .ok (.bipush 7, 2) := by decide +kernel
theorem dX1_init_7 : decode cX1_init 7 = .ok (.anewarray 9, 3) := by decide +kernel
theorem dX1_init_10 : decode cX1_init 10 = .ok (.putfield 11, 3) := by decide +kernel
theorem dX1_init_13 : decode cX1_init 13 = .ok (.iconst 0, 1) := by decide +kernel
theorem dX1_init_14 : decode cX1_init 14 = .ok (.istore_n 1, 1) := by decide +kernel
theorem dX1_init_15 : decode cX1_init 15 = .ok (.iload_n 1, 1) := by decide +kernel
theorem dX1_init_16 : decode cX1_init 16 = .ok (.bipush 7, 2) := by decide +kernel
theorem dX1_init_18 : decode cX1_init 18 = .ok (.if_icmp .ge 22, 3) := by decide +kernel
theorem dX1_init_21 : decode cX1_init 21 = .ok (.aload_n 0, 1) := by decide +kernel
theorem dX1_init_22 : decode cX1_init 22 = .ok (.getfield 11, 3) := by decide +kernel
theorem dX1_init_25 : decode cX1_init 25 = .ok (.iload_n 1, 1) := by decide +kernel
theorem dX1_init_26 : decode cX1_init 26 = .ok (.new 9, 3) := by decide +kernel
theorem dX1_init_29 : decode cX1_init 29 = .ok (.dup, 1) := by decide +kernel
theorem dX1_init_30 : decode cX1_init 30 = .ok (.invokespecial 17, 3) := by decide +kernel
theorem dX1_init_33 : decode cX1_init 33 = .ok (.aastore, 1) := by decide +kernel
theorem dX1_init_34 : decode cX1_init 34 = .ok (.iinc 1 1, 3) := by decide +kernel
theorem dX1_init_37 : decode cX1_init 37 = .ok (.goto (-22), 3) := by decide +kernel
theorem dX1_init_40 : decode cX1_init 40 = .ok (.return_, 1) := by decide +kernel
theorem dX1_recordDraft_0 : decode cX1_recordDraft 0 = .ok (.aload_n 0, 1) := by decide +kernel
theorem dX1_recordDraft_1 : decode cX1_recordDraft 1 = .ok (.getfield 22, 3) := by decide +kernel
theorem dX1_recordDraft_4 : decode cX1_recordDraft 4 = .ok (.bipush 6, 2) := by decide +kernel
theorem dX1_recordDraft_6 : decode cX1_recordDraft 6 = .ok (.if_icmp .ge 16, 3) := by decide +kernel
theorem dX1_recordDraft_9 : decode cX1_recordDraft 9 = .ok (.aload_n 0, 1) := by decide +kernel
theorem dX1_recordDraft_10 : decode cX1_recordDraft 10 = .ok (.dup, 1) := by decide +kernel
theorem dX1_recordDraft_11 : decode cX1_recordDraft 11 = .ok (.getfield 22, 3) := by decide +kernel
theorem dX1_recordDraft_14 : decode cX1_recordDraft 14 = .ok (.iconst 1, 1) := by decide +kernel
theorem dX1_recordDraft_15 : decode cX1_recordDraft 15 = .ok (.iadd, 1) := by decide +kernel
theorem dX1_recordDraft_16 : decode cX1_recordDraft 16 = .ok (.putfield 22, 3) := by decide +kernel
theorem dX1_recordDraft_19 : decode cX1_recordDraft 19 = .ok (.goto 16, 3) := by decide +kernel
theorem dX1_recordDraft_22 : decode cX1_recordDraft 22 = .ok (.aload_n 0, 1) := by decide +kernel
theorem dX1_recordDraft_23 : decode cX1_recordDraft 23 = .ok (.aload_n 0, 1) := by decide +kernel
theorem dX1_recordDraft_24 : decode cX1_recordDraft 24 = .ok (.getfield 18, 3) := by decide +kernel
theorem dX1_recordDraft_27 : decode cX1_recordDraft 27 = .ok (.iconst 1, 1) := by decide +kernel
theorem dX1_recordDraft_28 : decode cX1_recordDraft 28 = .ok (.iadd, 1) := by decide +kernel
theorem dX1_recordDraft_29 : decode cX1_recordDraft 29 = .ok (.bipush 7, 2) := by decide +kernel
theorem dX1_recordDraft_31 : decode cX1_recordDraft 31 = .ok (.irem, 1) := by decide +kernel
theorem dX1_recordDraft_32 : decode cX1_recordDraft 32 = .ok (.putfield 18, 3) := by decide +kernel
theorem dX1_recordDraft_35 : decode cX1_recordDraft 35 = .ok (.return_, 1) := by decide +kernel
theorem dX1_takesBack_0 : decode cX1_takesBack 0 = .ok (.aload_n 0, 1) := by decide +kernel
theorem dX1_takesBack_1 : decode cX1_takesBack 1 = .ok (.getfield 22, 3) := by decide +kernel
theorem dX1_takesBack_4 : decode cX1_takesBack 4 = .ok (.ifCond .ne 5, 3) := by decide +kernel
theorem dX1_takesBack_7 : decode cX1_takesBack 7 = .ok (.iconst 0, 1) := by decide +kernel
theorem dX1_takesBack_8 : decode cX1_takesBack 8 = .ok (.ireturn, 1) := by decide +kernel
theorem dX1_takesBack_9 : decode cX1_takesBack 9 = .ok (.aload_n 0, 1) := by decide +kernel
theorem dX1_takesBack_10 : decode cX1_takesBack 10 = .ok (.dup, 1) := by decide +kernel
theorem dX1_takesBack_11 : decode cX1_takesBack 11 = .ok (.getfield 22, 3) := by decide +kernel
theorem dX1_takesBack_14 : decode cX1_takesBack 14 = .ok (.iconst 1, 1) := by decide +kernel
theorem dX1_takesBack_15 : decode cX1_takesBack 15 = .ok (.isub, 1) := by decide +kernel
theorem dX1_takesBack_16 : decode cX1_takesBack 16 = .ok (.putfield 22, 3) := by decide +kernel
theorem dX1_takesBack_19 : decode cX1_takesBack 19 = .ok (.aload_n 1, 1) := by decide +kernel
theorem dX1_takesBack_20 : decode cX1_takesBack 20 = .ok (.aload_n 0, 1) := by decide +kernel
theorem dX1_takesBack_21 : decode cX1_takesBack 21 = .ok (.getfield 11, 3) := by decide +kernel
theorem dX1_takesBack_24 : decode cX1_takesBack 24 = .ok (.aload_n 0, 1) := by decide +kernel
theorem dX1_takesBack_25 : decode cX1_takesBack 25 = .ok (.getfield 18, 3) := by decide +kernel
theorem dX1_takesBack_28 : decode cX1_takesBack 28 = .ok (.aload_n 0, 1) := by decide +kernel
theorem dX1_takesBack_29 : decode cX1_takesBack 29 = .ok (.getfield 22, 3) := by decide +kernel
theorem dX1_takesBack_32 : decode cX1_takesBack 32 = .ok (.iadd, 1) := by decide +kernel
theorem dX1_takesBack_33 : decode cX1_takesBack 33 = .ok (.bipush 7, 2) := by decide +kernel
theorem dX1_takesBack_35 : decode cX1_takesBack 35 = .ok (.irem, 1) := by decide +kernel
theorem dX1_takesBack_36 : decode cX1_takesBack 36 = .ok (.aaload, 1) := by decide +kernel
theorem dX1_takesBack_37 : decode cX1_takesBack 37 = .ok (.invokevirtual 25, 3) := by decide +kernel
theorem dX1_takesBack_40 : decode cX1_takesBack 40 = .ok (.iconst 1, 1) := by decide +kernel
theorem dX1_takesBack_41 : decode cX1_takesBack 41 = .ok (.ireturn, 1) := by decide +kernel
theorem dX2_init_0 : decode cX2_init 0 = .ok (.aload_n 0, 1) := by decide +kernel
theorem dX2_init_1 : decode cX2_init 1 = .ok (.invokespecial 3, 3) := by decide +kernel
theorem dX2_init_4 : decode cX2_init 4 = .ok (.aload_n 0, 1) := by decide +kernel
theorem dX2_init_5 : decode cX2_init 5 = .ok (.bipush 80, 2) := by decide +kernel
theorem dX2_init_7 : decode cX2_init 7 = .ok (.newarray .char, 2) := by decide +kernel
theorem dX2_init_9 : decode cX2_init 9 = .ok (.putfield 9, 3) := by decide +kernel
theorem dX2_init_12 : decode cX2_init 12 = .ok (.return_, 1) := by decide +kernel
theorem dX3_init_0 : decode cX3_init 0 = .ok (.aload_n 0, 1) := by decide +kernel
theorem dX3_init_1 : decode cX3_init 1 = .ok (.invokespecial 3, 3) := by decide +kernel
theorem dX3_init_4 : decode cX3_init 4 = .ok (.aload_n 0, 1) := by decide +kernel
theorem dX3_init_5 : decode cX3_init 5 = .ok (.aload_n 1, 1) := by decide +kernel
theorem dX3_init_6 : decode cX3_init 6 = .ok (.putfield 9, 3) := by decide +kernel
theorem dX3_init_9 : decode cX3_init 9 = .ok (.return_, 1) := by decide +kernel
theorem dX4_ageKeeping_0 : decode cX4_ageKeeping 0 = .ok (.aload_n 0, 1) := by decide +kernel
theorem dX4_ageKeeping_1 : decode cX4_ageKeeping 1 = .ok (.getfield 12, 3) := by decide +kernel
theorem dX4_ageKeeping_4 : decode cX4_ageKeeping 4 = .ok (.invokevirtual 55, 3) := by decide +kernel
theorem dX4_ageKeeping_7 : decode cX4_ageKeeping 7 = .ok (.aload_n 0, 1) := by decide +kernel
theorem dX4_ageKeeping_8 : decode cX4_ageKeeping 8 = .ok (.getfield 18, 3) := by decide +kernel
theorem dX4_ageKeeping_11 : decode cX4_ageKeeping 11 = .ok (.invokevirtual 55, 3) := by decide +kernel
theorem dX4_ageKeeping_14 : decode cX4_ageKeeping 14 = .ok (.aload_n 0, 1) := by decide +kernel
theorem dX4_ageKeeping_15 : decode cX4_ageKeeping 15 = .ok (.getfield 29, 3) := by decide +kernel
theorem dX4_ageKeeping_18 : decode cX4_ageKeeping 18 = .ok (.iconst 1, 1) := by decide +kernel
theorem dX4_ageKeeping_19 : decode cX4_ageKeeping 19 = .ok (.iadd, 1) := by decide +kernel
theorem dX4_ageKeeping_20 : decode cX4_ageKeeping 20 = .ok (.istore_n 2, 1) := by decide +kernel
theorem dX4_ageKeeping_21 : decode cX4_ageKeeping 21 = .ok (.aload_n 0, 1) := by decide +kernel
theorem dX4_ageKeeping_22 : decode cX4_ageKeeping 22 = .ok (.iload_n 2, 1) := by decide +kernel
theorem dX4_ageKeeping_23 : decode cX4_ageKeeping 23 = .ok (.iload_n 1, 1) := by decide +kernel
theorem dX4_ageKeeping_24 : decode cX4_ageKeeping 24 = .ok (.invokestatic 58, 3) := by decide +kernel
theorem dX4_ageKeeping_27 : decode cX4_ageKeeping 27 = .ok (.putfield 29, 3) := by decide +kernel
theorem dX4_ageKeeping_30 : decode cX4_ageKeeping 30 = .ok (.iload_n 2, 1) := by decide +kernel
theorem dX4_ageKeeping_31 : decode cX4_ageKeeping 31 = .ok (.aload_n 0, 1) := by decide +kernel
theorem dX4_ageKeeping_32 : decode cX4_ageKeeping 32 = .ok (.getfield 29, 3) := by decide +kernel
theorem dX4_ageKeeping_35 : decode cX4_ageKeeping 35 = .ok (.isub, 1) := by decide +kernel
theorem dX4_ageKeeping_36 : decode cX4_ageKeeping 36 = .ok (.ireturn, 1) := by decide +kernel
theorem dX4_answerIfMerged_0 : decode cX4_answerIfMerged 0 = .ok (.aload_n 0, 1) := by decide +kernel
theorem dX4_answerIfMerged_1 : decode cX4_answerIfMerged 1 = .ok (.getfield 12, 3) := by decide +kernel
theorem dX4_answerIfMerged_4 : decode cX4_answerIfMerged 4 = .ok (.aload_n 0, 1) := by decide +kernel
theorem dX4_answerIfMerged_5 : decode cX4_answerIfMerged 5 = .ok (.getfield 18, 3) := by decide +kernel
theorem dX4_answerIfMerged_8 : decode cX4_answerIfMerged 8 = .ok (.invokevirtual 64, 3) := by decide +kernel
theorem dX4_answerIfMerged_11 : decode cX4_answerIfMerged 11 = .ok (.ifCond .eq 7, 3) := by decide +kernel
theorem dX4_answerIfMerged_14 : decode cX4_answerIfMerged 14 = .ok (.sipush 1000, 3) := by decide +kernel
theorem dX4_answerIfMerged_17 : decode cX4_answerIfMerged 17 = .ok (.ireturn, 1) := by decide +kernel
theorem dX4_answerIfMerged_18 : decode cX4_answerIfMerged 18 = .ok (.aload_n 0, 1) := by decide +kernel
theorem dX4_answerIfMerged_19 : decode cX4_answerIfMerged 19 = .ok (.getfield 18, 3) := by decide +kernel
theorem dX4_answerIfMerged_22 : decode cX4_answerIfMerged 22 = .ok (.aload_n 0, 1) := by decide +kernel
theorem dX4_answerIfMerged_23 : decode cX4_answerIfMerged 23 = .ok (.getfield 12, 3) := by decide +kernel
theorem dX4_answerIfMerged_26 : decode cX4_answerIfMerged 26 = .ok (.invokevirtual 64, 3) := by decide +kernel
theorem dX4_answerIfMerged_29 : decode cX4_answerIfMerged 29 = .ok (.ifCond .eq 7, 3) := by decide +kernel
theorem dX4_answerIfMerged_32 : decode cX4_answerIfMerged 32 = .ok (.sipush 1001, 3) := by decide +kernel
theorem dX4_answerIfMerged_35 : decode cX4_answerIfMerged 35 = .ok (.ireturn, 1) := by decide +kernel
theorem dX4_answerIfMerged_36 : decode cX4_answerIfMerged 36 = .ok (.aload_n 0, 1) := by decide +kernel
theorem dX4_answerIfMerged_37 : decode cX4_answerIfMerged 37 = .ok (.getfield 12, 3) := by decide +kernel
theorem dX4_answerIfMerged_40 : decode cX4_answerIfMerged 40 = .ok (.invokevirtual 68, 3) := by decide +kernel
theorem dX4_answerIfMerged_43 : decode cX4_answerIfMerged 43 = .ok (.aload_n 0, 1) := by decide +kernel
theorem dX4_answerIfMerged_44 : decode cX4_answerIfMerged 44 = .ok (.getfield 18, 3) := by decide +kernel
theorem dX4_answerIfMerged_47 : decode cX4_answerIfMerged 47 = .ok (.invokevirtual 68, 3) := by decide +kernel
theorem dX4_answerIfMerged_50 : decode cX4_answerIfMerged 50 = .ok (.iadd, 1) := by decide +kernel
theorem dX4_answerIfMerged_51 : decode cX4_answerIfMerged 51 = .ok (.sipush 256, 3) := by decide +kernel
theorem dX4_answerIfMerged_54 : decode cX4_answerIfMerged 54 = .ok (.irem, 1) := by decide +kernel
theorem dX4_answerIfMerged_55 : decode cX4_answerIfMerged 55 = .ok (.ireturn, 1) := by decide +kernel
theorem dX4_copySecret_0 : decode cX4_copySecret 0 = .ok (.aload_n 0, 1) := by decide +kernel
theorem dX4_copySecret_1 : decode cX4_copySecret 1 = .ok (.getfield 12, 3) := by decide +kernel
theorem dX4_copySecret_4 : decode cX4_copySecret 4 = .ok (.aload_n 1, 1) := by decide +kernel
theorem dX4_copySecret_5 : decode cX4_copySecret 5 = .ok (.getfield 12, 3) := by decide +kernel
theorem dX4_copySecret_8 : decode cX4_copySecret 8 = .ok (.invokevirtual 21, 3) := by decide +kernel
theorem dX4_copySecret_11 : decode cX4_copySecret 11 = .ok (.aload_n 0, 1) := by decide +kernel
theorem dX4_copySecret_12 : decode cX4_copySecret 12 = .ok (.getfield 18, 3) := by decide +kernel
theorem dX4_copySecret_15 : decode cX4_copySecret 15 = .ok (.aload_n 1, 1) := by decide +kernel
theorem dX4_copySecret_16 : decode cX4_copySecret 16 = .ok (.getfield 18, 3) := by decide +kernel
theorem dX4_copySecret_19 : decode cX4_copySecret 19 = .ok (.invokevirtual 21, 3) := by decide +kernel
theorem dX4_copySecret_22 : decode cX4_copySecret 22 = .ok (.aload_n 0, 1) := by decide +kernel
theorem dX4_copySecret_23 : decode cX4_copySecret 23 = .ok (.aload_n 1, 1) := by decide +kernel
theorem dX4_copySecret_24 : decode cX4_copySecret 24 = .ok (.getfield 25, 3) := by decide +kernel
theorem dX4_copySecret_27 : decode cX4_copySecret 27 = .ok (.putfield 25, 3) := by decide +kernel
theorem dX4_copySecret_30 : decode cX4_copySecret 30 = .ok (.aload_n 0, 1) := by decide +kernel
theorem dX4_copySecret_31 : decode cX4_copySecret 31 = .ok (.aload_n 1, 1) := by decide +kernel
theorem dX4_copySecret_32 : decode cX4_copySecret 32 = .ok (.getfield 29, 3) := by decide +kernel
theorem dX4_copySecret_35 : decode cX4_copySecret 35 = .ok (.putfield 29, 3) := by decide +kernel
theorem dX4_copySecret_38 : decode cX4_copySecret 38 = .ok (.aload_n 0, 1) := by decide +kernel
theorem dX4_copySecret_39 : decode cX4_copySecret 39 = .ok (.aload_n 1, 1) := by decide +kernel
theorem dX4_copySecret_40 : decode cX4_copySecret 40 = .ok (.getfield 32, 3) := by decide +kernel
theorem dX4_copySecret_43 : decode cX4_copySecret 43 = .ok (.putfield 32, 3) := by decide +kernel
theorem dX4_copySecret_46 : decode cX4_copySecret 46 = .ok (.aload_n 0, 1) := by decide +kernel
theorem dX4_copySecret_47 : decode cX4_copySecret 47 = .ok (.aload_n 1, 1) := by decide +kernel
theorem dX4_copySecret_48 : decode cX4_copySecret 48 = .ok (.getfield 35, 3) := by decide +kernel
theorem dX4_copySecret_51 : decode cX4_copySecret 51 = .ok (.putfield 35, 3) := by decide +kernel
theorem dX4_copySecret_54 : decode cX4_copySecret 54 = .ok (.aload_n 0, 1) := by decide +kernel
theorem dX4_copySecret_55 : decode cX4_copySecret 55 = .ok (.aload_n 1, 1) := by decide +kernel
theorem dX4_copySecret_56 : decode cX4_copySecret 56 = .ok (.getfield 38, 3) := by decide +kernel
theorem dX4_copySecret_59 : decode cX4_copySecret 59 = .ok (.putfield 38, 3) := by decide +kernel
theorem dX4_copySecret_62 : decode cX4_copySecret 62 = .ok (.aload_n 0, 1) := by decide +kernel
theorem dX4_copySecret_63 : decode cX4_copySecret 63 = .ok (.aload_n 1, 1) := by decide +kernel
theorem dX4_copySecret_64 : decode cX4_copySecret 64 = .ok (.getfield 41, 3) := by decide +kernel
theorem dX4_copySecret_67 : decode cX4_copySecret 67 = .ok (.putfield 41, 3) := by decide +kernel
theorem dX4_copySecret_70 : decode cX4_copySecret 70 = .ok (.aload_n 0, 1) := by decide +kernel
theorem dX4_copySecret_71 : decode cX4_copySecret 71 = .ok (.aload_n 1, 1) := by decide +kernel
theorem dX4_copySecret_72 : decode cX4_copySecret 72 = .ok (.getfield 44, 3) := by decide +kernel
theorem dX4_copySecret_75 : decode cX4_copySecret 75 = .ok (.putfield 44, 3) := by decide +kernel
theorem dX4_copySecret_78 : decode cX4_copySecret 78 = .ok (.aload_n 0, 1) := by decide +kernel
theorem dX4_copySecret_79 : decode cX4_copySecret 79 = .ok (.aload_n 1, 1) := by decide +kernel
theorem dX4_copySecret_80 : decode cX4_copySecret 80 = .ok (.getfield 47, 3) := by decide +kernel
theorem dX4_copySecret_83 : decode cX4_copySecret 83 = .ok (.putfield 47, 3) := by decide +kernel
theorem dX4_copySecret_86 : decode cX4_copySecret 86 = .ok (.return_, 1) := by decide +kernel
theorem dX4_halfBeside_0 : decode cX4_halfBeside 0 = .ok (.iload_n 1, 1) := by decide +kernel
theorem dX4_halfBeside_1 : decode cX4_halfBeside 1 = .ok (.ifCond .ne 10, 3) := by decide +kernel
theorem dX4_halfBeside_4 : decode cX4_halfBeside 4 = .ok (.aload_n 0, 1) := by decide +kernel
theorem dX4_halfBeside_5 : decode cX4_halfBeside 5 = .ok (.getfield 18, 3) := by decide +kernel
theorem dX4_halfBeside_8 : decode cX4_halfBeside 8 = .ok (.goto 7, 3) := by decide +kernel
theorem dX4_halfBeside_11 : decode cX4_halfBeside 11 = .ok (.aload_n 0, 1) := by decide +kernel
theorem dX4_halfBeside_12 : decode cX4_halfBeside 12 = .ok (.getfield 12, 3) := by decide +kernel
theorem dX4_halfBeside_15 : decode cX4_halfBeside 15 = .ok (.areturn, 1) := by decide +kernel
theorem dX4_halfIn_0 : decode cX4_halfIn 0 = .ok (.iload_n 1, 1) := by decide +kernel
theorem dX4_halfIn_1 : decode cX4_halfIn 1 = .ok (.ifCond .ne 10, 3) := by decide +kernel
theorem dX4_halfIn_4 : decode cX4_halfIn 4 = .ok (.aload_n 0, 1) := by decide +kernel
theorem dX4_halfIn_5 : decode cX4_halfIn 5 = .ok (.getfield 12, 3) := by decide +kernel
theorem dX4_halfIn_8 : decode cX4_halfIn 8 = .ok (.goto 7, 3) := by decide +kernel
theorem dX4_halfIn_11 : decode cX4_halfIn 11 = .ok (.aload_n 0, 1) := by decide +kernel
theorem dX4_halfIn_12 : decode cX4_halfIn 12 = .ok (.getfield 18, 3) := by decide +kernel
theorem dX4_halfIn_15 : decode cX4_halfIn 15 = .ok (.areturn, 1) := by decide +kernel
theorem dX4_init_0 : decode cX4_init 0 = .ok (.aload_n 0, 1) := by decide +kernel
theorem dX4_init_1 : decode cX4_init 1 = .ok (.invokespecial 3, 3) := by decide +kernel
theorem dX4_init_4 : decode cX4_init 4 = .ok (.aload_n 0, 1) := by decide +kernel
theorem dX4_init_5 : decode cX4_init 5 = .ok (.new 9, 3) := by decide +kernel
theorem dX4_init_8 : decode cX4_init 8 = .ok (.dup, 1) := by decide +kernel
theorem dX4_init_9 : decode cX4_init 9 = .ok (.invokespecial 11, 3) := by decide +kernel
theorem dX4_init_12 : decode cX4_init 12 = .ok (.putfield 12, 3) := by decide +kernel
theorem dX4_init_15 : decode cX4_init 15 = .ok (.aload_n 0, 1) := by decide +kernel
theorem dX4_init_16 : decode cX4_init 16 = .ok (.new 9, 3) := by decide +kernel
theorem dX4_init_19 : decode cX4_init 19 = .ok (.dup, 1) := by decide +kernel
theorem dX4_init_20 : decode cX4_init 20 = .ok (.invokespecial 11, 3) := by decide +kernel
theorem dX4_init_23 : decode cX4_init 23 = .ok (.putfield 18, 3) := by decide +kernel
theorem dX4_init_26 : decode cX4_init 26 = .ok (.return_, 1) := by decide +kernel
theorem dX4_open_0 : decode cX4_open 0 = .ok (.aload_n 0, 1) := by decide +kernel
theorem dX4_open_1 : decode cX4_open 1 = .ok (.iload_n 1, 1) := by decide +kernel
theorem dX4_open_2 : decode cX4_open 2 = .ok (.putfield 32, 3) := by decide +kernel
theorem dX4_open_5 : decode cX4_open 5 = .ok (.aload_n 0, 1) := by decide +kernel
theorem dX4_open_6 : decode cX4_open 6 = .ok (.iload_n 2, 1) := by decide +kernel
theorem dX4_open_7 : decode cX4_open 7 = .ok (.putfield 35, 3) := by decide +kernel
theorem dX4_open_10 : decode cX4_open 10 = .ok (.aload_n 0, 1) := by decide +kernel
theorem dX4_open_11 : decode cX4_open 11 = .ok (.dup, 1) := by decide +kernel
theorem dX4_open_12 : decode cX4_open 12 = .ok (.getfield 41, 3) := by decide +kernel
theorem dX4_open_15 : decode cX4_open 15 = .ok (.iconst 1, 1) := by decide +kernel
theorem dX4_open_16 : decode cX4_open 16 = .ok (.iadd, 1) := by decide +kernel
theorem dX4_open_17 : decode cX4_open 17 = .ok (.putfield 41, 3) := by decide +kernel
theorem dX4_open_20 : decode cX4_open 20 = .ok (.return_, 1) := by decide +kernel
theorem dX4_partForThief_0 : decode cX4_partForThief 0 = .ok (.aload_n 0, 1) := by decide +kernel
theorem dX4_partForThief_1 : decode cX4_partForThief 1 = .ok (.iload_n 1, 1) := by decide +kernel
theorem dX4_partForThief_2 : decode cX4_partForThief 2 = .ok (.invokevirtual 72, 3) := by decide +kernel
theorem dX4_partForThief_5 : decode cX4_partForThief 5 = .ok (.astore_n 3, 1) := by decide +kernel
theorem dX4_partForThief_6 : decode cX4_partForThief 6 = .ok (.aload_n 3, 1) := by decide +kernel
theorem dX4_partForThief_7 : decode cX4_partForThief 7 = .ok (.getfield 76, 3) := by decide +kernel
theorem dX4_partForThief_10 : decode cX4_partForThief 10 = .ok (.iload_n 2, 1) := by decide +kernel
theorem dX4_partForThief_11 : decode cX4_partForThief 11 = .ok (.baload, 1) := by decide +kernel
theorem dX4_partForThief_12 : decode cX4_partForThief 12 = .ok (.ifCond .ne 20, 3) := by decide +kernel
theorem dX4_partForThief_15 : decode cX4_partForThief 15 = .ok (.aload_n 3, 1) := by decide +kernel
theorem dX4_partForThief_16 : decode cX4_partForThief 16 = .ok (.getfield 76, 3) := by decide +kernel
theorem dX4_partForThief_19 : decode cX4_partForThief 19 = .ok (.iload_n 2, 1) := by decide +kernel
theorem dX4_partForThief_20 : decode cX4_partForThief 20 = .ok (.iconst 1, 1) := by decide +kernel
theorem dX4_partForThief_21 : decode cX4_partForThief 21 = .ok (.bastore, 1) := by decide +kernel
theorem dX4_partForThief_22 : decode cX4_partForThief 22 = .ok (.aload_n 0, 1) := by decide +kernel
theorem dX4_partForThief_23 : decode cX4_partForThief 23 = .ok (.dup, 1) := by decide +kernel
theorem dX4_partForThief_24 : decode cX4_partForThief 24 = .ok (.getfield 44, 3) := by decide +kernel
theorem dX4_partForThief_27 : decode cX4_partForThief 27 = .ok (.iconst 1, 1) := by decide +kernel
theorem dX4_partForThief_28 : decode cX4_partForThief 28 = .ok (.iadd, 1) := by decide +kernel
theorem dX4_partForThief_29 : decode cX4_partForThief 29 = .ok (.putfield 44, 3) := by decide +kernel
theorem dX4_partForThief_32 : decode cX4_partForThief 32 = .ok (.aload_n 0, 1) := by decide +kernel
theorem dX4_partForThief_33 : decode cX4_partForThief 33 = .ok (.aload_n 0, 1) := by decide +kernel
theorem dX4_partForThief_34 : decode cX4_partForThief 34 = .ok (.getfield 47, 3) := by decide +kernel
theorem dX4_partForThief_37 : decode cX4_partForThief 37 = .ok (.ifCond .ne 12, 3) := by decide +kernel
theorem dX4_partForThief_40 : decode cX4_partForThief 40 = .ok (.aload_n 0, 1) := by decide +kernel
theorem dX4_partForThief_41 : decode cX4_partForThief 41 = .ok (.iload_n 2, 1) := by decide +kernel
theorem dX4_partForThief_42 : decode cX4_partForThief 42 = .ok (.invokevirtual 80, 3) := by decide +kernel
theorem dX4_partForThief_45 : decode cX4_partForThief 45 = .ok (.iconst 3, 1) := by decide +kernel
theorem dX4_partForThief_46 : decode cX4_partForThief 46 = .ok (.if_icmp .ne 7, 3) := by decide +kernel
theorem dX4_partForThief_49 : decode cX4_partForThief 49 = .ok (.iconst 1, 1) := by decide +kernel
theorem dX4_partForThief_50 : decode cX4_partForThief 50 = .ok (.goto 4, 3) := by decide +kernel
theorem dX4_partForThief_53 : decode cX4_partForThief 53 = .ok (.iconst 0, 1) := by decide +kernel
theorem dX4_partForThief_54 : decode cX4_partForThief 54 = .ok (.putfield 47, 3) := by decide +kernel
theorem dX4_partForThief_57 : decode cX4_partForThief 57 = .ok (.aload_n 3, 1) := by decide +kernel
theorem dX4_partForThief_58 : decode cX4_partForThief 58 = .ok (.getfield 51, 3) := by decide +kernel
theorem dX4_partForThief_61 : decode cX4_partForThief 61 = .ok (.iload_n 2, 1) := by decide +kernel
theorem dX4_partForThief_62 : decode cX4_partForThief 62 = .ok (.iaload, 1) := by decide +kernel
theorem dX4_partForThief_63 : decode cX4_partForThief 63 = .ok (.ireturn, 1) := by decide +kernel
theorem dX4_rowsAtRisk_0 : decode cX4_rowsAtRisk 0 = .ok (.iconst 0, 1) := by decide +kernel
theorem dX4_rowsAtRisk_1 : decode cX4_rowsAtRisk 1 = .ok (.istore_n 1, 1) := by decide +kernel
theorem dX4_rowsAtRisk_2 : decode cX4_rowsAtRisk 2 = .ok (.iconst 0, 1) := by decide +kernel
theorem dX4_rowsAtRisk_3 : decode cX4_rowsAtRisk 3 = .ok (.istore_n 2, 1) := by decide +kernel
theorem dX4_rowsAtRisk_4 : decode cX4_rowsAtRisk 4 = .ok (.iload_n 2, 1) := by decide +kernel
theorem dX4_rowsAtRisk_5 : decode cX4_rowsAtRisk 5 = .ok (.aload_n 0, 1) := by decide +kernel
theorem dX4_rowsAtRisk_6 : decode cX4_rowsAtRisk 6 = .ok (.getfield 29, 3) := by decide +kernel
theorem dX4_rowsAtRisk_9 : decode cX4_rowsAtRisk 9 = .ok (.if_icmp .gt 38, 3) := by decide +kernel
theorem dX4_rowsAtRisk_12 : decode cX4_rowsAtRisk 12 = .ok (.iload_n 2, 1) := by decide +kernel
theorem dX4_rowsAtRisk_13 : decode cX4_rowsAtRisk 13 = .ok (.iconst 5, 1) := by decide +kernel
theorem dX4_rowsAtRisk_14 : decode cX4_rowsAtRisk 14 = .ok (.if_icmp .ge 33, 3) := by decide +kernel
theorem dX4_rowsAtRisk_17 : decode cX4_rowsAtRisk 17 = .ok (.aload_n 0, 1) := by decide +kernel
theorem dX4_rowsAtRisk_18 : decode cX4_rowsAtRisk 18 = .ok (.getfield 12, 3) := by decide +kernel
theorem dX4_rowsAtRisk_21 : decode cX4_rowsAtRisk 21 = .ok (.getfield 76, 3) := by decide +kernel
theorem dX4_rowsAtRisk_24 : decode cX4_rowsAtRisk 24 = .ok (.iload_n 2, 1) := by decide +kernel
theorem dX4_rowsAtRisk_25 : decode cX4_rowsAtRisk 25 = .ok (.baload, 1) := by decide +kernel
theorem dX4_rowsAtRisk_26 : decode cX4_rowsAtRisk 26 = .ok (.aload_n 0, 1) := by decide +kernel
theorem dX4_rowsAtRisk_27 : decode cX4_rowsAtRisk 27 = .ok (.getfield 18, 3) := by decide +kernel
theorem dX4_rowsAtRisk_30 : decode cX4_rowsAtRisk 30 = .ok (.getfield 76, 3) := by decide +kernel
theorem dX4_rowsAtRisk_33 : decode cX4_rowsAtRisk 33 = .ok (.iload_n 2, 1) := by decide +kernel
theorem dX4_rowsAtRisk_34 : decode cX4_rowsAtRisk 34 = .ok (.baload, 1) := by decide +kernel
theorem dX4_rowsAtRisk_35 : decode cX4_rowsAtRisk 35 = .ok (.if_icmp .eq 6, 3) := by decide +kernel
theorem dX4_rowsAtRisk_38 : decode cX4_rowsAtRisk 38 = .ok (.iinc 1 1, 3) := by decide +kernel
theorem dX4_rowsAtRisk_41 : decode cX4_rowsAtRisk 41 = .ok (.iinc 2 1, 3) := by decide +kernel
theorem dX4_rowsAtRisk_44 : decode cX4_rowsAtRisk 44 = .ok (.goto (-40), 3) := by decide +kernel
theorem dX4_rowsAtRisk_47 : decode cX4_rowsAtRisk 47 = .ok (.iload_n 1, 1) := by decide +kernel
theorem dX4_rowsAtRisk_48 : decode cX4_rowsAtRisk 48 = .ok (.ireturn, 1) := by decide +kernel
theorem dX4_takenSet_0 : decode cX4_takenSet 0 = .ok (.aload_n 0, 1) := by decide +kernel
theorem dX4_takenSet_1 : decode cX4_takenSet 1 = .ok (.getfield 12, 3) := by decide +kernel
theorem dX4_takenSet_4 : decode cX4_takenSet 4 = .ok (.getfield 76, 3) := by decide +kernel
theorem dX4_takenSet_7 : decode cX4_takenSet 7 = .ok (.iload_n 1, 1) := by decide +kernel
theorem dX4_takenSet_8 : decode cX4_takenSet 8 = .ok (.baload, 1) := by decide +kernel
theorem dX4_takenSet_9 : decode cX4_takenSet 9 = .ok (.ifCond .eq 7, 3) := by decide +kernel
theorem dX4_takenSet_12 : decode cX4_takenSet 12 = .ok (.iconst 1, 1) := by decide +kernel
theorem dX4_takenSet_13 : decode cX4_takenSet 13 = .ok (.goto 4, 3) := by decide +kernel
theorem dX4_takenSet_16 : decode cX4_takenSet 16 = .ok (.iconst 0, 1) := by decide +kernel
theorem dX4_takenSet_17 : decode cX4_takenSet 17 = .ok (.aload_n 0, 1) := by decide +kernel
theorem dX4_takenSet_18 : decode cX4_takenSet 18 = .ok (.getfield 18, 3) := by decide +kernel
theorem dX4_takenSet_21 : decode cX4_takenSet 21 = .ok (.getfield 76, 3) := by decide +kernel
theorem dX4_takenSet_24 : decode cX4_takenSet 24 = .ok (.iload_n 1, 1) := by decide +kernel
theorem dX4_takenSet_25 : decode cX4_takenSet 25 = .ok (.baload, 1) := by decide +kernel
theorem dX4_takenSet_26 : decode cX4_takenSet 26 = .ok (.ifCond .eq 7, 3) := by decide +kernel
theorem dX4_takenSet_29 : decode cX4_takenSet 29 = .ok (.iconst 2, 1) := by decide +kernel
theorem dX4_takenSet_30 : decode cX4_takenSet 30 = .ok (.goto 4, 3) := by decide +kernel
theorem dX4_takenSet_33 : decode cX4_takenSet 33 = .ok (.iconst 0, 1) := by decide +kernel
theorem dX4_takenSet_34 : decode cX4_takenSet 34 = .ok (.iadd, 1) := by decide +kernel
theorem dX4_takenSet_35 : decode cX4_takenSet 35 = .ok (.ireturn, 1) := by decide +kernel
theorem dX4_value_0 : decode cX4_value 0 = .ok (.aload_n 0, 1) := by decide +kernel
theorem dX4_value_1 : decode cX4_value 1 = .ok (.getfield 12, 3) := by decide +kernel
theorem dX4_value_4 : decode cX4_value 4 = .ok (.getfield 51, 3) := by decide +kernel
theorem dX4_value_7 : decode cX4_value 7 = .ok (.iconst 0, 1) := by decide +kernel
theorem dX4_value_8 : decode cX4_value 8 = .ok (.iaload, 1) := by decide +kernel
theorem dX4_value_9 : decode cX4_value 9 = .ok (.aload_n 0, 1) := by decide +kernel
theorem dX4_value_10 : decode cX4_value 10 = .ok (.getfield 18, 3) := by decide +kernel
theorem dX4_value_13 : decode cX4_value 13 = .ok (.getfield 51, 3) := by decide +kernel
theorem dX4_value_16 : decode cX4_value 16 = .ok (.iconst 0, 1) := by decide +kernel
theorem dX4_value_17 : decode cX4_value 17 = .ok (.iaload, 1) := by decide +kernel
theorem dX4_value_18 : decode cX4_value 18 = .ok (.iadd, 1) := by decide +kernel
theorem dX4_value_19 : decode cX4_value 19 = .ok (.sipush 256, 3) := by decide +kernel
theorem dX4_value_22 : decode cX4_value 22 = .ok (.irem, 1) := by decide +kernel
theorem dX4_value_23 : decode cX4_value 23 = .ok (.ireturn, 1) := by decide +kernel
theorem dX5_adm_0 : decode cX5_adm 0 = .ok (.iload_n 1, 1) := by decide +kernel
theorem dX5_adm_1 : decode cX5_adm 1 = .ok (.invokestatic 69, 3) := by decide +kernel
theorem dX5_adm_4 : decode cX5_adm 4 = .ok (.ifCond .ne 6, 3) := by decide +kernel
theorem dX5_adm_7 : decode cX5_adm 7 = .ok (.bipush (-2), 2) := by decide +kernel
theorem dX5_adm_9 : decode cX5_adm 9 = .ok (.ireturn, 1) := by decide +kernel
theorem dX5_adm_10 : decode cX5_adm 10 = .ok (.aload_n 0, 1) := by decide +kernel
theorem dX5_adm_11 : decode cX5_adm 11 = .ok (.getfield 34, 3) := by decide +kernel
theorem dX5_adm_14 : decode cX5_adm 14 = .ok (.bipush 8, 2) := by decide +kernel
theorem dX5_adm_16 : decode cX5_adm 16 = .ok (.if_icmp .lt 6, 3) := by decide +kernel
theorem dX5_adm_19 : decode cX5_adm 19 = .ok (.bipush (-4), 2) := by decide +kernel
theorem dX5_adm_21 : decode cX5_adm 21 = .ok (.ireturn, 1) := by decide +kernel
theorem dX5_adm_22 : decode cX5_adm 22 = .ok (.aload_n 0, 1) := by decide +kernel
theorem dX5_adm_23 : decode cX5_adm 23 = .ok (.invokevirtual 72, 3) := by decide +kernel
theorem dX5_adm_26 : decode cX5_adm 26 = .ok (.ifCond .eq 6, 3) := by decide +kernel
theorem dX5_adm_29 : decode cX5_adm 29 = .ok (.bipush (-5), 2) := by decide +kernel
theorem dX5_adm_31 : decode cX5_adm 31 = .ok (.ireturn, 1) := by decide +kernel
theorem dX5_adm_32 : decode cX5_adm 32 = .ok (.aload_n 0, 1) := by decide +kernel
theorem dX5_adm_33 : decode cX5_adm 33 = .ok (.aload_n 0, 1) := by decide +kernel
theorem dX5_adm_34 : decode cX5_adm 34 = .ok (.getfield 11, 3) := by decide +kernel
theorem dX5_adm_37 : decode cX5_adm 37 = .ok (.aload_n 0, 1) := by decide +kernel
theorem dX5_adm_38 : decode cX5_adm 38 = .ok (.getfield 34, 3) := by decide +kernel
theorem dX5_adm_41 : decode cX5_adm 41 = .ok (.aaload, 1) := by decide +kernel
theorem dX5_adm_42 : decode cX5_adm 42 = .ok (.iload_n 1, 1) := by decide +kernel
theorem dX5_adm_43 : decode cX5_adm 43 = .ok (.invokevirtual 76, 3) := by decide +kernel
theorem dX5_adm_46 : decode cX5_adm 46 = .ok (.aload_n 0, 1) := by decide +kernel
theorem dX5_adm_47 : decode cX5_adm 47 = .ok (.dup, 1) := by decide +kernel
theorem dX5_adm_48 : decode cX5_adm 48 = .ok (.getfield 34, 3) := by decide +kernel
theorem dX5_adm_51 : decode cX5_adm 51 = .ok (.iconst 1, 1) := by decide +kernel
theorem dX5_adm_52 : decode cX5_adm 52 = .ok (.iadd, 1) := by decide +kernel
theorem dX5_adm_53 : decode cX5_adm 53 = .ok (.putfield 34, 3) := by decide +kernel
theorem dX5_adm_56 : decode cX5_adm 56 = .ok (.aload_n 0, 1) := by decide +kernel
theorem dX5_adm_57 : decode cX5_adm 57 = .ok (.getfield 34, 3) := by decide +kernel
theorem dX5_adm_60 : decode cX5_adm 60 = .ok (.iconst 1, 1) := by decide +kernel
theorem dX5_adm_61 : decode cX5_adm 61 = .ok (.isub, 1) := by decide +kernel
theorem dX5_adm_62 : decode cX5_adm 62 = .ok (.ireturn, 1) := by decide +kernel
theorem dX5_answerOfMerger_0 : decode cX5_answerOfMerger 0 = .ok (.aload_n 0, 1) := by decide +kernel
theorem dX5_answerOfMerger_1 : decode cX5_answerOfMerger 1 = .ok (.iload_n 1, 1) := by decide +kernel
theorem dX5_answerOfMerger_2 : decode cX5_answerOfMerger 2 = .ok (.invokevirtual 56, 3) := by decide +kernel
theorem dX5_answerOfMerger_5 : decode cX5_answerOfMerger 5 = .ok (.ifCond .ne 5, 3) := by decide +kernel
theorem dX5_answerOfMerger_8 : decode cX5_answerOfMerger 8 = .ok (.iconst (-1), 1) := by decide +kernel
theorem dX5_answerOfMerger_9 : decode cX5_answerOfMerger 9 = .ok (.ireturn, 1) := by decide +kernel
theorem dX5_answerOfMerger_10 : decode cX5_answerOfMerger 10 = .ok (.aload_n 0, 1) := by decide +kernel
theorem dX5_answerOfMerger_11 : decode cX5_answerOfMerger 11 = .ok (.invokevirtual 72, 3) := by decide +kernel
theorem dX5_answerOfMerger_14 : decode cX5_answerOfMerger 14 = .ok (.ifCond .eq 6, 3) := by decide +kernel
theorem dX5_answerOfMerger_17 : decode cX5_answerOfMerger 17 = .ok (.bipush (-5), 2) := by decide +kernel
theorem dX5_answerOfMerger_19 : decode cX5_answerOfMerger 19 = .ok (.ireturn, 1) := by decide +kernel
theorem dX5_answerOfMerger_20 : decode cX5_answerOfMerger 20 = .ok (.aload_n 0, 1) := by decide +kernel
theorem dX5_answerOfMerger_21 : decode cX5_answerOfMerger 21 = .ok (.getfield 11, 3) := by decide +kernel
theorem dX5_answerOfMerger_24 : decode cX5_answerOfMerger 24 = .ok (.iload_n 1, 1) := by decide +kernel
theorem dX5_answerOfMerger_25 : decode cX5_answerOfMerger 25 = .ok (.aaload, 1) := by decide +kernel
theorem dX5_answerOfMerger_26 : decode cX5_answerOfMerger 26 = .ok (.invokevirtual 144, 3) := by decide +kernel
theorem dX5_answerOfMerger_29 : decode cX5_answerOfMerger 29 = .ok (.ireturn, 1) := by decide +kernel
theorem dX5_burnOldVersions_0 : decode cX5_burnOldVersions 0 = .ok (.aload_n 0, 1) := by decide +kernel
theorem dX5_burnOldVersions_1 : decode cX5_burnOldVersions 1 = .ok (.iload_n 1, 1) := by decide +kernel
theorem dX5_burnOldVersions_2 : decode cX5_burnOldVersions 2 = .ok (.invokevirtual 56, 3) := by decide +kernel
theorem dX5_burnOldVersions_5 : decode cX5_burnOldVersions 5 = .ok (.ifCond .ne 5, 3) := by decide +kernel
theorem dX5_burnOldVersions_8 : decode cX5_burnOldVersions 8 = .ok (.iconst (-1), 1) := by decide +kernel
theorem dX5_burnOldVersions_9 : decode cX5_burnOldVersions 9 = .ok (.ireturn, 1) := by decide +kernel
theorem dX5_burnOldVersions_10 : decode cX5_burnOldVersions 10 = .ok (.aload_n 0, 1) := by decide +kernel
theorem dX5_burnOldVersions_11 : decode cX5_burnOldVersions 11 = .ok (.invokevirtual 72, 3) := by decide +kernel
theorem dX5_burnOldVersions_14 : decode cX5_burnOldVersions 14 = .ok (.ifCond .eq 6, 3) := by decide +kernel
theorem dX5_burnOldVersions_17 : decode cX5_burnOldVersions 17 = .ok (.bipush (-5), 2) := by decide +kernel
theorem dX5_burnOldVersions_19 : decode cX5_burnOldVersions 19 = .ok (.ireturn, 1) := by decide +kernel
theorem dX5_burnOldVersions_20 : decode cX5_burnOldVersions 20 = .ok (.aload_n 0, 1) := by decide +kernel
theorem dX5_burnOldVersions_21 : decode cX5_burnOldVersions 21 = .ok (.getfield 11, 3) := by decide +kernel
theorem dX5_burnOldVersions_24 : decode cX5_burnOldVersions 24 = .ok (.iload_n 1, 1) := by decide +kernel
theorem dX5_burnOldVersions_25 : decode cX5_burnOldVersions 25 = .ok (.aaload, 1) := by decide +kernel
theorem dX5_burnOldVersions_26 : decode cX5_burnOldVersions 26 = .ok (.getfield 124, 3) := by decide +kernel
theorem dX5_burnOldVersions_29 : decode cX5_burnOldVersions 29 = .ok (.istore_n 2, 1) := by decide +kernel
theorem dX5_burnOldVersions_30 : decode cX5_burnOldVersions 30 = .ok (.aload_n 0, 1) := by decide +kernel
theorem dX5_burnOldVersions_31 : decode cX5_burnOldVersions 31 = .ok (.getfield 11, 3) := by decide +kernel
theorem dX5_burnOldVersions_34 : decode cX5_burnOldVersions 34 = .ok (.iload_n 1, 1) := by decide +kernel
theorem dX5_burnOldVersions_35 : decode cX5_burnOldVersions 35 = .ok (.aaload, 1) := by decide +kernel
theorem dX5_burnOldVersions_36 : decode cX5_burnOldVersions 36 = .ok (.iconst 0, 1) := by decide +kernel
theorem dX5_burnOldVersions_37 : decode cX5_burnOldVersions 37 = .ok (.putfield 124, 3) := by decide +kernel
theorem dX5_burnOldVersions_40 : decode cX5_burnOldVersions 40 = .ok (.aload_n 0, 1) := by decide +kernel
theorem dX5_burnOldVersions_41 : decode cX5_burnOldVersions 41 = .ok (.dup, 1) := by decide +kernel
theorem dX5_burnOldVersions_42 : decode cX5_burnOldVersions 42 = .ok (.getfield 43, 3) := by decide +kernel
theorem dX5_burnOldVersions_45 : decode cX5_burnOldVersions 45 = .ok (.iload_n 2, 1) := by decide +kernel
theorem dX5_burnOldVersions_46 : decode cX5_burnOldVersions 46 = .ok (.iadd, 1) := by decide +kernel
theorem dX5_burnOldVersions_47 : decode cX5_burnOldVersions 47 = .ok (.putfield 43, 3) := by decide +kernel
theorem dX5_burnOldVersions_50 : decode cX5_burnOldVersions 50 = .ok (.iload_n 2, 1) := by decide +kernel
theorem dX5_burnOldVersions_51 : decode cX5_burnOldVersions 51 = .ok (.ireturn, 1) := by decide +kernel
theorem dX5_changeSetting_0 : decode cX5_changeSetting 0 = .ok (.iload_n 1, 1) := by decide +kernel
theorem dX5_changeSetting_1 : decode cX5_changeSetting 1 = .ok (.ifCond .lt 8, 3) := by decide +kernel
theorem dX5_changeSetting_4 : decode cX5_changeSetting 4 = .ok (.iload_n 1, 1) := by decide +kernel
theorem dX5_changeSetting_5 : decode cX5_changeSetting 5 = .ok (.iconst 3, 1) := by decide +kernel
theorem dX5_changeSetting_6 : decode cX5_changeSetting 6 = .ok (.if_icmp .lt 6, 3) := by decide +kernel
theorem dX5_changeSetting_9 : decode cX5_changeSetting 9 = .ok (.bipush (-2), 2) := by decide +kernel
theorem dX5_changeSetting_11 : decode cX5_changeSetting 11 = .ok (.ireturn, 1) := by decide +kernel
theorem dX5_changeSetting_12 : decode cX5_changeSetting 12 = .ok (.iload_n 2, 1) := by decide +kernel
theorem dX5_changeSetting_13 : decode cX5_changeSetting 13 = .ok (.getstatic 62, 3) := by decide +kernel
theorem dX5_changeSetting_16 : decode cX5_changeSetting 16 = .ok (.iload_n 1, 1) := by decide +kernel
theorem dX5_changeSetting_17 : decode cX5_changeSetting 17 = .ok (.iaload, 1) := by decide +kernel
theorem dX5_changeSetting_18 : decode cX5_changeSetting 18 = .ok (.if_icmp .lt 12, 3) := by decide +kernel
theorem dX5_changeSetting_21 : decode cX5_changeSetting 21 = .ok (.iload_n 2, 1) := by decide +kernel
theorem dX5_changeSetting_22 : decode cX5_changeSetting 22 = .ok (.getstatic 65, 3) := by decide +kernel
theorem dX5_changeSetting_25 : decode cX5_changeSetting 25 = .ok (.iload_n 1, 1) := by decide +kernel
theorem dX5_changeSetting_26 : decode cX5_changeSetting 26 = .ok (.iaload, 1) := by decide +kernel
theorem dX5_changeSetting_27 : decode cX5_changeSetting 27 = .ok (.if_icmp .le 6, 3) := by decide +kernel
theorem dX5_changeSetting_30 : decode cX5_changeSetting 30 = .ok (.bipush (-2), 2) := by decide +kernel
theorem dX5_changeSetting_32 : decode cX5_changeSetting 32 = .ok (.ireturn, 1) := by decide +kernel
theorem dX5_changeSetting_33 : decode cX5_changeSetting 33 = .ok (.aload_n 0, 1) := by decide +kernel
theorem dX5_changeSetting_34 : decode cX5_changeSetting 34 = .ok (.getfield 17, 3) := by decide +kernel
theorem dX5_changeSetting_37 : decode cX5_changeSetting 37 = .ok (.iload_n 1, 1) := by decide +kernel
theorem dX5_changeSetting_38 : decode cX5_changeSetting 38 = .ok (.iaload, 1) := by decide +kernel
theorem dX5_changeSetting_39 : decode cX5_changeSetting 39 = .ok (.istore_n 3, 1) := by decide +kernel
theorem dX5_changeSetting_40 : decode cX5_changeSetting 40 = .ok (.aload_n 0, 1) := by decide +kernel
theorem dX5_changeSetting_41 : decode cX5_changeSetting 41 = .ok (.getfield 17, 3) := by decide +kernel
theorem dX5_changeSetting_44 : decode cX5_changeSetting 44 = .ok (.iload_n 1, 1) := by decide +kernel
theorem dX5_changeSetting_45 : decode cX5_changeSetting 45 = .ok (.iload_n 2, 1) := by decide +kernel
theorem dX5_changeSetting_46 : decode cX5_changeSetting 46 = .ok (.iastore, 1) := by decide +kernel
theorem dX5_changeSetting_47 : decode cX5_changeSetting 47 = .ok (.iload_n 3, 1) := by decide +kernel
theorem dX5_changeSetting_48 : decode cX5_changeSetting 48 = .ok (.ireturn, 1) := by decide +kernel
theorem dX5_changeX_0 : decode cX5_changeX 0 = .ok (.iload_n 1, 1) := by decide +kernel
theorem dX5_changeX_1 : decode cX5_changeX 1 = .ok (.ifCond .lt 10, 3) := by decide +kernel
theorem dX5_changeX_4 : decode cX5_changeX 4 = .ok (.iload_n 1, 1) := by decide +kernel
theorem dX5_changeX_5 : decode cX5_changeX 5 = .ok (.sipush 9999, 3) := by decide +kernel
theorem dX5_changeX_8 : decode cX5_changeX 8 = .ok (.if_icmp .le 6, 3) := by decide +kernel
theorem dX5_changeX_11 : decode cX5_changeX 11 = .ok (.bipush (-2), 2) := by decide +kernel
theorem dX5_changeX_13 : decode cX5_changeX 13 = .ok (.ireturn, 1) := by decide +kernel
theorem dX5_changeX_14 : decode cX5_changeX 14 = .ok (.aload_n 0, 1) := by decide +kernel
theorem dX5_changeX_15 : decode cX5_changeX 15 = .ok (.getfield 25, 3) := by decide +kernel
theorem dX5_changeX_18 : decode cX5_changeX 18 = .ok (.istore_n 2, 1) := by decide +kernel
theorem dX5_changeX_19 : decode cX5_changeX 19 = .ok (.aload_n 0, 1) := by decide +kernel
theorem dX5_changeX_20 : decode cX5_changeX 20 = .ok (.iload_n 1, 1) := by decide +kernel
theorem dX5_changeX_21 : decode cX5_changeX 21 = .ok (.putfield 25, 3) := by decide +kernel
theorem dX5_changeX_24 : decode cX5_changeX 24 = .ok (.iload_n 2, 1) := by decide +kernel
theorem dX5_changeX_25 : decode cX5_changeX 25 = .ok (.ireturn, 1) := by decide +kernel
theorem dX5_copyState_0 : decode cX5_copyState 0 = .ok (.iconst 0, 1) := by decide +kernel
theorem dX5_copyState_1 : decode cX5_copyState 1 = .ok (.istore_n 2, 1) := by decide +kernel
theorem dX5_copyState_2 : decode cX5_copyState 2 = .ok (.iload_n 2, 1) := by decide +kernel
theorem dX5_copyState_3 : decode cX5_copyState 3 = .ok (.bipush 8, 2) := by decide +kernel
theorem dX5_copyState_5 : decode cX5_copyState 5 = .ok (.if_icmp .ge 24, 3) := by decide +kernel
theorem dX5_copyState_8 : decode cX5_copyState 8 = .ok (.aload_n 0, 1) := by decide +kernel
theorem dX5_copyState_9 : decode cX5_copyState 9 = .ok (.getfield 11, 3) := by decide +kernel
theorem dX5_copyState_12 : decode cX5_copyState 12 = .ok (.iload_n 2, 1) := by decide +kernel
theorem dX5_copyState_13 : decode cX5_copyState 13 = .ok (.aaload, 1) := by decide +kernel
theorem dX5_copyState_14 : decode cX5_copyState 14 = .ok (.aload_n 1, 1) := by decide +kernel
theorem dX5_copyState_15 : decode cX5_copyState 15 = .ok (.getfield 11, 3) := by decide +kernel
theorem dX5_copyState_18 : decode cX5_copyState 18 = .ok (.iload_n 2, 1) := by decide +kernel
theorem dX5_copyState_19 : decode cX5_copyState 19 = .ok (.aaload, 1) := by decide +kernel
theorem dX5_copyState_20 : decode cX5_copyState 20 = .ok (.invokevirtual 30, 3) := by decide +kernel
theorem dX5_copyState_23 : decode cX5_copyState 23 = .ok (.iinc 2 1, 3) := by decide +kernel
theorem dX5_copyState_26 : decode cX5_copyState 26 = .ok (.goto (-24), 3) := by decide +kernel
theorem dX5_copyState_29 : decode cX5_copyState 29 = .ok (.iconst 0, 1) := by decide +kernel
theorem dX5_copyState_30 : decode cX5_copyState 30 = .ok (.istore_n 2, 1) := by decide +kernel
theorem dX5_copyState_31 : decode cX5_copyState 31 = .ok (.iload_n 2, 1) := by decide +kernel
theorem dX5_copyState_32 : decode cX5_copyState 32 = .ok (.iconst 3, 1) := by decide +kernel
theorem dX5_copyState_33 : decode cX5_copyState 33 = .ok (.if_icmp .ge 21, 3) := by decide +kernel
theorem dX5_copyState_36 : decode cX5_copyState 36 = .ok (.aload_n 0, 1) := by decide +kernel
theorem dX5_copyState_37 : decode cX5_copyState 37 = .ok (.getfield 17, 3) := by decide +kernel
theorem dX5_copyState_40 : decode cX5_copyState 40 = .ok (.iload_n 2, 1) := by decide +kernel
theorem dX5_copyState_41 : decode cX5_copyState 41 = .ok (.aload_n 1, 1) := by decide +kernel
theorem dX5_copyState_42 : decode cX5_copyState 42 = .ok (.getfield 17, 3) := by decide +kernel
theorem dX5_copyState_45 : decode cX5_copyState 45 = .ok (.iload_n 2, 1) := by decide +kernel
theorem dX5_copyState_46 : decode cX5_copyState 46 = .ok (.iaload, 1) := by decide +kernel
theorem dX5_copyState_47 : decode cX5_copyState 47 = .ok (.iastore, 1) := by decide +kernel
theorem dX5_copyState_48 : decode cX5_copyState 48 = .ok (.iinc 2 1, 3) := by decide +kernel
theorem dX5_copyState_51 : decode cX5_copyState 51 = .ok (.goto (-20), 3) := by decide +kernel
theorem dX5_copyState_54 : decode cX5_copyState 54 = .ok (.iconst 0, 1) := by decide +kernel
theorem dX5_copyState_55 : decode cX5_copyState 55 = .ok (.istore_n 2, 1) := by decide +kernel
theorem dX5_copyState_56 : decode cX5_copyState 56 = .ok (.iload_n 2, 1) := by decide +kernel
theorem dX5_copyState_57 : decode cX5_copyState 57 = .ok (.iconst 2, 1) := by decide +kernel
theorem dX5_copyState_58 : decode cX5_copyState 58 = .ok (.if_icmp .ge 21, 3) := by decide +kernel
theorem dX5_copyState_61 : decode cX5_copyState 61 = .ok (.aload_n 0, 1) := by decide +kernel
theorem dX5_copyState_62 : decode cX5_copyState 62 = .ok (.getfield 21, 3) := by decide +kernel
theorem dX5_copyState_65 : decode cX5_copyState 65 = .ok (.iload_n 2, 1) := by decide +kernel
theorem dX5_copyState_66 : decode cX5_copyState 66 = .ok (.aload_n 1, 1) := by decide +kernel
theorem dX5_copyState_67 : decode cX5_copyState 67 = .ok (.getfield 21, 3) := by decide +kernel
theorem dX5_copyState_70 : decode cX5_copyState 70 = .ok (.iload_n 2, 1) := by decide +kernel
theorem dX5_copyState_71 : decode cX5_copyState 71 = .ok (.baload, 1) := by decide +kernel
theorem dX5_copyState_72 : decode cX5_copyState 72 = .ok (.bastore, 1) := by decide +kernel
theorem dX5_copyState_73 : decode cX5_copyState 73 = .ok (.iinc 2 1, 3) := by decide +kernel
theorem dX5_copyState_76 : decode cX5_copyState 76 = .ok (.goto (-20), 3) := by decide +kernel
theorem dX5_copyState_79 : decode cX5_copyState 79 = .ok (.aload_n 0, 1) := by decide +kernel
theorem dX5_copyState_80 : decode cX5_copyState 80 = .ok (.aload_n 1, 1) := by decide +kernel
theorem dX5_copyState_81 : decode cX5_copyState 81 = .ok (.getfield 34, 3) := by decide +kernel
theorem dX5_copyState_84 : decode cX5_copyState 84 = .ok (.putfield 34, 3) := by decide +kernel
theorem dX5_copyState_87 : decode cX5_copyState 87 = .ok (.aload_n 0, 1) := by decide +kernel
theorem dX5_copyState_88 : decode cX5_copyState 88 = .ok (.aload_n 1, 1) := by decide +kernel
theorem dX5_copyState_89 : decode cX5_copyState 89 = .ok (.getfield 25, 3) := by decide +kernel
theorem dX5_copyState_92 : decode cX5_copyState 92 = .ok (.putfield 25, 3) := by decide +kernel
theorem dX5_copyState_95 : decode cX5_copyState 95 = .ok (.aload_n 0, 1) := by decide +kernel
theorem dX5_copyState_96 : decode cX5_copyState 96 = .ok (.aload_n 1, 1) := by decide +kernel
theorem dX5_copyState_97 : decode cX5_copyState 97 = .ok (.getfield 37, 3) := by decide +kernel
theorem dX5_copyState_100 : decode cX5_copyState 100 = .ok (.putfield 37, 3) := by decide +kernel
theorem dX5_copyState_103 : decode cX5_copyState 103 = .ok (.aload_n 0, 1) := by decide +kernel
theorem dX5_copyState_104 : decode cX5_copyState 104 = .ok (.aload_n 1, 1) := by decide +kernel
theorem dX5_copyState_105 : decode cX5_copyState 105 = .ok (.getfield 40, 3) := by decide +kernel
theorem dX5_copyState_108 : decode cX5_copyState 108 = .ok (.putfield 40, 3) := by decide +kernel
theorem dX5_copyState_111 : decode cX5_copyState 111 = .ok (.aload_n 0, 1) := by decide +kernel
theorem dX5_copyState_112 : decode cX5_copyState 112 = .ok (.aload_n 1, 1) := by decide +kernel
theorem dX5_copyState_113 : decode cX5_copyState 113 = .ok (.getfield 43, 3) := by decide +kernel
theorem dX5_copyState_116 : decode cX5_copyState 116 = .ok (.putfield 43, 3) := by decide +kernel
theorem dX5_copyState_119 : decode cX5_copyState 119 = .ok (.aload_n 0, 1) := by decide +kernel
theorem dX5_copyState_120 : decode cX5_copyState 120 = .ok (.aload_n 1, 1) := by decide +kernel
theorem dX5_copyState_121 : decode cX5_copyState 121 = .ok (.getfield 46, 3) := by decide +kernel
theorem dX5_copyState_124 : decode cX5_copyState 124 = .ok (.putfield 46, 3) := by decide +kernel
theorem dX5_copyState_127 : decode cX5_copyState 127 = .ok (.aload_n 0, 1) := by decide +kernel
theorem dX5_copyState_128 : decode cX5_copyState 128 = .ok (.aload_n 1, 1) := by decide +kernel
theorem dX5_copyState_129 : decode cX5_copyState 129 = .ok (.getfield 49, 3) := by decide +kernel
theorem dX5_copyState_132 : decode cX5_copyState 132 = .ok (.putfield 49, 3) := by decide +kernel
theorem dX5_copyState_135 : decode cX5_copyState 135 = .ok (.return_, 1) := by decide +kernel
theorem dX5_drawn_0 : decode cX5_drawn 0 = .ok (.aload_n 0, 1) := by decide +kernel
theorem dX5_drawn_1 : decode cX5_drawn 1 = .ok (.bipush 75, 2) := by decide +kernel
theorem dX5_drawn_3 : decode cX5_drawn 3 = .ok (.aload_n 0, 1) := by decide +kernel
theorem dX5_drawn_4 : decode cX5_drawn 4 = .ok (.getfield 25, 3) := by decide +kernel
theorem dX5_drawn_7 : decode cX5_drawn 7 = .ok (.imul, 1) := by decide +kernel
theorem dX5_drawn_8 : decode cX5_drawn 8 = .ok (.bipush 74, 2) := by decide +kernel
theorem dX5_drawn_10 : decode cX5_drawn 10 = .ok (.iadd, 1) := by decide +kernel
theorem dX5_drawn_11 : decode cX5_drawn 11 = .ok (.ldc 68, 2) := by decide +kernel
theorem dX5_drawn_13 : decode cX5_drawn 13 = .ok (.irem, 1) := by decide +kernel
theorem dX5_drawn_14 : decode cX5_drawn 14 = .ok (.putfield 25, 3) := by decide +kernel
theorem dX5_drawn_17 : decode cX5_drawn 17 = .ok (.aload_n 0, 1) := by decide +kernel
theorem dX5_drawn_18 : decode cX5_drawn 18 = .ok (.getfield 25, 3) := by decide +kernel
theorem dX5_drawn_21 : decode cX5_drawn 21 = .ok (.bipush 16, 2) := by decide +kernel
theorem dX5_drawn_23 : decode cX5_drawn 23 = .ok (.idiv, 1) := by decide +kernel
theorem dX5_drawn_24 : decode cX5_drawn 24 = .ok (.ireturn, 1) := by decide +kernel
theorem dX5_figure_0 : decode cX5_figure 0 = .ok (.iload_n 1, 1) := by decide +kernel
theorem dX5_figure_1 : decode cX5_figure 1 = .ok (.tableswitch 167 0 13 #[71, 76, 81, 86, 91, 106, 121, 126, 131, 136, 141, 146, 153, 160], 71) := by decide +kernel
theorem dX5_figure_72 : decode cX5_figure 72 = .ok (.aload_n 0, 1) := by decide +kernel
theorem dX5_figure_73 : decode cX5_figure 73 = .ok (.getfield 37, 3) := by decide +kernel
theorem dX5_figure_76 : decode cX5_figure 76 = .ok (.ireturn, 1) := by decide +kernel
theorem dX5_figure_77 : decode cX5_figure 77 = .ok (.aload_n 0, 1) := by decide +kernel
theorem dX5_figure_78 : decode cX5_figure 78 = .ok (.getfield 34, 3) := by decide +kernel
theorem dX5_figure_81 : decode cX5_figure 81 = .ok (.ireturn, 1) := by decide +kernel
theorem dX5_figure_82 : decode cX5_figure 82 = .ok (.aload_n 0, 1) := by decide +kernel
theorem dX5_figure_83 : decode cX5_figure 83 = .ok (.invokevirtual 192, 3) := by decide +kernel
theorem dX5_figure_86 : decode cX5_figure 86 = .ok (.ireturn, 1) := by decide +kernel
theorem dX5_figure_87 : decode cX5_figure 87 = .ok (.aload_n 0, 1) := by decide +kernel
theorem dX5_figure_88 : decode cX5_figure 88 = .ok (.invokevirtual 195, 3) := by decide +kernel
theorem dX5_figure_91 : decode cX5_figure 91 = .ok (.ireturn, 1) := by decide +kernel
theorem dX5_figure_92 : decode cX5_figure 92 = .ok (.aload_n 0, 1) := by decide +kernel
theorem dX5_figure_93 : decode cX5_figure 93 = .ok (.getfield 21, 3) := by decide +kernel
theorem dX5_figure_96 : decode cX5_figure 96 = .ok (.iconst 0, 1) := by decide +kernel
theorem dX5_figure_97 : decode cX5_figure 97 = .ok (.baload, 1) := by decide +kernel
theorem dX5_figure_98 : decode cX5_figure 98 = .ok (.ifCond .eq 7, 3) := by decide +kernel
theorem dX5_figure_101 : decode cX5_figure 101 = .ok (.iconst 1, 1) := by decide +kernel
theorem dX5_figure_102 : decode cX5_figure 102 = .ok (.goto 4, 3) := by decide +kernel
theorem dX5_figure_105 : decode cX5_figure 105 = .ok (.iconst 0, 1) := by decide +kernel
theorem dX5_figure_106 : decode cX5_figure 106 = .ok (.ireturn, 1) := by decide +kernel
theorem dX5_figure_107 : decode cX5_figure 107 = .ok (.aload_n 0, 1) := by decide +kernel
theorem dX5_figure_108 : decode cX5_figure 108 = .ok (.getfield 21, 3) := by decide +kernel
theorem dX5_figure_111 : decode cX5_figure 111 = .ok (.iconst 1, 1) := by decide +kernel
theorem dX5_figure_112 : decode cX5_figure 112 = .ok (.baload, 1) := by decide +kernel
theorem dX5_figure_113 : decode cX5_figure 113 = .ok (.ifCond .eq 7, 3) := by decide +kernel
theorem dX5_figure_116 : decode cX5_figure 116 = .ok (.iconst 1, 1) := by decide +kernel
theorem dX5_figure_117 : decode cX5_figure 117 = .ok (.goto 4, 3) := by decide +kernel
theorem dX5_figure_120 : decode cX5_figure 120 = .ok (.iconst 0, 1) := by decide +kernel
theorem dX5_figure_121 : decode cX5_figure 121 = .ok (.ireturn, 1) := by decide +kernel
theorem dX5_figure_122 : decode cX5_figure 122 = .ok (.aload_n 0, 1) := by decide +kernel
theorem dX5_figure_123 : decode cX5_figure 123 = .ok (.getfield 40, 3) := by decide +kernel
theorem dX5_figure_126 : decode cX5_figure 126 = .ok (.ireturn, 1) := by decide +kernel
theorem dX5_figure_127 : decode cX5_figure 127 = .ok (.aload_n 0, 1) := by decide +kernel
theorem dX5_figure_128 : decode cX5_figure 128 = .ok (.getfield 43, 3) := by decide +kernel
theorem dX5_figure_131 : decode cX5_figure 131 = .ok (.ireturn, 1) := by decide +kernel
theorem dX5_figure_132 : decode cX5_figure 132 = .ok (.aload_n 0, 1) := by decide +kernel
theorem dX5_figure_133 : decode cX5_figure 133 = .ok (.getfield 46, 3) := by decide +kernel
theorem dX5_figure_136 : decode cX5_figure 136 = .ok (.ireturn, 1) := by decide +kernel
theorem dX5_figure_137 : decode cX5_figure 137 = .ok (.aload_n 0, 1) := by decide +kernel
theorem dX5_figure_138 : decode cX5_figure 138 = .ok (.getfield 49, 3) := by decide +kernel
theorem dX5_figure_141 : decode cX5_figure 141 = .ok (.ireturn, 1) := by decide +kernel
theorem dX5_figure_142 : decode cX5_figure 142 = .ok (.aload_n 0, 1) := by decide +kernel
theorem dX5_figure_143 : decode cX5_figure 143 = .ok (.getfield 25, 3) := by decide +kernel
theorem dX5_figure_146 : decode cX5_figure 146 = .ok (.ireturn, 1) := by decide +kernel
theorem dX5_figure_147 : decode cX5_figure 147 = .ok (.aload_n 0, 1) := by decide +kernel
theorem dX5_figure_148 : decode cX5_figure 148 = .ok (.getfield 17, 3) := by decide +kernel
theorem dX5_figure_151 : decode cX5_figure 151 = .ok (.iconst 0, 1) := by decide +kernel
theorem dX5_figure_152 : decode cX5_figure 152 = .ok (.iaload, 1) := by decide +kernel
theorem dX5_figure_153 : decode cX5_figure 153 = .ok (.ireturn, 1) := by decide +kernel
theorem dX5_figure_154 : decode cX5_figure 154 = .ok (.aload_n 0, 1) := by decide +kernel
theorem dX5_figure_155 : decode cX5_figure 155 = .ok (.getfield 17, 3) := by decide +kernel
theorem dX5_figure_158 : decode cX5_figure 158 = .ok (.iconst 1, 1) := by decide +kernel
theorem dX5_figure_159 : decode cX5_figure 159 = .ok (.iaload, 1) := by decide +kernel
theorem dX5_figure_160 : decode cX5_figure 160 = .ok (.ireturn, 1) := by decide +kernel
theorem dX5_figure_161 : decode cX5_figure 161 = .ok (.aload_n 0, 1) := by decide +kernel
theorem dX5_figure_162 : decode cX5_figure 162 = .ok (.getfield 17, 3) := by decide +kernel
theorem dX5_figure_165 : decode cX5_figure 165 = .ok (.iconst 2, 1) := by decide +kernel
theorem dX5_figure_166 : decode cX5_figure 166 = .ok (.iaload, 1) := by decide +kernel
theorem dX5_figure_167 : decode cX5_figure 167 = .ok (.ireturn, 1) := by decide +kernel
theorem dX5_figure_168 : decode cX5_figure 168 = .ok (.bipush (-2), 2) := by decide +kernel
theorem dX5_figure_170 : decode cX5_figure 170 = .ok (.ireturn, 1) := by decide +kernel
theorem dX5_figureOfHalf_0 : decode cX5_figureOfHalf 0 = .ok (.aload_n 0, 1) := by decide +kernel
theorem dX5_figureOfHalf_1 : decode cX5_figureOfHalf 1 = .ok (.iload_n 1, 1) := by decide +kernel
theorem dX5_figureOfHalf_2 : decode cX5_figureOfHalf 2 = .ok (.iload_n 2, 1) := by decide +kernel
theorem dX5_figureOfHalf_3 : decode cX5_figureOfHalf 3 = .ok (.invokevirtual 127, 3) := by decide +kernel
theorem dX5_figureOfHalf_6 : decode cX5_figureOfHalf 6 = .ok (.ifCond .ne 5, 3) := by decide +kernel
theorem dX5_figureOfHalf_9 : decode cX5_figureOfHalf 9 = .ok (.iconst (-1), 1) := by decide +kernel
theorem dX5_figureOfHalf_10 : decode cX5_figureOfHalf 10 = .ok (.ireturn, 1) := by decide +kernel
theorem dX5_figureOfHalf_11 : decode cX5_figureOfHalf 11 = .ok (.aload_n 0, 1) := by decide +kernel
theorem dX5_figureOfHalf_12 : decode cX5_figureOfHalf 12 = .ok (.getfield 11, 3) := by decide +kernel
theorem dX5_figureOfHalf_15 : decode cX5_figureOfHalf 15 = .ok (.iload_n 2, 1) := by decide +kernel
theorem dX5_figureOfHalf_16 : decode cX5_figureOfHalf 16 = .ok (.aaload, 1) := by decide +kernel
theorem dX5_figureOfHalf_17 : decode cX5_figureOfHalf 17 = .ok (.iload_n 1, 1) := by decide +kernel
theorem dX5_figureOfHalf_18 : decode cX5_figureOfHalf 18 = .ok (.invokevirtual 134, 3) := by decide +kernel
theorem dX5_figureOfHalf_21 : decode cX5_figureOfHalf 21 = .ok (.astore 4, 2) := by decide +kernel
theorem dX5_figureOfHalf_23 : decode cX5_figureOfHalf 23 = .ok (.iload_n 3, 1) := by decide +kernel
theorem dX5_figureOfHalf_24 : decode cX5_figureOfHalf 24 = .ok (.tableswitch 98 0 7 #[48, 56, 62, 68, 74, 80, 86, 92], 48) := by decide +kernel
theorem dX5_figureOfHalf_72 : decode cX5_figureOfHalf 72 = .ok (.aload 4, 2) := by decide +kernel
theorem dX5_figureOfHalf_74 : decode cX5_figureOfHalf 74 = .ok (.getfield 87, 3) := by decide +kernel
theorem dX5_figureOfHalf_77 : decode cX5_figureOfHalf 77 = .ok (.iconst 0, 1) := by decide +kernel
theorem dX5_figureOfHalf_78 : decode cX5_figureOfHalf 78 = .ok (.iaload, 1) := by decide +kernel
theorem dX5_figureOfHalf_79 : decode cX5_figureOfHalf 79 = .ok (.ireturn, 1) := by decide +kernel
theorem dX5_figureOfHalf_80 : decode cX5_figureOfHalf 80 = .ok (.aload 4, 2) := by decide +kernel
theorem dX5_figureOfHalf_82 : decode cX5_figureOfHalf 82 = .ok (.getfield 112, 3) := by decide +kernel
theorem dX5_figureOfHalf_85 : decode cX5_figureOfHalf 85 = .ok (.ireturn, 1) := by decide +kernel
theorem dX5_figureOfHalf_86 : decode cX5_figureOfHalf 86 = .ok (.aload 4, 2) := by decide +kernel
theorem dX5_figureOfHalf_88 : decode cX5_figureOfHalf 88 = .ok (.getfield 102, 3) := by decide +kernel
theorem dX5_figureOfHalf_91 : decode cX5_figureOfHalf 91 = .ok (.ireturn, 1) := by decide +kernel
theorem dX5_figureOfHalf_92 : decode cX5_figureOfHalf 92 = .ok (.aload 4, 2) := by decide +kernel
theorem dX5_figureOfHalf_94 : decode cX5_figureOfHalf 94 = .ok (.getfield 105, 3) := by decide +kernel
theorem dX5_figureOfHalf_97 : decode cX5_figureOfHalf 97 = .ok (.ireturn, 1) := by decide +kernel
theorem dX5_figureOfHalf_98 : decode cX5_figureOfHalf 98 = .ok (.aload 4, 2) := by decide +kernel
theorem dX5_figureOfHalf_100 : decode cX5_figureOfHalf 100 = .ok (.getfield 138, 3) := by decide +kernel
theorem dX5_figureOfHalf_103 : decode cX5_figureOfHalf 103 = .ok (.ireturn, 1) := by decide +kernel
theorem dX5_figureOfHalf_104 : decode cX5_figureOfHalf 104 = .ok (.aload 4, 2) := by decide +kernel
theorem dX5_figureOfHalf_106 : decode cX5_figureOfHalf 106 = .ok (.getfield 141, 3) := by decide +kernel
theorem dX5_figureOfHalf_109 : decode cX5_figureOfHalf 109 = .ok (.ireturn, 1) := by decide +kernel
theorem dX5_figureOfHalf_110 : decode cX5_figureOfHalf 110 = .ok (.aload 4, 2) := by decide +kernel
theorem dX5_figureOfHalf_112 : decode cX5_figureOfHalf 112 = .ok (.invokevirtual 170, 3) := by decide +kernel
theorem dX5_figureOfHalf_115 : decode cX5_figureOfHalf 115 = .ok (.ireturn, 1) := by decide +kernel
theorem dX5_figureOfHalf_116 : decode cX5_figureOfHalf 116 = .ok (.aload 4, 2) := by decide +kernel
theorem dX5_figureOfHalf_118 : decode cX5_figureOfHalf 118 = .ok (.invokevirtual 173, 3) := by decide +kernel
theorem dX5_figureOfHalf_121 : decode cX5_figureOfHalf 121 = .ok (.ireturn, 1) := by decide +kernel
theorem dX5_figureOfHalf_122 : decode cX5_figureOfHalf 122 = .ok (.bipush (-2), 2) := by decide +kernel
theorem dX5_figureOfHalf_124 : decode cX5_figureOfHalf 124 = .ok (.ireturn, 1) := by decide +kernel
theorem dX5_figureOfOldVersion_0 : decode cX5_figureOfOldVersion 0 = .ok (.aload_n 0, 1) := by decide +kernel
theorem dX5_figureOfOldVersion_1 : decode cX5_figureOfOldVersion 1 = .ok (.iload_n 1, 1) := by decide +kernel
theorem dX5_figureOfOldVersion_2 : decode cX5_figureOfOldVersion 2 = .ok (.invokevirtual 56, 3) := by decide +kernel
theorem dX5_figureOfOldVersion_5 : decode cX5_figureOfOldVersion 5 = .ok (.ifCond .ne 5, 3) := by decide +kernel
theorem dX5_figureOfOldVersion_8 : decode cX5_figureOfOldVersion 8 = .ok (.iconst (-1), 1) := by decide +kernel
theorem dX5_figureOfOldVersion_9 : decode cX5_figureOfOldVersion 9 = .ok (.ireturn, 1) := by decide +kernel
theorem dX5_figureOfOldVersion_10 : decode cX5_figureOfOldVersion 10 = .ok (.aload_n 0, 1) := by decide +kernel
theorem dX5_figureOfOldVersion_11 : decode cX5_figureOfOldVersion 11 = .ok (.getfield 11, 3) := by decide +kernel
theorem dX5_figureOfOldVersion_14 : decode cX5_figureOfOldVersion 14 = .ok (.iload_n 1, 1) := by decide +kernel
theorem dX5_figureOfOldVersion_15 : decode cX5_figureOfOldVersion 15 = .ok (.aaload, 1) := by decide +kernel
theorem dX5_figureOfOldVersion_16 : decode cX5_figureOfOldVersion 16 = .ok (.astore 4, 2) := by decide +kernel
theorem dX5_figureOfOldVersion_18 : decode cX5_figureOfOldVersion 18 = .ok (.iload_n 2, 1) := by decide +kernel
theorem dX5_figureOfOldVersion_19 : decode cX5_figureOfOldVersion 19 = .ok (.ifCond .lt 12, 3) := by decide +kernel
theorem dX5_figureOfOldVersion_22 : decode cX5_figureOfOldVersion 22 = .ok (.iload_n 2, 1) := by decide +kernel
theorem dX5_figureOfOldVersion_23 : decode cX5_figureOfOldVersion 23 = .ok (.aload 4, 2) := by decide +kernel
theorem dX5_figureOfOldVersion_25 : decode cX5_figureOfOldVersion 25 = .ok (.getfield 124, 3) := by decide +kernel
theorem dX5_figureOfOldVersion_28 : decode cX5_figureOfOldVersion 28 = .ok (.if_icmp .lt 5, 3) := by decide +kernel
theorem dX5_figureOfOldVersion_31 : decode cX5_figureOfOldVersion 31 = .ok (.iconst (-1), 1) := by decide +kernel
theorem dX5_figureOfOldVersion_32 : decode cX5_figureOfOldVersion 32 = .ok (.ireturn, 1) := by decide +kernel
theorem dX5_figureOfOldVersion_33 : decode cX5_figureOfOldVersion 33 = .ok (.iload_n 2, 1) := by decide +kernel
theorem dX5_figureOfOldVersion_34 : decode cX5_figureOfOldVersion 34 = .ok (.iconst 1, 1) := by decide +kernel
theorem dX5_figureOfOldVersion_35 : decode cX5_figureOfOldVersion 35 = .ok (.iadd, 1) := by decide +kernel
theorem dX5_figureOfOldVersion_36 : decode cX5_figureOfOldVersion 36 = .ok (.istore 5, 2) := by decide +kernel
theorem dX5_figureOfOldVersion_38 : decode cX5_figureOfOldVersion 38 = .ok (.iload_n 3, 1) := by decide +kernel
theorem dX5_figureOfOldVersion_39 : decode cX5_figureOfOldVersion 39 = .ok (.tableswitch 70 0 3 #[29, 38, 50, 62], 29) := by decide +kernel
theorem dX5_figureOfOldVersion_68 : decode cX5_figureOfOldVersion 68 = .ok (.aload 4, 2) := by decide +kernel
theorem dX5_figureOfOldVersion_70 : decode cX5_figureOfOldVersion 70 = .ok (.getfield 59, 3) := by decide +kernel
theorem dX5_figureOfOldVersion_73 : decode cX5_figureOfOldVersion 73 = .ok (.iload 5, 2) := by decide +kernel
theorem dX5_figureOfOldVersion_75 : decode cX5_figureOfOldVersion 75 = .ok (.isub, 1) := by decide +kernel
theorem dX5_figureOfOldVersion_76 : decode cX5_figureOfOldVersion 76 = .ok (.ireturn, 1) := by decide +kernel
theorem dX5_figureOfOldVersion_77 : decode cX5_figureOfOldVersion 77 = .ok (.aload 4, 2) := by decide +kernel
theorem dX5_figureOfOldVersion_79 : decode cX5_figureOfOldVersion 79 = .ok (.getfield 80, 3) := by decide +kernel
theorem dX5_figureOfOldVersion_82 : decode cX5_figureOfOldVersion 82 = .ok (.getfield 87, 3) := by decide +kernel
theorem dX5_figureOfOldVersion_85 : decode cX5_figureOfOldVersion 85 = .ok (.iload 5, 2) := by decide +kernel
theorem dX5_figureOfOldVersion_87 : decode cX5_figureOfOldVersion 87 = .ok (.iaload, 1) := by decide +kernel
theorem dX5_figureOfOldVersion_88 : decode cX5_figureOfOldVersion 88 = .ok (.ireturn, 1) := by decide +kernel
theorem dX5_figureOfOldVersion_89 : decode cX5_figureOfOldVersion 89 = .ok (.aload 4, 2) := by decide +kernel
theorem dX5_figureOfOldVersion_91 : decode cX5_figureOfOldVersion 91 = .ok (.getfield 84, 3) := by decide +kernel
theorem dX5_figureOfOldVersion_94 : decode cX5_figureOfOldVersion 94 = .ok (.getfield 87, 3) := by decide +kernel
theorem dX5_figureOfOldVersion_97 : decode cX5_figureOfOldVersion 97 = .ok (.iload 5, 2) := by decide +kernel
theorem dX5_figureOfOldVersion_99 : decode cX5_figureOfOldVersion 99 = .ok (.iaload, 1) := by decide +kernel
theorem dX5_figureOfOldVersion_100 : decode cX5_figureOfOldVersion 100 = .ok (.ireturn, 1) := by decide +kernel
theorem dX5_figureOfOldVersion_101 : decode cX5_figureOfOldVersion 101 = .ok (.aload 4, 2) := by decide +kernel
theorem dX5_figureOfOldVersion_103 : decode cX5_figureOfOldVersion 103 = .ok (.iload 5, 2) := by decide +kernel
theorem dX5_figureOfOldVersion_105 : decode cX5_figureOfOldVersion 105 = .ok (.invokevirtual 189, 3) := by decide +kernel
theorem dX5_figureOfOldVersion_108 : decode cX5_figureOfOldVersion 108 = .ok (.ireturn, 1) := by decide +kernel
theorem dX5_figureOfOldVersion_109 : decode cX5_figureOfOldVersion 109 = .ok (.bipush (-2), 2) := by decide +kernel
theorem dX5_figureOfOldVersion_111 : decode cX5_figureOfOldVersion 111 = .ok (.ireturn, 1) := by decide +kernel
theorem dX5_figureOfSecret_0 : decode cX5_figureOfSecret 0 = .ok (.aload_n 0, 1) := by decide +kernel
theorem dX5_figureOfSecret_1 : decode cX5_figureOfSecret 1 = .ok (.iload_n 1, 1) := by decide +kernel
theorem dX5_figureOfSecret_2 : decode cX5_figureOfSecret 2 = .ok (.invokevirtual 56, 3) := by decide +kernel
theorem dX5_figureOfSecret_5 : decode cX5_figureOfSecret 5 = .ok (.ifCond .ne 5, 3) := by decide +kernel
theorem dX5_figureOfSecret_8 : decode cX5_figureOfSecret 8 = .ok (.iconst (-1), 1) := by decide +kernel
theorem dX5_figureOfSecret_9 : decode cX5_figureOfSecret 9 = .ok (.ireturn, 1) := by decide +kernel
theorem dX5_figureOfSecret_10 : decode cX5_figureOfSecret 10 = .ok (.aload_n 0, 1) := by decide +kernel
theorem dX5_figureOfSecret_11 : decode cX5_figureOfSecret 11 = .ok (.getfield 11, 3) := by decide +kernel
theorem dX5_figureOfSecret_14 : decode cX5_figureOfSecret 14 = .ok (.iload_n 1, 1) := by decide +kernel
theorem dX5_figureOfSecret_15 : decode cX5_figureOfSecret 15 = .ok (.aaload, 1) := by decide +kernel
theorem dX5_figureOfSecret_16 : decode cX5_figureOfSecret 16 = .ok (.astore_n 3, 1) := by decide +kernel
theorem dX5_figureOfSecret_17 : decode cX5_figureOfSecret 17 = .ok (.iload_n 2, 1) := by decide +kernel
theorem dX5_figureOfSecret_18 : decode cX5_figureOfSecret 18 = .ok (.tableswitch 106 0 7 #[46, 51, 56, 73, 78, 83, 96, 101], 46) := by decide +kernel
theorem dX5_figureOfSecret_64 : decode cX5_figureOfSecret 64 = .ok (.aload_n 3, 1) := by decide +kernel
theorem dX5_figureOfSecret_65 : decode cX5_figureOfSecret 65 = .ok (.getfield 59, 3) := by decide +kernel
theorem dX5_figureOfSecret_68 : decode cX5_figureOfSecret 68 = .ok (.ireturn, 1) := by decide +kernel
theorem dX5_figureOfSecret_69 : decode cX5_figureOfSecret 69 = .ok (.aload_n 3, 1) := by decide +kernel
theorem dX5_figureOfSecret_70 : decode cX5_figureOfSecret 70 = .ok (.getfield 124, 3) := by decide +kernel
theorem dX5_figureOfSecret_73 : decode cX5_figureOfSecret 73 = .ok (.ireturn, 1) := by decide +kernel
theorem dX5_figureOfSecret_74 : decode cX5_figureOfSecret 74 = .ok (.aload_n 3, 1) := by decide +kernel
theorem dX5_figureOfSecret_75 : decode cX5_figureOfSecret 75 = .ok (.getfield 164, 3) := by decide +kernel
theorem dX5_figureOfSecret_78 : decode cX5_figureOfSecret 78 = .ok (.ifCond .le 10, 3) := by decide +kernel
theorem dX5_figureOfSecret_81 : decode cX5_figureOfSecret 81 = .ok (.aload_n 3, 1) := by decide +kernel
theorem dX5_figureOfSecret_82 : decode cX5_figureOfSecret 82 = .ok (.getfield 176, 3) := by decide +kernel
theorem dX5_figureOfSecret_85 : decode cX5_figureOfSecret 85 = .ok (.goto 5, 3) := by decide +kernel
theorem dX5_figureOfSecret_88 : decode cX5_figureOfSecret 88 = .ok (.bipush (-6), 2) := by decide +kernel
theorem dX5_figureOfSecret_90 : decode cX5_figureOfSecret 90 = .ok (.ireturn, 1) := by decide +kernel
theorem dX5_figureOfSecret_91 : decode cX5_figureOfSecret 91 = .ok (.aload_n 3, 1) := by decide +kernel
theorem dX5_figureOfSecret_92 : decode cX5_figureOfSecret 92 = .ok (.getfield 164, 3) := by decide +kernel
theorem dX5_figureOfSecret_95 : decode cX5_figureOfSecret 95 = .ok (.ireturn, 1) := by decide +kernel
theorem dX5_figureOfSecret_96 : decode cX5_figureOfSecret 96 = .ok (.aload_n 3, 1) := by decide +kernel
theorem dX5_figureOfSecret_97 : decode cX5_figureOfSecret 97 = .ok (.getfield 150, 3) := by decide +kernel
theorem dX5_figureOfSecret_100 : decode cX5_figureOfSecret 100 = .ok (.ireturn, 1) := by decide +kernel
theorem dX5_figureOfSecret_101 : decode cX5_figureOfSecret 101 = .ok (.aload_n 3, 1) := by decide +kernel
theorem dX5_figureOfSecret_102 : decode cX5_figureOfSecret 102 = .ok (.getfield 179, 3) := by decide +kernel
theorem dX5_figureOfSecret_105 : decode cX5_figureOfSecret 105 = .ok (.ifCond .eq 7, 3) := by decide +kernel
theorem dX5_figureOfSecret_108 : decode cX5_figureOfSecret 108 = .ok (.iconst 1, 1) := by decide +kernel
theorem dX5_figureOfSecret_109 : decode cX5_figureOfSecret 109 = .ok (.goto 4, 3) := by decide +kernel
theorem dX5_figureOfSecret_112 : decode cX5_figureOfSecret 112 = .ok (.iconst 0, 1) := by decide +kernel
theorem dX5_figureOfSecret_113 : decode cX5_figureOfSecret 113 = .ok (.ireturn, 1) := by decide +kernel
theorem dX5_figureOfSecret_114 : decode cX5_figureOfSecret 114 = .ok (.aload_n 3, 1) := by decide +kernel
theorem dX5_figureOfSecret_115 : decode cX5_figureOfSecret 115 = .ok (.getfield 183, 3) := by decide +kernel
theorem dX5_figureOfSecret_118 : decode cX5_figureOfSecret 118 = .ok (.ireturn, 1) := by decide +kernel
theorem dX5_figureOfSecret_119 : decode cX5_figureOfSecret 119 = .ok (.aload_n 3, 1) := by decide +kernel
theorem dX5_figureOfSecret_120 : decode cX5_figureOfSecret 120 = .ok (.getfield 186, 3) := by decide +kernel
theorem dX5_figureOfSecret_123 : decode cX5_figureOfSecret 123 = .ok (.ireturn, 1) := by decide +kernel
theorem dX5_figureOfSecret_124 : decode cX5_figureOfSecret 124 = .ok (.bipush (-2), 2) := by decide +kernel
theorem dX5_figureOfSecret_126 : decode cX5_figureOfSecret 126 = .ok (.ireturn, 1) := by decide +kernel
theorem dX5_givePartToThief_0 : decode cX5_givePartToThief 0 = .ok (.aload_n 0, 1) := by decide +kernel
theorem dX5_givePartToThief_1 : decode cX5_givePartToThief 1 = .ok (.iload_n 1, 1) := by decide +kernel
theorem dX5_givePartToThief_2 : decode cX5_givePartToThief 2 = .ok (.iload_n 2, 1) := by decide +kernel
theorem dX5_givePartToThief_3 : decode cX5_givePartToThief 3 = .ok (.invokevirtual 127, 3) := by decide +kernel
theorem dX5_givePartToThief_6 : decode cX5_givePartToThief 6 = .ok (.ifCond .ne 5, 3) := by decide +kernel
theorem dX5_givePartToThief_9 : decode cX5_givePartToThief 9 = .ok (.iconst (-1), 1) := by decide +kernel
theorem dX5_givePartToThief_10 : decode cX5_givePartToThief 10 = .ok (.ireturn, 1) := by decide +kernel
theorem dX5_givePartToThief_11 : decode cX5_givePartToThief 11 = .ok (.aload_n 0, 1) := by decide +kernel
theorem dX5_givePartToThief_12 : decode cX5_givePartToThief 12 = .ok (.getfield 11, 3) := by decide +kernel
theorem dX5_givePartToThief_15 : decode cX5_givePartToThief 15 = .ok (.iload_n 2, 1) := by decide +kernel
theorem dX5_givePartToThief_16 : decode cX5_givePartToThief 16 = .ok (.aaload, 1) := by decide +kernel
theorem dX5_givePartToThief_17 : decode cX5_givePartToThief 17 = .ok (.astore 4, 2) := by decide +kernel
theorem dX5_givePartToThief_19 : decode cX5_givePartToThief 19 = .ok (.iload_n 3, 1) := by decide +kernel
theorem dX5_givePartToThief_20 : decode cX5_givePartToThief 20 = .ok (.aload 4, 2) := by decide +kernel
theorem dX5_givePartToThief_22 : decode cX5_givePartToThief 22 = .ok (.getfield 59, 3) := by decide +kernel
theorem dX5_givePartToThief_25 : decode cX5_givePartToThief 25 = .ok (.if_icmp .gt 18, 3) := by decide +kernel
theorem dX5_givePartToThief_28 : decode cX5_givePartToThief 28 = .ok (.iload_n 3, 1) := by decide +kernel
theorem dX5_givePartToThief_29 : decode cX5_givePartToThief 29 = .ok (.aload 4, 2) := by decide +kernel
theorem dX5_givePartToThief_31 : decode cX5_givePartToThief 31 = .ok (.getfield 59, 3) := by decide +kernel
theorem dX5_givePartToThief_34 : decode cX5_givePartToThief 34 = .ok (.aload 4, 2) := by decide +kernel
theorem dX5_givePartToThief_36 : decode cX5_givePartToThief 36 = .ok (.getfield 124, 3) := by decide +kernel
theorem dX5_givePartToThief_39 : decode cX5_givePartToThief 39 = .ok (.isub, 1) := by decide +kernel
theorem dX5_givePartToThief_40 : decode cX5_givePartToThief 40 = .ok (.if_icmp .ge 5, 3) := by decide +kernel
theorem dX5_givePartToThief_43 : decode cX5_givePartToThief 43 = .ok (.iconst (-1), 1) := by decide +kernel
theorem dX5_givePartToThief_44 : decode cX5_givePartToThief 44 = .ok (.ireturn, 1) := by decide +kernel
theorem dX5_givePartToThief_45 : decode cX5_givePartToThief 45 = .ok (.aload 4, 2) := by decide +kernel
theorem dX5_givePartToThief_47 : decode cX5_givePartToThief 47 = .ok (.iload_n 1, 1) := by decide +kernel
theorem dX5_givePartToThief_48 : decode cX5_givePartToThief 48 = .ok (.aload 4, 2) := by decide +kernel
theorem dX5_givePartToThief_50 : decode cX5_givePartToThief 50 = .ok (.getfield 59, 3) := by decide +kernel
theorem dX5_givePartToThief_53 : decode cX5_givePartToThief 53 = .ok (.iload_n 3, 1) := by decide +kernel
theorem dX5_givePartToThief_54 : decode cX5_givePartToThief 54 = .ok (.isub, 1) := by decide +kernel
theorem dX5_givePartToThief_55 : decode cX5_givePartToThief 55 = .ok (.invokevirtual 158, 3) := by decide +kernel
theorem dX5_givePartToThief_58 : decode cX5_givePartToThief 58 = .ok (.ireturn, 1) := by decide +kernel
theorem dX5_hasHalf_0 : decode cX5_hasHalf 0 = .ok (.iload_n 1, 1) := by decide +kernel
theorem dX5_hasHalf_1 : decode cX5_hasHalf 1 = .ok (.invokestatic 52, 3) := by decide +kernel
theorem dX5_hasHalf_4 : decode cX5_hasHalf 4 = .ok (.ifCond .eq 15, 3) := by decide +kernel
theorem dX5_hasHalf_7 : decode cX5_hasHalf 7 = .ok (.aload_n 0, 1) := by decide +kernel
theorem dX5_hasHalf_8 : decode cX5_hasHalf 8 = .ok (.iload_n 2, 1) := by decide +kernel
theorem dX5_hasHalf_9 : decode cX5_hasHalf 9 = .ok (.invokevirtual 56, 3) := by decide +kernel
theorem dX5_hasHalf_12 : decode cX5_hasHalf 12 = .ok (.ifCond .eq 7, 3) := by decide +kernel
theorem dX5_hasHalf_15 : decode cX5_hasHalf 15 = .ok (.iconst 1, 1) := by decide +kernel
theorem dX5_hasHalf_16 : decode cX5_hasHalf 16 = .ok (.goto 4, 3) := by decide +kernel
theorem dX5_hasHalf_19 : decode cX5_hasHalf 19 = .ok (.iconst 0, 1) := by decide +kernel
theorem dX5_hasHalf_20 : decode cX5_hasHalf 20 = .ok (.ireturn, 1) := by decide +kernel
theorem dX5_hasSecret_0 : decode cX5_hasSecret 0 = .ok (.iload_n 1, 1) := by decide +kernel
theorem dX5_hasSecret_1 : decode cX5_hasSecret 1 = .ok (.ifCond .lt 15, 3) := by decide +kernel
theorem dX5_hasSecret_4 : decode cX5_hasSecret 4 = .ok (.iload_n 1, 1) := by decide +kernel
theorem dX5_hasSecret_5 : decode cX5_hasSecret 5 = .ok (.aload_n 0, 1) := by decide +kernel
theorem dX5_hasSecret_6 : decode cX5_hasSecret 6 = .ok (.getfield 34, 3) := by decide +kernel
theorem dX5_hasSecret_9 : decode cX5_hasSecret 9 = .ok (.if_icmp .ge 7, 3) := by decide +kernel
theorem dX5_hasSecret_12 : decode cX5_hasSecret 12 = .ok (.iconst 1, 1) := by decide +kernel
theorem dX5_hasSecret_13 : decode cX5_hasSecret 13 = .ok (.goto 4, 3) := by decide +kernel
theorem dX5_hasSecret_16 : decode cX5_hasSecret 16 = .ok (.iconst 0, 1) := by decide +kernel
theorem dX5_hasSecret_17 : decode cX5_hasSecret 17 = .ok (.ireturn, 1) := by decide +kernel
theorem dX5_init_0 : decode cX5_init 0 = .ok (.aload_n 0, 1) := by decide +kernel
theorem dX5_init_1 : decode cX5_init 1 = .ok (.invokespecial 3, 3) := by decide +kernel
theorem dX5_init_4 : decode cX5_init 4 = .ok (.aload_n 0, 1) := by decide +kernel
theorem dX5_init_5 : decode cX5_init 5 = .ok (.bipush 8, 2) := by decide +kernel
theorem dX5_init_7 : decode cX5_init 7 = .ok (.anewarray 9, 3) := by decide +kernel
theorem dX5_init_10 : decode cX5_init 10 = .ok (.putfield 11, 3) := by decide +kernel
theorem dX5_init_13 : decode cX5_init 13 = .ok (.aload_n 0, 1) := by decide +kernel
theorem dX5_init_14 : decode cX5_init 14 = .ok (.iconst 3, 1) := by decide +kernel
theorem dX5_init_15 : decode cX5_init 15 = .ok (.newarray .int, 2) := by decide +kernel
theorem dX5_init_17 : decode cX5_init 17 = .ok (.dup, 1) := by decide +kernel
theorem dX5_init_18 : decode cX5_init 18 = .ok (.iconst 0, 1) := by decide +kernel
theorem dX5_init_19 : decode cX5_init 19 = .ok (.iconst 1, 1) := by decide +kernel
theorem dX5_init_20 : decode cX5_init 20 = .ok (.iastore, 1) := by decide +kernel
theorem dX5_init_21 : decode cX5_init 21 = .ok (.dup, 1) := by decide +kernel
theorem dX5_init_22 : decode cX5_init 22 = .ok (.iconst 1, 1) := by decide +kernel
theorem dX5_init_23 : decode cX5_init 23 = .ok (.iconst 0, 1) := by decide +kernel
theorem dX5_init_24 : decode cX5_init 24 = .ok (.iastore, 1) := by decide +kernel
theorem dX5_init_25 : decode cX5_init 25 = .ok (.dup, 1) := by decide +kernel
theorem dX5_init_26 : decode cX5_init 26 = .ok (.iconst 2, 1) := by decide +kernel
theorem dX5_init_27 : decode cX5_init 27 = .ok (.iconst 2, 1) := by decide +kernel
theorem dX5_init_28 : decode cX5_init 28 = .ok (.iastore, 1) := by decide +kernel
theorem dX5_init_29 : decode cX5_init 29 = .ok (.putfield 17, 3) := by decide +kernel
theorem dX5_init_32 : decode cX5_init 32 = .ok (.aload_n 0, 1) := by decide +kernel
theorem dX5_init_33 : decode cX5_init 33 = .ok (.iconst 2, 1) := by decide +kernel
theorem dX5_init_34 : decode cX5_init 34 = .ok (.newarray .boolean, 2) := by decide +kernel
theorem dX5_init_36 : decode cX5_init 36 = .ok (.putfield 21, 3) := by decide +kernel
theorem dX5_init_39 : decode cX5_init 39 = .ok (.aload_n 0, 1) := by decide +kernel
theorem dX5_init_40 : decode cX5_init 40 = .ok (.iconst 1, 1) := by decide +kernel
theorem dX5_init_41 : decode cX5_init 41 = .ok (.putfield 25, 3) := by decide +kernel
theorem dX5_init_44 : decode cX5_init 44 = .ok (.iconst 0, 1) := by decide +kernel
theorem dX5_init_45 : decode cX5_init 45 = .ok (.istore_n 1, 1) := by decide +kernel
theorem dX5_init_46 : decode cX5_init 46 = .ok (.iload_n 1, 1) := by decide +kernel
theorem dX5_init_47 : decode cX5_init 47 = .ok (.bipush 8, 2) := by decide +kernel
theorem dX5_init_49 : decode cX5_init 49 = .ok (.if_icmp .ge 22, 3) := by decide +kernel
theorem dX5_init_52 : decode cX5_init 52 = .ok (.aload_n 0, 1) := by decide +kernel
theorem dX5_init_53 : decode cX5_init 53 = .ok (.getfield 11, 3) := by decide +kernel
theorem dX5_init_56 : decode cX5_init 56 = .ok (.iload_n 1, 1) := by decide +kernel
theorem dX5_init_57 : decode cX5_init 57 = .ok (.new 9, 3) := by decide +kernel
theorem dX5_init_60 : decode cX5_init 60 = .ok (.dup, 1) := by decide +kernel
theorem dX5_init_61 : decode cX5_init 61 = .ok (.invokespecial 29, 3) := by decide +kernel
theorem dX5_init_64 : decode cX5_init 64 = .ok (.aastore, 1) := by decide +kernel
theorem dX5_init_65 : decode cX5_init 65 = .ok (.iinc 1 1, 3) := by decide +kernel
theorem dX5_init_68 : decode cX5_init 68 = .ok (.goto (-22), 3) := by decide +kernel
theorem dX5_init_71 : decode cX5_init 71 = .ok (.return_, 1) := by decide +kernel
theorem dX5_makeNextVersion_0 : decode cX5_makeNextVersion 0 = .ok (.aload_n 1, 1) := by decide +kernel
theorem dX5_makeNextVersion_1 : decode cX5_makeNextVersion 1 = .ok (.invokevirtual 115, 3) := by decide +kernel
theorem dX5_makeNextVersion_4 : decode cX5_makeNextVersion 4 = .ok (.istore_n 2, 1) := by decide +kernel
theorem dX5_makeNextVersion_5 : decode cX5_makeNextVersion 5 = .ok (.aload_n 0, 1) := by decide +kernel
theorem dX5_makeNextVersion_6 : decode cX5_makeNextVersion 6 = .ok (.dup, 1) := by decide +kernel
theorem dX5_makeNextVersion_7 : decode cX5_makeNextVersion 7 = .ok (.getfield 43, 3) := by decide +kernel
theorem dX5_makeNextVersion_10 : decode cX5_makeNextVersion 10 = .ok (.aload_n 1, 1) := by decide +kernel
theorem dX5_makeNextVersion_11 : decode cX5_makeNextVersion 11 = .ok (.aload_n 0, 1) := by decide +kernel
theorem dX5_makeNextVersion_12 : decode cX5_makeNextVersion 12 = .ok (.getfield 17, 3) := by decide +kernel
theorem dX5_makeNextVersion_15 : decode cX5_makeNextVersion 15 = .ok (.iconst 2, 1) := by decide +kernel
theorem dX5_makeNextVersion_16 : decode cX5_makeNextVersion 16 = .ok (.iaload, 1) := by decide +kernel
theorem dX5_makeNextVersion_17 : decode cX5_makeNextVersion 17 = .ok (.invokevirtual 118, 3) := by decide +kernel
theorem dX5_makeNextVersion_20 : decode cX5_makeNextVersion 20 = .ok (.iadd, 1) := by decide +kernel
theorem dX5_makeNextVersion_21 : decode cX5_makeNextVersion 21 = .ok (.putfield 43, 3) := by decide +kernel
theorem dX5_makeNextVersion_24 : decode cX5_makeNextVersion 24 = .ok (.aload_n 0, 1) := by decide +kernel
theorem dX5_makeNextVersion_25 : decode cX5_makeNextVersion 25 = .ok (.aload_n 1, 1) := by decide +kernel
theorem dX5_makeNextVersion_26 : decode cX5_makeNextVersion 26 = .ok (.iload_n 2, 1) := by decide +kernel
theorem dX5_makeNextVersion_27 : decode cX5_makeNextVersion 27 = .ok (.invokevirtual 76, 3) := by decide +kernel
theorem dX5_makeNextVersion_30 : decode cX5_makeNextVersion 30 = .ok (.return_, 1) := by decide +kernel
theorem dX5_makeVersion_0 : decode cX5_makeVersion 0 = .ok (.aload_n 1, 1) := by decide +kernel
theorem dX5_makeVersion_1 : decode cX5_makeVersion 1 = .ok (.getfield 80, 3) := by decide +kernel
theorem dX5_makeVersion_4 : decode cX5_makeVersion 4 = .ok (.astore_n 3, 1) := by decide +kernel
theorem dX5_makeVersion_5 : decode cX5_makeVersion 5 = .ok (.aload_n 1, 1) := by decide +kernel
theorem dX5_makeVersion_6 : decode cX5_makeVersion 6 = .ok (.getfield 84, 3) := by decide +kernel
theorem dX5_makeVersion_9 : decode cX5_makeVersion 9 = .ok (.astore 4, 2) := by decide +kernel
theorem dX5_makeVersion_11 : decode cX5_makeVersion 11 = .ok (.aload_n 3, 1) := by decide +kernel
theorem dX5_makeVersion_12 : decode cX5_makeVersion 12 = .ok (.getfield 87, 3) := by decide +kernel
theorem dX5_makeVersion_15 : decode cX5_makeVersion 15 = .ok (.iconst 0, 1) := by decide +kernel
theorem dX5_makeVersion_16 : decode cX5_makeVersion 16 = .ok (.aload_n 0, 1) := by decide +kernel
theorem dX5_makeVersion_17 : decode cX5_makeVersion 17 = .ok (.invokevirtual 92, 3) := by decide +kernel
theorem dX5_makeVersion_20 : decode cX5_makeVersion 20 = .ok (.sipush 256, 3) := by decide +kernel
theorem dX5_makeVersion_23 : decode cX5_makeVersion 23 = .ok (.irem, 1) := by decide +kernel
theorem dX5_makeVersion_24 : decode cX5_makeVersion 24 = .ok (.iastore, 1) := by decide +kernel
theorem dX5_makeVersion_25 : decode cX5_makeVersion 25 = .ok (.aload 4, 2) := by decide +kernel
theorem dX5_makeVersion_27 : decode cX5_makeVersion 27 = .ok (.getfield 87, 3) := by decide +kernel
theorem dX5_makeVersion_30 : decode cX5_makeVersion 30 = .ok (.iconst 0, 1) := by decide +kernel
theorem dX5_makeVersion_31 : decode cX5_makeVersion 31 = .ok (.iload_n 2, 1) := by decide +kernel
theorem dX5_makeVersion_32 : decode cX5_makeVersion 32 = .ok (.aload_n 3, 1) := by decide +kernel
theorem dX5_makeVersion_33 : decode cX5_makeVersion 33 = .ok (.getfield 87, 3) := by decide +kernel
theorem dX5_makeVersion_36 : decode cX5_makeVersion 36 = .ok (.iconst 0, 1) := by decide +kernel
theorem dX5_makeVersion_37 : decode cX5_makeVersion 37 = .ok (.iaload, 1) := by decide +kernel
theorem dX5_makeVersion_38 : decode cX5_makeVersion 38 = .ok (.isub, 1) := by decide +kernel
theorem dX5_makeVersion_39 : decode cX5_makeVersion 39 = .ok (.sipush 256, 3) := by decide +kernel
theorem dX5_makeVersion_42 : decode cX5_makeVersion 42 = .ok (.invokestatic 96, 3) := by decide +kernel
theorem dX5_makeVersion_45 : decode cX5_makeVersion 45 = .ok (.iastore, 1) := by decide +kernel
theorem dX5_makeVersion_46 : decode cX5_makeVersion 46 = .ok (.aload 4, 2) := by decide +kernel
theorem dX5_makeVersion_48 : decode cX5_makeVersion 48 = .ok (.aload_n 0, 1) := by decide +kernel
theorem dX5_makeVersion_49 : decode cX5_makeVersion 49 = .ok (.invokevirtual 92, 3) := by decide +kernel
theorem dX5_makeVersion_52 : decode cX5_makeVersion 52 = .ok (.sipush 256, 3) := by decide +kernel
theorem dX5_makeVersion_55 : decode cX5_makeVersion 55 = .ok (.irem, 1) := by decide +kernel
theorem dX5_makeVersion_56 : decode cX5_makeVersion 56 = .ok (.iconst 1, 1) := by decide +kernel
theorem dX5_makeVersion_57 : decode cX5_makeVersion 57 = .ok (.iadd, 1) := by decide +kernel
theorem dX5_makeVersion_58 : decode cX5_makeVersion 58 = .ok (.putfield 102, 3) := by decide +kernel
theorem dX5_makeVersion_61 : decode cX5_makeVersion 61 = .ok (.aload 4, 2) := by decide +kernel
theorem dX5_makeVersion_63 : decode cX5_makeVersion 63 = .ok (.aload_n 0, 1) := by decide +kernel
theorem dX5_makeVersion_64 : decode cX5_makeVersion 64 = .ok (.invokevirtual 92, 3) := by decide +kernel
theorem dX5_makeVersion_67 : decode cX5_makeVersion 67 = .ok (.sipush 257, 3) := by decide +kernel
theorem dX5_makeVersion_70 : decode cX5_makeVersion 70 = .ok (.irem, 1) := by decide +kernel
theorem dX5_makeVersion_71 : decode cX5_makeVersion 71 = .ok (.putfield 105, 3) := by decide +kernel
theorem dX5_makeVersion_74 : decode cX5_makeVersion 74 = .ok (.aload_n 3, 1) := by decide +kernel
theorem dX5_makeVersion_75 : decode cX5_makeVersion 75 = .ok (.aload_n 0, 1) := by decide +kernel
theorem dX5_makeVersion_76 : decode cX5_makeVersion 76 = .ok (.invokevirtual 92, 3) := by decide +kernel
theorem dX5_makeVersion_79 : decode cX5_makeVersion 79 = .ok (.sipush 256, 3) := by decide +kernel
theorem dX5_makeVersion_82 : decode cX5_makeVersion 82 = .ok (.irem, 1) := by decide +kernel
theorem dX5_makeVersion_83 : decode cX5_makeVersion 83 = .ok (.iconst 1, 1) := by decide +kernel
theorem dX5_makeVersion_84 : decode cX5_makeVersion 84 = .ok (.iadd, 1) := by decide +kernel
theorem dX5_makeVersion_85 : decode cX5_makeVersion 85 = .ok (.putfield 102, 3) := by decide +kernel
theorem dX5_makeVersion_88 : decode cX5_makeVersion 88 = .ok (.aload_n 3, 1) := by decide +kernel
theorem dX5_makeVersion_89 : decode cX5_makeVersion 89 = .ok (.aload_n 0, 1) := by decide +kernel
theorem dX5_makeVersion_90 : decode cX5_makeVersion 90 = .ok (.invokevirtual 92, 3) := by decide +kernel
theorem dX5_makeVersion_93 : decode cX5_makeVersion 93 = .ok (.sipush 257, 3) := by decide +kernel
theorem dX5_makeVersion_96 : decode cX5_makeVersion 96 = .ok (.irem, 1) := by decide +kernel
theorem dX5_makeVersion_97 : decode cX5_makeVersion 97 = .ok (.putfield 105, 3) := by decide +kernel
theorem dX5_makeVersion_100 : decode cX5_makeVersion 100 = .ok (.aload_n 3, 1) := by decide +kernel
theorem dX5_makeVersion_101 : decode cX5_makeVersion 101 = .ok (.aload 4, 2) := by decide +kernel
theorem dX5_makeVersion_103 : decode cX5_makeVersion 103 = .ok (.aload_n 3, 1) := by decide +kernel
theorem dX5_makeVersion_104 : decode cX5_makeVersion 104 = .ok (.getfield 87, 3) := by decide +kernel
theorem dX5_makeVersion_107 : decode cX5_makeVersion 107 = .ok (.iconst 0, 1) := by decide +kernel
theorem dX5_makeVersion_108 : decode cX5_makeVersion 108 = .ok (.iaload, 1) := by decide +kernel
theorem dX5_makeVersion_109 : decode cX5_makeVersion 109 = .ok (.invokevirtual 108, 3) := by decide +kernel
theorem dX5_makeVersion_112 : decode cX5_makeVersion 112 = .ok (.putfield 112, 3) := by decide +kernel
theorem dX5_makeVersion_115 : decode cX5_makeVersion 115 = .ok (.aload 4, 2) := by decide +kernel
theorem dX5_makeVersion_117 : decode cX5_makeVersion 117 = .ok (.aload_n 3, 1) := by decide +kernel
theorem dX5_makeVersion_118 : decode cX5_makeVersion 118 = .ok (.aload 4, 2) := by decide +kernel
theorem dX5_makeVersion_120 : decode cX5_makeVersion 120 = .ok (.getfield 87, 3) := by decide +kernel
theorem dX5_makeVersion_123 : decode cX5_makeVersion 123 = .ok (.iconst 0, 1) := by decide +kernel
theorem dX5_makeVersion_124 : decode cX5_makeVersion 124 = .ok (.iaload, 1) := by decide +kernel
theorem dX5_makeVersion_125 : decode cX5_makeVersion 125 = .ok (.invokevirtual 108, 3) := by decide +kernel
theorem dX5_makeVersion_128 : decode cX5_makeVersion 128 = .ok (.putfield 112, 3) := by decide +kernel
theorem dX5_makeVersion_131 : decode cX5_makeVersion 131 = .ok (.aload_n 1, 1) := by decide +kernel
theorem dX5_makeVersion_132 : decode cX5_makeVersion 132 = .ok (.dup, 1) := by decide +kernel
theorem dX5_makeVersion_133 : decode cX5_makeVersion 133 = .ok (.getfield 59, 3) := by decide +kernel
theorem dX5_makeVersion_136 : decode cX5_makeVersion 136 = .ok (.iconst 1, 1) := by decide +kernel
theorem dX5_makeVersion_137 : decode cX5_makeVersion 137 = .ok (.iadd, 1) := by decide +kernel
theorem dX5_makeVersion_138 : decode cX5_makeVersion 138 = .ok (.putfield 59, 3) := by decide +kernel
theorem dX5_makeVersion_141 : decode cX5_makeVersion 141 = .ok (.aload_n 0, 1) := by decide +kernel
theorem dX5_makeVersion_142 : decode cX5_makeVersion 142 = .ok (.dup, 1) := by decide +kernel
theorem dX5_makeVersion_143 : decode cX5_makeVersion 143 = .ok (.getfield 40, 3) := by decide +kernel
theorem dX5_makeVersion_146 : decode cX5_makeVersion 146 = .ok (.iconst 1, 1) := by decide +kernel
theorem dX5_makeVersion_147 : decode cX5_makeVersion 147 = .ok (.iadd, 1) := by decide +kernel
theorem dX5_makeVersion_148 : decode cX5_makeVersion 148 = .ok (.putfield 40, 3) := by decide +kernel
theorem dX5_makeVersion_151 : decode cX5_makeVersion 151 = .ok (.return_, 1) := by decide +kernel
theorem dX5_mergeParts_0 : decode cX5_mergeParts 0 = .ok (.aload_n 0, 1) := by decide +kernel
theorem dX5_mergeParts_1 : decode cX5_mergeParts 1 = .ok (.iload_n 1, 1) := by decide +kernel
theorem dX5_mergeParts_2 : decode cX5_mergeParts 2 = .ok (.invokevirtual 147, 3) := by decide +kernel
theorem dX5_mergeParts_5 : decode cX5_mergeParts 5 = .ok (.istore_n 2, 1) := by decide +kernel
theorem dX5_mergeParts_6 : decode cX5_mergeParts 6 = .ok (.iload_n 2, 1) := by decide +kernel
theorem dX5_mergeParts_7 : decode cX5_mergeParts 7 = .ok (.ifCond .ge 5, 3) := by decide +kernel
theorem dX5_mergeParts_10 : decode cX5_mergeParts 10 = .ok (.iload_n 2, 1) := by decide +kernel
theorem dX5_mergeParts_11 : decode cX5_mergeParts 11 = .ok (.ireturn, 1) := by decide +kernel
theorem dX5_mergeParts_12 : decode cX5_mergeParts 12 = .ok (.aload_n 0, 1) := by decide +kernel
theorem dX5_mergeParts_13 : decode cX5_mergeParts 13 = .ok (.getfield 11, 3) := by decide +kernel
theorem dX5_mergeParts_16 : decode cX5_mergeParts 16 = .ok (.iload_n 1, 1) := by decide +kernel
theorem dX5_mergeParts_17 : decode cX5_mergeParts 17 = .ok (.aaload, 1) := by decide +kernel
theorem dX5_mergeParts_18 : decode cX5_mergeParts 18 = .ok (.astore_n 3, 1) := by decide +kernel
theorem dX5_mergeParts_19 : decode cX5_mergeParts 19 = .ok (.iload_n 2, 1) := by decide +kernel
theorem dX5_mergeParts_20 : decode cX5_mergeParts 20 = .ok (.sipush 1000, 3) := by decide +kernel
theorem dX5_mergeParts_23 : decode cX5_mergeParts 23 = .ok (.if_icmp .lt 25, 3) := by decide +kernel
theorem dX5_mergeParts_26 : decode cX5_mergeParts 26 = .ok (.aload_n 3, 1) := by decide +kernel
theorem dX5_mergeParts_27 : decode cX5_mergeParts 27 = .ok (.dup, 1) := by decide +kernel
theorem dX5_mergeParts_28 : decode cX5_mergeParts 28 = .ok (.getfield 150, 3) := by decide +kernel
theorem dX5_mergeParts_31 : decode cX5_mergeParts 31 = .ok (.iconst 1, 1) := by decide +kernel
theorem dX5_mergeParts_32 : decode cX5_mergeParts 32 = .ok (.iadd, 1) := by decide +kernel
theorem dX5_mergeParts_33 : decode cX5_mergeParts 33 = .ok (.putfield 150, 3) := by decide +kernel
theorem dX5_mergeParts_36 : decode cX5_mergeParts 36 = .ok (.aload_n 0, 1) := by decide +kernel
theorem dX5_mergeParts_37 : decode cX5_mergeParts 37 = .ok (.dup, 1) := by decide +kernel
theorem dX5_mergeParts_38 : decode cX5_mergeParts 38 = .ok (.getfield 46, 3) := by decide +kernel
theorem dX5_mergeParts_41 : decode cX5_mergeParts 41 = .ok (.iconst 1, 1) := by decide +kernel
theorem dX5_mergeParts_42 : decode cX5_mergeParts 42 = .ok (.iadd, 1) := by decide +kernel
theorem dX5_mergeParts_43 : decode cX5_mergeParts 43 = .ok (.putfield 46, 3) := by decide +kernel
theorem dX5_mergeParts_46 : decode cX5_mergeParts 46 = .ok (.iload_n 2, 1) := by decide +kernel
theorem dX5_mergeParts_47 : decode cX5_mergeParts 47 = .ok (.ireturn, 1) := by decide +kernel
theorem dX5_mergeParts_48 : decode cX5_mergeParts 48 = .ok (.aload_n 3, 1) := by decide +kernel
theorem dX5_mergeParts_49 : decode cX5_mergeParts 49 = .ok (.iload_n 2, 1) := by decide +kernel
theorem dX5_mergeParts_50 : decode cX5_mergeParts 50 = .ok (.aload_n 0, 1) := by decide +kernel
theorem dX5_mergeParts_51 : decode cX5_mergeParts 51 = .ok (.getfield 17, 3) := by decide +kernel
theorem dX5_mergeParts_54 : decode cX5_mergeParts 54 = .ok (.iconst 0, 1) := by decide +kernel
theorem dX5_mergeParts_55 : decode cX5_mergeParts 55 = .ok (.iaload, 1) := by decide +kernel
theorem dX5_mergeParts_56 : decode cX5_mergeParts 56 = .ok (.invokevirtual 151, 3) := by decide +kernel
theorem dX5_mergeParts_59 : decode cX5_mergeParts 59 = .ok (.aload_n 3, 1) := by decide +kernel
theorem dX5_mergeParts_60 : decode cX5_mergeParts 60 = .ok (.getfield 80, 3) := by decide +kernel
theorem dX5_mergeParts_63 : decode cX5_mergeParts 63 = .ok (.invokevirtual 155, 3) := by decide +kernel
theorem dX5_mergeParts_66 : decode cX5_mergeParts 66 = .ok (.ifCond .ne 13, 3) := by decide +kernel
theorem dX5_mergeParts_69 : decode cX5_mergeParts 69 = .ok (.aload_n 3, 1) := by decide +kernel
theorem dX5_mergeParts_70 : decode cX5_mergeParts 70 = .ok (.getfield 84, 3) := by decide +kernel
theorem dX5_mergeParts_73 : decode cX5_mergeParts 73 = .ok (.invokevirtual 155, 3) := by decide +kernel
theorem dX5_mergeParts_76 : decode cX5_mergeParts 76 = .ok (.ifCond .eq 13, 3) := by decide +kernel
theorem dX5_mergeParts_79 : decode cX5_mergeParts 79 = .ok (.aload_n 0, 1) := by decide +kernel
theorem dX5_mergeParts_80 : decode cX5_mergeParts 80 = .ok (.dup, 1) := by decide +kernel
theorem dX5_mergeParts_81 : decode cX5_mergeParts 81 = .ok (.getfield 49, 3) := by decide +kernel
theorem dX5_mergeParts_84 : decode cX5_mergeParts 84 = .ok (.iconst 1, 1) := by decide +kernel
theorem dX5_mergeParts_85 : decode cX5_mergeParts 85 = .ok (.iadd, 1) := by decide +kernel
theorem dX5_mergeParts_86 : decode cX5_mergeParts 86 = .ok (.putfield 49, 3) := by decide +kernel
theorem dX5_mergeParts_89 : decode cX5_mergeParts 89 = .ok (.iload_n 2, 1) := by decide +kernel
theorem dX5_mergeParts_90 : decode cX5_mergeParts 90 = .ok (.ireturn, 1) := by decide +kernel
theorem dX5_offsetsThatPass_0 : decode cX5_offsetsThatPass 0 = .ok (.aload_n 0, 1) := by decide +kernel
theorem dX5_offsetsThatPass_1 : decode cX5_offsetsThatPass 1 = .ok (.iload_n 1, 1) := by decide +kernel
theorem dX5_offsetsThatPass_2 : decode cX5_offsetsThatPass 2 = .ok (.iload_n 2, 1) := by decide +kernel
theorem dX5_offsetsThatPass_3 : decode cX5_offsetsThatPass 3 = .ok (.invokevirtual 127, 3) := by decide +kernel
theorem dX5_offsetsThatPass_6 : decode cX5_offsetsThatPass 6 = .ok (.ifCond .ne 5, 3) := by decide +kernel
theorem dX5_offsetsThatPass_9 : decode cX5_offsetsThatPass 9 = .ok (.iconst (-1), 1) := by decide +kernel
theorem dX5_offsetsThatPass_10 : decode cX5_offsetsThatPass 10 = .ok (.ireturn, 1) := by decide +kernel
theorem dX5_offsetsThatPass_11 : decode cX5_offsetsThatPass 11 = .ok (.iload_n 3, 1) := by decide +kernel
theorem dX5_offsetsThatPass_12 : decode cX5_offsetsThatPass 12 = .ok (.invokestatic 131, 3) := by decide +kernel
theorem dX5_offsetsThatPass_15 : decode cX5_offsetsThatPass 15 = .ok (.ifCond .ne 6, 3) := by decide +kernel
theorem dX5_offsetsThatPass_18 : decode cX5_offsetsThatPass 18 = .ok (.bipush (-2), 2) := by decide +kernel
theorem dX5_offsetsThatPass_20 : decode cX5_offsetsThatPass 20 = .ok (.ireturn, 1) := by decide +kernel
theorem dX5_offsetsThatPass_21 : decode cX5_offsetsThatPass 21 = .ok (.iconst 0, 1) := by decide +kernel
theorem dX5_offsetsThatPass_22 : decode cX5_offsetsThatPass 22 = .ok (.istore 4, 2) := by decide +kernel
theorem dX5_offsetsThatPass_24 : decode cX5_offsetsThatPass 24 = .ok (.iconst 1, 1) := by decide +kernel
theorem dX5_offsetsThatPass_25 : decode cX5_offsetsThatPass 25 = .ok (.istore 5, 2) := by decide +kernel
theorem dX5_offsetsThatPass_27 : decode cX5_offsetsThatPass 27 = .ok (.iload 5, 2) := by decide +kernel
theorem dX5_offsetsThatPass_29 : decode cX5_offsetsThatPass 29 = .ok (.sipush 256, 3) := by decide +kernel
theorem dX5_offsetsThatPass_32 : decode cX5_offsetsThatPass 32 = .ok (.if_icmp .ge 24, 3) := by decide +kernel
theorem dX5_offsetsThatPass_35 : decode cX5_offsetsThatPass 35 = .ok (.aload_n 0, 1) := by decide +kernel
theorem dX5_offsetsThatPass_36 : decode cX5_offsetsThatPass 36 = .ok (.iload_n 1, 1) := by decide +kernel
theorem dX5_offsetsThatPass_37 : decode cX5_offsetsThatPass 37 = .ok (.iload_n 2, 1) := by decide +kernel
theorem dX5_offsetsThatPass_38 : decode cX5_offsetsThatPass 38 = .ok (.iload 5, 2) := by decide +kernel
theorem dX5_offsetsThatPass_40 : decode cX5_offsetsThatPass 40 = .ok (.invokevirtual 204, 3) := by decide +kernel
theorem dX5_offsetsThatPass_43 : decode cX5_offsetsThatPass 43 = .ok (.iload_n 3, 1) := by decide +kernel
theorem dX5_offsetsThatPass_44 : decode cX5_offsetsThatPass 44 = .ok (.if_icmp .ne 6, 3) := by decide +kernel
theorem dX5_offsetsThatPass_47 : decode cX5_offsetsThatPass 47 = .ok (.iinc 4 1, 3) := by decide +kernel
theorem dX5_offsetsThatPass_50 : decode cX5_offsetsThatPass 50 = .ok (.iinc 5 1, 3) := by decide +kernel
theorem dX5_offsetsThatPass_53 : decode cX5_offsetsThatPass 53 = .ok (.goto (-26), 3) := by decide +kernel
theorem dX5_offsetsThatPass_56 : decode cX5_offsetsThatPass 56 = .ok (.iload 4, 2) := by decide +kernel
theorem dX5_offsetsThatPass_58 : decode cX5_offsetsThatPass 58 = .ok (.ireturn, 1) := by decide +kernel
theorem dX5_otherPartFor_0 : decode cX5_otherPartFor 0 = .ok (.aload_n 0, 1) := by decide +kernel
theorem dX5_otherPartFor_1 : decode cX5_otherPartFor 1 = .ok (.iload_n 1, 1) := by decide +kernel
theorem dX5_otherPartFor_2 : decode cX5_otherPartFor 2 = .ok (.iload_n 2, 1) := by decide +kernel
theorem dX5_otherPartFor_3 : decode cX5_otherPartFor 3 = .ok (.invokevirtual 127, 3) := by decide +kernel
theorem dX5_otherPartFor_6 : decode cX5_otherPartFor 6 = .ok (.ifCond .ne 5, 3) := by decide +kernel
theorem dX5_otherPartFor_9 : decode cX5_otherPartFor 9 = .ok (.iconst (-1), 1) := by decide +kernel
theorem dX5_otherPartFor_10 : decode cX5_otherPartFor 10 = .ok (.ireturn, 1) := by decide +kernel
theorem dX5_otherPartFor_11 : decode cX5_otherPartFor 11 = .ok (.iload_n 3, 1) := by decide +kernel
theorem dX5_otherPartFor_12 : decode cX5_otherPartFor 12 = .ok (.invokestatic 69, 3) := by decide +kernel
theorem dX5_otherPartFor_15 : decode cX5_otherPartFor 15 = .ok (.ifCond .ne 6, 3) := by decide +kernel
theorem dX5_otherPartFor_18 : decode cX5_otherPartFor 18 = .ok (.bipush (-2), 2) := by decide +kernel
theorem dX5_otherPartFor_20 : decode cX5_otherPartFor 20 = .ok (.ireturn, 1) := by decide +kernel
theorem dX5_otherPartFor_21 : decode cX5_otherPartFor 21 = .ok (.iload_n 3, 1) := by decide +kernel
theorem dX5_otherPartFor_22 : decode cX5_otherPartFor 22 = .ok (.aload_n 0, 1) := by decide +kernel
theorem dX5_otherPartFor_23 : decode cX5_otherPartFor 23 = .ok (.getfield 11, 3) := by decide +kernel
theorem dX5_otherPartFor_26 : decode cX5_otherPartFor 26 = .ok (.iload_n 2, 1) := by decide +kernel
theorem dX5_otherPartFor_27 : decode cX5_otherPartFor 27 = .ok (.aaload, 1) := by decide +kernel
theorem dX5_otherPartFor_28 : decode cX5_otherPartFor 28 = .ok (.iload_n 1, 1) := by decide +kernel
theorem dX5_otherPartFor_29 : decode cX5_otherPartFor 29 = .ok (.invokevirtual 134, 3) := by decide +kernel
theorem dX5_otherPartFor_32 : decode cX5_otherPartFor 32 = .ok (.getfield 87, 3) := by decide +kernel
theorem dX5_otherPartFor_35 : decode cX5_otherPartFor 35 = .ok (.iconst 0, 1) := by decide +kernel
theorem dX5_otherPartFor_36 : decode cX5_otherPartFor 36 = .ok (.iaload, 1) := by decide +kernel
theorem dX5_otherPartFor_37 : decode cX5_otherPartFor 37 = .ok (.isub, 1) := by decide +kernel
theorem dX5_otherPartFor_38 : decode cX5_otherPartFor 38 = .ok (.sipush 256, 3) := by decide +kernel
theorem dX5_otherPartFor_41 : decode cX5_otherPartFor 41 = .ok (.invokestatic 96, 3) := by decide +kernel
theorem dX5_otherPartFor_44 : decode cX5_otherPartFor 44 = .ok (.ireturn, 1) := by decide +kernel
theorem dX5_partsNeeded_0 : decode cX5_partsNeeded 0 = .ok (.aload_n 0, 1) := by decide +kernel
theorem dX5_partsNeeded_1 : decode cX5_partsNeeded 1 = .ok (.iload_n 1, 1) := by decide +kernel
theorem dX5_partsNeeded_2 : decode cX5_partsNeeded 2 = .ok (.invokevirtual 56, 3) := by decide +kernel
theorem dX5_partsNeeded_5 : decode cX5_partsNeeded 5 = .ok (.ifCond .ne 5, 3) := by decide +kernel
theorem dX5_partsNeeded_8 : decode cX5_partsNeeded 8 = .ok (.iconst (-1), 1) := by decide +kernel
theorem dX5_partsNeeded_9 : decode cX5_partsNeeded 9 = .ok (.ireturn, 1) := by decide +kernel
theorem dX5_partsNeeded_10 : decode cX5_partsNeeded 10 = .ok (.aload_n 0, 1) := by decide +kernel
theorem dX5_partsNeeded_11 : decode cX5_partsNeeded 11 = .ok (.getfield 11, 3) := by decide +kernel
theorem dX5_partsNeeded_14 : decode cX5_partsNeeded 14 = .ok (.iload_n 1, 1) := by decide +kernel
theorem dX5_partsNeeded_15 : decode cX5_partsNeeded 15 = .ok (.aaload, 1) := by decide +kernel
theorem dX5_partsNeeded_16 : decode cX5_partsNeeded 16 = .ok (.getfield 179, 3) := by decide +kernel
theorem dX5_partsNeeded_19 : decode cX5_partsNeeded 19 = .ok (.ifCond .eq 5, 3) := by decide +kernel
theorem dX5_partsNeeded_22 : decode cX5_partsNeeded 22 = .ok (.iconst 0, 1) := by decide +kernel
theorem dX5_partsNeeded_23 : decode cX5_partsNeeded 23 = .ok (.ireturn, 1) := by decide +kernel
theorem dX5_partsNeeded_24 : decode cX5_partsNeeded 24 = .ok (.aload_n 0, 1) := by decide +kernel
theorem dX5_partsNeeded_25 : decode cX5_partsNeeded 25 = .ok (.getfield 11, 3) := by decide +kernel
theorem dX5_partsNeeded_28 : decode cX5_partsNeeded 28 = .ok (.iload_n 1, 1) := by decide +kernel
theorem dX5_partsNeeded_29 : decode cX5_partsNeeded 29 = .ok (.aaload, 1) := by decide +kernel
theorem dX5_partsNeeded_30 : decode cX5_partsNeeded 30 = .ok (.invokevirtual 208, 3) := by decide +kernel
theorem dX5_partsNeeded_33 : decode cX5_partsNeeded 33 = .ok (.ifCond .le 7, 3) := by decide +kernel
theorem dX5_partsNeeded_36 : decode cX5_partsNeeded 36 = .ok (.iconst 1, 1) := by decide +kernel
theorem dX5_partsNeeded_37 : decode cX5_partsNeeded 37 = .ok (.goto 4, 3) := by decide +kernel
theorem dX5_partsNeeded_40 : decode cX5_partsNeeded 40 = .ok (.iconst 2, 1) := by decide +kernel
theorem dX5_partsNeeded_41 : decode cX5_partsNeeded 41 = .ok (.ireturn, 1) := by decide +kernel
theorem dX5_passBeats_0 : decode cX5_passBeats 0 = .ok (.iload_n 1, 1) := by decide +kernel
theorem dX5_passBeats_1 : decode cX5_passBeats 1 = .ok (.iconst 1, 1) := by decide +kernel
theorem dX5_passBeats_2 : decode cX5_passBeats 2 = .ok (.if_icmp .lt 9, 3) := by decide +kernel
theorem dX5_passBeats_5 : decode cX5_passBeats 5 = .ok (.iload_n 1, 1) := by decide +kernel
theorem dX5_passBeats_6 : decode cX5_passBeats 6 = .ok (.bipush 99, 2) := by decide +kernel
theorem dX5_passBeats_8 : decode cX5_passBeats 8 = .ok (.if_icmp .le 6, 3) := by decide +kernel
theorem dX5_passBeats_11 : decode cX5_passBeats 11 = .ok (.bipush (-2), 2) := by decide +kernel
theorem dX5_passBeats_13 : decode cX5_passBeats 13 = .ok (.ireturn, 1) := by decide +kernel
theorem dX5_passBeats_14 : decode cX5_passBeats 14 = .ok (.aload_n 0, 1) := by decide +kernel
theorem dX5_passBeats_15 : decode cX5_passBeats 15 = .ok (.getfield 37, 3) := by decide +kernel
theorem dX5_passBeats_18 : decode cX5_passBeats 18 = .ok (.iload_n 1, 1) := by decide +kernel
theorem dX5_passBeats_19 : decode cX5_passBeats 19 = .ok (.iadd, 1) := by decide +kernel
theorem dX5_passBeats_20 : decode cX5_passBeats 20 = .ok (.sipush 9999, 3) := by decide +kernel
theorem dX5_passBeats_23 : decode cX5_passBeats 23 = .ok (.if_icmp .le 6, 3) := by decide +kernel
theorem dX5_passBeats_26 : decode cX5_passBeats 26 = .ok (.bipush (-5), 2) := by decide +kernel
theorem dX5_passBeats_28 : decode cX5_passBeats 28 = .ok (.ireturn, 1) := by decide +kernel
theorem dX5_passBeats_29 : decode cX5_passBeats 29 = .ok (.aload_n 0, 1) := by decide +kernel
theorem dX5_passBeats_30 : decode cX5_passBeats 30 = .ok (.getfield 40, 3) := by decide +kernel
theorem dX5_passBeats_33 : decode cX5_passBeats 33 = .ok (.istore_n 2, 1) := by decide +kernel
theorem dX5_passBeats_34 : decode cX5_passBeats 34 = .ok (.iconst 0, 1) := by decide +kernel
theorem dX5_passBeats_35 : decode cX5_passBeats 35 = .ok (.istore_n 3, 1) := by decide +kernel
theorem dX5_passBeats_36 : decode cX5_passBeats 36 = .ok (.iload_n 3, 1) := by decide +kernel
theorem dX5_passBeats_37 : decode cX5_passBeats 37 = .ok (.iload_n 1, 1) := by decide +kernel
theorem dX5_passBeats_38 : decode cX5_passBeats 38 = .ok (.if_icmp .ge 13, 3) := by decide +kernel
theorem dX5_passBeats_41 : decode cX5_passBeats 41 = .ok (.aload_n 0, 1) := by decide +kernel
theorem dX5_passBeats_42 : decode cX5_passBeats 42 = .ok (.invokevirtual 161, 3) := by decide +kernel
theorem dX5_passBeats_45 : decode cX5_passBeats 45 = .ok (.iinc 3 1, 3) := by decide +kernel
theorem dX5_passBeats_48 : decode cX5_passBeats 48 = .ok (.goto (-12), 3) := by decide +kernel
theorem dX5_passBeats_51 : decode cX5_passBeats 51 = .ok (.aload_n 0, 1) := by decide +kernel
theorem dX5_passBeats_52 : decode cX5_passBeats 52 = .ok (.getfield 40, 3) := by decide +kernel
theorem dX5_passBeats_55 : decode cX5_passBeats 55 = .ok (.iload_n 2, 1) := by decide +kernel
theorem dX5_passBeats_56 : decode cX5_passBeats 56 = .ok (.isub, 1) := by decide +kernel
theorem dX5_passBeats_57 : decode cX5_passBeats 57 = .ok (.ireturn, 1) := by decide +kernel
theorem dX5_passOneBeat_0 : decode cX5_passOneBeat 0 = .ok (.iconst 0, 1) := by decide +kernel
theorem dX5_passOneBeat_1 : decode cX5_passOneBeat 1 = .ok (.istore_n 1, 1) := by decide +kernel
theorem dX5_passOneBeat_2 : decode cX5_passOneBeat 2 = .ok (.iload_n 1, 1) := by decide +kernel
theorem dX5_passOneBeat_3 : decode cX5_passOneBeat 3 = .ok (.aload_n 0, 1) := by decide +kernel
theorem dX5_passOneBeat_4 : decode cX5_passOneBeat 4 = .ok (.getfield 34, 3) := by decide +kernel
theorem dX5_passOneBeat_7 : decode cX5_passOneBeat 7 = .ok (.if_icmp .ge 33, 3) := by decide +kernel
theorem dX5_passOneBeat_10 : decode cX5_passOneBeat 10 = .ok (.aload_n 0, 1) := by decide +kernel
theorem dX5_passOneBeat_11 : decode cX5_passOneBeat 11 = .ok (.getfield 11, 3) := by decide +kernel
theorem dX5_passOneBeat_14 : decode cX5_passOneBeat 14 = .ok (.iload_n 1, 1) := by decide +kernel
theorem dX5_passOneBeat_15 : decode cX5_passOneBeat 15 = .ok (.aaload, 1) := by decide +kernel
theorem dX5_passOneBeat_16 : decode cX5_passOneBeat 16 = .ok (.iconst 0, 1) := by decide +kernel
theorem dX5_passOneBeat_17 : decode cX5_passOneBeat 17 = .ok (.aload_n 0, 1) := by decide +kernel
theorem dX5_passOneBeat_18 : decode cX5_passOneBeat 18 = .ok (.getfield 11, 3) := by decide +kernel
theorem dX5_passOneBeat_21 : decode cX5_passOneBeat 21 = .ok (.iload_n 1, 1) := by decide +kernel
theorem dX5_passOneBeat_22 : decode cX5_passOneBeat 22 = .ok (.aaload, 1) := by decide +kernel
theorem dX5_passOneBeat_23 : decode cX5_passOneBeat 23 = .ok (.getfield 164, 3) := by decide +kernel
theorem dX5_passOneBeat_26 : decode cX5_passOneBeat 26 = .ok (.iconst 1, 1) := by decide +kernel
theorem dX5_passOneBeat_27 : decode cX5_passOneBeat 27 = .ok (.isub, 1) := by decide +kernel
theorem dX5_passOneBeat_28 : decode cX5_passOneBeat 28 = .ok (.invokestatic 167, 3) := by decide +kernel
theorem dX5_passOneBeat_31 : decode cX5_passOneBeat 31 = .ok (.putfield 164, 3) := by decide +kernel
theorem dX5_passOneBeat_34 : decode cX5_passOneBeat 34 = .ok (.iinc 1 1, 3) := by decide +kernel
theorem dX5_passOneBeat_37 : decode cX5_passOneBeat 37 = .ok (.goto (-35), 3) := by decide +kernel
theorem dX5_passOneBeat_40 : decode cX5_passOneBeat 40 = .ok (.aload_n 0, 1) := by decide +kernel
theorem dX5_passOneBeat_41 : decode cX5_passOneBeat 41 = .ok (.dup, 1) := by decide +kernel
theorem dX5_passOneBeat_42 : decode cX5_passOneBeat 42 = .ok (.getfield 37, 3) := by decide +kernel
theorem dX5_passOneBeat_45 : decode cX5_passOneBeat 45 = .ok (.iconst 1, 1) := by decide +kernel
theorem dX5_passOneBeat_46 : decode cX5_passOneBeat 46 = .ok (.iadd, 1) := by decide +kernel
theorem dX5_passOneBeat_47 : decode cX5_passOneBeat 47 = .ok (.putfield 37, 3) := by decide +kernel
theorem dX5_passOneBeat_50 : decode cX5_passOneBeat 50 = .ok (.aload_n 0, 1) := by decide +kernel
theorem dX5_passOneBeat_51 : decode cX5_passOneBeat 51 = .ok (.getfield 17, 3) := by decide +kernel
theorem dX5_passOneBeat_54 : decode cX5_passOneBeat 54 = .ok (.iconst 1, 1) := by decide +kernel
theorem dX5_passOneBeat_55 : decode cX5_passOneBeat 55 = .ok (.iaload, 1) := by decide +kernel
theorem dX5_passOneBeat_56 : decode cX5_passOneBeat 56 = .ok (.ifCond .eq 24, 3) := by decide +kernel
theorem dX5_passOneBeat_59 : decode cX5_passOneBeat 59 = .ok (.aload_n 0, 1) := by decide +kernel
theorem dX5_passOneBeat_60 : decode cX5_passOneBeat 60 = .ok (.getfield 37, 3) := by decide +kernel
theorem dX5_passOneBeat_63 : decode cX5_passOneBeat 63 = .ok (.aload_n 0, 1) := by decide +kernel
theorem dX5_passOneBeat_64 : decode cX5_passOneBeat 64 = .ok (.getfield 17, 3) := by decide +kernel
theorem dX5_passOneBeat_67 : decode cX5_passOneBeat 67 = .ok (.iconst 1, 1) := by decide +kernel
theorem dX5_passOneBeat_68 : decode cX5_passOneBeat 68 = .ok (.iaload, 1) := by decide +kernel
theorem dX5_passOneBeat_69 : decode cX5_passOneBeat 69 = .ok (.irem, 1) := by decide +kernel
theorem dX5_passOneBeat_70 : decode cX5_passOneBeat 70 = .ok (.ifCond .ne 10, 3) := by decide +kernel
theorem dX5_passOneBeat_73 : decode cX5_passOneBeat 73 = .ok (.aload_n 0, 1) := by decide +kernel
theorem dX5_passOneBeat_74 : decode cX5_passOneBeat 74 = .ok (.invokevirtual 72, 3) := by decide +kernel
theorem dX5_passOneBeat_77 : decode cX5_passOneBeat 77 = .ok (.ifCond .eq 4, 3) := by decide +kernel
theorem dX5_passOneBeat_80 : decode cX5_passOneBeat 80 = .ok (.return_, 1) := by decide +kernel
theorem dX5_passOneBeat_81 : decode cX5_passOneBeat 81 = .ok (.iconst 0, 1) := by decide +kernel
theorem dX5_passOneBeat_82 : decode cX5_passOneBeat 82 = .ok (.istore_n 1, 1) := by decide +kernel
theorem dX5_passOneBeat_83 : decode cX5_passOneBeat 83 = .ok (.iload_n 1, 1) := by decide +kernel
theorem dX5_passOneBeat_84 : decode cX5_passOneBeat 84 = .ok (.aload_n 0, 1) := by decide +kernel
theorem dX5_passOneBeat_85 : decode cX5_passOneBeat 85 = .ok (.getfield 34, 3) := by decide +kernel
theorem dX5_passOneBeat_88 : decode cX5_passOneBeat 88 = .ok (.if_icmp .ge 34, 3) := by decide +kernel
theorem dX5_passOneBeat_91 : decode cX5_passOneBeat 91 = .ok (.aload_n 0, 1) := by decide +kernel
theorem dX5_passOneBeat_92 : decode cX5_passOneBeat 92 = .ok (.getfield 11, 3) := by decide +kernel
theorem dX5_passOneBeat_95 : decode cX5_passOneBeat 95 = .ok (.iload_n 1, 1) := by decide +kernel
theorem dX5_passOneBeat_96 : decode cX5_passOneBeat 96 = .ok (.aaload, 1) := by decide +kernel
theorem dX5_passOneBeat_97 : decode cX5_passOneBeat 97 = .ok (.getfield 59, 3) := by decide +kernel
theorem dX5_passOneBeat_100 : decode cX5_passOneBeat 100 = .ok (.sipush 999, 3) := by decide +kernel
theorem dX5_passOneBeat_103 : decode cX5_passOneBeat 103 = .ok (.if_icmp .ge 13, 3) := by decide +kernel
theorem dX5_passOneBeat_106 : decode cX5_passOneBeat 106 = .ok (.aload_n 0, 1) := by decide +kernel
theorem dX5_passOneBeat_107 : decode cX5_passOneBeat 107 = .ok (.aload_n 0, 1) := by decide +kernel
theorem dX5_passOneBeat_108 : decode cX5_passOneBeat 108 = .ok (.getfield 11, 3) := by decide +kernel
theorem dX5_passOneBeat_111 : decode cX5_passOneBeat 111 = .ok (.iload_n 1, 1) := by decide +kernel
theorem dX5_passOneBeat_112 : decode cX5_passOneBeat 112 = .ok (.aaload, 1) := by decide +kernel
theorem dX5_passOneBeat_113 : decode cX5_passOneBeat 113 = .ok (.invokevirtual 121, 3) := by decide +kernel
theorem dX5_passOneBeat_116 : decode cX5_passOneBeat 116 = .ok (.iinc 1 1, 3) := by decide +kernel
theorem dX5_passOneBeat_119 : decode cX5_passOneBeat 119 = .ok (.goto (-36), 3) := by decide +kernel
theorem dX5_passOneBeat_122 : decode cX5_passOneBeat 122 = .ok (.return_, 1) := by decide +kernel
theorem dX5_renew_0 : decode cX5_renew 0 = .ok (.aload_n 0, 1) := by decide +kernel
theorem dX5_renew_1 : decode cX5_renew 1 = .ok (.iload_n 1, 1) := by decide +kernel
theorem dX5_renew_2 : decode cX5_renew 2 = .ok (.invokevirtual 56, 3) := by decide +kernel
theorem dX5_renew_5 : decode cX5_renew 5 = .ok (.ifCond .ne 5, 3) := by decide +kernel
theorem dX5_renew_8 : decode cX5_renew 8 = .ok (.iconst (-1), 1) := by decide +kernel
theorem dX5_renew_9 : decode cX5_renew 9 = .ok (.ireturn, 1) := by decide +kernel
theorem dX5_renew_10 : decode cX5_renew 10 = .ok (.aload_n 0, 1) := by decide +kernel
theorem dX5_renew_11 : decode cX5_renew 11 = .ok (.getfield 11, 3) := by decide +kernel
theorem dX5_renew_14 : decode cX5_renew 14 = .ok (.iload_n 1, 1) := by decide +kernel
theorem dX5_renew_15 : decode cX5_renew 15 = .ok (.aaload, 1) := by decide +kernel
theorem dX5_renew_16 : decode cX5_renew 16 = .ok (.astore_n 2, 1) := by decide +kernel
theorem dX5_renew_17 : decode cX5_renew 17 = .ok (.aload_n 0, 1) := by decide +kernel
theorem dX5_renew_18 : decode cX5_renew 18 = .ok (.invokevirtual 72, 3) := by decide +kernel
theorem dX5_renew_21 : decode cX5_renew 21 = .ok (.ifCond .ne 13, 3) := by decide +kernel
theorem dX5_renew_24 : decode cX5_renew 24 = .ok (.aload_n 2, 1) := by decide +kernel
theorem dX5_renew_25 : decode cX5_renew 25 = .ok (.getfield 59, 3) := by decide +kernel
theorem dX5_renew_28 : decode cX5_renew 28 = .ok (.sipush 999, 3) := by decide +kernel
theorem dX5_renew_31 : decode cX5_renew 31 = .ok (.if_icmp .lt 6, 3) := by decide +kernel
theorem dX5_renew_34 : decode cX5_renew 34 = .ok (.bipush (-5), 2) := by decide +kernel
theorem dX5_renew_36 : decode cX5_renew 36 = .ok (.ireturn, 1) := by decide +kernel
theorem dX5_renew_37 : decode cX5_renew 37 = .ok (.aload_n 0, 1) := by decide +kernel
theorem dX5_renew_38 : decode cX5_renew 38 = .ok (.aload_n 2, 1) := by decide +kernel
theorem dX5_renew_39 : decode cX5_renew 39 = .ok (.invokevirtual 121, 3) := by decide +kernel
theorem dX5_renew_42 : decode cX5_renew 42 = .ok (.aload_n 2, 1) := by decide +kernel
theorem dX5_renew_43 : decode cX5_renew 43 = .ok (.getfield 59, 3) := by decide +kernel
theorem dX5_renew_46 : decode cX5_renew 46 = .ok (.ireturn, 1) := by decide +kernel
theorem dX5_setOfKnown_0 : decode cX5_setOfKnown 0 = .ok (.iconst 0, 1) := by decide +kernel
theorem dX5_setOfKnown_1 : decode cX5_setOfKnown 1 = .ok (.istore_n 1, 1) := by decide +kernel
theorem dX5_setOfKnown_2 : decode cX5_setOfKnown 2 = .ok (.iconst 0, 1) := by decide +kernel
theorem dX5_setOfKnown_3 : decode cX5_setOfKnown 3 = .ok (.istore_n 2, 1) := by decide +kernel
theorem dX5_setOfKnown_4 : decode cX5_setOfKnown 4 = .ok (.iload_n 2, 1) := by decide +kernel
theorem dX5_setOfKnown_5 : decode cX5_setOfKnown 5 = .ok (.aload_n 0, 1) := by decide +kernel
theorem dX5_setOfKnown_6 : decode cX5_setOfKnown 6 = .ok (.getfield 34, 3) := by decide +kernel
theorem dX5_setOfKnown_9 : decode cX5_setOfKnown 9 = .ok (.if_icmp .ge 31, 3) := by decide +kernel
theorem dX5_setOfKnown_12 : decode cX5_setOfKnown 12 = .ok (.iload_n 1, 1) := by decide +kernel
theorem dX5_setOfKnown_13 : decode cX5_setOfKnown 13 = .ok (.aload_n 0, 1) := by decide +kernel
theorem dX5_setOfKnown_14 : decode cX5_setOfKnown 14 = .ok (.getfield 11, 3) := by decide +kernel
theorem dX5_setOfKnown_17 : decode cX5_setOfKnown 17 = .ok (.iload_n 2, 1) := by decide +kernel
theorem dX5_setOfKnown_18 : decode cX5_setOfKnown 18 = .ok (.aaload, 1) := by decide +kernel
theorem dX5_setOfKnown_19 : decode cX5_setOfKnown 19 = .ok (.getfield 179, 3) := by decide +kernel
theorem dX5_setOfKnown_22 : decode cX5_setOfKnown 22 = .ok (.ifCond .eq 9, 3) := by decide +kernel
theorem dX5_setOfKnown_25 : decode cX5_setOfKnown 25 = .ok (.iconst 1, 1) := by decide +kernel
theorem dX5_setOfKnown_26 : decode cX5_setOfKnown 26 = .ok (.iload_n 2, 1) := by decide +kernel
theorem dX5_setOfKnown_27 : decode cX5_setOfKnown 27 = .ok (.ishl, 1) := by decide +kernel
theorem dX5_setOfKnown_28 : decode cX5_setOfKnown 28 = .ok (.goto 4, 3) := by decide +kernel
theorem dX5_setOfKnown_31 : decode cX5_setOfKnown 31 = .ok (.iconst 0, 1) := by decide +kernel
theorem dX5_setOfKnown_32 : decode cX5_setOfKnown 32 = .ok (.ior, 1) := by decide +kernel
theorem dX5_setOfKnown_33 : decode cX5_setOfKnown 33 = .ok (.istore_n 1, 1) := by decide +kernel
theorem dX5_setOfKnown_34 : decode cX5_setOfKnown 34 = .ok (.iinc 2 1, 3) := by decide +kernel
theorem dX5_setOfKnown_37 : decode cX5_setOfKnown 37 = .ok (.goto (-33), 3) := by decide +kernel
theorem dX5_setOfKnown_40 : decode cX5_setOfKnown 40 = .ok (.iload_n 1, 1) := by decide +kernel
theorem dX5_setOfKnown_41 : decode cX5_setOfKnown 41 = .ok (.ireturn, 1) := by decide +kernel
theorem dX5_setOfOpen_0 : decode cX5_setOfOpen 0 = .ok (.iconst 0, 1) := by decide +kernel
theorem dX5_setOfOpen_1 : decode cX5_setOfOpen 1 = .ok (.istore_n 1, 1) := by decide +kernel
theorem dX5_setOfOpen_2 : decode cX5_setOfOpen 2 = .ok (.iconst 0, 1) := by decide +kernel
theorem dX5_setOfOpen_3 : decode cX5_setOfOpen 3 = .ok (.istore_n 2, 1) := by decide +kernel
theorem dX5_setOfOpen_4 : decode cX5_setOfOpen 4 = .ok (.iload_n 2, 1) := by decide +kernel
theorem dX5_setOfOpen_5 : decode cX5_setOfOpen 5 = .ok (.aload_n 0, 1) := by decide +kernel
theorem dX5_setOfOpen_6 : decode cX5_setOfOpen 6 = .ok (.getfield 34, 3) := by decide +kernel
theorem dX5_setOfOpen_9 : decode cX5_setOfOpen 9 = .ok (.if_icmp .ge 31, 3) := by decide +kernel
theorem dX5_setOfOpen_12 : decode cX5_setOfOpen 12 = .ok (.iload_n 1, 1) := by decide +kernel
theorem dX5_setOfOpen_13 : decode cX5_setOfOpen 13 = .ok (.aload_n 0, 1) := by decide +kernel
theorem dX5_setOfOpen_14 : decode cX5_setOfOpen 14 = .ok (.getfield 11, 3) := by decide +kernel
theorem dX5_setOfOpen_17 : decode cX5_setOfOpen 17 = .ok (.iload_n 2, 1) := by decide +kernel
theorem dX5_setOfOpen_18 : decode cX5_setOfOpen 18 = .ok (.aaload, 1) := by decide +kernel
theorem dX5_setOfOpen_19 : decode cX5_setOfOpen 19 = .ok (.getfield 164, 3) := by decide +kernel
theorem dX5_setOfOpen_22 : decode cX5_setOfOpen 22 = .ok (.ifCond .le 9, 3) := by decide +kernel
theorem dX5_setOfOpen_25 : decode cX5_setOfOpen 25 = .ok (.iconst 1, 1) := by decide +kernel
theorem dX5_setOfOpen_26 : decode cX5_setOfOpen 26 = .ok (.iload_n 2, 1) := by decide +kernel
theorem dX5_setOfOpen_27 : decode cX5_setOfOpen 27 = .ok (.ishl, 1) := by decide +kernel
theorem dX5_setOfOpen_28 : decode cX5_setOfOpen 28 = .ok (.goto 4, 3) := by decide +kernel
theorem dX5_setOfOpen_31 : decode cX5_setOfOpen 31 = .ok (.iconst 0, 1) := by decide +kernel
theorem dX5_setOfOpen_32 : decode cX5_setOfOpen 32 = .ok (.ior, 1) := by decide +kernel
theorem dX5_setOfOpen_33 : decode cX5_setOfOpen 33 = .ok (.istore_n 1, 1) := by decide +kernel
theorem dX5_setOfOpen_34 : decode cX5_setOfOpen 34 = .ok (.iinc 2 1, 3) := by decide +kernel
theorem dX5_setOfOpen_37 : decode cX5_setOfOpen 37 = .ok (.goto (-33), 3) := by decide +kernel
theorem dX5_setOfOpen_40 : decode cX5_setOfOpen 40 = .ok (.iload_n 1, 1) := by decide +kernel
theorem dX5_setOfOpen_41 : decode cX5_setOfOpen 41 = .ok (.ireturn, 1) := by decide +kernel
theorem dX5_someStoreSleeps_0 : decode cX5_someStoreSleeps 0 = .ok (.aload_n 0, 1) := by decide +kernel
theorem dX5_someStoreSleeps_1 : decode cX5_someStoreSleeps 1 = .ok (.getfield 21, 3) := by decide +kernel
theorem dX5_someStoreSleeps_4 : decode cX5_someStoreSleeps 4 = .ok (.iconst 0, 1) := by decide +kernel
theorem dX5_someStoreSleeps_5 : decode cX5_someStoreSleeps 5 = .ok (.baload, 1) := by decide +kernel
theorem dX5_someStoreSleeps_6 : decode cX5_someStoreSleeps 6 = .ok (.ifCond .ne 12, 3) := by decide +kernel
theorem dX5_someStoreSleeps_9 : decode cX5_someStoreSleeps 9 = .ok (.aload_n 0, 1) := by decide +kernel
theorem dX5_someStoreSleeps_10 : decode cX5_someStoreSleeps 10 = .ok (.getfield 21, 3) := by decide +kernel
theorem dX5_someStoreSleeps_13 : decode cX5_someStoreSleeps 13 = .ok (.iconst 1, 1) := by decide +kernel
theorem dX5_someStoreSleeps_14 : decode cX5_someStoreSleeps 14 = .ok (.baload, 1) := by decide +kernel
theorem dX5_someStoreSleeps_15 : decode cX5_someStoreSleeps 15 = .ok (.ifCond .eq 7, 3) := by decide +kernel
theorem dX5_someStoreSleeps_18 : decode cX5_someStoreSleeps 18 = .ok (.iconst 1, 1) := by decide +kernel
theorem dX5_someStoreSleeps_19 : decode cX5_someStoreSleeps 19 = .ok (.goto 4, 3) := by decide +kernel
theorem dX5_someStoreSleeps_22 : decode cX5_someStoreSleeps 22 = .ok (.iconst 0, 1) := by decide +kernel
theorem dX5_someStoreSleeps_23 : decode cX5_someStoreSleeps 23 = .ok (.ireturn, 1) := by decide +kernel
theorem dX5_tagOffsetThatPasses_0 : decode cX5_tagOffsetThatPasses 0 = .ok (.aload_n 0, 1) := by decide +kernel
theorem dX5_tagOffsetThatPasses_1 : decode cX5_tagOffsetThatPasses 1 = .ok (.iload_n 1, 1) := by decide +kernel
theorem dX5_tagOffsetThatPasses_2 : decode cX5_tagOffsetThatPasses 2 = .ok (.iload_n 2, 1) := by decide +kernel
theorem dX5_tagOffsetThatPasses_3 : decode cX5_tagOffsetThatPasses 3 = .ok (.invokevirtual 127, 3) := by decide +kernel
theorem dX5_tagOffsetThatPasses_6 : decode cX5_tagOffsetThatPasses 6 = .ok (.ifCond .ne 5, 3) := by decide +kernel
theorem dX5_tagOffsetThatPasses_9 : decode cX5_tagOffsetThatPasses 9 = .ok (.iconst (-1), 1) := by decide +kernel
theorem dX5_tagOffsetThatPasses_10 : decode cX5_tagOffsetThatPasses 10 = .ok (.ireturn, 1) := by decide +kernel
theorem dX5_tagOffsetThatPasses_11 : decode cX5_tagOffsetThatPasses 11 = .ok (.iload_n 3, 1) := by decide +kernel
theorem dX5_tagOffsetThatPasses_12 : decode cX5_tagOffsetThatPasses 12 = .ok (.invokestatic 69, 3) := by decide +kernel
theorem dX5_tagOffsetThatPasses_15 : decode cX5_tagOffsetThatPasses 15 = .ok (.ifCond .ne 6, 3) := by decide +kernel
theorem dX5_tagOffsetThatPasses_18 : decode cX5_tagOffsetThatPasses 18 = .ok (.bipush (-2), 2) := by decide +kernel
theorem dX5_tagOffsetThatPasses_20 : decode cX5_tagOffsetThatPasses 20 = .ok (.ireturn, 1) := by decide +kernel
theorem dX5_tagOffsetThatPasses_21 : decode cX5_tagOffsetThatPasses 21 = .ok (.aload_n 0, 1) := by decide +kernel
theorem dX5_tagOffsetThatPasses_22 : decode cX5_tagOffsetThatPasses 22 = .ok (.getfield 11, 3) := by decide +kernel
theorem dX5_tagOffsetThatPasses_25 : decode cX5_tagOffsetThatPasses 25 = .ok (.iload_n 2, 1) := by decide +kernel
theorem dX5_tagOffsetThatPasses_26 : decode cX5_tagOffsetThatPasses 26 = .ok (.aaload, 1) := by decide +kernel
theorem dX5_tagOffsetThatPasses_27 : decode cX5_tagOffsetThatPasses 27 = .ok (.iload_n 1, 1) := by decide +kernel
theorem dX5_tagOffsetThatPasses_28 : decode cX5_tagOffsetThatPasses 28 = .ok (.invokevirtual 134, 3) := by decide +kernel
theorem dX5_tagOffsetThatPasses_31 : decode cX5_tagOffsetThatPasses 31 = .ok (.astore 4, 2) := by decide +kernel
theorem dX5_tagOffsetThatPasses_33 : decode cX5_tagOffsetThatPasses 33 = .ok (.aload_n 0, 1) := by decide +kernel
theorem dX5_tagOffsetThatPasses_34 : decode cX5_tagOffsetThatPasses 34 = .ok (.getfield 11, 3) := by decide +kernel
theorem dX5_tagOffsetThatPasses_37 : decode cX5_tagOffsetThatPasses 37 = .ok (.iload_n 2, 1) := by decide +kernel
theorem dX5_tagOffsetThatPasses_38 : decode cX5_tagOffsetThatPasses 38 = .ok (.aaload, 1) := by decide +kernel
theorem dX5_tagOffsetThatPasses_39 : decode cX5_tagOffsetThatPasses 39 = .ok (.iload_n 1, 1) := by decide +kernel
theorem dX5_tagOffsetThatPasses_40 : decode cX5_tagOffsetThatPasses 40 = .ok (.invokevirtual 198, 3) := by decide +kernel
theorem dX5_tagOffsetThatPasses_43 : decode cX5_tagOffsetThatPasses 43 = .ok (.astore 5, 2) := by decide +kernel
theorem dX5_tagOffsetThatPasses_45 : decode cX5_tagOffsetThatPasses 45 = .ok (.aload 5, 2) := by decide +kernel
theorem dX5_tagOffsetThatPasses_47 : decode cX5_tagOffsetThatPasses 47 = .ok (.aload 4, 2) := by decide +kernel
theorem dX5_tagOffsetThatPasses_49 : decode cX5_tagOffsetThatPasses 49 = .ok (.iload_n 3, 1) := by decide +kernel
theorem dX5_tagOffsetThatPasses_50 : decode cX5_tagOffsetThatPasses 50 = .ok (.invokevirtual 201, 3) := by decide +kernel
theorem dX5_tagOffsetThatPasses_53 : decode cX5_tagOffsetThatPasses 53 = .ok (.invokevirtual 108, 3) := by decide +kernel
theorem dX5_tagOffsetThatPasses_56 : decode cX5_tagOffsetThatPasses 56 = .ok (.aload 4, 2) := by decide +kernel
theorem dX5_tagOffsetThatPasses_58 : decode cX5_tagOffsetThatPasses 58 = .ok (.getfield 112, 3) := by decide +kernel
theorem dX5_tagOffsetThatPasses_61 : decode cX5_tagOffsetThatPasses 61 = .ok (.isub, 1) := by decide +kernel
theorem dX5_tagOffsetThatPasses_62 : decode cX5_tagOffsetThatPasses 62 = .ok (.sipush 257, 3) := by decide +kernel
theorem dX5_tagOffsetThatPasses_65 : decode cX5_tagOffsetThatPasses 65 = .ok (.invokestatic 96, 3) := by decide +kernel
theorem dX5_tagOffsetThatPasses_68 : decode cX5_tagOffsetThatPasses 68 = .ok (.ireturn, 1) := by decide +kernel
theorem dX5_takeUpLie_0 : decode cX5_takeUpLie 0 = .ok (.aload_n 0, 1) := by decide +kernel
theorem dX5_takeUpLie_1 : decode cX5_takeUpLie 1 = .ok (.iload_n 1, 1) := by decide +kernel
theorem dX5_takeUpLie_2 : decode cX5_takeUpLie 2 = .ok (.iload_n 2, 1) := by decide +kernel
theorem dX5_takeUpLie_3 : decode cX5_takeUpLie 3 = .ok (.invokevirtual 127, 3) := by decide +kernel
theorem dX5_takeUpLie_6 : decode cX5_takeUpLie 6 = .ok (.ifCond .ne 5, 3) := by decide +kernel
theorem dX5_takeUpLie_9 : decode cX5_takeUpLie 9 = .ok (.iconst (-1), 1) := by decide +kernel
theorem dX5_takeUpLie_10 : decode cX5_takeUpLie 10 = .ok (.ireturn, 1) := by decide +kernel
theorem dX5_takeUpLie_11 : decode cX5_takeUpLie 11 = .ok (.iload_n 3, 1) := by decide +kernel
theorem dX5_takeUpLie_12 : decode cX5_takeUpLie 12 = .ok (.invokestatic 69, 3) := by decide +kernel
theorem dX5_takeUpLie_15 : decode cX5_takeUpLie 15 = .ok (.ifCond .eq 11, 3) := by decide +kernel
theorem dX5_takeUpLie_18 : decode cX5_takeUpLie 18 = .ok (.iload 4, 2) := by decide +kernel
theorem dX5_takeUpLie_20 : decode cX5_takeUpLie 20 = .ok (.invokestatic 131, 3) := by decide +kernel
theorem dX5_takeUpLie_23 : decode cX5_takeUpLie 23 = .ok (.ifCond .ne 6, 3) := by decide +kernel
theorem dX5_takeUpLie_26 : decode cX5_takeUpLie 26 = .ok (.bipush (-2), 2) := by decide +kernel
theorem dX5_takeUpLie_28 : decode cX5_takeUpLie 28 = .ok (.ireturn, 1) := by decide +kernel
theorem dX5_takeUpLie_29 : decode cX5_takeUpLie 29 = .ok (.aload_n 0, 1) := by decide +kernel
theorem dX5_takeUpLie_30 : decode cX5_takeUpLie 30 = .ok (.getfield 11, 3) := by decide +kernel
theorem dX5_takeUpLie_33 : decode cX5_takeUpLie 33 = .ok (.iload_n 2, 1) := by decide +kernel
theorem dX5_takeUpLie_34 : decode cX5_takeUpLie 34 = .ok (.aaload, 1) := by decide +kernel
theorem dX5_takeUpLie_35 : decode cX5_takeUpLie 35 = .ok (.iload_n 1, 1) := by decide +kernel
theorem dX5_takeUpLie_36 : decode cX5_takeUpLie 36 = .ok (.invokevirtual 134, 3) := by decide +kernel
theorem dX5_takeUpLie_39 : decode cX5_takeUpLie 39 = .ok (.astore 5, 2) := by decide +kernel
theorem dX5_takeUpLie_41 : decode cX5_takeUpLie 41 = .ok (.aload 5, 2) := by decide +kernel
theorem dX5_takeUpLie_43 : decode cX5_takeUpLie 43 = .ok (.getfield 138, 3) := by decide +kernel
theorem dX5_takeUpLie_46 : decode cX5_takeUpLie 46 = .ok (.istore 6, 2) := by decide +kernel
theorem dX5_takeUpLie_48 : decode cX5_takeUpLie 48 = .ok (.aload 5, 2) := by decide +kernel
theorem dX5_takeUpLie_50 : decode cX5_takeUpLie 50 = .ok (.iload_n 3, 1) := by decide +kernel
theorem dX5_takeUpLie_51 : decode cX5_takeUpLie 51 = .ok (.putfield 138, 3) := by decide +kernel
theorem dX5_takeUpLie_54 : decode cX5_takeUpLie 54 = .ok (.aload 5, 2) := by decide +kernel
theorem dX5_takeUpLie_56 : decode cX5_takeUpLie 56 = .ok (.iload 4, 2) := by decide +kernel
theorem dX5_takeUpLie_58 : decode cX5_takeUpLie 58 = .ok (.putfield 141, 3) := by decide +kernel
theorem dX5_takeUpLie_61 : decode cX5_takeUpLie 61 = .ok (.iload 6, 2) := by decide +kernel
theorem dX5_takeUpLie_63 : decode cX5_takeUpLie 63 = .ok (.ireturn, 1) := by decide +kernel
theorem dX5_turnSleep_0 : decode cX5_turnSleep 0 = .ok (.iload_n 1, 1) := by decide +kernel
theorem dX5_turnSleep_1 : decode cX5_turnSleep 1 = .ok (.invokestatic 52, 3) := by decide +kernel
theorem dX5_turnSleep_4 : decode cX5_turnSleep 4 = .ok (.ifCond .ne 5, 3) := by decide +kernel
theorem dX5_turnSleep_7 : decode cX5_turnSleep 7 = .ok (.iconst (-1), 1) := by decide +kernel
theorem dX5_turnSleep_8 : decode cX5_turnSleep 8 = .ok (.ireturn, 1) := by decide +kernel
theorem dX5_turnSleep_9 : decode cX5_turnSleep 9 = .ok (.aload_n 0, 1) := by decide +kernel
theorem dX5_turnSleep_10 : decode cX5_turnSleep 10 = .ok (.getfield 21, 3) := by decide +kernel
theorem dX5_turnSleep_13 : decode cX5_turnSleep 13 = .ok (.iload_n 1, 1) := by decide +kernel
theorem dX5_turnSleep_14 : decode cX5_turnSleep 14 = .ok (.aload_n 0, 1) := by decide +kernel
theorem dX5_turnSleep_15 : decode cX5_turnSleep 15 = .ok (.getfield 21, 3) := by decide +kernel
theorem dX5_turnSleep_18 : decode cX5_turnSleep 18 = .ok (.iload_n 1, 1) := by decide +kernel
theorem dX5_turnSleep_19 : decode cX5_turnSleep 19 = .ok (.baload, 1) := by decide +kernel
theorem dX5_turnSleep_20 : decode cX5_turnSleep 20 = .ok (.ifCond .ne 7, 3) := by decide +kernel
theorem dX5_turnSleep_23 : decode cX5_turnSleep 23 = .ok (.iconst 1, 1) := by decide +kernel
theorem dX5_turnSleep_24 : decode cX5_turnSleep 24 = .ok (.goto 4, 3) := by decide +kernel
theorem dX5_turnSleep_27 : decode cX5_turnSleep 27 = .ok (.iconst 0, 1) := by decide +kernel
theorem dX5_turnSleep_28 : decode cX5_turnSleep 28 = .ok (.bastore, 1) := by decide +kernel
theorem dX5_turnSleep_29 : decode cX5_turnSleep 29 = .ok (.aload_n 0, 1) := by decide +kernel
theorem dX5_turnSleep_30 : decode cX5_turnSleep 30 = .ok (.getfield 21, 3) := by decide +kernel
theorem dX5_turnSleep_33 : decode cX5_turnSleep 33 = .ok (.iload_n 1, 1) := by decide +kernel
theorem dX5_turnSleep_34 : decode cX5_turnSleep 34 = .ok (.baload, 1) := by decide +kernel
theorem dX5_turnSleep_35 : decode cX5_turnSleep 35 = .ok (.ifCond .eq 7, 3) := by decide +kernel
theorem dX5_turnSleep_38 : decode cX5_turnSleep 38 = .ok (.iconst 1, 1) := by decide +kernel
theorem dX5_turnSleep_39 : decode cX5_turnSleep 39 = .ok (.goto 4, 3) := by decide +kernel
theorem dX5_turnSleep_42 : decode cX5_turnSleep 42 = .ok (.iconst 0, 1) := by decide +kernel
theorem dX5_turnSleep_43 : decode cX5_turnSleep 43 = .ok (.ireturn, 1) := by decide +kernel
theorem dX5_versionsAtRisk_0 : decode cX5_versionsAtRisk 0 = .ok (.aload_n 0, 1) := by decide +kernel
theorem dX5_versionsAtRisk_1 : decode cX5_versionsAtRisk 1 = .ok (.iload_n 1, 1) := by decide +kernel
theorem dX5_versionsAtRisk_2 : decode cX5_versionsAtRisk 2 = .ok (.invokevirtual 56, 3) := by decide +kernel
theorem dX5_versionsAtRisk_5 : decode cX5_versionsAtRisk 5 = .ok (.ifCond .eq 15, 3) := by decide +kernel
theorem dX5_versionsAtRisk_8 : decode cX5_versionsAtRisk 8 = .ok (.aload_n 0, 1) := by decide +kernel
theorem dX5_versionsAtRisk_9 : decode cX5_versionsAtRisk 9 = .ok (.getfield 11, 3) := by decide +kernel
theorem dX5_versionsAtRisk_12 : decode cX5_versionsAtRisk 12 = .ok (.iload_n 1, 1) := by decide +kernel
theorem dX5_versionsAtRisk_13 : decode cX5_versionsAtRisk 13 = .ok (.aaload, 1) := by decide +kernel
theorem dX5_versionsAtRisk_14 : decode cX5_versionsAtRisk 14 = .ok (.invokevirtual 208, 3) := by decide +kernel
theorem dX5_versionsAtRisk_17 : decode cX5_versionsAtRisk 17 = .ok (.goto 4, 3) := by decide +kernel
theorem dX5_versionsAtRisk_20 : decode cX5_versionsAtRisk 20 = .ok (.iconst (-1), 1) := by decide +kernel
theorem dX5_versionsAtRisk_21 : decode cX5_versionsAtRisk 21 = .ok (.ireturn, 1) := by decide +kernel
theorem dX6_atRisk_0 : decode cX6_atRisk 0 = .ok (.aload_n 0, 1) := by decide +kernel
theorem dX6_atRisk_1 : decode cX6_atRisk 1 = .ok (.getfield 12, 3) := by decide +kernel
theorem dX6_atRisk_4 : decode cX6_atRisk 4 = .ok (.iload_n 1, 1) := by decide +kernel
theorem dX6_atRisk_5 : decode cX6_atRisk 5 = .ok (.invokevirtual 119, 3) := by decide +kernel
theorem dX6_atRisk_8 : decode cX6_atRisk 8 = .ok (.ireturn, 1) := by decide +kernel
theorem dX6_burn_0 : decode cX6_burn 0 = .ok (.aload_n 0, 1) := by decide +kernel
theorem dX6_burn_1 : decode cX6_burn 1 = .ok (.getfield 19, 3) := by decide +kernel
theorem dX6_burn_4 : decode cX6_burn 4 = .ok (.aload_n 0, 1) := by decide +kernel
theorem dX6_burn_5 : decode cX6_burn 5 = .ok (.getfield 12, 3) := by decide +kernel
theorem dX6_burn_8 : decode cX6_burn 8 = .ok (.invokevirtual 47, 3) := by decide +kernel
theorem dX6_burn_11 : decode cX6_burn 11 = .ok (.aload_n 0, 1) := by decide +kernel
theorem dX6_burn_12 : decode cX6_burn 12 = .ok (.aload_n 0, 1) := by decide +kernel
theorem dX6_burn_13 : decode cX6_burn 13 = .ok (.getfield 12, 3) := by decide +kernel
theorem dX6_burn_16 : decode cX6_burn 16 = .ok (.iload_n 1, 1) := by decide +kernel
theorem dX6_burn_17 : decode cX6_burn 17 = .ok (.invokevirtual 68, 3) := by decide +kernel
theorem dX6_burn_20 : decode cX6_burn 20 = .ok (.invokevirtual 55, 3) := by decide +kernel
theorem dX6_burn_23 : decode cX6_burn 23 = .ok (.ireturn, 1) := by decide +kernel
theorem dX6_count_0 : decode cX6_count 0 = .ok (.iload_n 1, 1) := by decide +kernel
theorem dX6_count_1 : decode cX6_count 1 = .ok (.bipush 14, 2) := by decide +kernel
theorem dX6_count_3 : decode cX6_count 3 = .ok (.if_icmp .ne 11, 3) := by decide +kernel
theorem dX6_count_6 : decode cX6_count 6 = .ok (.aload_n 0, 1) := by decide +kernel
theorem dX6_count_7 : decode cX6_count 7 = .ok (.getfield 34, 3) := by decide +kernel
theorem dX6_count_10 : decode cX6_count 10 = .ok (.getfield 97, 3) := by decide +kernel
theorem dX6_count_13 : decode cX6_count 13 = .ok (.ireturn, 1) := by decide +kernel
theorem dX6_count_14 : decode cX6_count 14 = .ok (.iload_n 1, 1) := by decide +kernel
theorem dX6_count_15 : decode cX6_count 15 = .ok (.bipush 15, 2) := by decide +kernel
theorem dX6_count_17 : decode cX6_count 17 = .ok (.if_icmp .ne 11, 3) := by decide +kernel
theorem dX6_count_20 : decode cX6_count 20 = .ok (.aload_n 0, 1) := by decide +kernel
theorem dX6_count_21 : decode cX6_count 21 = .ok (.getfield 19, 3) := by decide +kernel
theorem dX6_count_24 : decode cX6_count 24 = .ok (.getfield 101, 3) := by decide +kernel
theorem dX6_count_27 : decode cX6_count 27 = .ok (.ireturn, 1) := by decide +kernel
theorem dX6_count_28 : decode cX6_count 28 = .ok (.aload_n 0, 1) := by decide +kernel
theorem dX6_count_29 : decode cX6_count 29 = .ok (.getfield 12, 3) := by decide +kernel
theorem dX6_count_32 : decode cX6_count 32 = .ok (.iload_n 1, 1) := by decide +kernel
theorem dX6_count_33 : decode cX6_count 33 = .ok (.invokevirtual 104, 3) := by decide +kernel
theorem dX6_count_36 : decode cX6_count 36 = .ok (.ireturn, 1) := by decide +kernel
theorem dX6_ifMerged_0 : decode cX6_ifMerged 0 = .ok (.aload_n 0, 1) := by decide +kernel
theorem dX6_ifMerged_1 : decode cX6_ifMerged 1 = .ok (.getfield 12, 3) := by decide +kernel
theorem dX6_ifMerged_4 : decode cX6_ifMerged 4 = .ok (.iload_n 1, 1) := by decide +kernel
theorem dX6_ifMerged_5 : decode cX6_ifMerged 5 = .ok (.invokevirtual 122, 3) := by decide +kernel
theorem dX6_ifMerged_8 : decode cX6_ifMerged 8 = .ok (.ireturn, 1) := by decide +kernel
theorem dX6_init_0 : decode cX6_init 0 = .ok (.aload_n 0, 1) := by decide +kernel
theorem dX6_init_1 : decode cX6_init 1 = .ok (.invokespecial 3, 3) := by decide +kernel
theorem dX6_init_4 : decode cX6_init 4 = .ok (.aload_n 0, 1) := by decide +kernel
theorem dX6_init_5 : decode cX6_init 5 = .ok (.new 9, 3) := by decide +kernel
theorem dX6_init_8 : decode cX6_init 8 = .ok (.dup, 1) := by decide +kernel
theorem dX6_init_9 : decode cX6_init 9 = .ok (.invokespecial 11, 3) := by decide +kernel
theorem dX6_init_12 : decode cX6_init 12 = .ok (.putfield 12, 3) := by decide +kernel
theorem dX6_init_15 : decode cX6_init 15 = .ok (.aload_n 0, 1) := by decide +kernel
theorem dX6_init_16 : decode cX6_init 16 = .ok (.new 16, 3) := by decide +kernel
theorem dX6_init_19 : decode cX6_init 19 = .ok (.dup, 1) := by decide +kernel
theorem dX6_init_20 : decode cX6_init 20 = .ok (.invokespecial 18, 3) := by decide +kernel
theorem dX6_init_23 : decode cX6_init 23 = .ok (.putfield 19, 3) := by decide +kernel
theorem dX6_init_26 : decode cX6_init 26 = .ok (.aload_n 0, 1) := by decide +kernel
theorem dX6_init_27 : decode cX6_init 27 = .ok (.iconst 2, 1) := by decide +kernel
theorem dX6_init_28 : decode cX6_init 28 = .ok (.anewarray 9, 3) := by decide +kernel
theorem dX6_init_31 : decode cX6_init 31 = .ok (.putfield 23, 3) := by decide +kernel
theorem dX6_init_34 : decode cX6_init 34 = .ok (.iconst 0, 1) := by decide +kernel
theorem dX6_init_35 : decode cX6_init 35 = .ok (.istore_n 1, 1) := by decide +kernel
theorem dX6_init_36 : decode cX6_init 36 = .ok (.iload_n 1, 1) := by decide +kernel
theorem dX6_init_37 : decode cX6_init 37 = .ok (.iconst 2, 1) := by decide +kernel
theorem dX6_init_38 : decode cX6_init 38 = .ok (.if_icmp .ge 22, 3) := by decide +kernel
theorem dX6_init_41 : decode cX6_init 41 = .ok (.aload_n 0, 1) := by decide +kernel
theorem dX6_init_42 : decode cX6_init 42 = .ok (.getfield 23, 3) := by decide +kernel
theorem dX6_init_45 : decode cX6_init 45 = .ok (.iload_n 1, 1) := by decide +kernel
theorem dX6_init_46 : decode cX6_init 46 = .ok (.new 9, 3) := by decide +kernel
theorem dX6_init_49 : decode cX6_init 49 = .ok (.dup, 1) := by decide +kernel
theorem dX6_init_50 : decode cX6_init 50 = .ok (.invokespecial 11, 3) := by decide +kernel
theorem dX6_init_53 : decode cX6_init 53 = .ok (.aastore, 1) := by decide +kernel
theorem dX6_init_54 : decode cX6_init 54 = .ok (.iinc 1 1, 3) := by decide +kernel
theorem dX6_init_57 : decode cX6_init 57 = .ok (.goto (-21), 3) := by decide +kernel
theorem dX6_init_60 : decode cX6_init 60 = .ok (.aload_n 0, 1) := by decide +kernel
theorem dX6_init_61 : decode cX6_init 61 = .ok (.iconst 2, 1) := by decide +kernel
theorem dX6_init_62 : decode cX6_init 62 = .ok (.newarray .boolean, 2) := by decide +kernel
theorem dX6_init_64 : decode cX6_init 64 = .ok (.putfield 27, 3) := by decide +kernel
theorem dX6_init_67 : decode cX6_init 67 = .ok (.aload_n 0, 1) := by decide +kernel
theorem dX6_init_68 : decode cX6_init 68 = .ok (.new 31, 3) := by decide +kernel
theorem dX6_init_71 : decode cX6_init 71 = .ok (.dup, 1) := by decide +kernel
theorem dX6_init_72 : decode cX6_init 72 = .ok (.invokespecial 33, 3) := by decide +kernel
theorem dX6_init_75 : decode cX6_init 75 = .ok (.putfield 34, 3) := by decide +kernel
theorem dX6_init_78 : decode cX6_init 78 = .ok (.aload_n 0, 1) := by decide +kernel
theorem dX6_init_79 : decode cX6_init 79 = .ok (.new 38, 3) := by decide +kernel
theorem dX6_init_82 : decode cX6_init 82 = .ok (.dup, 1) := by decide +kernel
theorem dX6_init_83 : decode cX6_init 83 = .ok (.aload_n 0, 1) := by decide +kernel
theorem dX6_init_84 : decode cX6_init 84 = .ok (.getfield 34, 3) := by decide +kernel
theorem dX6_init_87 : decode cX6_init 87 = .ok (.invokespecial 40, 3) := by decide +kernel
theorem dX6_init_90 : decode cX6_init 90 = .ok (.putfield 43, 3) := by decide +kernel
theorem dX6_init_93 : decode cX6_init 93 = .ok (.return_, 1) := by decide +kernel
theorem dX6_isPart_0 : decode cX6_isPart 0 = .ok (.iload_n 0, 1) := by decide +kernel
theorem dX6_isPart_1 : decode cX6_isPart 1 = .ok (.ifCond .lt 14, 3) := by decide +kernel
theorem dX6_isPart_4 : decode cX6_isPart 4 = .ok (.iload_n 0, 1) := by decide +kernel
theorem dX6_isPart_5 : decode cX6_isPart 5 = .ok (.sipush 256, 3) := by decide +kernel
theorem dX6_isPart_8 : decode cX6_isPart 8 = .ok (.if_icmp .ge 7, 3) := by decide +kernel
theorem dX6_isPart_11 : decode cX6_isPart 11 = .ok (.iconst 1, 1) := by decide +kernel
theorem dX6_isPart_12 : decode cX6_isPart 12 = .ok (.goto 4, 3) := by decide +kernel
theorem dX6_isPart_15 : decode cX6_isPart 15 = .ok (.iconst 0, 1) := by decide +kernel
theorem dX6_isPart_16 : decode cX6_isPart 16 = .ok (.ireturn, 1) := by decide +kernel
theorem dX6_isStore_0 : decode cX6_isStore 0 = .ok (.iload_n 0, 1) := by decide +kernel
theorem dX6_isStore_1 : decode cX6_isStore 1 = .ok (.ifCond .lt 12, 3) := by decide +kernel
theorem dX6_isStore_4 : decode cX6_isStore 4 = .ok (.iload_n 0, 1) := by decide +kernel
theorem dX6_isStore_5 : decode cX6_isStore 5 = .ok (.iconst 2, 1) := by decide +kernel
theorem dX6_isStore_6 : decode cX6_isStore 6 = .ok (.if_icmp .ge 7, 3) := by decide +kernel
theorem dX6_isStore_9 : decode cX6_isStore 9 = .ok (.iconst 1, 1) := by decide +kernel
theorem dX6_isStore_10 : decode cX6_isStore 10 = .ok (.goto 4, 3) := by decide +kernel
theorem dX6_isStore_13 : decode cX6_isStore 13 = .ok (.iconst 0, 1) := by decide +kernel
theorem dX6_isStore_14 : decode cX6_isStore 14 = .ok (.ireturn, 1) := by decide +kernel
theorem dX6_isTag_0 : decode cX6_isTag 0 = .ok (.iload_n 0, 1) := by decide +kernel
theorem dX6_isTag_1 : decode cX6_isTag 1 = .ok (.ifCond .lt 14, 3) := by decide +kernel
theorem dX6_isTag_4 : decode cX6_isTag 4 = .ok (.iload_n 0, 1) := by decide +kernel
theorem dX6_isTag_5 : decode cX6_isTag 5 = .ok (.sipush 257, 3) := by decide +kernel
theorem dX6_isTag_8 : decode cX6_isTag 8 = .ok (.if_icmp .ge 7, 3) := by decide +kernel
theorem dX6_isTag_11 : decode cX6_isTag 11 = .ok (.iconst 1, 1) := by decide +kernel
theorem dX6_isTag_12 : decode cX6_isTag 12 = .ok (.goto 4, 3) := by decide +kernel
theorem dX6_isTag_15 : decode cX6_isTag 15 = .ok (.iconst 0, 1) := by decide +kernel
theorem dX6_isTag_16 : decode cX6_isTag 16 = .ok (.ireturn, 1) := by decide +kernel
theorem dX6_keep_0 : decode cX6_keep 0 = .ok (.aload_n 0, 1) := by decide +kernel
theorem dX6_keep_1 : decode cX6_keep 1 = .ok (.getfield 19, 3) := by decide +kernel
theorem dX6_keep_4 : decode cX6_keep 4 = .ok (.aload_n 0, 1) := by decide +kernel
theorem dX6_keep_5 : decode cX6_keep 5 = .ok (.getfield 12, 3) := by decide +kernel
theorem dX6_keep_8 : decode cX6_keep 8 = .ok (.invokevirtual 47, 3) := by decide +kernel
theorem dX6_keep_11 : decode cX6_keep 11 = .ok (.aload_n 0, 1) := by decide +kernel
theorem dX6_keep_12 : decode cX6_keep 12 = .ok (.aload_n 0, 1) := by decide +kernel
theorem dX6_keep_13 : decode cX6_keep 13 = .ok (.getfield 12, 3) := by decide +kernel
theorem dX6_keep_16 : decode cX6_keep 16 = .ok (.iload_n 1, 1) := by decide +kernel
theorem dX6_keep_17 : decode cX6_keep 17 = .ok (.invokevirtual 62, 3) := by decide +kernel
theorem dX6_keep_20 : decode cX6_keep 20 = .ok (.invokevirtual 55, 3) := by decide +kernel
theorem dX6_keep_23 : decode cX6_keep 23 = .ok (.ireturn, 1) := by decide +kernel
theorem dX6_lie_0 : decode cX6_lie 0 = .ok (.aload_n 0, 1) := by decide +kernel
theorem dX6_lie_1 : decode cX6_lie 1 = .ok (.getfield 19, 3) := by decide +kernel
theorem dX6_lie_4 : decode cX6_lie 4 = .ok (.aload_n 0, 1) := by decide +kernel
theorem dX6_lie_5 : decode cX6_lie 5 = .ok (.getfield 12, 3) := by decide +kernel
theorem dX6_lie_8 : decode cX6_lie 8 = .ok (.invokevirtual 47, 3) := by decide +kernel
theorem dX6_lie_11 : decode cX6_lie 11 = .ok (.aload_n 0, 1) := by decide +kernel
theorem dX6_lie_12 : decode cX6_lie 12 = .ok (.aload_n 0, 1) := by decide +kernel
theorem dX6_lie_13 : decode cX6_lie 13 = .ok (.getfield 12, 3) := by decide +kernel
theorem dX6_lie_16 : decode cX6_lie 16 = .ok (.iload_n 1, 1) := by decide +kernel
theorem dX6_lie_17 : decode cX6_lie 17 = .ok (.iload_n 2, 1) := by decide +kernel
theorem dX6_lie_18 : decode cX6_lie 18 = .ok (.iload_n 3, 1) := by decide +kernel
theorem dX6_lie_19 : decode cX6_lie 19 = .ok (.iload 4, 2) := by decide +kernel
theorem dX6_lie_21 : decode cX6_lie 21 = .ok (.invokevirtual 74, 3) := by decide +kernel
theorem dX6_lie_24 : decode cX6_lie 24 = .ok (.invokevirtual 55, 3) := by decide +kernel
theorem dX6_lie_27 : decode cX6_lie 27 = .ok (.ireturn, 1) := by decide +kernel
theorem dX6_merge_0 : decode cX6_merge 0 = .ok (.aload_n 0, 1) := by decide +kernel
theorem dX6_merge_1 : decode cX6_merge 1 = .ok (.getfield 19, 3) := by decide +kernel
theorem dX6_merge_4 : decode cX6_merge 4 = .ok (.aload_n 0, 1) := by decide +kernel
theorem dX6_merge_5 : decode cX6_merge 5 = .ok (.getfield 12, 3) := by decide +kernel
theorem dX6_merge_8 : decode cX6_merge 8 = .ok (.invokevirtual 47, 3) := by decide +kernel
theorem dX6_merge_11 : decode cX6_merge 11 = .ok (.aload_n 0, 1) := by decide +kernel
theorem dX6_merge_12 : decode cX6_merge 12 = .ok (.aload_n 0, 1) := by decide +kernel
theorem dX6_merge_13 : decode cX6_merge 13 = .ok (.getfield 12, 3) := by decide +kernel
theorem dX6_merge_16 : decode cX6_merge 16 = .ok (.iload_n 1, 1) := by decide +kernel
theorem dX6_merge_17 : decode cX6_merge 17 = .ok (.invokevirtual 78, 3) := by decide +kernel
theorem dX6_merge_20 : decode cX6_merge 20 = .ok (.invokevirtual 55, 3) := by decide +kernel
theorem dX6_merge_23 : decode cX6_merge 23 = .ok (.ireturn, 1) := by decide +kernel
theorem dX6_needed_0 : decode cX6_needed 0 = .ok (.aload_n 0, 1) := by decide +kernel
theorem dX6_needed_1 : decode cX6_needed 1 = .ok (.getfield 12, 3) := by decide +kernel
theorem dX6_needed_4 : decode cX6_needed 4 = .ok (.iload_n 1, 1) := by decide +kernel
theorem dX6_needed_5 : decode cX6_needed 5 = .ok (.invokevirtual 116, 3) := by decide +kernel
theorem dX6_needed_8 : decode cX6_needed 8 = .ok (.ireturn, 1) := by decide +kernel
theorem dX6_of_0 : decode cX6_of 0 = .ok (.aload_n 0, 1) := by decide +kernel
theorem dX6_of_1 : decode cX6_of 1 = .ok (.getfield 12, 3) := by decide +kernel
theorem dX6_of_4 : decode cX6_of 4 = .ok (.iload_n 1, 1) := by decide +kernel
theorem dX6_of_5 : decode cX6_of 5 = .ok (.iload_n 2, 1) := by decide +kernel
theorem dX6_of_6 : decode cX6_of 6 = .ok (.iload_n 3, 1) := by decide +kernel
theorem dX6_of_7 : decode cX6_of 7 = .ok (.invokevirtual 88, 3) := by decide +kernel
theorem dX6_of_10 : decode cX6_of 10 = .ok (.ireturn, 1) := by decide +kernel
theorem dX6_ofSecret_0 : decode cX6_ofSecret 0 = .ok (.aload_n 0, 1) := by decide +kernel
theorem dX6_ofSecret_1 : decode cX6_ofSecret 1 = .ok (.getfield 12, 3) := by decide +kernel
theorem dX6_ofSecret_4 : decode cX6_ofSecret 4 = .ok (.iload_n 1, 1) := by decide +kernel
theorem dX6_ofSecret_5 : decode cX6_ofSecret 5 = .ok (.iload_n 2, 1) := by decide +kernel
theorem dX6_ofSecret_6 : decode cX6_ofSecret 6 = .ok (.invokevirtual 91, 3) := by decide +kernel
theorem dX6_ofSecret_9 : decode cX6_ofSecret 9 = .ok (.ireturn, 1) := by decide +kernel
theorem dX6_old_0 : decode cX6_old 0 = .ok (.aload_n 0, 1) := by decide +kernel
theorem dX6_old_1 : decode cX6_old 1 = .ok (.getfield 12, 3) := by decide +kernel
theorem dX6_old_4 : decode cX6_old 4 = .ok (.iload_n 1, 1) := by decide +kernel
theorem dX6_old_5 : decode cX6_old 5 = .ok (.iload_n 2, 1) := by decide +kernel
theorem dX6_old_6 : decode cX6_old 6 = .ok (.iload_n 3, 1) := by decide +kernel
theorem dX6_old_7 : decode cX6_old 7 = .ok (.invokevirtual 94, 3) := by decide +kernel
theorem dX6_old_10 : decode cX6_old 10 = .ok (.ireturn, 1) := by decide +kernel
theorem dX6_otherwise_0 : decode cX6_otherwise 0 = .ok (.aload_n 0, 1) := by decide +kernel
theorem dX6_otherwise_1 : decode cX6_otherwise 1 = .ok (.getfield 12, 3) := by decide +kernel
theorem dX6_otherwise_4 : decode cX6_otherwise 4 = .ok (.iload_n 1, 1) := by decide +kernel
theorem dX6_otherwise_5 : decode cX6_otherwise 5 = .ok (.iload_n 2, 1) := by decide +kernel
theorem dX6_otherwise_6 : decode cX6_otherwise 6 = .ok (.iload_n 3, 1) := by decide +kernel
theorem dX6_otherwise_7 : decode cX6_otherwise 7 = .ok (.invokevirtual 107, 3) := by decide +kernel
theorem dX6_otherwise_10 : decode cX6_otherwise 10 = .ok (.ireturn, 1) := by decide +kernel
theorem dX6_pass_0 : decode cX6_pass 0 = .ok (.aload_n 0, 1) := by decide +kernel
theorem dX6_pass_1 : decode cX6_pass 1 = .ok (.getfield 19, 3) := by decide +kernel
theorem dX6_pass_4 : decode cX6_pass 4 = .ok (.aload_n 0, 1) := by decide +kernel
theorem dX6_pass_5 : decode cX6_pass 5 = .ok (.getfield 12, 3) := by decide +kernel
theorem dX6_pass_8 : decode cX6_pass 8 = .ok (.invokevirtual 47, 3) := by decide +kernel
theorem dX6_pass_11 : decode cX6_pass 11 = .ok (.aload_n 0, 1) := by decide +kernel
theorem dX6_pass_12 : decode cX6_pass 12 = .ok (.aload_n 0, 1) := by decide +kernel
theorem dX6_pass_13 : decode cX6_pass 13 = .ok (.getfield 12, 3) := by decide +kernel
theorem dX6_pass_16 : decode cX6_pass 16 = .ok (.iload_n 1, 1) := by decide +kernel
theorem dX6_pass_17 : decode cX6_pass 17 = .ok (.invokevirtual 85, 3) := by decide +kernel
theorem dX6_pass_20 : decode cX6_pass 20 = .ok (.invokevirtual 55, 3) := by decide +kernel
theorem dX6_pass_23 : decode cX6_pass 23 = .ok (.ireturn, 1) := by decide +kernel
theorem dX6_passes_0 : decode cX6_passes 0 = .ok (.aload_n 0, 1) := by decide +kernel
theorem dX6_passes_1 : decode cX6_passes 1 = .ok (.getfield 12, 3) := by decide +kernel
theorem dX6_passes_4 : decode cX6_passes 4 = .ok (.iload_n 1, 1) := by decide +kernel
theorem dX6_passes_5 : decode cX6_passes 5 = .ok (.iload_n 2, 1) := by decide +kernel
theorem dX6_passes_6 : decode cX6_passes 6 = .ok (.iload_n 3, 1) := by decide +kernel
theorem dX6_passes_7 : decode cX6_passes 7 = .ok (.invokevirtual 113, 3) := by decide +kernel
theorem dX6_passes_10 : decode cX6_passes 10 = .ok (.ireturn, 1) := by decide +kernel
theorem dX6_passing_0 : decode cX6_passing 0 = .ok (.aload_n 0, 1) := by decide +kernel
theorem dX6_passing_1 : decode cX6_passing 1 = .ok (.getfield 12, 3) := by decide +kernel
theorem dX6_passing_4 : decode cX6_passing 4 = .ok (.iload_n 1, 1) := by decide +kernel
theorem dX6_passing_5 : decode cX6_passing 5 = .ok (.iload_n 2, 1) := by decide +kernel
theorem dX6_passing_6 : decode cX6_passing 6 = .ok (.iload_n 3, 1) := by decide +kernel
theorem dX6_passing_7 : decode cX6_passing 7 = .ok (.invokevirtual 110, 3) := by decide +kernel
theorem dX6_passing_10 : decode cX6_passing 10 = .ok (.ireturn, 1) := by decide +kernel
theorem dX6_recorded_0 : decode cX6_recorded 0 = .ok (.iload_n 1, 1) := by decide +kernel
theorem dX6_recorded_1 : decode cX6_recorded 1 = .ok (.ifCond .lt 10, 3) := by decide +kernel
theorem dX6_recorded_4 : decode cX6_recorded 4 = .ok (.aload_n 0, 1) := by decide +kernel
theorem dX6_recorded_5 : decode cX6_recorded 5 = .ok (.getfield 19, 3) := by decide +kernel
theorem dX6_recorded_8 : decode cX6_recorded 8 = .ok (.invokevirtual 160, 3) := by decide +kernel
theorem dX6_recorded_11 : decode cX6_recorded 11 = .ok (.iload_n 1, 1) := by decide +kernel
theorem dX6_recorded_12 : decode cX6_recorded 12 = .ok (.ireturn, 1) := by decide +kernel
theorem dX6_refresh_0 : decode cX6_refresh 0 = .ok (.aload_n 0, 1) := by decide +kernel
theorem dX6_refresh_1 : decode cX6_refresh 1 = .ok (.getfield 19, 3) := by decide +kernel
theorem dX6_refresh_4 : decode cX6_refresh 4 = .ok (.aload_n 0, 1) := by decide +kernel
theorem dX6_refresh_5 : decode cX6_refresh 5 = .ok (.getfield 12, 3) := by decide +kernel
theorem dX6_refresh_8 : decode cX6_refresh 8 = .ok (.invokevirtual 47, 3) := by decide +kernel
theorem dX6_refresh_11 : decode cX6_refresh 11 = .ok (.aload_n 0, 1) := by decide +kernel
theorem dX6_refresh_12 : decode cX6_refresh 12 = .ok (.aload_n 0, 1) := by decide +kernel
theorem dX6_refresh_13 : decode cX6_refresh 13 = .ok (.getfield 12, 3) := by decide +kernel
theorem dX6_refresh_16 : decode cX6_refresh 16 = .ok (.iload_n 1, 1) := by decide +kernel
theorem dX6_refresh_17 : decode cX6_refresh 17 = .ok (.invokevirtual 65, 3) := by decide +kernel
theorem dX6_refresh_20 : decode cX6_refresh 20 = .ok (.invokevirtual 55, 3) := by decide +kernel
theorem dX6_refresh_23 : decode cX6_refresh 23 = .ok (.ireturn, 1) := by decide +kernel
theorem dX6_seed_0 : decode cX6_seed 0 = .ok (.aload_n 0, 1) := by decide +kernel
theorem dX6_seed_1 : decode cX6_seed 1 = .ok (.getfield 19, 3) := by decide +kernel
theorem dX6_seed_4 : decode cX6_seed 4 = .ok (.aload_n 0, 1) := by decide +kernel
theorem dX6_seed_5 : decode cX6_seed 5 = .ok (.getfield 12, 3) := by decide +kernel
theorem dX6_seed_8 : decode cX6_seed 8 = .ok (.invokevirtual 47, 3) := by decide +kernel
theorem dX6_seed_11 : decode cX6_seed 11 = .ok (.aload_n 0, 1) := by decide +kernel
theorem dX6_seed_12 : decode cX6_seed 12 = .ok (.aload_n 0, 1) := by decide +kernel
theorem dX6_seed_13 : decode cX6_seed 13 = .ok (.getfield 12, 3) := by decide +kernel
theorem dX6_seed_16 : decode cX6_seed 16 = .ok (.iload_n 1, 1) := by decide +kernel
theorem dX6_seed_17 : decode cX6_seed 17 = .ok (.invokevirtual 59, 3) := by decide +kernel
theorem dX6_seed_20 : decode cX6_seed 20 = .ok (.invokevirtual 55, 3) := by decide +kernel
theorem dX6_seed_23 : decode cX6_seed 23 = .ok (.ireturn, 1) := by decide +kernel
theorem dX6_set_0 : decode cX6_set 0 = .ok (.aload_n 0, 1) := by decide +kernel
theorem dX6_set_1 : decode cX6_set 1 = .ok (.getfield 19, 3) := by decide +kernel
theorem dX6_set_4 : decode cX6_set 4 = .ok (.aload_n 0, 1) := by decide +kernel
theorem dX6_set_5 : decode cX6_set 5 = .ok (.getfield 12, 3) := by decide +kernel
theorem dX6_set_8 : decode cX6_set 8 = .ok (.invokevirtual 47, 3) := by decide +kernel
theorem dX6_set_11 : decode cX6_set 11 = .ok (.aload_n 0, 1) := by decide +kernel
theorem dX6_set_12 : decode cX6_set 12 = .ok (.aload_n 0, 1) := by decide +kernel
theorem dX6_set_13 : decode cX6_set 13 = .ok (.getfield 12, 3) := by decide +kernel
theorem dX6_set_16 : decode cX6_set 16 = .ok (.iload_n 1, 1) := by decide +kernel
theorem dX6_set_17 : decode cX6_set 17 = .ok (.iload_n 2, 1) := by decide +kernel
theorem dX6_set_18 : decode cX6_set 18 = .ok (.invokevirtual 51, 3) := by decide +kernel
theorem dX6_set_21 : decode cX6_set 21 = .ok (.invokevirtual 55, 3) := by decide +kernel
theorem dX6_set_24 : decode cX6_set 24 = .ok (.ireturn, 1) := by decide +kernel
theorem dX6_sleep_0 : decode cX6_sleep 0 = .ok (.aload_n 0, 1) := by decide +kernel
theorem dX6_sleep_1 : decode cX6_sleep 1 = .ok (.getfield 19, 3) := by decide +kernel
theorem dX6_sleep_4 : decode cX6_sleep 4 = .ok (.aload_n 0, 1) := by decide +kernel
theorem dX6_sleep_5 : decode cX6_sleep 5 = .ok (.getfield 12, 3) := by decide +kernel
theorem dX6_sleep_8 : decode cX6_sleep 8 = .ok (.invokevirtual 47, 3) := by decide +kernel
theorem dX6_sleep_11 : decode cX6_sleep 11 = .ok (.aload_n 0, 1) := by decide +kernel
theorem dX6_sleep_12 : decode cX6_sleep 12 = .ok (.aload_n 0, 1) := by decide +kernel
theorem dX6_sleep_13 : decode cX6_sleep 13 = .ok (.getfield 12, 3) := by decide +kernel
theorem dX6_sleep_16 : decode cX6_sleep 16 = .ok (.iload_n 1, 1) := by decide +kernel
theorem dX6_sleep_17 : decode cX6_sleep 17 = .ok (.invokevirtual 71, 3) := by decide +kernel
theorem dX6_sleep_20 : decode cX6_sleep 20 = .ok (.invokevirtual 55, 3) := by decide +kernel
theorem dX6_sleep_23 : decode cX6_sleep 23 = .ok (.ireturn, 1) := by decide +kernel
theorem dX6_steal_0 : decode cX6_steal 0 = .ok (.aload_n 0, 1) := by decide +kernel
theorem dX6_steal_1 : decode cX6_steal 1 = .ok (.getfield 19, 3) := by decide +kernel
theorem dX6_steal_4 : decode cX6_steal 4 = .ok (.aload_n 0, 1) := by decide +kernel
theorem dX6_steal_5 : decode cX6_steal 5 = .ok (.getfield 12, 3) := by decide +kernel
theorem dX6_steal_8 : decode cX6_steal 8 = .ok (.invokevirtual 47, 3) := by decide +kernel
theorem dX6_steal_11 : decode cX6_steal 11 = .ok (.aload_n 0, 1) := by decide +kernel
theorem dX6_steal_12 : decode cX6_steal 12 = .ok (.aload_n 0, 1) := by decide +kernel
theorem dX6_steal_13 : decode cX6_steal 13 = .ok (.getfield 12, 3) := by decide +kernel
theorem dX6_steal_16 : decode cX6_steal 16 = .ok (.iload_n 1, 1) := by decide +kernel
theorem dX6_steal_17 : decode cX6_steal 17 = .ok (.iload_n 2, 1) := by decide +kernel
theorem dX6_steal_18 : decode cX6_steal 18 = .ok (.iload_n 3, 1) := by decide +kernel
theorem dX6_steal_19 : decode cX6_steal 19 = .ok (.invokevirtual 81, 3) := by decide +kernel
theorem dX6_steal_22 : decode cX6_steal 22 = .ok (.invokevirtual 55, 3) := by decide +kernel
theorem dX6_steal_25 : decode cX6_steal 25 = .ok (.ireturn, 1) := by decide +kernel
theorem dX6_undo_0 : decode cX6_undo 0 = .ok (.aload_n 0, 1) := by decide +kernel
theorem dX6_undo_1 : decode cX6_undo 1 = .ok (.getfield 19, 3) := by decide +kernel
theorem dX6_undo_4 : decode cX6_undo 4 = .ok (.aload_n 0, 1) := by decide +kernel
theorem dX6_undo_5 : decode cX6_undo 5 = .ok (.getfield 12, 3) := by decide +kernel
theorem dX6_undo_8 : decode cX6_undo 8 = .ok (.invokevirtual 146, 3) := by decide +kernel
theorem dX6_undo_11 : decode cX6_undo 11 = .ok (.ifCond .eq 13, 3) := by decide +kernel
theorem dX6_undo_14 : decode cX6_undo 14 = .ok (.aload_n 0, 1) := by decide +kernel
theorem dX6_undo_15 : decode cX6_undo 15 = .ok (.getfield 19, 3) := by decide +kernel
theorem dX6_undo_18 : decode cX6_undo 18 = .ok (.getfield 101, 3) := by decide +kernel
theorem dX6_undo_21 : decode cX6_undo 21 = .ok (.goto 5, 3) := by decide +kernel
theorem dX6_undo_24 : decode cX6_undo 24 = .ok (.bipush (-5), 2) := by decide +kernel
theorem dX6_undo_26 : decode cX6_undo 26 = .ok (.ireturn, 1) := by decide +kernel
end
section
theorem dL_cell_0 : decode cL_cell 0 = .ok (.iload_n 1, 1) := by decide +kernel
theorem dL_cell_1 : decode cL_cell 1 = .ok (.aload_n 0, 1) := by decide +kernel
theorem dL_cell_2 : decode cL_cell 2 = .ok (.arraylength, 1) := by decide +kernel
theorem dL_cell_3 : decode cL_cell 3 = .ok (.if_icmp .ge 9, 3) := by decide +kernel
theorem dL_cell_6 : decode cL_cell 6 = .ok (.aload_n 0, 1) := by decide +kernel
theorem dL_cell_7 : decode cL_cell 7 = .ok (.iload_n 1, 1) := by decide +kernel
theorem dL_cell_8 : decode cL_cell 8 = .ok (.iaload, 1) := by decide +kernel
theorem dL_cell_9 : decode cL_cell 9 = .ok (.goto 11, 3) := by decide +kernel
theorem dL_cell_12 : decode cL_cell 12 = .ok (.ldc 7, 2) := by decide +kernel
theorem dL_cell_14 : decode cL_cell 14 = .ok (.iload_n 1, 1) := by decide +kernel
theorem dL_cell_15 : decode cL_cell 15 = .ok (.imul, 1) := by decide +kernel
theorem dL_cell_16 : decode cL_cell 16 = .ok (.sipush 977, 3) := by decide +kernel
theorem dL_cell_19 : decode cL_cell 19 = .ok (.iadd, 1) := by decide +kernel
theorem dL_cell_20 : decode cL_cell 20 = .ok (.ireturn, 1) := by decide +kernel
theorem dL_change_0 : decode cL_change 0 = .ok (.aload_n 0, 1) := by decide +kernel
theorem dL_change_1 : decode cL_change 1 = .ok (.iconst 1, 1) := by decide +kernel
theorem dL_change_2 : decode cL_change 2 = .ok (.invokevirtual 9, 3) := by decide +kernel
theorem dL_change_5 : decode cL_change 5 = .ok (.istore 5, 2) := by decide +kernel
theorem dL_change_7 : decode cL_change 7 = .ok (.iload_n 3, 1) := by decide +kernel
theorem dL_change_8 : decode cL_change 8 = .ok (.iload 5, 2) := by decide +kernel
theorem dL_change_10 : decode cL_change 10 = .ok (.iconst 1, 1) := by decide +kernel
theorem dL_change_11 : decode cL_change 11 = .ok (.iadd, 1) := by decide +kernel
theorem dL_change_12 : decode cL_change 12 = .ok (.invokestatic 15, 3) := by decide +kernel
theorem dL_change_15 : decode cL_change 15 = .ok (.istore 6, 2) := by decide +kernel
theorem dL_change_17 : decode cL_change 17 = .ok (.iload_n 2, 1) := by decide +kernel
theorem dL_change_18 : decode cL_change 18 = .ok (.tableswitch 312 0 15 #[78, 78, 78, 110, 110, 117, 124, 134, 168, 220, 235, 235, 242, 242, 282, 295], 78) := by decide +kernel
theorem dL_change_96 : decode cL_change 96 = .ok (.aload_n 0, 1) := by decide +kernel
theorem dL_change_97 : decode cL_change 97 = .ok (.iload_n 3, 1) := by decide +kernel
theorem dL_change_98 : decode cL_change 98 = .ok (.sipush 256, 3) := by decide +kernel
theorem dL_change_101 : decode cL_change 101 = .ok (.invokestatic 15, 3) := by decide +kernel
theorem dL_change_104 : decode cL_change 104 = .ok (.invokevirtual 21, 3) := by decide +kernel
theorem dL_change_107 : decode cL_change 107 = .ok (.istore 7, 2) := by decide +kernel
theorem dL_change_109 : decode cL_change 109 = .ok (.iload 7, 2) := by decide +kernel
theorem dL_change_111 : decode cL_change 111 = .ok (.ifCond .lt 14, 3) := by decide +kernel
theorem dL_change_114 : decode cL_change 114 = .ok (.aload_n 1, 1) := by decide +kernel
theorem dL_change_115 : decode cL_change 115 = .ok (.iload 7, 2) := by decide +kernel
theorem dL_change_117 : decode cL_change 117 = .ok (.iload_n 3, 1) := by decide +kernel
theorem dL_change_118 : decode cL_change 118 = .ok (.sipush 256, 3) := by decide +kernel
theorem dL_change_121 : decode cL_change 121 = .ok (.invokestatic 15, 3) := by decide +kernel
theorem dL_change_124 : decode cL_change 124 = .ok (.iastore, 1) := by decide +kernel
theorem dL_change_125 : decode cL_change 125 = .ok (.iload 7, 2) := by decide +kernel
theorem dL_change_127 : decode cL_change 127 = .ok (.ireturn, 1) := by decide +kernel
theorem dL_change_128 : decode cL_change 128 = .ok (.aload_n 0, 1) := by decide +kernel
theorem dL_change_129 : decode cL_change 129 = .ok (.iload 6, 2) := by decide +kernel
theorem dL_change_131 : decode cL_change 131 = .ok (.invokevirtual 24, 3) := by decide +kernel
theorem dL_change_134 : decode cL_change 134 = .ok (.ireturn, 1) := by decide +kernel
theorem dL_change_135 : decode cL_change 135 = .ok (.aload_n 0, 1) := by decide +kernel
theorem dL_change_136 : decode cL_change 136 = .ok (.iload 6, 2) := by decide +kernel
theorem dL_change_138 : decode cL_change 138 = .ok (.invokevirtual 27, 3) := by decide +kernel
theorem dL_change_141 : decode cL_change 141 = .ok (.ireturn, 1) := by decide +kernel
theorem dL_change_142 : decode cL_change 142 = .ok (.aload_n 0, 1) := by decide +kernel
theorem dL_change_143 : decode cL_change 143 = .ok (.iload_n 3, 1) := by decide +kernel
theorem dL_change_144 : decode cL_change 144 = .ok (.iconst 2, 1) := by decide +kernel
theorem dL_change_145 : decode cL_change 145 = .ok (.invokestatic 15, 3) := by decide +kernel
theorem dL_change_148 : decode cL_change 148 = .ok (.invokevirtual 30, 3) := by decide +kernel
theorem dL_change_151 : decode cL_change 151 = .ok (.ireturn, 1) := by decide +kernel
theorem dL_change_152 : decode cL_change 152 = .ok (.aload_n 0, 1) := by decide +kernel
theorem dL_change_153 : decode cL_change 153 = .ok (.iload 4, 2) := by decide +kernel
theorem dL_change_155 : decode cL_change 155 = .ok (.iconst 2, 1) := by decide +kernel
theorem dL_change_156 : decode cL_change 156 = .ok (.invokestatic 15, 3) := by decide +kernel
theorem dL_change_159 : decode cL_change 159 = .ok (.iload 6, 2) := by decide +kernel
theorem dL_change_161 : decode cL_change 161 = .ok (.iload 4, 2) := by decide +kernel
theorem dL_change_163 : decode cL_change 163 = .ok (.iconst 4, 1) := by decide +kernel
theorem dL_change_164 : decode cL_change 164 = .ok (.ishr, 1) := by decide +kernel
theorem dL_change_165 : decode cL_change 165 = .ok (.sipush 256, 3) := by decide +kernel
theorem dL_change_168 : decode cL_change 168 = .ok (.invokestatic 15, 3) := by decide +kernel
theorem dL_change_171 : decode cL_change 171 = .ok (.iload 4, 2) := by decide +kernel
theorem dL_change_173 : decode cL_change 173 = .ok (.bipush 12, 2) := by decide +kernel
theorem dL_change_175 : decode cL_change 175 = .ok (.ishr, 1) := by decide +kernel
theorem dL_change_176 : decode cL_change 176 = .ok (.sipush 257, 3) := by decide +kernel
theorem dL_change_179 : decode cL_change 179 = .ok (.invokestatic 15, 3) := by decide +kernel
theorem dL_change_182 : decode cL_change 182 = .ok (.invokevirtual 33, 3) := by decide +kernel
theorem dL_change_185 : decode cL_change 185 = .ok (.ireturn, 1) := by decide +kernel
theorem dL_change_186 : decode cL_change 186 = .ok (.iload 4, 2) := by decide +kernel
theorem dL_change_188 : decode cL_change 188 = .ok (.iconst 4, 1) := by decide +kernel
theorem dL_change_189 : decode cL_change 189 = .ok (.ishr, 1) := by decide +kernel
theorem dL_change_190 : decode cL_change 190 = .ok (.sipush 256, 3) := by decide +kernel
theorem dL_change_193 : decode cL_change 193 = .ok (.invokestatic 15, 3) := by decide +kernel
theorem dL_change_196 : decode cL_change 196 = .ok (.istore 8, 2) := by decide +kernel
theorem dL_change_198 : decode cL_change 198 = .ok (.aload_n 0, 1) := by decide +kernel
theorem dL_change_199 : decode cL_change 199 = .ok (.iload 4, 2) := by decide +kernel
theorem dL_change_201 : decode cL_change 201 = .ok (.iconst 2, 1) := by decide +kernel
theorem dL_change_202 : decode cL_change 202 = .ok (.invokestatic 15, 3) := by decide +kernel
theorem dL_change_205 : decode cL_change 205 = .ok (.iload 6, 2) := by decide +kernel
theorem dL_change_207 : decode cL_change 207 = .ok (.iload 8, 2) := by decide +kernel
theorem dL_change_209 : decode cL_change 209 = .ok (.iload 6, 2) := by decide +kernel
theorem dL_change_211 : decode cL_change 211 = .ok (.iload 5, 2) := by decide +kernel
theorem dL_change_213 : decode cL_change 213 = .ok (.if_icmp .ge 20, 3) := by decide +kernel
theorem dL_change_216 : decode cL_change 216 = .ok (.aload_n 0, 1) := by decide +kernel
theorem dL_change_217 : decode cL_change 217 = .ok (.iload 4, 2) := by decide +kernel
theorem dL_change_219 : decode cL_change 219 = .ok (.iconst 2, 1) := by decide +kernel
theorem dL_change_220 : decode cL_change 220 = .ok (.invokestatic 15, 3) := by decide +kernel
theorem dL_change_223 : decode cL_change 223 = .ok (.iload 6, 2) := by decide +kernel
theorem dL_change_225 : decode cL_change 225 = .ok (.iload 8, 2) := by decide +kernel
theorem dL_change_227 : decode cL_change 227 = .ok (.invokevirtual 37, 3) := by decide +kernel
theorem dL_change_230 : decode cL_change 230 = .ok (.goto 4, 3) := by decide +kernel
theorem dL_change_233 : decode cL_change 233 = .ok (.iconst 0, 1) := by decide +kernel
theorem dL_change_234 : decode cL_change 234 = .ok (.invokevirtual 33, 3) := by decide +kernel
theorem dL_change_237 : decode cL_change 237 = .ok (.ireturn, 1) := by decide +kernel
theorem dL_change_238 : decode cL_change 238 = .ok (.aload_n 0, 1) := by decide +kernel
theorem dL_change_239 : decode cL_change 239 = .ok (.iload 4, 2) := by decide +kernel
theorem dL_change_241 : decode cL_change 241 = .ok (.iconst 2, 1) := by decide +kernel
theorem dL_change_242 : decode cL_change 242 = .ok (.invokestatic 15, 3) := by decide +kernel
theorem dL_change_245 : decode cL_change 245 = .ok (.iload 6, 2) := by decide +kernel
theorem dL_change_247 : decode cL_change 247 = .ok (.iconst 0, 1) := by decide +kernel
theorem dL_change_248 : decode cL_change 248 = .ok (.iconst 0, 1) := by decide +kernel
theorem dL_change_249 : decode cL_change 249 = .ok (.invokevirtual 33, 3) := by decide +kernel
theorem dL_change_252 : decode cL_change 252 = .ok (.ireturn, 1) := by decide +kernel
theorem dL_change_253 : decode cL_change 253 = .ok (.aload_n 0, 1) := by decide +kernel
theorem dL_change_254 : decode cL_change 254 = .ok (.iload 6, 2) := by decide +kernel
theorem dL_change_256 : decode cL_change 256 = .ok (.invokevirtual 41, 3) := by decide +kernel
theorem dL_change_259 : decode cL_change 259 = .ok (.ireturn, 1) := by decide +kernel
theorem dL_change_260 : decode cL_change 260 = .ok (.aload_n 0, 1) := by decide +kernel
theorem dL_change_261 : decode cL_change 261 = .ok (.iload 4, 2) := by decide +kernel
theorem dL_change_263 : decode cL_change 263 = .ok (.iconst 2, 1) := by decide +kernel
theorem dL_change_264 : decode cL_change 264 = .ok (.invokestatic 15, 3) := by decide +kernel
theorem dL_change_267 : decode cL_change 267 = .ok (.iload 6, 2) := by decide +kernel
theorem dL_change_269 : decode cL_change 269 = .ok (.iload 6, 2) := by decide +kernel
theorem dL_change_271 : decode cL_change 271 = .ok (.iload 5, 2) := by decide +kernel
theorem dL_change_273 : decode cL_change 273 = .ok (.if_icmp .ge 22, 3) := by decide +kernel
theorem dL_change_276 : decode cL_change 276 = .ok (.aload_n 0, 1) := by decide +kernel
theorem dL_change_277 : decode cL_change 277 = .ok (.iload 6, 2) := by decide +kernel
theorem dL_change_279 : decode cL_change 279 = .ok (.iconst 0, 1) := by decide +kernel
theorem dL_change_280 : decode cL_change 280 = .ok (.invokevirtual 44, 3) := by decide +kernel
theorem dL_change_283 : decode cL_change 283 = .ok (.iload 4, 2) := by decide +kernel
theorem dL_change_285 : decode cL_change 285 = .ok (.iconst 4, 1) := by decide +kernel
theorem dL_change_286 : decode cL_change 286 = .ok (.ishr, 1) := by decide +kernel
theorem dL_change_287 : decode cL_change 287 = .ok (.iconst 4, 1) := by decide +kernel
theorem dL_change_288 : decode cL_change 288 = .ok (.invokestatic 15, 3) := by decide +kernel
theorem dL_change_291 : decode cL_change 291 = .ok (.isub, 1) := by decide +kernel
theorem dL_change_292 : decode cL_change 292 = .ok (.goto 4, 3) := by decide +kernel
theorem dL_change_295 : decode cL_change 295 = .ok (.iconst 1, 1) := by decide +kernel
theorem dL_change_296 : decode cL_change 296 = .ok (.invokevirtual 47, 3) := by decide +kernel
theorem dL_change_299 : decode cL_change 299 = .ok (.ireturn, 1) := by decide +kernel
theorem dL_change_300 : decode cL_change 300 = .ok (.aload_n 0, 1) := by decide +kernel
theorem dL_change_301 : decode cL_change 301 = .ok (.iconst 1, 1) := by decide +kernel
theorem dL_change_302 : decode cL_change 302 = .ok (.iload_n 3, 1) := by decide +kernel
theorem dL_change_303 : decode cL_change 303 = .ok (.bipush 9, 2) := by decide +kernel
theorem dL_change_305 : decode cL_change 305 = .ok (.invokestatic 15, 3) := by decide +kernel
theorem dL_change_308 : decode cL_change 308 = .ok (.iadd, 1) := by decide +kernel
theorem dL_change_309 : decode cL_change 309 = .ok (.invokevirtual 50, 3) := by decide +kernel
theorem dL_change_312 : decode cL_change 312 = .ok (.ireturn, 1) := by decide +kernel
theorem dL_change_313 : decode cL_change 313 = .ok (.aload_n 0, 1) := by decide +kernel
theorem dL_change_314 : decode cL_change 314 = .ok (.iload_n 3, 1) := by decide +kernel
theorem dL_change_315 : decode cL_change 315 = .ok (.iconst 3, 1) := by decide +kernel
theorem dL_change_316 : decode cL_change 316 = .ok (.invokestatic 15, 3) := by decide +kernel
theorem dL_change_319 : decode cL_change 319 = .ok (.iload 4, 2) := by decide +kernel
theorem dL_change_321 : decode cL_change 321 = .ok (.bipush 9, 2) := by decide +kernel
theorem dL_change_323 : decode cL_change 323 = .ok (.invokestatic 15, 3) := by decide +kernel
theorem dL_change_326 : decode cL_change 326 = .ok (.invokevirtual 53, 3) := by decide +kernel
theorem dL_change_329 : decode cL_change 329 = .ok (.ireturn, 1) := by decide +kernel
theorem dL_change_330 : decode cL_change 330 = .ok (.aload_n 0, 1) := by decide +kernel
theorem dL_change_331 : decode cL_change 331 = .ok (.iload_n 3, 1) := by decide +kernel
theorem dL_change_332 : decode cL_change 332 = .ok (.sipush 10000, 3) := by decide +kernel
theorem dL_change_335 : decode cL_change 335 = .ok (.invokestatic 15, 3) := by decide +kernel
theorem dL_change_338 : decode cL_change 338 = .ok (.invokevirtual 56, 3) := by decide +kernel
theorem dL_change_341 : decode cL_change 341 = .ok (.ireturn, 1) := by decide +kernel
theorem dL_holds_0 : decode cL_holds 0 = .ok (.aload_n 0, 1) := by decide +kernel
theorem dL_holds_1 : decode cL_holds 1 = .ok (.iconst 1, 1) := by decide +kernel
theorem dL_holds_2 : decode cL_holds 2 = .ok (.invokevirtual 9, 3) := by decide +kernel
theorem dL_holds_5 : decode cL_holds 5 = .ok (.istore_n 2, 1) := by decide +kernel
theorem dL_holds_6 : decode cL_holds 6 = .ok (.iconst 0, 1) := by decide +kernel
theorem dL_holds_7 : decode cL_holds 7 = .ok (.istore_n 3, 1) := by decide +kernel
theorem dL_holds_8 : decode cL_holds 8 = .ok (.iconst 0, 1) := by decide +kernel
theorem dL_holds_9 : decode cL_holds 9 = .ok (.istore 4, 2) := by decide +kernel
theorem dL_holds_11 : decode cL_holds 11 = .ok (.aload_n 0, 1) := by decide +kernel
theorem dL_holds_12 : decode cL_holds 12 = .ok (.iload_n 2, 1) := by decide +kernel
theorem dL_holds_13 : decode cL_holds 13 = .ok (.iconst 0, 1) := by decide +kernel
theorem dL_holds_14 : decode cL_holds 14 = .ok (.invokevirtual 44, 3) := by decide +kernel
theorem dL_holds_17 : decode cL_holds 17 = .ok (.iconst (-1), 1) := by decide +kernel
theorem dL_holds_18 : decode cL_holds 18 = .ok (.if_icmp .ne 25, 3) := by decide +kernel
theorem dL_holds_21 : decode cL_holds 21 = .ok (.aload_n 0, 1) := by decide +kernel
theorem dL_holds_22 : decode cL_holds 22 = .ok (.iload_n 2, 1) := by decide +kernel
theorem dL_holds_23 : decode cL_holds 23 = .ok (.invokevirtual 24, 3) := by decide +kernel
theorem dL_holds_26 : decode cL_holds 26 = .ok (.iconst (-1), 1) := by decide +kernel
theorem dL_holds_27 : decode cL_holds 27 = .ok (.if_icmp .ne 16, 3) := by decide +kernel
theorem dL_holds_30 : decode cL_holds 30 = .ok (.aload_n 0, 1) := by decide +kernel
theorem dL_holds_31 : decode cL_holds 31 = .ok (.iload_n 2, 1) := by decide +kernel
theorem dL_holds_32 : decode cL_holds 32 = .ok (.invokevirtual 81, 3) := by decide +kernel
theorem dL_holds_35 : decode cL_holds 35 = .ok (.iconst (-1), 1) := by decide +kernel
theorem dL_holds_36 : decode cL_holds 36 = .ok (.if_icmp .ne 7, 3) := by decide +kernel
theorem dL_holds_39 : decode cL_holds 39 = .ok (.iconst 1, 1) := by decide +kernel
theorem dL_holds_40 : decode cL_holds 40 = .ok (.goto 4, 3) := by decide +kernel
theorem dL_holds_43 : decode cL_holds 43 = .ok (.iconst 0, 1) := by decide +kernel
theorem dL_holds_44 : decode cL_holds 44 = .ok (.istore 5, 2) := by decide +kernel
theorem dL_holds_46 : decode cL_holds 46 = .ok (.iconst 0, 1) := by decide +kernel
theorem dL_holds_47 : decode cL_holds 47 = .ok (.istore 6, 2) := by decide +kernel
theorem dL_holds_49 : decode cL_holds 49 = .ok (.iload 6, 2) := by decide +kernel
theorem dL_holds_51 : decode cL_holds 51 = .ok (.iload_n 2, 1) := by decide +kernel
theorem dL_holds_52 : decode cL_holds 52 = .ok (.if_icmp .ge 138, 3) := by decide +kernel
theorem dL_holds_55 : decode cL_holds 55 = .ok (.iload 5, 2) := by decide +kernel
theorem dL_holds_57 : decode cL_holds 57 = .ok (.ifCond .eq 133, 3) := by decide +kernel
theorem dL_holds_60 : decode cL_holds 60 = .ok (.aload_n 0, 1) := by decide +kernel
theorem dL_holds_61 : decode cL_holds 61 = .ok (.iconst 0, 1) := by decide +kernel
theorem dL_holds_62 : decode cL_holds 62 = .ok (.iload 6, 2) := by decide +kernel
theorem dL_holds_64 : decode cL_holds 64 = .ok (.invokestatic 84, 3) := by decide +kernel
theorem dL_holds_67 : decode cL_holds 67 = .ok (.ifCond .eq 30, 3) := by decide +kernel
theorem dL_holds_70 : decode cL_holds 70 = .ok (.aload_n 0, 1) := by decide +kernel
theorem dL_holds_71 : decode cL_holds 71 = .ok (.iconst 1, 1) := by decide +kernel
theorem dL_holds_72 : decode cL_holds 72 = .ok (.iload 6, 2) := by decide +kernel
theorem dL_holds_74 : decode cL_holds 74 = .ok (.invokestatic 84, 3) := by decide +kernel
theorem dL_holds_77 : decode cL_holds 77 = .ok (.ifCond .eq 20, 3) := by decide +kernel
theorem dL_holds_80 : decode cL_holds 80 = .ok (.aload_n 0, 1) := by decide +kernel
theorem dL_holds_81 : decode cL_holds 81 = .ok (.iload 6, 2) := by decide +kernel
theorem dL_holds_83 : decode cL_holds 83 = .ok (.aload_n 1, 1) := by decide +kernel
theorem dL_holds_84 : decode cL_holds 84 = .ok (.iload 6, 2) := by decide +kernel
theorem dL_holds_86 : decode cL_holds 86 = .ok (.iaload, 1) := by decide +kernel
theorem dL_holds_87 : decode cL_holds 87 = .ok (.invokestatic 87, 3) := by decide +kernel
theorem dL_holds_90 : decode cL_holds 90 = .ok (.ifCond .eq 7, 3) := by decide +kernel
theorem dL_holds_93 : decode cL_holds 93 = .ok (.iconst 1, 1) := by decide +kernel
theorem dL_holds_94 : decode cL_holds 94 = .ok (.goto 4, 3) := by decide +kernel
theorem dL_holds_97 : decode cL_holds 97 = .ok (.iconst 0, 1) := by decide +kernel
theorem dL_holds_98 : decode cL_holds 98 = .ok (.istore 5, 2) := by decide +kernel
theorem dL_holds_100 : decode cL_holds 100 = .ok (.iload_n 3, 1) := by decide +kernel
theorem dL_holds_101 : decode cL_holds 101 = .ok (.iconst 1, 1) := by decide +kernel
theorem dL_holds_102 : decode cL_holds 102 = .ok (.aload_n 0, 1) := by decide +kernel
theorem dL_holds_103 : decode cL_holds 103 = .ok (.iload 6, 2) := by decide +kernel
theorem dL_holds_105 : decode cL_holds 105 = .ok (.iconst 1, 1) := by decide +kernel
theorem dL_holds_106 : decode cL_holds 106 = .ok (.invokevirtual 44, 3) := by decide +kernel
theorem dL_holds_109 : decode cL_holds 109 = .ok (.iadd, 1) := by decide +kernel
theorem dL_holds_110 : decode cL_holds 110 = .ok (.iadd, 1) := by decide +kernel
theorem dL_holds_111 : decode cL_holds 111 = .ok (.istore_n 3, 1) := by decide +kernel
theorem dL_holds_112 : decode cL_holds 112 = .ok (.iload 4, 2) := by decide +kernel
theorem dL_holds_114 : decode cL_holds 114 = .ok (.aload_n 0, 1) := by decide +kernel
theorem dL_holds_115 : decode cL_holds 115 = .ok (.iload 6, 2) := by decide +kernel
theorem dL_holds_117 : decode cL_holds 117 = .ok (.iconst 4, 1) := by decide +kernel
theorem dL_holds_118 : decode cL_holds 118 = .ok (.invokevirtual 44, 3) := by decide +kernel
theorem dL_holds_121 : decode cL_holds 121 = .ok (.iadd, 1) := by decide +kernel
theorem dL_holds_122 : decode cL_holds 122 = .ok (.istore 4, 2) := by decide +kernel
theorem dL_holds_124 : decode cL_holds 124 = .ok (.iload 5, 2) := by decide +kernel
theorem dL_holds_126 : decode cL_holds 126 = .ok (.ifCond .eq 55, 3) := by decide +kernel
theorem dL_holds_129 : decode cL_holds 129 = .ok (.aload_n 0, 1) := by decide +kernel
theorem dL_holds_130 : decode cL_holds 130 = .ok (.iconst 2, 1) := by decide +kernel
theorem dL_holds_131 : decode cL_holds 131 = .ok (.invokevirtual 9, 3) := by decide +kernel
theorem dL_holds_134 : decode cL_holds 134 = .ok (.iload 6, 2) := by decide +kernel
theorem dL_holds_136 : decode cL_holds 136 = .ok (.ishr, 1) := by decide +kernel
theorem dL_holds_137 : decode cL_holds 137 = .ok (.iconst 1, 1) := by decide +kernel
theorem dL_holds_138 : decode cL_holds 138 = .ok (.iand, 1) := by decide +kernel
theorem dL_holds_139 : decode cL_holds 139 = .ok (.aload_n 0, 1) := by decide +kernel
theorem dL_holds_140 : decode cL_holds 140 = .ok (.iload 6, 2) := by decide +kernel
theorem dL_holds_142 : decode cL_holds 142 = .ok (.iconst 3, 1) := by decide +kernel
theorem dL_holds_143 : decode cL_holds 143 = .ok (.invokevirtual 44, 3) := by decide +kernel
theorem dL_holds_146 : decode cL_holds 146 = .ok (.ifCond .le 7, 3) := by decide +kernel
theorem dL_holds_149 : decode cL_holds 149 = .ok (.iconst 1, 1) := by decide +kernel
theorem dL_holds_150 : decode cL_holds 150 = .ok (.goto 4, 3) := by decide +kernel
theorem dL_holds_153 : decode cL_holds 153 = .ok (.iconst 0, 1) := by decide +kernel
theorem dL_holds_154 : decode cL_holds 154 = .ok (.if_icmp .ne 27, 3) := by decide +kernel
theorem dL_holds_157 : decode cL_holds 157 = .ok (.aload_n 0, 1) := by decide +kernel
theorem dL_holds_158 : decode cL_holds 158 = .ok (.iconst 3, 1) := by decide +kernel
theorem dL_holds_159 : decode cL_holds 159 = .ok (.invokevirtual 9, 3) := by decide +kernel
theorem dL_holds_162 : decode cL_holds 162 = .ok (.iload 6, 2) := by decide +kernel
theorem dL_holds_164 : decode cL_holds 164 = .ok (.ishr, 1) := by decide +kernel
theorem dL_holds_165 : decode cL_holds 165 = .ok (.iconst 1, 1) := by decide +kernel
theorem dL_holds_166 : decode cL_holds 166 = .ok (.iand, 1) := by decide +kernel
theorem dL_holds_167 : decode cL_holds 167 = .ok (.aload_n 0, 1) := by decide +kernel
theorem dL_holds_168 : decode cL_holds 168 = .ok (.iload 6, 2) := by decide +kernel
theorem dL_holds_170 : decode cL_holds 170 = .ok (.iconst 5, 1) := by decide +kernel
theorem dL_holds_171 : decode cL_holds 171 = .ok (.invokevirtual 44, 3) := by decide +kernel
theorem dL_holds_174 : decode cL_holds 174 = .ok (.if_icmp .ne 7, 3) := by decide +kernel
theorem dL_holds_177 : decode cL_holds 177 = .ok (.iconst 1, 1) := by decide +kernel
theorem dL_holds_178 : decode cL_holds 178 = .ok (.goto 4, 3) := by decide +kernel
theorem dL_holds_181 : decode cL_holds 181 = .ok (.iconst 0, 1) := by decide +kernel
theorem dL_holds_182 : decode cL_holds 182 = .ok (.istore 5, 2) := by decide +kernel
theorem dL_holds_184 : decode cL_holds 184 = .ok (.iinc 6 1, 3) := by decide +kernel
theorem dL_holds_187 : decode cL_holds 187 = .ok (.goto (-138), 3) := by decide +kernel
theorem dL_holds_190 : decode cL_holds 190 = .ok (.iload 5, 2) := by decide +kernel
theorem dL_holds_192 : decode cL_holds 192 = .ok (.ifCond .eq 55, 3) := by decide +kernel
theorem dL_holds_195 : decode cL_holds 195 = .ok (.aload_n 0, 1) := by decide +kernel
theorem dL_holds_196 : decode cL_holds 196 = .ok (.bipush 6, 2) := by decide +kernel
theorem dL_holds_198 : decode cL_holds 198 = .ok (.invokevirtual 9, 3) := by decide +kernel
theorem dL_holds_201 : decode cL_holds 201 = .ok (.aload_n 0, 1) := by decide +kernel
theorem dL_holds_202 : decode cL_holds 202 = .ok (.bipush 7, 2) := by decide +kernel
theorem dL_holds_204 : decode cL_holds 204 = .ok (.invokevirtual 9, 3) := by decide +kernel
theorem dL_holds_207 : decode cL_holds 207 = .ok (.isub, 1) := by decide +kernel
theorem dL_holds_208 : decode cL_holds 208 = .ok (.iload_n 3, 1) := by decide +kernel
theorem dL_holds_209 : decode cL_holds 209 = .ok (.if_icmp .ne 38, 3) := by decide +kernel
theorem dL_holds_212 : decode cL_holds 212 = .ok (.aload_n 0, 1) := by decide +kernel
theorem dL_holds_213 : decode cL_holds 213 = .ok (.bipush 8, 2) := by decide +kernel
theorem dL_holds_215 : decode cL_holds 215 = .ok (.invokevirtual 9, 3) := by decide +kernel
theorem dL_holds_218 : decode cL_holds 218 = .ok (.iload 4, 2) := by decide +kernel
theorem dL_holds_220 : decode cL_holds 220 = .ok (.if_icmp .ne 27, 3) := by decide +kernel
theorem dL_holds_223 : decode cL_holds 223 = .ok (.aload_n 0, 1) := by decide +kernel
theorem dL_holds_224 : decode cL_holds 224 = .ok (.iconst 2, 1) := by decide +kernel
theorem dL_holds_225 : decode cL_holds 225 = .ok (.invokevirtual 9, 3) := by decide +kernel
theorem dL_holds_228 : decode cL_holds 228 = .ok (.iload_n 2, 1) := by decide +kernel
theorem dL_holds_229 : decode cL_holds 229 = .ok (.ishr, 1) := by decide +kernel
theorem dL_holds_230 : decode cL_holds 230 = .ok (.ifCond .ne 17, 3) := by decide +kernel
theorem dL_holds_233 : decode cL_holds 233 = .ok (.aload_n 0, 1) := by decide +kernel
theorem dL_holds_234 : decode cL_holds 234 = .ok (.iconst 3, 1) := by decide +kernel
theorem dL_holds_235 : decode cL_holds 235 = .ok (.invokevirtual 9, 3) := by decide +kernel
theorem dL_holds_238 : decode cL_holds 238 = .ok (.iload_n 2, 1) := by decide +kernel
theorem dL_holds_239 : decode cL_holds 239 = .ok (.ishr, 1) := by decide +kernel
theorem dL_holds_240 : decode cL_holds 240 = .ok (.ifCond .ne 7, 3) := by decide +kernel
theorem dL_holds_243 : decode cL_holds 243 = .ok (.iconst 1, 1) := by decide +kernel
theorem dL_holds_244 : decode cL_holds 244 = .ok (.goto 4, 3) := by decide +kernel
theorem dL_holds_247 : decode cL_holds 247 = .ok (.iconst 0, 1) := by decide +kernel
theorem dL_holds_248 : decode cL_holds 248 = .ok (.ireturn, 1) := by decide +kernel
theorem dL_isCaught_0 : decode cL_isCaught 0 = .ok (.aload_n 0, 1) := by decide +kernel
theorem dL_isCaught_1 : decode cL_isCaught 1 = .ok (.iconst 1, 1) := by decide +kernel
theorem dL_isCaught_2 : decode cL_isCaught 2 = .ok (.iload_n 1, 1) := by decide +kernel
theorem dL_isCaught_3 : decode cL_isCaught 3 = .ok (.isub, 1) := by decide +kernel
theorem dL_isCaught_4 : decode cL_isCaught 4 = .ok (.iload_n 2, 1) := by decide +kernel
theorem dL_isCaught_5 : decode cL_isCaught 5 = .ok (.iconst 2, 1) := by decide +kernel
theorem dL_isCaught_6 : decode cL_isCaught 6 = .ok (.invokevirtual 59, 3) := by decide +kernel
theorem dL_isCaught_9 : decode cL_isCaught 9 = .ok (.aload_n 0, 1) := by decide +kernel
theorem dL_isCaught_10 : decode cL_isCaught 10 = .ok (.iload_n 1, 1) := by decide +kernel
theorem dL_isCaught_11 : decode cL_isCaught 11 = .ok (.iload_n 2, 1) := by decide +kernel
theorem dL_isCaught_12 : decode cL_isCaught 12 = .ok (.bipush 6, 2) := by decide +kernel
theorem dL_isCaught_14 : decode cL_isCaught 14 = .ok (.invokevirtual 59, 3) := by decide +kernel
theorem dL_isCaught_17 : decode cL_isCaught 17 = .ok (.imul, 1) := by decide +kernel
theorem dL_isCaught_18 : decode cL_isCaught 18 = .ok (.aload_n 0, 1) := by decide +kernel
theorem dL_isCaught_19 : decode cL_isCaught 19 = .ok (.iconst 1, 1) := by decide +kernel
theorem dL_isCaught_20 : decode cL_isCaught 20 = .ok (.iload_n 1, 1) := by decide +kernel
theorem dL_isCaught_21 : decode cL_isCaught 21 = .ok (.isub, 1) := by decide +kernel
theorem dL_isCaught_22 : decode cL_isCaught 22 = .ok (.iload_n 2, 1) := by decide +kernel
theorem dL_isCaught_23 : decode cL_isCaught 23 = .ok (.iconst 3, 1) := by decide +kernel
theorem dL_isCaught_24 : decode cL_isCaught 24 = .ok (.invokevirtual 59, 3) := by decide +kernel
theorem dL_isCaught_27 : decode cL_isCaught 27 = .ok (.iadd, 1) := by decide +kernel
theorem dL_isCaught_28 : decode cL_isCaught 28 = .ok (.sipush 257, 3) := by decide +kernel
theorem dL_isCaught_31 : decode cL_isCaught 31 = .ok (.irem, 1) := by decide +kernel
theorem dL_isCaught_32 : decode cL_isCaught 32 = .ok (.aload_n 0, 1) := by decide +kernel
theorem dL_isCaught_33 : decode cL_isCaught 33 = .ok (.iload_n 1, 1) := by decide +kernel
theorem dL_isCaught_34 : decode cL_isCaught 34 = .ok (.iload_n 2, 1) := by decide +kernel
theorem dL_isCaught_35 : decode cL_isCaught 35 = .ok (.bipush 7, 2) := by decide +kernel
theorem dL_isCaught_37 : decode cL_isCaught 37 = .ok (.invokevirtual 59, 3) := by decide +kernel
theorem dL_isCaught_40 : decode cL_isCaught 40 = .ok (.if_icmp .eq 7, 3) := by decide +kernel
theorem dL_isCaught_43 : decode cL_isCaught 43 = .ok (.iconst 1, 1) := by decide +kernel
theorem dL_isCaught_44 : decode cL_isCaught 44 = .ok (.goto 4, 3) := by decide +kernel
theorem dL_isCaught_47 : decode cL_isCaught 47 = .ok (.iconst 0, 1) := by decide +kernel
theorem dL_isCaught_48 : decode cL_isCaught 48 = .ok (.ireturn, 1) := by decide +kernel
theorem dL_isSecret_0 : decode cL_isSecret 0 = .ok (.aload_n 0, 1) := by decide +kernel
theorem dL_isSecret_1 : decode cL_isSecret 1 = .ok (.iload_n 1, 1) := by decide +kernel
theorem dL_isSecret_2 : decode cL_isSecret 2 = .ok (.iconst 1, 1) := by decide +kernel
theorem dL_isSecret_3 : decode cL_isSecret 3 = .ok (.invokevirtual 44, 3) := by decide +kernel
theorem dL_isSecret_6 : decode cL_isSecret 6 = .ok (.istore_n 3, 1) := by decide +kernel
theorem dL_isSecret_7 : decode cL_isSecret 7 = .ok (.iconst 0, 1) := by decide +kernel
theorem dL_isSecret_8 : decode cL_isSecret 8 = .ok (.istore 4, 2) := by decide +kernel
theorem dL_isSecret_10 : decode cL_isSecret 10 = .ok (.aload_n 0, 1) := by decide +kernel
theorem dL_isSecret_11 : decode cL_isSecret 11 = .ok (.iload_n 1, 1) := by decide +kernel
theorem dL_isSecret_12 : decode cL_isSecret 12 = .ok (.iconst 5, 1) := by decide +kernel
theorem dL_isSecret_13 : decode cL_isSecret 13 = .ok (.invokevirtual 44, 3) := by decide +kernel
theorem dL_isSecret_16 : decode cL_isSecret 16 = .ok (.iconst 1, 1) := by decide +kernel
theorem dL_isSecret_17 : decode cL_isSecret 17 = .ok (.if_icmp .ne 7, 3) := by decide +kernel
theorem dL_isSecret_20 : decode cL_isSecret 20 = .ok (.iconst 1, 1) := by decide +kernel
theorem dL_isSecret_21 : decode cL_isSecret 21 = .ok (.goto 4, 3) := by decide +kernel
theorem dL_isSecret_24 : decode cL_isSecret 24 = .ok (.iconst 0, 1) := by decide +kernel
theorem dL_isSecret_25 : decode cL_isSecret 25 = .ok (.istore 5, 2) := by decide +kernel
theorem dL_isSecret_27 : decode cL_isSecret 27 = .ok (.aload_n 0, 1) := by decide +kernel
theorem dL_isSecret_28 : decode cL_isSecret 28 = .ok (.iconst 0, 1) := by decide +kernel
theorem dL_isSecret_29 : decode cL_isSecret 29 = .ok (.iload_n 1, 1) := by decide +kernel
theorem dL_isSecret_30 : decode cL_isSecret 30 = .ok (.iconst 0, 1) := by decide +kernel
theorem dL_isSecret_31 : decode cL_isSecret 31 = .ok (.invokevirtual 59, 3) := by decide +kernel
theorem dL_isSecret_34 : decode cL_isSecret 34 = .ok (.aload_n 0, 1) := by decide +kernel
theorem dL_isSecret_35 : decode cL_isSecret 35 = .ok (.iconst 1, 1) := by decide +kernel
theorem dL_isSecret_36 : decode cL_isSecret 36 = .ok (.iload_n 1, 1) := by decide +kernel
theorem dL_isSecret_37 : decode cL_isSecret 37 = .ok (.iconst 0, 1) := by decide +kernel
theorem dL_isSecret_38 : decode cL_isSecret 38 = .ok (.invokevirtual 59, 3) := by decide +kernel
theorem dL_isSecret_41 : decode cL_isSecret 41 = .ok (.iadd, 1) := by decide +kernel
theorem dL_isSecret_42 : decode cL_isSecret 42 = .ok (.sipush 256, 3) := by decide +kernel
theorem dL_isSecret_45 : decode cL_isSecret 45 = .ok (.irem, 1) := by decide +kernel
theorem dL_isSecret_46 : decode cL_isSecret 46 = .ok (.iload_n 2, 1) := by decide +kernel
theorem dL_isSecret_47 : decode cL_isSecret 47 = .ok (.if_icmp .ne 41, 3) := by decide +kernel
theorem dL_isSecret_50 : decode cL_isSecret 50 = .ok (.aload_n 0, 1) := by decide +kernel
theorem dL_isSecret_51 : decode cL_isSecret 51 = .ok (.iconst 0, 1) := by decide +kernel
theorem dL_isSecret_52 : decode cL_isSecret 52 = .ok (.iload_n 1, 1) := by decide +kernel
theorem dL_isSecret_53 : decode cL_isSecret 53 = .ok (.iload_n 2, 1) := by decide +kernel
theorem dL_isSecret_54 : decode cL_isSecret 54 = .ok (.invokevirtual 65, 3) := by decide +kernel
theorem dL_isSecret_57 : decode cL_isSecret 57 = .ok (.aload_n 0, 1) := by decide +kernel
theorem dL_isSecret_58 : decode cL_isSecret 58 = .ok (.iconst 1, 1) := by decide +kernel
theorem dL_isSecret_59 : decode cL_isSecret 59 = .ok (.iload_n 1, 1) := by decide +kernel
theorem dL_isSecret_60 : decode cL_isSecret 60 = .ok (.iconst 0, 1) := by decide +kernel
theorem dL_isSecret_61 : decode cL_isSecret 61 = .ok (.invokevirtual 59, 3) := by decide +kernel
theorem dL_isSecret_64 : decode cL_isSecret 64 = .ok (.if_icmp .ne 24, 3) := by decide +kernel
theorem dL_isSecret_67 : decode cL_isSecret 67 = .ok (.aload_n 0, 1) := by decide +kernel
theorem dL_isSecret_68 : decode cL_isSecret 68 = .ok (.iconst 1, 1) := by decide +kernel
theorem dL_isSecret_69 : decode cL_isSecret 69 = .ok (.iload_n 1, 1) := by decide +kernel
theorem dL_isSecret_70 : decode cL_isSecret 70 = .ok (.iload_n 2, 1) := by decide +kernel
theorem dL_isSecret_71 : decode cL_isSecret 71 = .ok (.invokevirtual 65, 3) := by decide +kernel
theorem dL_isSecret_74 : decode cL_isSecret 74 = .ok (.aload_n 0, 1) := by decide +kernel
theorem dL_isSecret_75 : decode cL_isSecret 75 = .ok (.iconst 0, 1) := by decide +kernel
theorem dL_isSecret_76 : decode cL_isSecret 76 = .ok (.iload_n 1, 1) := by decide +kernel
theorem dL_isSecret_77 : decode cL_isSecret 77 = .ok (.iconst 0, 1) := by decide +kernel
theorem dL_isSecret_78 : decode cL_isSecret 78 = .ok (.invokevirtual 59, 3) := by decide +kernel
theorem dL_isSecret_81 : decode cL_isSecret 81 = .ok (.if_icmp .ne 7, 3) := by decide +kernel
theorem dL_isSecret_84 : decode cL_isSecret 84 = .ok (.iconst 1, 1) := by decide +kernel
theorem dL_isSecret_85 : decode cL_isSecret 85 = .ok (.goto 4, 3) := by decide +kernel
theorem dL_isSecret_88 : decode cL_isSecret 88 = .ok (.iconst 0, 1) := by decide +kernel
theorem dL_isSecret_89 : decode cL_isSecret 89 = .ok (.istore 6, 2) := by decide +kernel
theorem dL_isSecret_91 : decode cL_isSecret 91 = .ok (.aload_n 0, 1) := by decide +kernel
theorem dL_isSecret_92 : decode cL_isSecret 92 = .ok (.iload_n 1, 1) := by decide +kernel
theorem dL_isSecret_93 : decode cL_isSecret 93 = .ok (.iconst 0, 1) := by decide +kernel
theorem dL_isSecret_94 : decode cL_isSecret 94 = .ok (.invokevirtual 44, 3) := by decide +kernel
theorem dL_isSecret_97 : decode cL_isSecret 97 = .ok (.istore 7, 2) := by decide +kernel
theorem dL_isSecret_99 : decode cL_isSecret 99 = .ok (.iconst 0, 1) := by decide +kernel
theorem dL_isSecret_100 : decode cL_isSecret 100 = .ok (.istore 8, 2) := by decide +kernel
theorem dL_isSecret_102 : decode cL_isSecret 102 = .ok (.iload 8, 2) := by decide +kernel
theorem dL_isSecret_104 : decode cL_isSecret 104 = .ok (.iload_n 3, 1) := by decide +kernel
theorem dL_isSecret_105 : decode cL_isSecret 105 = .ok (.if_icmp .ge 135, 3) := by decide +kernel
theorem dL_isSecret_108 : decode cL_isSecret 108 = .ok (.iload 6, 2) := by decide +kernel
theorem dL_isSecret_110 : decode cL_isSecret 110 = .ok (.ifCond .eq 130, 3) := by decide +kernel
theorem dL_isSecret_113 : decode cL_isSecret 113 = .ok (.aload_n 0, 1) := by decide +kernel
theorem dL_isSecret_114 : decode cL_isSecret 114 = .ok (.iload_n 1, 1) := by decide +kernel
theorem dL_isSecret_115 : decode cL_isSecret 115 = .ok (.iload 8, 2) := by decide +kernel
theorem dL_isSecret_117 : decode cL_isSecret 117 = .ok (.iconst 0, 1) := by decide +kernel
theorem dL_isSecret_118 : decode cL_isSecret 118 = .ok (.invokevirtual 68, 3) := by decide +kernel
theorem dL_isSecret_121 : decode cL_isSecret 121 = .ok (.iload 7, 2) := by decide +kernel
theorem dL_isSecret_123 : decode cL_isSecret 123 = .ok (.if_icmp .ge 43, 3) := by decide +kernel
theorem dL_isSecret_126 : decode cL_isSecret 126 = .ok (.aload_n 0, 1) := by decide +kernel
theorem dL_isSecret_127 : decode cL_isSecret 127 = .ok (.iload_n 1, 1) := by decide +kernel
theorem dL_isSecret_128 : decode cL_isSecret 128 = .ok (.iload 8, 2) := by decide +kernel
theorem dL_isSecret_130 : decode cL_isSecret 130 = .ok (.iconst 0, 1) := by decide +kernel
theorem dL_isSecret_131 : decode cL_isSecret 131 = .ok (.invokevirtual 68, 3) := by decide +kernel
theorem dL_isSecret_134 : decode cL_isSecret 134 = .ok (.ifCond .le 32, 3) := by decide +kernel
theorem dL_isSecret_137 : decode cL_isSecret 137 = .ok (.aload_n 0, 1) := by decide +kernel
theorem dL_isSecret_138 : decode cL_isSecret 138 = .ok (.iload_n 1, 1) := by decide +kernel
theorem dL_isSecret_139 : decode cL_isSecret 139 = .ok (.iload 8, 2) := by decide +kernel
theorem dL_isSecret_141 : decode cL_isSecret 141 = .ok (.iconst 1, 1) := by decide +kernel
theorem dL_isSecret_142 : decode cL_isSecret 142 = .ok (.invokevirtual 68, 3) := by decide +kernel
theorem dL_isSecret_145 : decode cL_isSecret 145 = .ok (.aload_n 0, 1) := by decide +kernel
theorem dL_isSecret_146 : decode cL_isSecret 146 = .ok (.iload_n 1, 1) := by decide +kernel
theorem dL_isSecret_147 : decode cL_isSecret 147 = .ok (.iload 8, 2) := by decide +kernel
theorem dL_isSecret_149 : decode cL_isSecret 149 = .ok (.iconst 2, 1) := by decide +kernel
theorem dL_isSecret_150 : decode cL_isSecret 150 = .ok (.invokevirtual 68, 3) := by decide +kernel
theorem dL_isSecret_153 : decode cL_isSecret 153 = .ok (.iadd, 1) := by decide +kernel
theorem dL_isSecret_154 : decode cL_isSecret 154 = .ok (.sipush 256, 3) := by decide +kernel
theorem dL_isSecret_157 : decode cL_isSecret 157 = .ok (.irem, 1) := by decide +kernel
theorem dL_isSecret_158 : decode cL_isSecret 158 = .ok (.iload_n 2, 1) := by decide +kernel
theorem dL_isSecret_159 : decode cL_isSecret 159 = .ok (.if_icmp .ne 7, 3) := by decide +kernel
theorem dL_isSecret_162 : decode cL_isSecret 162 = .ok (.iconst 1, 1) := by decide +kernel
theorem dL_isSecret_163 : decode cL_isSecret 163 = .ok (.goto 4, 3) := by decide +kernel
theorem dL_isSecret_166 : decode cL_isSecret 166 = .ok (.iconst 0, 1) := by decide +kernel
theorem dL_isSecret_167 : decode cL_isSecret 167 = .ok (.istore 6, 2) := by decide +kernel
theorem dL_isSecret_169 : decode cL_isSecret 169 = .ok (.aload_n 0, 1) := by decide +kernel
theorem dL_isSecret_170 : decode cL_isSecret 170 = .ok (.iload_n 1, 1) := by decide +kernel
theorem dL_isSecret_171 : decode cL_isSecret 171 = .ok (.iload 8, 2) := by decide +kernel
theorem dL_isSecret_173 : decode cL_isSecret 173 = .ok (.iconst 0, 1) := by decide +kernel
theorem dL_isSecret_174 : decode cL_isSecret 174 = .ok (.invokevirtual 68, 3) := by decide +kernel
theorem dL_isSecret_177 : decode cL_isSecret 177 = .ok (.istore 7, 2) := by decide +kernel
theorem dL_isSecret_179 : decode cL_isSecret 179 = .ok (.aload_n 0, 1) := by decide +kernel
theorem dL_isSecret_180 : decode cL_isSecret 180 = .ok (.iload_n 1, 1) := by decide +kernel
theorem dL_isSecret_181 : decode cL_isSecret 181 = .ok (.iload 8, 2) := by decide +kernel
theorem dL_isSecret_183 : decode cL_isSecret 183 = .ok (.iconst 3, 1) := by decide +kernel
theorem dL_isSecret_184 : decode cL_isSecret 184 = .ok (.invokevirtual 68, 3) := by decide +kernel
theorem dL_isSecret_187 : decode cL_isSecret 187 = .ok (.istore 9, 2) := by decide +kernel
theorem dL_isSecret_189 : decode cL_isSecret 189 = .ok (.iload 4, 2) := by decide +kernel
theorem dL_isSecret_191 : decode cL_isSecret 191 = .ok (.iload 9, 2) := by decide +kernel
theorem dL_isSecret_193 : decode cL_isSecret 193 = .ok (.iconst 1, 1) := by decide +kernel
theorem dL_isSecret_194 : decode cL_isSecret 194 = .ok (.if_icmp .eq 9, 3) := by decide +kernel
theorem dL_isSecret_197 : decode cL_isSecret 197 = .ok (.iload 9, 2) := by decide +kernel
theorem dL_isSecret_199 : decode cL_isSecret 199 = .ok (.iconst 2, 1) := by decide +kernel
theorem dL_isSecret_200 : decode cL_isSecret 200 = .ok (.if_icmp .ne 7, 3) := by decide +kernel
theorem dL_isSecret_203 : decode cL_isSecret 203 = .ok (.iconst 1, 1) := by decide +kernel
theorem dL_isSecret_204 : decode cL_isSecret 204 = .ok (.goto 4, 3) := by decide +kernel
theorem dL_isSecret_207 : decode cL_isSecret 207 = .ok (.iconst 0, 1) := by decide +kernel
theorem dL_isSecret_208 : decode cL_isSecret 208 = .ok (.iadd, 1) := by decide +kernel
theorem dL_isSecret_209 : decode cL_isSecret 209 = .ok (.istore 4, 2) := by decide +kernel
theorem dL_isSecret_211 : decode cL_isSecret 211 = .ok (.iload 6, 2) := by decide +kernel
theorem dL_isSecret_213 : decode cL_isSecret 213 = .ok (.ifCond .eq 18, 3) := by decide +kernel
theorem dL_isSecret_216 : decode cL_isSecret 216 = .ok (.iload 9, 2) := by decide +kernel
theorem dL_isSecret_218 : decode cL_isSecret 218 = .ok (.iconst 3, 1) := by decide +kernel
theorem dL_isSecret_219 : decode cL_isSecret 219 = .ok (.if_icmp .lt 8, 3) := by decide +kernel
theorem dL_isSecret_222 : decode cL_isSecret 222 = .ok (.iload 5, 2) := by decide +kernel
theorem dL_isSecret_224 : decode cL_isSecret 224 = .ok (.ifCond .eq 7, 3) := by decide +kernel
theorem dL_isSecret_227 : decode cL_isSecret 227 = .ok (.iconst 1, 1) := by decide +kernel
theorem dL_isSecret_228 : decode cL_isSecret 228 = .ok (.goto 4, 3) := by decide +kernel
theorem dL_isSecret_231 : decode cL_isSecret 231 = .ok (.iconst 0, 1) := by decide +kernel
theorem dL_isSecret_232 : decode cL_isSecret 232 = .ok (.istore 6, 2) := by decide +kernel
theorem dL_isSecret_234 : decode cL_isSecret 234 = .ok (.iinc 8 1, 3) := by decide +kernel
theorem dL_isSecret_237 : decode cL_isSecret 237 = .ok (.goto (-135), 3) := by decide +kernel
theorem dL_isSecret_240 : decode cL_isSecret 240 = .ok (.iload 6, 2) := by decide +kernel
theorem dL_isSecret_242 : decode cL_isSecret 242 = .ok (.ifCond .eq 45, 3) := by decide +kernel
theorem dL_isSecret_245 : decode cL_isSecret 245 = .ok (.iload_n 3, 1) := by decide +kernel
theorem dL_isSecret_246 : decode cL_isSecret 246 = .ok (.iconst 4, 1) := by decide +kernel
theorem dL_isSecret_247 : decode cL_isSecret 247 = .ok (.if_icmp .gt 40, 3) := by decide +kernel
theorem dL_isSecret_250 : decode cL_isSecret 250 = .ok (.aload_n 0, 1) := by decide +kernel
theorem dL_isSecret_251 : decode cL_isSecret 251 = .ok (.iload_n 1, 1) := by decide +kernel
theorem dL_isSecret_252 : decode cL_isSecret 252 = .ok (.iload_n 3, 1) := by decide +kernel
theorem dL_isSecret_253 : decode cL_isSecret 253 = .ok (.iconst 0, 1) := by decide +kernel
theorem dL_isSecret_254 : decode cL_isSecret 254 = .ok (.invokevirtual 68, 3) := by decide +kernel
theorem dL_isSecret_257 : decode cL_isSecret 257 = .ok (.iconst (-1), 1) := by decide +kernel
theorem dL_isSecret_258 : decode cL_isSecret 258 = .ok (.if_icmp .ne 29, 3) := by decide +kernel
theorem dL_isSecret_261 : decode cL_isSecret 261 = .ok (.aload_n 0, 1) := by decide +kernel
theorem dL_isSecret_262 : decode cL_isSecret 262 = .ok (.iload_n 1, 1) := by decide +kernel
theorem dL_isSecret_263 : decode cL_isSecret 263 = .ok (.invokevirtual 71, 3) := by decide +kernel
theorem dL_isSecret_266 : decode cL_isSecret 266 = .ok (.iload 4, 2) := by decide +kernel
theorem dL_isSecret_268 : decode cL_isSecret 268 = .ok (.if_icmp .lt 19, 3) := by decide +kernel
theorem dL_isSecret_271 : decode cL_isSecret 271 = .ok (.aload_n 0, 1) := by decide +kernel
theorem dL_isSecret_272 : decode cL_isSecret 272 = .ok (.iload_n 1, 1) := by decide +kernel
theorem dL_isSecret_273 : decode cL_isSecret 273 = .ok (.invokevirtual 71, 3) := by decide +kernel
theorem dL_isSecret_276 : decode cL_isSecret 276 = .ok (.iload 4, 2) := by decide +kernel
theorem dL_isSecret_278 : decode cL_isSecret 278 = .ok (.iconst 1, 1) := by decide +kernel
theorem dL_isSecret_279 : decode cL_isSecret 279 = .ok (.iadd, 1) := by decide +kernel
theorem dL_isSecret_280 : decode cL_isSecret 280 = .ok (.if_icmp .gt 7, 3) := by decide +kernel
theorem dL_isSecret_283 : decode cL_isSecret 283 = .ok (.iconst 1, 1) := by decide +kernel
theorem dL_isSecret_284 : decode cL_isSecret 284 = .ok (.goto 4, 3) := by decide +kernel
theorem dL_isSecret_287 : decode cL_isSecret 287 = .ok (.iconst 0, 1) := by decide +kernel
theorem dL_isSecret_288 : decode cL_isSecret 288 = .ok (.istore 6, 2) := by decide +kernel
theorem dL_isSecret_290 : decode cL_isSecret 290 = .ok (.iload 6, 2) := by decide +kernel
theorem dL_isSecret_292 : decode cL_isSecret 292 = .ok (.ifCond .eq 53, 3) := by decide +kernel
theorem dL_isSecret_295 : decode cL_isSecret 295 = .ok (.aload_n 0, 1) := by decide +kernel
theorem dL_isSecret_296 : decode cL_isSecret 296 = .ok (.iload_n 1, 1) := by decide +kernel
theorem dL_isSecret_297 : decode cL_isSecret 297 = .ok (.invokevirtual 74, 3) := by decide +kernel
theorem dL_isSecret_300 : decode cL_isSecret 300 = .ok (.iload 5, 2) := by decide +kernel
theorem dL_isSecret_302 : decode cL_isSecret 302 = .ok (.ifCond .eq 7, 3) := by decide +kernel
theorem dL_isSecret_305 : decode cL_isSecret 305 = .ok (.iconst 0, 1) := by decide +kernel
theorem dL_isSecret_306 : decode cL_isSecret 306 = .ok (.goto 16, 3) := by decide +kernel
theorem dL_isSecret_309 : decode cL_isSecret 309 = .ok (.aload_n 0, 1) := by decide +kernel
theorem dL_isSecret_310 : decode cL_isSecret 310 = .ok (.iload_n 1, 1) := by decide +kernel
theorem dL_isSecret_311 : decode cL_isSecret 311 = .ok (.invokevirtual 71, 3) := by decide +kernel
theorem dL_isSecret_314 : decode cL_isSecret 314 = .ok (.ifCond .le 7, 3) := by decide +kernel
theorem dL_isSecret_317 : decode cL_isSecret 317 = .ok (.iconst 1, 1) := by decide +kernel
theorem dL_isSecret_318 : decode cL_isSecret 318 = .ok (.goto 4, 3) := by decide +kernel
theorem dL_isSecret_321 : decode cL_isSecret 321 = .ok (.iconst 2, 1) := by decide +kernel
theorem dL_isSecret_322 : decode cL_isSecret 322 = .ok (.if_icmp .ne 23, 3) := by decide +kernel
theorem dL_isSecret_325 : decode cL_isSecret 325 = .ok (.iload 5, 2) := by decide +kernel
theorem dL_isSecret_327 : decode cL_isSecret 327 = .ok (.ifCond .eq 14, 3) := by decide +kernel
theorem dL_isSecret_330 : decode cL_isSecret 330 = .ok (.aload_n 0, 1) := by decide +kernel
theorem dL_isSecret_331 : decode cL_isSecret 331 = .ok (.iload_n 1, 1) := by decide +kernel
theorem dL_isSecret_332 : decode cL_isSecret 332 = .ok (.bipush 6, 2) := by decide +kernel
theorem dL_isSecret_334 : decode cL_isSecret 334 = .ok (.invokevirtual 44, 3) := by decide +kernel
theorem dL_isSecret_337 : decode cL_isSecret 337 = .ok (.iconst 1, 1) := by decide +kernel
theorem dL_isSecret_338 : decode cL_isSecret 338 = .ok (.if_icmp .le 7, 3) := by decide +kernel
theorem dL_isSecret_341 : decode cL_isSecret 341 = .ok (.iconst 1, 1) := by decide +kernel
theorem dL_isSecret_342 : decode cL_isSecret 342 = .ok (.goto 4, 3) := by decide +kernel
theorem dL_isSecret_345 : decode cL_isSecret 345 = .ok (.iconst 0, 1) := by decide +kernel
theorem dL_isSecret_346 : decode cL_isSecret 346 = .ok (.istore 6, 2) := by decide +kernel
theorem dL_isSecret_348 : decode cL_isSecret 348 = .ok (.aload_n 0, 1) := by decide +kernel
theorem dL_isSecret_349 : decode cL_isSecret 349 = .ok (.iconst 1, 1) := by decide +kernel
theorem dL_isSecret_350 : decode cL_isSecret 350 = .ok (.iload_n 1, 1) := by decide +kernel
theorem dL_isSecret_351 : decode cL_isSecret 351 = .ok (.invokestatic 77, 3) := by decide +kernel
theorem dL_isSecret_354 : decode cL_isSecret 354 = .ok (.ifCond .eq 9, 3) := by decide +kernel
theorem dL_isSecret_357 : decode cL_isSecret 357 = .ok (.sipush 1000, 3) := by decide +kernel
theorem dL_isSecret_360 : decode cL_isSecret 360 = .ok (.goto 39, 3) := by decide +kernel
theorem dL_isSecret_363 : decode cL_isSecret 363 = .ok (.aload_n 0, 1) := by decide +kernel
theorem dL_isSecret_364 : decode cL_isSecret 364 = .ok (.iconst 0, 1) := by decide +kernel
theorem dL_isSecret_365 : decode cL_isSecret 365 = .ok (.iload_n 1, 1) := by decide +kernel
theorem dL_isSecret_366 : decode cL_isSecret 366 = .ok (.invokestatic 77, 3) := by decide +kernel
theorem dL_isSecret_369 : decode cL_isSecret 369 = .ok (.ifCond .eq 9, 3) := by decide +kernel
theorem dL_isSecret_372 : decode cL_isSecret 372 = .ok (.sipush 1001, 3) := by decide +kernel
theorem dL_isSecret_375 : decode cL_isSecret 375 = .ok (.goto 24, 3) := by decide +kernel
theorem dL_isSecret_378 : decode cL_isSecret 378 = .ok (.aload_n 0, 1) := by decide +kernel
theorem dL_isSecret_379 : decode cL_isSecret 379 = .ok (.iconst 0, 1) := by decide +kernel
theorem dL_isSecret_380 : decode cL_isSecret 380 = .ok (.iload_n 1, 1) := by decide +kernel
theorem dL_isSecret_381 : decode cL_isSecret 381 = .ok (.bipush 6, 2) := by decide +kernel
theorem dL_isSecret_383 : decode cL_isSecret 383 = .ok (.invokevirtual 59, 3) := by decide +kernel
theorem dL_isSecret_386 : decode cL_isSecret 386 = .ok (.aload_n 0, 1) := by decide +kernel
theorem dL_isSecret_387 : decode cL_isSecret 387 = .ok (.iconst 1, 1) := by decide +kernel
theorem dL_isSecret_388 : decode cL_isSecret 388 = .ok (.iload_n 1, 1) := by decide +kernel
theorem dL_isSecret_389 : decode cL_isSecret 389 = .ok (.bipush 6, 2) := by decide +kernel
theorem dL_isSecret_391 : decode cL_isSecret 391 = .ok (.invokevirtual 59, 3) := by decide +kernel
theorem dL_isSecret_394 : decode cL_isSecret 394 = .ok (.iadd, 1) := by decide +kernel
theorem dL_isSecret_395 : decode cL_isSecret 395 = .ok (.sipush 256, 3) := by decide +kernel
theorem dL_isSecret_398 : decode cL_isSecret 398 = .ok (.irem, 1) := by decide +kernel
theorem dL_isSecret_399 : decode cL_isSecret 399 = .ok (.istore 8, 2) := by decide +kernel
theorem dL_isSecret_401 : decode cL_isSecret 401 = .ok (.aload_n 0, 1) := by decide +kernel
theorem dL_isSecret_402 : decode cL_isSecret 402 = .ok (.iconst 4, 1) := by decide +kernel
theorem dL_isSecret_403 : decode cL_isSecret 403 = .ok (.invokevirtual 9, 3) := by decide +kernel
theorem dL_isSecret_406 : decode cL_isSecret 406 = .ok (.aload_n 0, 1) := by decide +kernel
theorem dL_isSecret_407 : decode cL_isSecret 407 = .ok (.iconst 5, 1) := by decide +kernel
theorem dL_isSecret_408 : decode cL_isSecret 408 = .ok (.invokevirtual 9, 3) := by decide +kernel
theorem dL_isSecret_411 : decode cL_isSecret 411 = .ok (.iadd, 1) := by decide +kernel
theorem dL_isSecret_412 : decode cL_isSecret 412 = .ok (.ifCond .le 8, 3) := by decide +kernel
theorem dL_isSecret_415 : decode cL_isSecret 415 = .ok (.bipush (-5), 2) := by decide +kernel
theorem dL_isSecret_417 : decode cL_isSecret 417 = .ok (.goto 5, 3) := by decide +kernel
theorem dL_isSecret_420 : decode cL_isSecret 420 = .ok (.iload 8, 2) := by decide +kernel
theorem dL_isSecret_422 : decode cL_isSecret 422 = .ok (.istore 8, 2) := by decide +kernel
theorem dL_isSecret_424 : decode cL_isSecret 424 = .ok (.iload 6, 2) := by decide +kernel
theorem dL_isSecret_426 : decode cL_isSecret 426 = .ok (.ifCond .eq 50, 3) := by decide +kernel
theorem dL_isSecret_429 : decode cL_isSecret 429 = .ok (.aload_n 0, 1) := by decide +kernel
theorem dL_isSecret_430 : decode cL_isSecret 430 = .ok (.iload_n 1, 1) := by decide +kernel
theorem dL_isSecret_431 : decode cL_isSecret 431 = .ok (.invokevirtual 81, 3) := by decide +kernel
theorem dL_isSecret_434 : decode cL_isSecret 434 = .ok (.iload 8, 2) := by decide +kernel
theorem dL_isSecret_436 : decode cL_isSecret 436 = .ok (.if_icmp .ne 40, 3) := by decide +kernel
theorem dL_isSecret_439 : decode cL_isSecret 439 = .ok (.aload_n 0, 1) := by decide +kernel
theorem dL_isSecret_440 : decode cL_isSecret 440 = .ok (.iload_n 1, 1) := by decide +kernel
theorem dL_isSecret_441 : decode cL_isSecret 441 = .ok (.iconst 2, 1) := by decide +kernel
theorem dL_isSecret_442 : decode cL_isSecret 442 = .ok (.invokevirtual 44, 3) := by decide +kernel
theorem dL_isSecret_445 : decode cL_isSecret 445 = .ok (.bipush (-6), 2) := by decide +kernel
theorem dL_isSecret_447 : decode cL_isSecret 447 = .ok (.if_icmp .ne 7, 3) := by decide +kernel
theorem dL_isSecret_450 : decode cL_isSecret 450 = .ok (.iconst 1, 1) := by decide +kernel
theorem dL_isSecret_451 : decode cL_isSecret 451 = .ok (.goto 4, 3) := by decide +kernel
theorem dL_isSecret_454 : decode cL_isSecret 454 = .ok (.iconst 0, 1) := by decide +kernel
theorem dL_isSecret_455 : decode cL_isSecret 455 = .ok (.aload_n 0, 1) := by decide +kernel
theorem dL_isSecret_456 : decode cL_isSecret 456 = .ok (.iload_n 1, 1) := by decide +kernel
theorem dL_isSecret_457 : decode cL_isSecret 457 = .ok (.iconst 3, 1) := by decide +kernel
theorem dL_isSecret_458 : decode cL_isSecret 458 = .ok (.invokevirtual 44, 3) := by decide +kernel
theorem dL_isSecret_461 : decode cL_isSecret 461 = .ok (.ifCond .ne 7, 3) := by decide +kernel
theorem dL_isSecret_464 : decode cL_isSecret 464 = .ok (.iconst 1, 1) := by decide +kernel
theorem dL_isSecret_465 : decode cL_isSecret 465 = .ok (.goto 4, 3) := by decide +kernel
theorem dL_isSecret_468 : decode cL_isSecret 468 = .ok (.iconst 0, 1) := by decide +kernel
theorem dL_isSecret_469 : decode cL_isSecret 469 = .ok (.if_icmp .ne 7, 3) := by decide +kernel
theorem dL_isSecret_472 : decode cL_isSecret 472 = .ok (.iconst 1, 1) := by decide +kernel
theorem dL_isSecret_473 : decode cL_isSecret 473 = .ok (.goto 4, 3) := by decide +kernel
theorem dL_isSecret_476 : decode cL_isSecret 476 = .ok (.iconst 0, 1) := by decide +kernel
theorem dL_isSecret_477 : decode cL_isSecret 477 = .ok (.ireturn, 1) := by decide +kernel
theorem dL_isStore_0 : decode cL_isStore 0 = .ok (.aload_n 0, 1) := by decide +kernel
theorem dL_isStore_1 : decode cL_isStore 1 = .ok (.iload_n 1, 1) := by decide +kernel
theorem dL_isStore_2 : decode cL_isStore 2 = .ok (.iload_n 2, 1) := by decide +kernel
theorem dL_isStore_3 : decode cL_isStore 3 = .ok (.iconst 0, 1) := by decide +kernel
theorem dL_isStore_4 : decode cL_isStore 4 = .ok (.invokevirtual 59, 3) := by decide +kernel
theorem dL_isStore_7 : decode cL_isStore 7 = .ok (.istore_n 3, 1) := by decide +kernel
theorem dL_isStore_8 : decode cL_isStore 8 = .ok (.aload_n 0, 1) := by decide +kernel
theorem dL_isStore_9 : decode cL_isStore 9 = .ok (.iconst 1, 1) := by decide +kernel
theorem dL_isStore_10 : decode cL_isStore 10 = .ok (.iload_n 1, 1) := by decide +kernel
theorem dL_isStore_11 : decode cL_isStore 11 = .ok (.isub, 1) := by decide +kernel
theorem dL_isStore_12 : decode cL_isStore 12 = .ok (.iload_n 2, 1) := by decide +kernel
theorem dL_isStore_13 : decode cL_isStore 13 = .ok (.iconst 2, 1) := by decide +kernel
theorem dL_isStore_14 : decode cL_isStore 14 = .ok (.invokevirtual 59, 3) := by decide +kernel
theorem dL_isStore_17 : decode cL_isStore 17 = .ok (.istore 4, 2) := by decide +kernel
theorem dL_isStore_19 : decode cL_isStore 19 = .ok (.aload_n 0, 1) := by decide +kernel
theorem dL_isStore_20 : decode cL_isStore 20 = .ok (.iconst 1, 1) := by decide +kernel
theorem dL_isStore_21 : decode cL_isStore 21 = .ok (.iload_n 1, 1) := by decide +kernel
theorem dL_isStore_22 : decode cL_isStore 22 = .ok (.isub, 1) := by decide +kernel
theorem dL_isStore_23 : decode cL_isStore 23 = .ok (.iload_n 2, 1) := by decide +kernel
theorem dL_isStore_24 : decode cL_isStore 24 = .ok (.iconst 3, 1) := by decide +kernel
theorem dL_isStore_25 : decode cL_isStore 25 = .ok (.invokevirtual 59, 3) := by decide +kernel
theorem dL_isStore_28 : decode cL_isStore 28 = .ok (.istore 5, 2) := by decide +kernel
theorem dL_isStore_30 : decode cL_isStore 30 = .ok (.iload_n 3, 1) := by decide +kernel
theorem dL_isStore_31 : decode cL_isStore 31 = .ok (.ifCond .lt 61, 3) := by decide +kernel
theorem dL_isStore_34 : decode cL_isStore 34 = .ok (.iload_n 3, 1) := by decide +kernel
theorem dL_isStore_35 : decode cL_isStore 35 = .ok (.sipush 256, 3) := by decide +kernel
theorem dL_isStore_38 : decode cL_isStore 38 = .ok (.if_icmp .ge 54, 3) := by decide +kernel
theorem dL_isStore_41 : decode cL_isStore 41 = .ok (.iload 4, 2) := by decide +kernel
theorem dL_isStore_43 : decode cL_isStore 43 = .ok (.ifCond .le 49, 3) := by decide +kernel
theorem dL_isStore_46 : decode cL_isStore 46 = .ok (.iload 4, 2) := by decide +kernel
theorem dL_isStore_48 : decode cL_isStore 48 = .ok (.sipush 257, 3) := by decide +kernel
theorem dL_isStore_51 : decode cL_isStore 51 = .ok (.if_icmp .ge 41, 3) := by decide +kernel
theorem dL_isStore_54 : decode cL_isStore 54 = .ok (.iload 5, 2) := by decide +kernel
theorem dL_isStore_56 : decode cL_isStore 56 = .ok (.ifCond .lt 36, 3) := by decide +kernel
theorem dL_isStore_59 : decode cL_isStore 59 = .ok (.iload 5, 2) := by decide +kernel
theorem dL_isStore_61 : decode cL_isStore 61 = .ok (.sipush 257, 3) := by decide +kernel
theorem dL_isStore_64 : decode cL_isStore 64 = .ok (.if_icmp .ge 28, 3) := by decide +kernel
theorem dL_isStore_67 : decode cL_isStore 67 = .ok (.aload_n 0, 1) := by decide +kernel
theorem dL_isStore_68 : decode cL_isStore 68 = .ok (.iload_n 1, 1) := by decide +kernel
theorem dL_isStore_69 : decode cL_isStore 69 = .ok (.iload_n 2, 1) := by decide +kernel
theorem dL_isStore_70 : decode cL_isStore 70 = .ok (.iconst 1, 1) := by decide +kernel
theorem dL_isStore_71 : decode cL_isStore 71 = .ok (.invokevirtual 59, 3) := by decide +kernel
theorem dL_isStore_74 : decode cL_isStore 74 = .ok (.iload 4, 2) := by decide +kernel
theorem dL_isStore_76 : decode cL_isStore 76 = .ok (.iload_n 3, 1) := by decide +kernel
theorem dL_isStore_77 : decode cL_isStore 77 = .ok (.imul, 1) := by decide +kernel
theorem dL_isStore_78 : decode cL_isStore 78 = .ok (.iload 5, 2) := by decide +kernel
theorem dL_isStore_80 : decode cL_isStore 80 = .ok (.iadd, 1) := by decide +kernel
theorem dL_isStore_81 : decode cL_isStore 81 = .ok (.sipush 257, 3) := by decide +kernel
theorem dL_isStore_84 : decode cL_isStore 84 = .ok (.irem, 1) := by decide +kernel
theorem dL_isStore_85 : decode cL_isStore 85 = .ok (.if_icmp .ne 7, 3) := by decide +kernel
theorem dL_isStore_88 : decode cL_isStore 88 = .ok (.iconst 1, 1) := by decide +kernel
theorem dL_isStore_89 : decode cL_isStore 89 = .ok (.goto 4, 3) := by decide +kernel
theorem dL_isStore_92 : decode cL_isStore 92 = .ok (.iconst 0, 1) := by decide +kernel
theorem dL_isStore_93 : decode cL_isStore 93 = .ok (.istore 6, 2) := by decide +kernel
theorem dL_isStore_95 : decode cL_isStore 95 = .ok (.iload 6, 2) := by decide +kernel
theorem dL_isStore_97 : decode cL_isStore 97 = .ok (.ifCond .eq 61, 3) := by decide +kernel
theorem dL_isStore_100 : decode cL_isStore 100 = .ok (.aload_n 0, 1) := by decide +kernel
theorem dL_isStore_101 : decode cL_isStore 101 = .ok (.iload_n 1, 1) := by decide +kernel
theorem dL_isStore_102 : decode cL_isStore 102 = .ok (.iload_n 2, 1) := by decide +kernel
theorem dL_isStore_103 : decode cL_isStore 103 = .ok (.bipush 6, 2) := by decide +kernel
theorem dL_isStore_105 : decode cL_isStore 105 = .ok (.invokevirtual 59, 3) := by decide +kernel
theorem dL_isStore_108 : decode cL_isStore 108 = .ok (.iload_n 3, 1) := by decide +kernel
theorem dL_isStore_109 : decode cL_isStore 109 = .ok (.aload_n 0, 1) := by decide +kernel
theorem dL_isStore_110 : decode cL_isStore 110 = .ok (.iload_n 1, 1) := by decide +kernel
theorem dL_isStore_111 : decode cL_isStore 111 = .ok (.iload_n 2, 1) := by decide +kernel
theorem dL_isStore_112 : decode cL_isStore 112 = .ok (.iconst 4, 1) := by decide +kernel
theorem dL_isStore_113 : decode cL_isStore 113 = .ok (.invokevirtual 59, 3) := by decide +kernel
theorem dL_isStore_116 : decode cL_isStore 116 = .ok (.iadd, 1) := by decide +kernel
theorem dL_isStore_117 : decode cL_isStore 117 = .ok (.sipush 256, 3) := by decide +kernel
theorem dL_isStore_120 : decode cL_isStore 120 = .ok (.irem, 1) := by decide +kernel
theorem dL_isStore_121 : decode cL_isStore 121 = .ok (.if_icmp .ne 37, 3) := by decide +kernel
theorem dL_isStore_124 : decode cL_isStore 124 = .ok (.aload_n 0, 1) := by decide +kernel
theorem dL_isStore_125 : decode cL_isStore 125 = .ok (.iload_n 1, 1) := by decide +kernel
theorem dL_isStore_126 : decode cL_isStore 126 = .ok (.iload_n 2, 1) := by decide +kernel
theorem dL_isStore_127 : decode cL_isStore 127 = .ok (.bipush 7, 2) := by decide +kernel
theorem dL_isStore_129 : decode cL_isStore 129 = .ok (.invokevirtual 59, 3) := by decide +kernel
theorem dL_isStore_132 : decode cL_isStore 132 = .ok (.aload_n 0, 1) := by decide +kernel
theorem dL_isStore_133 : decode cL_isStore 133 = .ok (.iload_n 1, 1) := by decide +kernel
theorem dL_isStore_134 : decode cL_isStore 134 = .ok (.iload_n 2, 1) := by decide +kernel
theorem dL_isStore_135 : decode cL_isStore 135 = .ok (.iconst 1, 1) := by decide +kernel
theorem dL_isStore_136 : decode cL_isStore 136 = .ok (.invokevirtual 59, 3) := by decide +kernel
theorem dL_isStore_139 : decode cL_isStore 139 = .ok (.aload_n 0, 1) := by decide +kernel
theorem dL_isStore_140 : decode cL_isStore 140 = .ok (.iload_n 1, 1) := by decide +kernel
theorem dL_isStore_141 : decode cL_isStore 141 = .ok (.iload_n 2, 1) := by decide +kernel
theorem dL_isStore_142 : decode cL_isStore 142 = .ok (.iconst 5, 1) := by decide +kernel
theorem dL_isStore_143 : decode cL_isStore 143 = .ok (.invokevirtual 59, 3) := by decide +kernel
theorem dL_isStore_146 : decode cL_isStore 146 = .ok (.iadd, 1) := by decide +kernel
theorem dL_isStore_147 : decode cL_isStore 147 = .ok (.sipush 257, 3) := by decide +kernel
theorem dL_isStore_150 : decode cL_isStore 150 = .ok (.irem, 1) := by decide +kernel
theorem dL_isStore_151 : decode cL_isStore 151 = .ok (.if_icmp .ne 7, 3) := by decide +kernel
theorem dL_isStore_154 : decode cL_isStore 154 = .ok (.iconst 1, 1) := by decide +kernel
theorem dL_isStore_155 : decode cL_isStore 155 = .ok (.goto 4, 3) := by decide +kernel
theorem dL_isStore_158 : decode cL_isStore 158 = .ok (.iconst 0, 1) := by decide +kernel
theorem dL_isStore_159 : decode cL_isStore 159 = .ok (.istore 6, 2) := by decide +kernel
theorem dL_isStore_161 : decode cL_isStore 161 = .ok (.iload 6, 2) := by decide +kernel
theorem dL_isStore_163 : decode cL_isStore 163 = .ok (.ifCond .eq 27, 3) := by decide +kernel
theorem dL_isStore_166 : decode cL_isStore 166 = .ok (.aload_n 0, 1) := by decide +kernel
theorem dL_isStore_167 : decode cL_isStore 167 = .ok (.iload_n 1, 1) := by decide +kernel
theorem dL_isStore_168 : decode cL_isStore 168 = .ok (.iload_n 2, 1) := by decide +kernel
theorem dL_isStore_169 : decode cL_isStore 169 = .ok (.iconst 0, 1) := by decide +kernel
theorem dL_isStore_170 : decode cL_isStore 170 = .ok (.invokevirtual 37, 3) := by decide +kernel
theorem dL_isStore_173 : decode cL_isStore 173 = .ok (.ifCond .ne 17, 3) := by decide +kernel
theorem dL_isStore_176 : decode cL_isStore 176 = .ok (.aload_n 0, 1) := by decide +kernel
theorem dL_isStore_177 : decode cL_isStore 177 = .ok (.iload_n 1, 1) := by decide +kernel
theorem dL_isStore_178 : decode cL_isStore 178 = .ok (.iload_n 2, 1) := by decide +kernel
theorem dL_isStore_179 : decode cL_isStore 179 = .ok (.iconst 0, 1) := by decide +kernel
theorem dL_isStore_180 : decode cL_isStore 180 = .ok (.invokevirtual 62, 3) := by decide +kernel
theorem dL_isStore_183 : decode cL_isStore 183 = .ok (.ifCond .ne 7, 3) := by decide +kernel
theorem dL_isStore_186 : decode cL_isStore 186 = .ok (.iconst 1, 1) := by decide +kernel
theorem dL_isStore_187 : decode cL_isStore 187 = .ok (.goto 4, 3) := by decide +kernel
theorem dL_isStore_190 : decode cL_isStore 190 = .ok (.iconst 0, 1) := by decide +kernel
theorem dL_isStore_191 : decode cL_isStore 191 = .ok (.ireturn, 1) := by decide +kernel
theorem dL_law_0 : decode cL_law 0 = .ok (.new 10, 3) := by decide +kernel
theorem dL_law_3 : decode cL_law 3 = .ok (.dup, 1) := by decide +kernel
theorem dL_law_4 : decode cL_law 4 = .ok (.invokespecial 90, 3) := by decide +kernel
theorem dL_law_7 : decode cL_law 7 = .ok (.astore_n 1, 1) := by decide +kernel
theorem dL_law_8 : decode cL_law 8 = .ok (.bipush 8, 2) := by decide +kernel
theorem dL_law_10 : decode cL_law 10 = .ok (.newarray .int, 2) := by decide +kernel
theorem dL_law_12 : decode cL_law 12 = .ok (.astore_n 2, 1) := by decide +kernel
theorem dL_law_13 : decode cL_law 13 = .ok (.aload_n 1, 1) := by decide +kernel
theorem dL_law_14 : decode cL_law 14 = .ok (.invokevirtual 91, 3) := by decide +kernel
theorem dL_law_17 : decode cL_law 17 = .ok (.bipush (-5), 2) := by decide +kernel
theorem dL_law_19 : decode cL_law 19 = .ok (.if_icmp .ne 15, 3) := by decide +kernel
theorem dL_law_22 : decode cL_law 22 = .ok (.aload_n 1, 1) := by decide +kernel
theorem dL_law_23 : decode cL_law 23 = .ok (.aload_n 2, 1) := by decide +kernel
theorem dL_law_24 : decode cL_law 24 = .ok (.invokestatic 95, 3) := by decide +kernel
theorem dL_law_27 : decode cL_law 27 = .ok (.ifCond .eq 7, 3) := by decide +kernel
theorem dL_law_30 : decode cL_law 30 = .ok (.iconst 1, 1) := by decide +kernel
theorem dL_law_31 : decode cL_law 31 = .ok (.goto 4, 3) := by decide +kernel
theorem dL_law_34 : decode cL_law 34 = .ok (.iconst 0, 1) := by decide +kernel
theorem dL_law_35 : decode cL_law 35 = .ok (.istore_n 3, 1) := by decide +kernel
theorem dL_law_36 : decode cL_law 36 = .ok (.aload_n 0, 1) := by decide +kernel
theorem dL_law_37 : decode cL_law 37 = .ok (.arraylength, 1) := by decide +kernel
theorem dL_law_38 : decode cL_law 38 = .ok (.iconst 3, 1) := by decide +kernel
theorem dL_law_39 : decode cL_law 39 = .ok (.idiv, 1) := by decide +kernel
theorem dL_law_40 : decode cL_law 40 = .ok (.bipush 30, 2) := by decide +kernel
theorem dL_law_42 : decode cL_law 42 = .ok (.if_icmp .le 8, 3) := by decide +kernel
theorem dL_law_45 : decode cL_law 45 = .ok (.bipush 30, 2) := by decide +kernel
theorem dL_law_47 : decode cL_law 47 = .ok (.goto 7, 3) := by decide +kernel
theorem dL_law_50 : decode cL_law 50 = .ok (.aload_n 0, 1) := by decide +kernel
theorem dL_law_51 : decode cL_law 51 = .ok (.arraylength, 1) := by decide +kernel
theorem dL_law_52 : decode cL_law 52 = .ok (.iconst 3, 1) := by decide +kernel
theorem dL_law_53 : decode cL_law 53 = .ok (.idiv, 1) := by decide +kernel
theorem dL_law_54 : decode cL_law 54 = .ok (.istore 4, 2) := by decide +kernel
theorem dL_law_56 : decode cL_law 56 = .ok (.iconst 0, 1) := by decide +kernel
theorem dL_law_57 : decode cL_law 57 = .ok (.istore 5, 2) := by decide +kernel
theorem dL_law_59 : decode cL_law 59 = .ok (.iload 5, 2) := by decide +kernel
theorem dL_law_61 : decode cL_law 61 = .ok (.iload 4, 2) := by decide +kernel
theorem dL_law_63 : decode cL_law 63 = .ok (.if_icmp .ge 300, 3) := by decide +kernel
theorem dL_law_66 : decode cL_law 66 = .ok (.iload_n 3, 1) := by decide +kernel
theorem dL_law_67 : decode cL_law 67 = .ok (.ifCond .eq 296, 3) := by decide +kernel
theorem dL_law_70 : decode cL_law 70 = .ok (.aload_n 0, 1) := by decide +kernel
theorem dL_law_71 : decode cL_law 71 = .ok (.iconst 3, 1) := by decide +kernel
theorem dL_law_72 : decode cL_law 72 = .ok (.iload 5, 2) := by decide +kernel
theorem dL_law_74 : decode cL_law 74 = .ok (.imul, 1) := by decide +kernel
theorem dL_law_75 : decode cL_law 75 = .ok (.invokestatic 99, 3) := by decide +kernel
theorem dL_law_78 : decode cL_law 78 = .ok (.bipush 17, 2) := by decide +kernel
theorem dL_law_80 : decode cL_law 80 = .ok (.invokestatic 15, 3) := by decide +kernel
theorem dL_law_83 : decode cL_law 83 = .ok (.istore 6, 2) := by decide +kernel
theorem dL_law_85 : decode cL_law 85 = .ok (.aload_n 1, 1) := by decide +kernel
theorem dL_law_86 : decode cL_law 86 = .ok (.bipush 15, 2) := by decide +kernel
theorem dL_law_88 : decode cL_law 88 = .ok (.invokevirtual 9, 3) := by decide +kernel
theorem dL_law_91 : decode cL_law 91 = .ok (.istore 7, 2) := by decide +kernel
theorem dL_law_93 : decode cL_law 93 = .ok (.iload 6, 2) := by decide +kernel
theorem dL_law_95 : decode cL_law 95 = .ok (.bipush 10, 2) := by decide +kernel
theorem dL_law_97 : decode cL_law 97 = .ok (.if_icmp .eq 10, 3) := by decide +kernel
theorem dL_law_100 : decode cL_law 100 = .ok (.iload 6, 2) := by decide +kernel
theorem dL_law_102 : decode cL_law 102 = .ok (.bipush 11, 2) := by decide +kernel
theorem dL_law_104 : decode cL_law 104 = .ok (.if_icmp .ne 30, 3) := by decide +kernel
theorem dL_law_107 : decode cL_law 107 = .ok (.aload_n 1, 1) := by decide +kernel
theorem dL_law_108 : decode cL_law 108 = .ok (.aload_n 0, 1) := by decide +kernel
theorem dL_law_109 : decode cL_law 109 = .ok (.iconst 3, 1) := by decide +kernel
theorem dL_law_110 : decode cL_law 110 = .ok (.iload 5, 2) := by decide +kernel
theorem dL_law_112 : decode cL_law 112 = .ok (.imul, 1) := by decide +kernel
theorem dL_law_113 : decode cL_law 113 = .ok (.iconst 1, 1) := by decide +kernel
theorem dL_law_114 : decode cL_law 114 = .ok (.iadd, 1) := by decide +kernel
theorem dL_law_115 : decode cL_law 115 = .ok (.invokestatic 99, 3) := by decide +kernel
theorem dL_law_118 : decode cL_law 118 = .ok (.aload_n 1, 1) := by decide +kernel
theorem dL_law_119 : decode cL_law 119 = .ok (.iconst 1, 1) := by decide +kernel
theorem dL_law_120 : decode cL_law 120 = .ok (.invokevirtual 9, 3) := by decide +kernel
theorem dL_law_123 : decode cL_law 123 = .ok (.iconst 1, 1) := by decide +kernel
theorem dL_law_124 : decode cL_law 124 = .ok (.iadd, 1) := by decide +kernel
theorem dL_law_125 : decode cL_law 125 = .ok (.invokestatic 15, 3) := by decide +kernel
theorem dL_law_128 : decode cL_law 128 = .ok (.invokevirtual 81, 3) := by decide +kernel
theorem dL_law_131 : decode cL_law 131 = .ok (.goto 4, 3) := by decide +kernel
theorem dL_law_134 : decode cL_law 134 = .ok (.iconst 0, 1) := by decide +kernel
theorem dL_law_135 : decode cL_law 135 = .ok (.istore 8, 2) := by decide +kernel
theorem dL_law_137 : decode cL_law 137 = .ok (.aload_n 1, 1) := by decide +kernel
theorem dL_law_138 : decode cL_law 138 = .ok (.aload_n 2, 1) := by decide +kernel
theorem dL_law_139 : decode cL_law 139 = .ok (.iload 6, 2) := by decide +kernel
theorem dL_law_141 : decode cL_law 141 = .ok (.aload_n 0, 1) := by decide +kernel
theorem dL_law_142 : decode cL_law 142 = .ok (.iconst 3, 1) := by decide +kernel
theorem dL_law_143 : decode cL_law 143 = .ok (.iload 5, 2) := by decide +kernel
theorem dL_law_145 : decode cL_law 145 = .ok (.imul, 1) := by decide +kernel
theorem dL_law_146 : decode cL_law 146 = .ok (.iconst 1, 1) := by decide +kernel
theorem dL_law_147 : decode cL_law 147 = .ok (.iadd, 1) := by decide +kernel
theorem dL_law_148 : decode cL_law 148 = .ok (.invokestatic 99, 3) := by decide +kernel
theorem dL_law_151 : decode cL_law 151 = .ok (.aload_n 0, 1) := by decide +kernel
theorem dL_law_152 : decode cL_law 152 = .ok (.iconst 3, 1) := by decide +kernel
theorem dL_law_153 : decode cL_law 153 = .ok (.iload 5, 2) := by decide +kernel
theorem dL_law_155 : decode cL_law 155 = .ok (.imul, 1) := by decide +kernel
theorem dL_law_156 : decode cL_law 156 = .ok (.iconst 2, 1) := by decide +kernel
theorem dL_law_157 : decode cL_law 157 = .ok (.iadd, 1) := by decide +kernel
theorem dL_law_158 : decode cL_law 158 = .ok (.invokestatic 99, 3) := by decide +kernel
theorem dL_law_161 : decode cL_law 161 = .ok (.invokestatic 103, 3) := by decide +kernel
theorem dL_law_164 : decode cL_law 164 = .ok (.istore 9, 2) := by decide +kernel
theorem dL_law_166 : decode cL_law 166 = .ok (.aload_n 1, 1) := by decide +kernel
theorem dL_law_167 : decode cL_law 167 = .ok (.bipush 15, 2) := by decide +kernel
theorem dL_law_169 : decode cL_law 169 = .ok (.invokevirtual 9, 3) := by decide +kernel
theorem dL_law_172 : decode cL_law 172 = .ok (.iload 9, 2) := by decide +kernel
theorem dL_law_174 : decode cL_law 174 = .ok (.ifCond .ge 8, 3) := by decide +kernel
theorem dL_law_177 : decode cL_law 177 = .ok (.iload 7, 2) := by decide +kernel
theorem dL_law_179 : decode cL_law 179 = .ok (.goto 19, 3) := by decide +kernel
theorem dL_law_182 : decode cL_law 182 = .ok (.iload 7, 2) := by decide +kernel
theorem dL_law_184 : decode cL_law 184 = .ok (.bipush 6, 2) := by decide +kernel
theorem dL_law_186 : decode cL_law 186 = .ok (.if_icmp .ne 8, 3) := by decide +kernel
theorem dL_law_189 : decode cL_law 189 = .ok (.bipush 6, 2) := by decide +kernel
theorem dL_law_191 : decode cL_law 191 = .ok (.goto 7, 3) := by decide +kernel
theorem dL_law_194 : decode cL_law 194 = .ok (.iload 7, 2) := by decide +kernel
theorem dL_law_196 : decode cL_law 196 = .ok (.iconst 1, 1) := by decide +kernel
theorem dL_law_197 : decode cL_law 197 = .ok (.iadd, 1) := by decide +kernel
theorem dL_law_198 : decode cL_law 198 = .ok (.if_icmp .ne 36, 3) := by decide +kernel
theorem dL_law_201 : decode cL_law 201 = .ok (.iload 6, 2) := by decide +kernel
theorem dL_law_203 : decode cL_law 203 = .ok (.bipush 10, 2) := by decide +kernel
theorem dL_law_205 : decode cL_law 205 = .ok (.if_icmp .eq 10, 3) := by decide +kernel
theorem dL_law_208 : decode cL_law 208 = .ok (.iload 6, 2) := by decide +kernel
theorem dL_law_210 : decode cL_law 210 = .ok (.bipush 11, 2) := by decide +kernel
theorem dL_law_212 : decode cL_law 212 = .ok (.if_icmp .ne 10, 3) := by decide +kernel
theorem dL_law_215 : decode cL_law 215 = .ok (.iload 9, 2) := by decide +kernel
theorem dL_law_217 : decode cL_law 217 = .ok (.iload 8, 2) := by decide +kernel
theorem dL_law_219 : decode cL_law 219 = .ok (.if_icmp .ne 15, 3) := by decide +kernel
theorem dL_law_222 : decode cL_law 222 = .ok (.aload_n 1, 1) := by decide +kernel
theorem dL_law_223 : decode cL_law 223 = .ok (.aload_n 2, 1) := by decide +kernel
theorem dL_law_224 : decode cL_law 224 = .ok (.invokestatic 95, 3) := by decide +kernel
theorem dL_law_227 : decode cL_law 227 = .ok (.ifCond .eq 7, 3) := by decide +kernel
theorem dL_law_230 : decode cL_law 230 = .ok (.iconst 1, 1) := by decide +kernel
theorem dL_law_231 : decode cL_law 231 = .ok (.goto 4, 3) := by decide +kernel
theorem dL_law_234 : decode cL_law 234 = .ok (.iconst 0, 1) := by decide +kernel
theorem dL_law_235 : decode cL_law 235 = .ok (.istore_n 3, 1) := by decide +kernel
theorem dL_law_236 : decode cL_law 236 = .ok (.iload_n 3, 1) := by decide +kernel
theorem dL_law_237 : decode cL_law 237 = .ok (.ifCond .eq 120, 3) := by decide +kernel
theorem dL_law_240 : decode cL_law 240 = .ok (.iload 9, 2) := by decide +kernel
theorem dL_law_242 : decode cL_law 242 = .ok (.ifCond .lt 115, 3) := by decide +kernel
theorem dL_law_245 : decode cL_law 245 = .ok (.iload 5, 2) := by decide +kernel
theorem dL_law_247 : decode cL_law 247 = .ok (.iconst 5, 1) := by decide +kernel
theorem dL_law_248 : decode cL_law 248 = .ok (.irem, 1) := by decide +kernel
theorem dL_law_249 : decode cL_law 249 = .ok (.iconst 4, 1) := by decide +kernel
theorem dL_law_250 : decode cL_law 250 = .ok (.if_icmp .ne 107, 3) := by decide +kernel
theorem dL_law_253 : decode cL_law 253 = .ok (.aload_n 1, 1) := by decide +kernel
theorem dL_law_254 : decode cL_law 254 = .ok (.bipush 10, 2) := by decide +kernel
theorem dL_law_256 : decode cL_law 256 = .ok (.invokevirtual 9, 3) := by decide +kernel
theorem dL_law_259 : decode cL_law 259 = .ok (.istore 10, 2) := by decide +kernel
theorem dL_law_261 : decode cL_law 261 = .ok (.aload_n 1, 1) := by decide +kernel
theorem dL_law_262 : decode cL_law 262 = .ok (.bipush 6, 2) := by decide +kernel
theorem dL_law_264 : decode cL_law 264 = .ok (.invokevirtual 9, 3) := by decide +kernel
theorem dL_law_267 : decode cL_law 267 = .ok (.istore 11, 2) := by decide +kernel
theorem dL_law_269 : decode cL_law 269 = .ok (.aload_n 1, 1) := by decide +kernel
theorem dL_law_270 : decode cL_law 270 = .ok (.invokevirtual 91, 3) := by decide +kernel
theorem dL_law_273 : decode cL_law 273 = .ok (.iload 7, 2) := by decide +kernel
theorem dL_law_275 : decode cL_law 275 = .ok (.bipush 6, 2) := by decide +kernel
theorem dL_law_277 : decode cL_law 277 = .ok (.if_icmp .ne 7, 3) := by decide +kernel
theorem dL_law_280 : decode cL_law 280 = .ok (.iconst 5, 1) := by decide +kernel
theorem dL_law_281 : decode cL_law 281 = .ok (.goto 5, 3) := by decide +kernel
theorem dL_law_284 : decode cL_law 284 = .ok (.iload 7, 2) := by decide +kernel
theorem dL_law_286 : decode cL_law 286 = .ok (.if_icmp .ne 69, 3) := by decide +kernel
theorem dL_law_289 : decode cL_law 289 = .ok (.aload_n 1, 1) := by decide +kernel
theorem dL_law_290 : decode cL_law 290 = .ok (.aload_n 2, 1) := by decide +kernel
theorem dL_law_291 : decode cL_law 291 = .ok (.invokestatic 95, 3) := by decide +kernel
theorem dL_law_294 : decode cL_law 294 = .ok (.ifCond .eq 61, 3) := by decide +kernel
theorem dL_law_297 : decode cL_law 297 = .ok (.aload_n 1, 1) := by decide +kernel
theorem dL_law_298 : decode cL_law 298 = .ok (.aload_n 2, 1) := by decide +kernel
theorem dL_law_299 : decode cL_law 299 = .ok (.iload 6, 2) := by decide +kernel
theorem dL_law_301 : decode cL_law 301 = .ok (.aload_n 0, 1) := by decide +kernel
theorem dL_law_302 : decode cL_law 302 = .ok (.iconst 3, 1) := by decide +kernel
theorem dL_law_303 : decode cL_law 303 = .ok (.iload 5, 2) := by decide +kernel
theorem dL_law_305 : decode cL_law 305 = .ok (.imul, 1) := by decide +kernel
theorem dL_law_306 : decode cL_law 306 = .ok (.iconst 1, 1) := by decide +kernel
theorem dL_law_307 : decode cL_law 307 = .ok (.iadd, 1) := by decide +kernel
theorem dL_law_308 : decode cL_law 308 = .ok (.invokestatic 99, 3) := by decide +kernel
theorem dL_law_311 : decode cL_law 311 = .ok (.aload_n 0, 1) := by decide +kernel
theorem dL_law_312 : decode cL_law 312 = .ok (.iconst 3, 1) := by decide +kernel
theorem dL_law_313 : decode cL_law 313 = .ok (.iload 5, 2) := by decide +kernel
theorem dL_law_315 : decode cL_law 315 = .ok (.imul, 1) := by decide +kernel
theorem dL_law_316 : decode cL_law 316 = .ok (.iconst 2, 1) := by decide +kernel
theorem dL_law_317 : decode cL_law 317 = .ok (.iadd, 1) := by decide +kernel
theorem dL_law_318 : decode cL_law 318 = .ok (.invokestatic 99, 3) := by decide +kernel
theorem dL_law_321 : decode cL_law 321 = .ok (.invokestatic 103, 3) := by decide +kernel
theorem dL_law_324 : decode cL_law 324 = .ok (.iload 9, 2) := by decide +kernel
theorem dL_law_326 : decode cL_law 326 = .ok (.if_icmp .ne 29, 3) := by decide +kernel
theorem dL_law_329 : decode cL_law 329 = .ok (.aload_n 1, 1) := by decide +kernel
theorem dL_law_330 : decode cL_law 330 = .ok (.bipush 10, 2) := by decide +kernel
theorem dL_law_332 : decode cL_law 332 = .ok (.invokevirtual 9, 3) := by decide +kernel
theorem dL_law_335 : decode cL_law 335 = .ok (.iload 10, 2) := by decide +kernel
theorem dL_law_337 : decode cL_law 337 = .ok (.if_icmp .ne 18, 3) := by decide +kernel
theorem dL_law_340 : decode cL_law 340 = .ok (.aload_n 1, 1) := by decide +kernel
theorem dL_law_341 : decode cL_law 341 = .ok (.bipush 6, 2) := by decide +kernel
theorem dL_law_343 : decode cL_law 343 = .ok (.invokevirtual 9, 3) := by decide +kernel
theorem dL_law_346 : decode cL_law 346 = .ok (.iload 11, 2) := by decide +kernel
theorem dL_law_348 : decode cL_law 348 = .ok (.if_icmp .ne 7, 3) := by decide +kernel
theorem dL_law_351 : decode cL_law 351 = .ok (.iconst 1, 1) := by decide +kernel
theorem dL_law_352 : decode cL_law 352 = .ok (.goto 4, 3) := by decide +kernel
theorem dL_law_355 : decode cL_law 355 = .ok (.iconst 0, 1) := by decide +kernel
theorem dL_law_356 : decode cL_law 356 = .ok (.istore_n 3, 1) := by decide +kernel
theorem dL_law_357 : decode cL_law 357 = .ok (.iinc 5 1, 3) := by decide +kernel
theorem dL_law_360 : decode cL_law 360 = .ok (.goto (-301), 3) := by decide +kernel
theorem dL_law_363 : decode cL_law 363 = .ok (.iload_n 3, 1) := by decide +kernel
theorem dL_law_364 : decode cL_law 364 = .ok (.ireturn, 1) := by decide +kernel
theorem dL_low_0 : decode cL_low 0 = .ok (.iload_n 0, 1) := by decide +kernel
theorem dL_low_1 : decode cL_low 1 = .ok (.ldc 8, 2) := by decide +kernel
theorem dL_low_3 : decode cL_low 3 = .ok (.iand, 1) := by decide +kernel
theorem dL_low_4 : decode cL_low 4 = .ok (.iload_n 1, 1) := by decide +kernel
theorem dL_low_5 : decode cL_low 5 = .ok (.irem, 1) := by decide +kernel
theorem dL_low_6 : decode cL_low 6 = .ok (.ireturn, 1) := by decide +kernel
end
section
theorem sL_change_2 {g : Gh} {mc ms cu su : Nat} {L : List (Option Vv)} {st : List Vv} {hp h1 : HPt} {P : Pst} {x0 : Int32} {r : Int32} {b : A4} (hcu : cu ≤ mc) (hsu : su ≤ ms) (hob : okd b.1 = some 6) (hlv : lvp 609 b) (hcat : (st.map fun v => (trv g v).category).sum ≤ 8) (hJ : Ci g mX6_count [vR b, vI x0] hp r h1) (k : V g mL_change mc ms cu su 609 5 L (vI r :: st) RP h1 P) : V g mL_change mc ms cu su 609 2 L (vI x0 :: vR b :: st) RP hp P :=
  r_callV (as := [vI x0]) (b := b) (mcj := 0) (msj := 0) (st := st) dL_change_2 (coX6_count (Nat.le_of_ble_eq_true rfl) (Nat.le_of_ble_eq_true rfl)) wd_267 wd_268 wd_269 hob (q := (RX6, TX6, 6)) rfl rfl rfl hlv rfl hcat hcu hsu (Nat.le_of_ble_eq_true rfl) hJ (fun v n' rp' hp' h => by obtain ⟨rfl, rfl, rfl, rfl⟩ := h; exact k)
theorem sL_change_12 {g : Gh} {mc ms cu su : Nat} {L : List (Option Vv)} {st : List Vv} {hp h1 : HPt} {P : Pst} {x0 : Int32} {x1 : Int32} {r : Int32} (hcu : cu ≤ mc) (hsu : su ≤ ms) (hcat : (st.map fun v => (trv g v).category).sum ≤ 8) (hJ : Ci g mL_low [vI x0, vI x1] hp r h1) (k : V g mL_change mc ms cu su 609 15 L (vI r :: st) RP h1 P) : V g mL_change mc ms cu su 609 12 L (vI x1 :: vI x0 :: st) RP hp P :=
  r_callS (as := [vI x0, vI x1]) (mcj := 0) (msj := 0) (st := st) dL_change_12 (coL_low (Nat.le_of_ble_eq_true rfl) (Nat.le_of_ble_eq_true rfl)) wd_348 wd_349 rfl rfl hcat hcu hsu (Nat.le_of_ble_eq_true rfl) hJ (fun v n' rp' hp' h => by obtain ⟨rfl, rfl, rfl, rfl⟩ := h; exact k)
theorem sL_change_101 {g : Gh} {mc ms cu su : Nat} {L : List (Option Vv)} {st : List Vv} {hp h1 : HPt} {P : Pst} {x0 : Int32} {x1 : Int32} {r : Int32} (hcu : cu ≤ mc) (hsu : su ≤ ms) (hcat : (st.map fun v => (trv g v).category).sum ≤ 8) (hJ : Ci g mL_low [vI x0, vI x1] hp r h1) (k : V g mL_change mc ms cu su 609 104 L (vI r :: st) RP h1 P) : V g mL_change mc ms cu su 609 101 L (vI x1 :: vI x0 :: st) RP hp P :=
  r_callS (as := [vI x0, vI x1]) (mcj := 0) (msj := 0) (st := st) dL_change_101 (coL_low (Nat.le_of_ble_eq_true rfl) (Nat.le_of_ble_eq_true rfl)) wd_348 wd_349 rfl rfl hcat hcu hsu (Nat.le_of_ble_eq_true rfl) hJ (fun v n' rp' hp' h => by obtain ⟨rfl, rfl, rfl, rfl⟩ := h; exact k)
theorem sL_change_104 {g : Gh} {mc ms cu su : Nat} {L : List (Option Vv)} {st : List Vv} {hp h1 : HPt} {P : Pst} {x0 : Int32} {r : Int32} {b : A4} (hcu : cu ≤ mc) (hsu : su ≤ ms) (hob : okd b.1 = some 6) (hlv : lvp 609 b) (hcat : (st.map fun v => (trv g v).category).sum ≤ 8) (hJ : Ci g mX6_keep [vR b, vI x0] hp r h1) (k : V g mL_change mc ms cu su 609 107 L (vI r :: st) RP h1 P) : V g mL_change mc ms cu su 609 104 L (vI x0 :: vR b :: st) RP hp P :=
  r_callV (as := [vI x0]) (b := b) (mcj := 0) (msj := 0) (st := st) dL_change_104 (coX6_keep (Nat.le_of_ble_eq_true rfl) (Nat.le_of_ble_eq_true rfl)) wd_355 wd_356 wd_357 hob (q := (RX6, TX6, 6)) rfl rfl rfl hlv rfl hcat hcu hsu (Nat.le_of_ble_eq_true rfl) hJ (fun v n' rp' hp' h => by obtain ⟨rfl, rfl, rfl, rfl⟩ := h; exact k)
theorem sL_change_121 {g : Gh} {mc ms cu su : Nat} {L : List (Option Vv)} {st : List Vv} {hp h1 : HPt} {P : Pst} {x0 : Int32} {x1 : Int32} {r : Int32} (hcu : cu ≤ mc) (hsu : su ≤ ms) (hcat : (st.map fun v => (trv g v).category).sum ≤ 8) (hJ : Ci g mL_low [vI x0, vI x1] hp r h1) (k : V g mL_change mc ms cu su 609 124 L (vI r :: st) RP h1 P) : V g mL_change mc ms cu su 609 121 L (vI x1 :: vI x0 :: st) RP hp P :=
  r_callS (as := [vI x0, vI x1]) (mcj := 0) (msj := 0) (st := st) dL_change_121 (coL_low (Nat.le_of_ble_eq_true rfl) (Nat.le_of_ble_eq_true rfl)) wd_348 wd_349 rfl rfl hcat hcu hsu (Nat.le_of_ble_eq_true rfl) hJ (fun v n' rp' hp' h => by obtain ⟨rfl, rfl, rfl, rfl⟩ := h; exact k)
theorem sL_change_131 {g : Gh} {mc ms cu su : Nat} {L : List (Option Vv)} {st : List Vv} {hp h1 : HPt} {P : Pst} {x0 : Int32} {r : Int32} {b : A4} (hcu : cu ≤ mc) (hsu : su ≤ ms) (hob : okd b.1 = some 6) (hlv : lvp 609 b) (hcat : (st.map fun v => (trv g v).category).sum ≤ 8) (hJ : Ci g mX6_refresh [vR b, vI x0] hp r h1) (k : V g mL_change mc ms cu su 609 134 L (vI r :: st) RP h1 P) : V g mL_change mc ms cu su 609 131 L (vI x0 :: vR b :: st) RP hp P :=
  r_callV (as := [vI x0]) (b := b) (mcj := 0) (msj := 0) (st := st) dL_change_131 (coX6_refresh (Nat.le_of_ble_eq_true rfl) (Nat.le_of_ble_eq_true rfl)) wd_391 wd_392 wd_393 hob (q := (RX6, TX6, 6)) rfl rfl rfl hlv rfl hcat hcu hsu (Nat.le_of_ble_eq_true rfl) hJ (fun v n' rp' hp' h => by obtain ⟨rfl, rfl, rfl, rfl⟩ := h; exact k)
theorem sL_change_138 {g : Gh} {mc ms cu su : Nat} {L : List (Option Vv)} {st : List Vv} {hp h1 : HPt} {P : Pst} {x0 : Int32} {r : Int32} {b : A4} (hcu : cu ≤ mc) (hsu : su ≤ ms) (hob : okd b.1 = some 6) (hlv : lvp 609 b) (hcat : (st.map fun v => (trv g v).category).sum ≤ 8) (hJ : Ci g mX6_burn [vR b, vI x0] hp r h1) (k : V g mL_change mc ms cu su 609 141 L (vI r :: st) RP h1 P) : V g mL_change mc ms cu su 609 138 L (vI x0 :: vR b :: st) RP hp P :=
  r_callV (as := [vI x0]) (b := b) (mcj := 0) (msj := 0) (st := st) dL_change_138 (coX6_burn (Nat.le_of_ble_eq_true rfl) (Nat.le_of_ble_eq_true rfl)) wd_418 wd_419 wd_420 hob (q := (RX6, TX6, 6)) rfl rfl rfl hlv rfl hcat hcu hsu (Nat.le_of_ble_eq_true rfl) hJ (fun v n' rp' hp' h => by obtain ⟨rfl, rfl, rfl, rfl⟩ := h; exact k)
theorem sL_change_145 {g : Gh} {mc ms cu su : Nat} {L : List (Option Vv)} {st : List Vv} {hp h1 : HPt} {P : Pst} {x0 : Int32} {x1 : Int32} {r : Int32} (hcu : cu ≤ mc) (hsu : su ≤ ms) (hcat : (st.map fun v => (trv g v).category).sum ≤ 8) (hJ : Ci g mL_low [vI x0, vI x1] hp r h1) (k : V g mL_change mc ms cu su 609 148 L (vI r :: st) RP h1 P) : V g mL_change mc ms cu su 609 145 L (vI x1 :: vI x0 :: st) RP hp P :=
  r_callS (as := [vI x0, vI x1]) (mcj := 0) (msj := 0) (st := st) dL_change_145 (coL_low (Nat.le_of_ble_eq_true rfl) (Nat.le_of_ble_eq_true rfl)) wd_348 wd_349 rfl rfl hcat hcu hsu (Nat.le_of_ble_eq_true rfl) hJ (fun v n' rp' hp' h => by obtain ⟨rfl, rfl, rfl, rfl⟩ := h; exact k)
theorem sL_change_148 {g : Gh} {mc ms cu su : Nat} {L : List (Option Vv)} {st : List Vv} {hp h1 : HPt} {P : Pst} {x0 : Int32} {r : Int32} {b : A4} (hcu : cu ≤ mc) (hsu : su ≤ ms) (hob : okd b.1 = some 6) (hlv : lvp 609 b) (hcat : (st.map fun v => (trv g v).category).sum ≤ 8) (hJ : Ci g mX6_sleep [vR b, vI x0] hp r h1) (k : V g mL_change mc ms cu su 609 151 L (vI r :: st) RP h1 P) : V g mL_change mc ms cu su 609 148 L (vI x0 :: vR b :: st) RP hp P :=
  r_callV (as := [vI x0]) (b := b) (mcj := 0) (msj := 0) (st := st) dL_change_148 (coX6_sleep (Nat.le_of_ble_eq_true rfl) (Nat.le_of_ble_eq_true rfl)) wd_426 wd_427 wd_428 hob (q := (RX6, TX6, 6)) rfl rfl rfl hlv rfl hcat hcu hsu (Nat.le_of_ble_eq_true rfl) hJ (fun v n' rp' hp' h => by obtain ⟨rfl, rfl, rfl, rfl⟩ := h; exact k)
theorem sL_change_156 {g : Gh} {mc ms cu su : Nat} {L : List (Option Vv)} {st : List Vv} {hp h1 : HPt} {P : Pst} {x0 : Int32} {x1 : Int32} {r : Int32} (hcu : cu ≤ mc) (hsu : su ≤ ms) (hcat : (st.map fun v => (trv g v).category).sum ≤ 8) (hJ : Ci g mL_low [vI x0, vI x1] hp r h1) (k : V g mL_change mc ms cu su 609 159 L (vI r :: st) RP h1 P) : V g mL_change mc ms cu su 609 156 L (vI x1 :: vI x0 :: st) RP hp P :=
  r_callS (as := [vI x0, vI x1]) (mcj := 0) (msj := 0) (st := st) dL_change_156 (coL_low (Nat.le_of_ble_eq_true rfl) (Nat.le_of_ble_eq_true rfl)) wd_348 wd_349 rfl rfl hcat hcu hsu (Nat.le_of_ble_eq_true rfl) hJ (fun v n' rp' hp' h => by obtain ⟨rfl, rfl, rfl, rfl⟩ := h; exact k)
theorem sL_change_168 {g : Gh} {mc ms cu su : Nat} {L : List (Option Vv)} {st : List Vv} {hp h1 : HPt} {P : Pst} {x0 : Int32} {x1 : Int32} {r : Int32} (hcu : cu ≤ mc) (hsu : su ≤ ms) (hcat : (st.map fun v => (trv g v).category).sum ≤ 8) (hJ : Ci g mL_low [vI x0, vI x1] hp r h1) (k : V g mL_change mc ms cu su 609 171 L (vI r :: st) RP h1 P) : V g mL_change mc ms cu su 609 168 L (vI x1 :: vI x0 :: st) RP hp P :=
  r_callS (as := [vI x0, vI x1]) (mcj := 0) (msj := 0) (st := st) dL_change_168 (coL_low (Nat.le_of_ble_eq_true rfl) (Nat.le_of_ble_eq_true rfl)) wd_348 wd_349 rfl rfl hcat hcu hsu (Nat.le_of_ble_eq_true rfl) hJ (fun v n' rp' hp' h => by obtain ⟨rfl, rfl, rfl, rfl⟩ := h; exact k)
theorem sL_change_179 {g : Gh} {mc ms cu su : Nat} {L : List (Option Vv)} {st : List Vv} {hp h1 : HPt} {P : Pst} {x0 : Int32} {x1 : Int32} {r : Int32} (hcu : cu ≤ mc) (hsu : su ≤ ms) (hcat : (st.map fun v => (trv g v).category).sum ≤ 8) (hJ : Ci g mL_low [vI x0, vI x1] hp r h1) (k : V g mL_change mc ms cu su 609 182 L (vI r :: st) RP h1 P) : V g mL_change mc ms cu su 609 179 L (vI x1 :: vI x0 :: st) RP hp P :=
  r_callS (as := [vI x0, vI x1]) (mcj := 0) (msj := 0) (st := st) dL_change_179 (coL_low (Nat.le_of_ble_eq_true rfl) (Nat.le_of_ble_eq_true rfl)) wd_348 wd_349 rfl rfl hcat hcu hsu (Nat.le_of_ble_eq_true rfl) hJ (fun v n' rp' hp' h => by obtain ⟨rfl, rfl, rfl, rfl⟩ := h; exact k)
theorem sL_change_182 {g : Gh} {mc ms cu su : Nat} {L : List (Option Vv)} {st : List Vv} {hp h1 : HPt} {P : Pst} {x0 : Int32} {x1 : Int32} {x2 : Int32} {x3 : Int32} {r : Int32} {b : A4} (hcu : cu ≤ mc) (hsu : su ≤ ms) (hob : okd b.1 = some 6) (hlv : lvp 609 b) (hcat : (st.map fun v => (trv g v).category).sum ≤ 8) (hJ : Ci g mX6_lie [vR b, vI x0, vI x1, vI x2, vI x3] hp r h1) (k : V g mL_change mc ms cu su 609 185 L (vI r :: st) RP h1 P) : V g mL_change mc ms cu su 609 182 L (vI x3 :: vI x2 :: vI x1 :: vI x0 :: vR b :: st) RP hp P :=
  r_callV (as := [vI x0, vI x1, vI x2, vI x3]) (b := b) (mcj := 0) (msj := 0) (st := st) dL_change_182 (coX6_lie (Nat.le_of_ble_eq_true rfl) (Nat.le_of_ble_eq_true rfl)) wd_437 wd_438 wd_439 hob (q := (RX6, TX6, 6)) rfl rfl rfl hlv rfl hcat hcu hsu (Nat.le_of_ble_eq_true rfl) hJ (fun v n' rp' hp' h => by obtain ⟨rfl, rfl, rfl, rfl⟩ := h; exact k)
theorem sL_change_193 {g : Gh} {mc ms cu su : Nat} {L : List (Option Vv)} {st : List Vv} {hp h1 : HPt} {P : Pst} {x0 : Int32} {x1 : Int32} {r : Int32} (hcu : cu ≤ mc) (hsu : su ≤ ms) (hcat : (st.map fun v => (trv g v).category).sum ≤ 8) (hJ : Ci g mL_low [vI x0, vI x1] hp r h1) (k : V g mL_change mc ms cu su 609 196 L (vI r :: st) RP h1 P) : V g mL_change mc ms cu su 609 193 L (vI x1 :: vI x0 :: st) RP hp P :=
  r_callS (as := [vI x0, vI x1]) (mcj := 0) (msj := 0) (st := st) dL_change_193 (coL_low (Nat.le_of_ble_eq_true rfl) (Nat.le_of_ble_eq_true rfl)) wd_348 wd_349 rfl rfl hcat hcu hsu (Nat.le_of_ble_eq_true rfl) hJ (fun v n' rp' hp' h => by obtain ⟨rfl, rfl, rfl, rfl⟩ := h; exact k)
theorem sL_change_202 {g : Gh} {mc ms cu su : Nat} {L : List (Option Vv)} {st : List Vv} {hp h1 : HPt} {P : Pst} {x0 : Int32} {x1 : Int32} {r : Int32} (hcu : cu ≤ mc) (hsu : su ≤ ms) (hcat : (st.map fun v => (trv g v).category).sum ≤ 8) (hJ : Ci g mL_low [vI x0, vI x1] hp r h1) (k : V g mL_change mc ms cu su 609 205 L (vI r :: st) RP h1 P) : V g mL_change mc ms cu su 609 202 L (vI x1 :: vI x0 :: st) RP hp P :=
  r_callS (as := [vI x0, vI x1]) (mcj := 0) (msj := 0) (st := st) dL_change_202 (coL_low (Nat.le_of_ble_eq_true rfl) (Nat.le_of_ble_eq_true rfl)) wd_348 wd_349 rfl rfl hcat hcu hsu (Nat.le_of_ble_eq_true rfl) hJ (fun v n' rp' hp' h => by obtain ⟨rfl, rfl, rfl, rfl⟩ := h; exact k)
theorem sL_change_220 {g : Gh} {mc ms cu su : Nat} {L : List (Option Vv)} {st : List Vv} {hp h1 : HPt} {P : Pst} {x0 : Int32} {x1 : Int32} {r : Int32} (hcu : cu ≤ mc) (hsu : su ≤ ms) (hcat : (st.map fun v => (trv g v).category).sum ≤ 8) (hJ : Ci g mL_low [vI x0, vI x1] hp r h1) (k : V g mL_change mc ms cu su 609 223 L (vI r :: st) RP h1 P) : V g mL_change mc ms cu su 609 220 L (vI x1 :: vI x0 :: st) RP hp P :=
  r_callS (as := [vI x0, vI x1]) (mcj := 0) (msj := 0) (st := st) dL_change_220 (coL_low (Nat.le_of_ble_eq_true rfl) (Nat.le_of_ble_eq_true rfl)) wd_348 wd_349 rfl rfl hcat hcu hsu (Nat.le_of_ble_eq_true rfl) hJ (fun v n' rp' hp' h => by obtain ⟨rfl, rfl, rfl, rfl⟩ := h; exact k)
theorem sL_change_227 {g : Gh} {mc ms cu su : Nat} {L : List (Option Vv)} {st : List Vv} {hp h1 : HPt} {P : Pst} {x0 : Int32} {x1 : Int32} {x2 : Int32} {r : Int32} {b : A4} (hcu : cu ≤ mc) (hsu : su ≤ ms) (hob : okd b.1 = some 6) (hlv : lvp 609 b) (hcat : (st.map fun v => (trv g v).category).sum ≤ 8) (hJ : Ci g mX6_passing [vR b, vI x0, vI x1, vI x2] hp r h1) (k : V g mL_change mc ms cu su 609 230 L (vI r :: st) RP h1 P) : V g mL_change mc ms cu su 609 227 L (vI x2 :: vI x1 :: vI x0 :: vR b :: st) RP hp P :=
  r_callV (as := [vI x0, vI x1, vI x2]) (b := b) (mcj := 0) (msj := 0) (st := st) dL_change_227 (coX6_passing (Nat.le_of_ble_eq_true rfl) (Nat.le_of_ble_eq_true rfl)) wd_456 wd_457 wd_458 hob (q := (RX6, TX6, 6)) rfl rfl rfl hlv rfl hcat hcu hsu (Nat.le_of_ble_eq_true rfl) hJ (fun v n' rp' hp' h => by obtain ⟨rfl, rfl, rfl, rfl⟩ := h; exact k)
theorem sL_change_234 {g : Gh} {mc ms cu su : Nat} {L : List (Option Vv)} {st : List Vv} {hp h1 : HPt} {P : Pst} {x0 : Int32} {x1 : Int32} {x2 : Int32} {x3 : Int32} {r : Int32} {b : A4} (hcu : cu ≤ mc) (hsu : su ≤ ms) (hob : okd b.1 = some 6) (hlv : lvp 609 b) (hcat : (st.map fun v => (trv g v).category).sum ≤ 8) (hJ : Ci g mX6_lie [vR b, vI x0, vI x1, vI x2, vI x3] hp r h1) (k : V g mL_change mc ms cu su 609 237 L (vI r :: st) RP h1 P) : V g mL_change mc ms cu su 609 234 L (vI x3 :: vI x2 :: vI x1 :: vI x0 :: vR b :: st) RP hp P :=
  r_callV (as := [vI x0, vI x1, vI x2, vI x3]) (b := b) (mcj := 0) (msj := 0) (st := st) dL_change_234 (coX6_lie (Nat.le_of_ble_eq_true rfl) (Nat.le_of_ble_eq_true rfl)) wd_437 wd_438 wd_439 hob (q := (RX6, TX6, 6)) rfl rfl rfl hlv rfl hcat hcu hsu (Nat.le_of_ble_eq_true rfl) hJ (fun v n' rp' hp' h => by obtain ⟨rfl, rfl, rfl, rfl⟩ := h; exact k)
theorem sL_change_242 {g : Gh} {mc ms cu su : Nat} {L : List (Option Vv)} {st : List Vv} {hp h1 : HPt} {P : Pst} {x0 : Int32} {x1 : Int32} {r : Int32} (hcu : cu ≤ mc) (hsu : su ≤ ms) (hcat : (st.map fun v => (trv g v).category).sum ≤ 8) (hJ : Ci g mL_low [vI x0, vI x1] hp r h1) (k : V g mL_change mc ms cu su 609 245 L (vI r :: st) RP h1 P) : V g mL_change mc ms cu su 609 242 L (vI x1 :: vI x0 :: st) RP hp P :=
  r_callS (as := [vI x0, vI x1]) (mcj := 0) (msj := 0) (st := st) dL_change_242 (coL_low (Nat.le_of_ble_eq_true rfl) (Nat.le_of_ble_eq_true rfl)) wd_348 wd_349 rfl rfl hcat hcu hsu (Nat.le_of_ble_eq_true rfl) hJ (fun v n' rp' hp' h => by obtain ⟨rfl, rfl, rfl, rfl⟩ := h; exact k)
theorem sL_change_249 {g : Gh} {mc ms cu su : Nat} {L : List (Option Vv)} {st : List Vv} {hp h1 : HPt} {P : Pst} {x0 : Int32} {x1 : Int32} {x2 : Int32} {x3 : Int32} {r : Int32} {b : A4} (hcu : cu ≤ mc) (hsu : su ≤ ms) (hob : okd b.1 = some 6) (hlv : lvp 609 b) (hcat : (st.map fun v => (trv g v).category).sum ≤ 8) (hJ : Ci g mX6_lie [vR b, vI x0, vI x1, vI x2, vI x3] hp r h1) (k : V g mL_change mc ms cu su 609 252 L (vI r :: st) RP h1 P) : V g mL_change mc ms cu su 609 249 L (vI x3 :: vI x2 :: vI x1 :: vI x0 :: vR b :: st) RP hp P :=
  r_callV (as := [vI x0, vI x1, vI x2, vI x3]) (b := b) (mcj := 0) (msj := 0) (st := st) dL_change_249 (coX6_lie (Nat.le_of_ble_eq_true rfl) (Nat.le_of_ble_eq_true rfl)) wd_437 wd_438 wd_439 hob (q := (RX6, TX6, 6)) rfl rfl rfl hlv rfl hcat hcu hsu (Nat.le_of_ble_eq_true rfl) hJ (fun v n' rp' hp' h => by obtain ⟨rfl, rfl, rfl, rfl⟩ := h; exact k)
theorem sL_change_256 {g : Gh} {mc ms cu su : Nat} {L : List (Option Vv)} {st : List Vv} {hp h1 : HPt} {P : Pst} {x0 : Int32} {r : Int32} {b : A4} (hcu : cu ≤ mc) (hsu : su ≤ ms) (hob : okd b.1 = some 6) (hlv : lvp 609 b) (hcat : (st.map fun v => (trv g v).category).sum ≤ 8) (hJ : Ci g mX6_merge [vR b, vI x0] hp r h1) (k : V g mL_change mc ms cu su 609 259 L (vI r :: st) RP h1 P) : V g mL_change mc ms cu su 609 256 L (vI x0 :: vR b :: st) RP hp P :=
  r_callV (as := [vI x0]) (b := b) (mcj := 0) (msj := 0) (st := st) dL_change_256 (coX6_merge (Nat.le_of_ble_eq_true rfl) (Nat.le_of_ble_eq_true rfl)) wd_469 wd_470 wd_471 hob (q := (RX6, TX6, 6)) rfl rfl rfl hlv rfl hcat hcu hsu (Nat.le_of_ble_eq_true rfl) hJ (fun v n' rp' hp' h => by obtain ⟨rfl, rfl, rfl, rfl⟩ := h; exact k)
theorem sL_change_264 {g : Gh} {mc ms cu su : Nat} {L : List (Option Vv)} {st : List Vv} {hp h1 : HPt} {P : Pst} {x0 : Int32} {x1 : Int32} {r : Int32} (hcu : cu ≤ mc) (hsu : su ≤ ms) (hcat : (st.map fun v => (trv g v).category).sum ≤ 8) (hJ : Ci g mL_low [vI x0, vI x1] hp r h1) (k : V g mL_change mc ms cu su 609 267 L (vI r :: st) RP h1 P) : V g mL_change mc ms cu su 609 264 L (vI x1 :: vI x0 :: st) RP hp P :=
  r_callS (as := [vI x0, vI x1]) (mcj := 0) (msj := 0) (st := st) dL_change_264 (coL_low (Nat.le_of_ble_eq_true rfl) (Nat.le_of_ble_eq_true rfl)) wd_348 wd_349 rfl rfl hcat hcu hsu (Nat.le_of_ble_eq_true rfl) hJ (fun v n' rp' hp' h => by obtain ⟨rfl, rfl, rfl, rfl⟩ := h; exact k)
theorem sL_change_280 {g : Gh} {mc ms cu su : Nat} {L : List (Option Vv)} {st : List Vv} {hp h1 : HPt} {P : Pst} {x0 : Int32} {x1 : Int32} {r : Int32} {b : A4} (hcu : cu ≤ mc) (hsu : su ≤ ms) (hob : okd b.1 = some 6) (hlv : lvp 609 b) (hcat : (st.map fun v => (trv g v).category).sum ≤ 8) (hJ : Ci g mX6_ofSecret [vR b, vI x0, vI x1] hp r h1) (k : V g mL_change mc ms cu su 609 283 L (vI r :: st) RP h1 P) : V g mL_change mc ms cu su 609 280 L (vI x1 :: vI x0 :: vR b :: st) RP hp P :=
  r_callV (as := [vI x0, vI x1]) (b := b) (mcj := 0) (msj := 0) (st := st) dL_change_280 (coX6_ofSecret (Nat.le_of_ble_eq_true rfl) (Nat.le_of_ble_eq_true rfl)) wd_486 wd_487 wd_488 hob (q := (RX6, TX6, 6)) rfl rfl rfl hlv rfl hcat hcu hsu (Nat.le_of_ble_eq_true rfl) hJ (fun v n' rp' hp' h => by obtain ⟨rfl, rfl, rfl, rfl⟩ := h; exact k)
theorem sL_change_288 {g : Gh} {mc ms cu su : Nat} {L : List (Option Vv)} {st : List Vv} {hp h1 : HPt} {P : Pst} {x0 : Int32} {x1 : Int32} {r : Int32} (hcu : cu ≤ mc) (hsu : su ≤ ms) (hcat : (st.map fun v => (trv g v).category).sum ≤ 8) (hJ : Ci g mL_low [vI x0, vI x1] hp r h1) (k : V g mL_change mc ms cu su 609 291 L (vI r :: st) RP h1 P) : V g mL_change mc ms cu su 609 288 L (vI x1 :: vI x0 :: st) RP hp P :=
  r_callS (as := [vI x0, vI x1]) (mcj := 0) (msj := 0) (st := st) dL_change_288 (coL_low (Nat.le_of_ble_eq_true rfl) (Nat.le_of_ble_eq_true rfl)) wd_348 wd_349 rfl rfl hcat hcu hsu (Nat.le_of_ble_eq_true rfl) hJ (fun v n' rp' hp' h => by obtain ⟨rfl, rfl, rfl, rfl⟩ := h; exact k)
theorem sL_change_296 {g : Gh} {mc ms cu su : Nat} {L : List (Option Vv)} {st : List Vv} {hp h1 : HPt} {P : Pst} {x0 : Int32} {x1 : Int32} {x2 : Int32} {r : Int32} {b : A4} (hcu : cu ≤ mc) (hsu : su ≤ ms) (hob : okd b.1 = some 6) (hlv : lvp 609 b) (hcat : (st.map fun v => (trv g v).category).sum ≤ 8) (hJ : Ci g mX6_steal [vR b, vI x0, vI x1, vI x2] hp r h1) (k : V g mL_change mc ms cu su 609 299 L (vI r :: st) RP h1 P) : V g mL_change mc ms cu su 609 296 L (vI x2 :: vI x1 :: vI x0 :: vR b :: st) RP hp P :=
  r_callV (as := [vI x0, vI x1, vI x2]) (b := b) (mcj := 0) (msj := 0) (st := st) dL_change_296 (coX6_steal (Nat.le_of_ble_eq_true rfl) (Nat.le_of_ble_eq_true rfl)) wd_494 wd_495 wd_496 hob (q := (RX6, TX6, 6)) rfl rfl rfl hlv rfl hcat hcu hsu (Nat.le_of_ble_eq_true rfl) hJ (fun v n' rp' hp' h => by obtain ⟨rfl, rfl, rfl, rfl⟩ := h; exact k)
theorem sL_change_305 {g : Gh} {mc ms cu su : Nat} {L : List (Option Vv)} {st : List Vv} {hp h1 : HPt} {P : Pst} {x0 : Int32} {x1 : Int32} {r : Int32} (hcu : cu ≤ mc) (hsu : su ≤ ms) (hcat : (st.map fun v => (trv g v).category).sum ≤ 8) (hJ : Ci g mL_low [vI x0, vI x1] hp r h1) (k : V g mL_change mc ms cu su 609 308 L (vI r :: st) RP h1 P) : V g mL_change mc ms cu su 609 305 L (vI x1 :: vI x0 :: st) RP hp P :=
  r_callS (as := [vI x0, vI x1]) (mcj := 0) (msj := 0) (st := st) dL_change_305 (coL_low (Nat.le_of_ble_eq_true rfl) (Nat.le_of_ble_eq_true rfl)) wd_348 wd_349 rfl rfl hcat hcu hsu (Nat.le_of_ble_eq_true rfl) hJ (fun v n' rp' hp' h => by obtain ⟨rfl, rfl, rfl, rfl⟩ := h; exact k)
theorem sL_change_309 {g : Gh} {mc ms cu su : Nat} {L : List (Option Vv)} {st : List Vv} {hp h1 : HPt} {P : Pst} {x0 : Int32} {r : Int32} {b : A4} (hcu : cu ≤ mc) (hsu : su ≤ ms) (hob : okd b.1 = some 6) (hlv : lvp 609 b) (hcat : (st.map fun v => (trv g v).category).sum ≤ 8) (hJ : Ci g mX6_pass [vR b, vI x0] hp r h1) (k : V g mL_change mc ms cu su 609 312 L (vI r :: st) RP h1 P) : V g mL_change mc ms cu su 609 309 L (vI x0 :: vR b :: st) RP hp P :=
  r_callV (as := [vI x0]) (b := b) (mcj := 0) (msj := 0) (st := st) dL_change_309 (coX6_pass (Nat.le_of_ble_eq_true rfl) (Nat.le_of_ble_eq_true rfl)) wd_511 wd_512 wd_513 hob (q := (RX6, TX6, 6)) rfl rfl rfl hlv rfl hcat hcu hsu (Nat.le_of_ble_eq_true rfl) hJ (fun v n' rp' hp' h => by obtain ⟨rfl, rfl, rfl, rfl⟩ := h; exact k)
theorem sL_change_316 {g : Gh} {mc ms cu su : Nat} {L : List (Option Vv)} {st : List Vv} {hp h1 : HPt} {P : Pst} {x0 : Int32} {x1 : Int32} {r : Int32} (hcu : cu ≤ mc) (hsu : su ≤ ms) (hcat : (st.map fun v => (trv g v).category).sum ≤ 8) (hJ : Ci g mL_low [vI x0, vI x1] hp r h1) (k : V g mL_change mc ms cu su 609 319 L (vI r :: st) RP h1 P) : V g mL_change mc ms cu su 609 316 L (vI x1 :: vI x0 :: st) RP hp P :=
  r_callS (as := [vI x0, vI x1]) (mcj := 0) (msj := 0) (st := st) dL_change_316 (coL_low (Nat.le_of_ble_eq_true rfl) (Nat.le_of_ble_eq_true rfl)) wd_348 wd_349 rfl rfl hcat hcu hsu (Nat.le_of_ble_eq_true rfl) hJ (fun v n' rp' hp' h => by obtain ⟨rfl, rfl, rfl, rfl⟩ := h; exact k)
theorem sL_change_323 {g : Gh} {mc ms cu su : Nat} {L : List (Option Vv)} {st : List Vv} {hp h1 : HPt} {P : Pst} {x0 : Int32} {x1 : Int32} {r : Int32} (hcu : cu ≤ mc) (hsu : su ≤ ms) (hcat : (st.map fun v => (trv g v).category).sum ≤ 8) (hJ : Ci g mL_low [vI x0, vI x1] hp r h1) (k : V g mL_change mc ms cu su 609 326 L (vI r :: st) RP h1 P) : V g mL_change mc ms cu su 609 323 L (vI x1 :: vI x0 :: st) RP hp P :=
  r_callS (as := [vI x0, vI x1]) (mcj := 0) (msj := 0) (st := st) dL_change_323 (coL_low (Nat.le_of_ble_eq_true rfl) (Nat.le_of_ble_eq_true rfl)) wd_348 wd_349 rfl rfl hcat hcu hsu (Nat.le_of_ble_eq_true rfl) hJ (fun v n' rp' hp' h => by obtain ⟨rfl, rfl, rfl, rfl⟩ := h; exact k)
theorem sL_change_326 {g : Gh} {mc ms cu su : Nat} {L : List (Option Vv)} {st : List Vv} {hp h1 : HPt} {P : Pst} {x0 : Int32} {x1 : Int32} {r : Int32} {b : A4} (hcu : cu ≤ mc) (hsu : su ≤ ms) (hob : okd b.1 = some 6) (hlv : lvp 609 b) (hcat : (st.map fun v => (trv g v).category).sum ≤ 8) (hJ : Ci g mX6_set [vR b, vI x0, vI x1] hp r h1) (k : V g mL_change mc ms cu su 609 329 L (vI r :: st) RP h1 P) : V g mL_change mc ms cu su 609 326 L (vI x1 :: vI x0 :: vR b :: st) RP hp P :=
  r_callV (as := [vI x0, vI x1]) (b := b) (mcj := 0) (msj := 0) (st := st) dL_change_326 (coX6_set (Nat.le_of_ble_eq_true rfl) (Nat.le_of_ble_eq_true rfl)) wd_526 wd_527 wd_528 hob (q := (RX6, TX6, 6)) rfl rfl rfl hlv rfl hcat hcu hsu (Nat.le_of_ble_eq_true rfl) hJ (fun v n' rp' hp' h => by obtain ⟨rfl, rfl, rfl, rfl⟩ := h; exact k)
theorem sL_change_335 {g : Gh} {mc ms cu su : Nat} {L : List (Option Vv)} {st : List Vv} {hp h1 : HPt} {P : Pst} {x0 : Int32} {x1 : Int32} {r : Int32} (hcu : cu ≤ mc) (hsu : su ≤ ms) (hcat : (st.map fun v => (trv g v).category).sum ≤ 8) (hJ : Ci g mL_low [vI x0, vI x1] hp r h1) (k : V g mL_change mc ms cu su 609 338 L (vI r :: st) RP h1 P) : V g mL_change mc ms cu su 609 335 L (vI x1 :: vI x0 :: st) RP hp P :=
  r_callS (as := [vI x0, vI x1]) (mcj := 0) (msj := 0) (st := st) dL_change_335 (coL_low (Nat.le_of_ble_eq_true rfl) (Nat.le_of_ble_eq_true rfl)) wd_348 wd_349 rfl rfl hcat hcu hsu (Nat.le_of_ble_eq_true rfl) hJ (fun v n' rp' hp' h => by obtain ⟨rfl, rfl, rfl, rfl⟩ := h; exact k)
theorem sL_change_338 {g : Gh} {mc ms cu su : Nat} {L : List (Option Vv)} {st : List Vv} {hp h1 : HPt} {P : Pst} {x0 : Int32} {r : Int32} {b : A4} (hcu : cu ≤ mc) (hsu : su ≤ ms) (hob : okd b.1 = some 6) (hlv : lvp 609 b) (hcat : (st.map fun v => (trv g v).category).sum ≤ 8) (hJ : Ci g mX6_seed [vR b, vI x0] hp r h1) (k : V g mL_change mc ms cu su 609 341 L (vI r :: st) RP h1 P) : V g mL_change mc ms cu su 609 338 L (vI x0 :: vR b :: st) RP hp P :=
  r_callV (as := [vI x0]) (b := b) (mcj := 0) (msj := 0) (st := st) dL_change_338 (coX6_seed (Nat.le_of_ble_eq_true rfl) (Nat.le_of_ble_eq_true rfl)) wd_538 wd_539 wd_540 hob (q := (RX6, TX6, 6)) rfl rfl rfl hlv rfl hcat hcu hsu (Nat.le_of_ble_eq_true rfl) hJ (fun v n' rp' hp' h => by obtain ⟨rfl, rfl, rfl, rfl⟩ := h; exact k)
theorem sL_holds_2 {g : Gh} {mc ms cu su : Nat} {L : List (Option Vv)} {st : List Vv} {hp h1 : HPt} {P : Pst} {x0 : Int32} {r : Int32} {b : A4} (hcu : cu ≤ mc) (hsu : su ≤ ms) (hob : okd b.1 = some 6) (hlv : lvp 609 b) (hcat : (st.map fun v => (trv g v).category).sum ≤ 8) (hJ : Ci g mX6_count [vR b, vI x0] hp r h1) (k : V g mL_holds mc ms cu su 609 5 L (vI r :: st) RP h1 P) : V g mL_holds mc ms cu su 609 2 L (vI x0 :: vR b :: st) RP hp P :=
  r_callV (as := [vI x0]) (b := b) (mcj := 0) (msj := 0) (st := st) dL_holds_2 (coX6_count (Nat.le_of_ble_eq_true rfl) (Nat.le_of_ble_eq_true rfl)) wd_267 wd_268 wd_269 hob (q := (RX6, TX6, 6)) rfl rfl rfl hlv rfl hcat hcu hsu (Nat.le_of_ble_eq_true rfl) hJ (fun v n' rp' hp' h => by obtain ⟨rfl, rfl, rfl, rfl⟩ := h; exact k)
theorem sL_holds_14 {g : Gh} {mc ms cu su : Nat} {L : List (Option Vv)} {st : List Vv} {hp h1 : HPt} {P : Pst} {x0 : Int32} {x1 : Int32} {r : Int32} {b : A4} (hcu : cu ≤ mc) (hsu : su ≤ ms) (hob : okd b.1 = some 6) (hlv : lvp 609 b) (hcat : (st.map fun v => (trv g v).category).sum ≤ 8) (hJ : Ci g mX6_ofSecret [vR b, vI x0, vI x1] hp r h1) (k : V g mL_holds mc ms cu su 609 17 L (vI r :: st) RP h1 P) : V g mL_holds mc ms cu su 609 14 L (vI x1 :: vI x0 :: vR b :: st) RP hp P :=
  r_callV (as := [vI x0, vI x1]) (b := b) (mcj := 0) (msj := 0) (st := st) dL_holds_14 (coX6_ofSecret (Nat.le_of_ble_eq_true rfl) (Nat.le_of_ble_eq_true rfl)) wd_486 wd_487 wd_488 hob (q := (RX6, TX6, 6)) rfl rfl rfl hlv rfl hcat hcu hsu (Nat.le_of_ble_eq_true rfl) hJ (fun v n' rp' hp' h => by obtain ⟨rfl, rfl, rfl, rfl⟩ := h; exact k)
theorem sL_holds_23 {g : Gh} {mc ms cu su : Nat} {L : List (Option Vv)} {st : List Vv} {hp h1 : HPt} {P : Pst} {x0 : Int32} {r : Int32} {b : A4} (hcu : cu ≤ mc) (hsu : su ≤ ms) (hob : okd b.1 = some 6) (hlv : lvp 609 b) (hcat : (st.map fun v => (trv g v).category).sum ≤ 8) (hJ : Ci g mX6_refresh [vR b, vI x0] hp r h1) (k : V g mL_holds mc ms cu su 609 26 L (vI r :: st) RP h1 P) : V g mL_holds mc ms cu su 609 23 L (vI x0 :: vR b :: st) RP hp P :=
  r_callV (as := [vI x0]) (b := b) (mcj := 0) (msj := 0) (st := st) dL_holds_23 (coX6_refresh (Nat.le_of_ble_eq_true rfl) (Nat.le_of_ble_eq_true rfl)) wd_391 wd_392 wd_393 hob (q := (RX6, TX6, 6)) rfl rfl rfl hlv rfl hcat hcu hsu (Nat.le_of_ble_eq_true rfl) hJ (fun v n' rp' hp' h => by obtain ⟨rfl, rfl, rfl, rfl⟩ := h; exact k)
theorem sL_holds_32 {g : Gh} {mc ms cu su : Nat} {L : List (Option Vv)} {st : List Vv} {hp h1 : HPt} {P : Pst} {x0 : Int32} {r : Int32} {b : A4} (hcu : cu ≤ mc) (hsu : su ≤ ms) (hob : okd b.1 = some 6) (hlv : lvp 609 b) (hcat : (st.map fun v => (trv g v).category).sum ≤ 8) (hJ : Ci g mX6_ifMerged [vR b, vI x0] hp r h1) (k : V g mL_holds mc ms cu su 609 35 L (vI r :: st) RP h1 P) : V g mL_holds mc ms cu su 609 32 L (vI x0 :: vR b :: st) RP hp P :=
  r_callV (as := [vI x0]) (b := b) (mcj := 0) (msj := 0) (st := st) dL_holds_32 (coX6_ifMerged (Nat.le_of_ble_eq_true rfl) (Nat.le_of_ble_eq_true rfl)) wd_283 wd_284 wd_285 hob (q := (RX6, TX6, 6)) rfl rfl rfl hlv rfl hcat hcu hsu (Nat.le_of_ble_eq_true rfl) hJ (fun v n' rp' hp' h => by obtain ⟨rfl, rfl, rfl, rfl⟩ := h; exact k)
theorem sL_holds_64 {g : Gh} {mc ms cu su : Nat} {L : List (Option Vv)} {st : List Vv} {hp h1 : HPt} {P : Pst} {x0 : A4} {x1 : Int32} {x2 : Int32} {r : Int32} (hcu : cu ≤ mc) (hsu : su ≤ ms) (hcat : (st.map fun v => (trv g v).category).sum ≤ 8) (hJ : Ci g mL_isStore [vR x0, vI x1, vI x2] hp r h1) (k : V g mL_holds mc ms cu su 609 67 L (vI r :: st) RP h1 P) : V g mL_holds mc ms cu su 609 64 L (vI x2 :: vI x1 :: vR x0 :: st) RP hp P :=
  r_callS (as := [vR x0, vI x1, vI x2]) (mcj := 0) (msj := 0) (st := st) dL_holds_64 (coL_isStore (Nat.le_of_ble_eq_true rfl) (Nat.le_of_ble_eq_true rfl)) wd_549 wd_550 rfl rfl hcat hcu hsu (Nat.le_of_ble_eq_true rfl) hJ (fun v n' rp' hp' h => by obtain ⟨rfl, rfl, rfl, rfl⟩ := h; exact k)
theorem sL_holds_74 {g : Gh} {mc ms cu su : Nat} {L : List (Option Vv)} {st : List Vv} {hp h1 : HPt} {P : Pst} {x0 : A4} {x1 : Int32} {x2 : Int32} {r : Int32} (hcu : cu ≤ mc) (hsu : su ≤ ms) (hcat : (st.map fun v => (trv g v).category).sum ≤ 8) (hJ : Ci g mL_isStore [vR x0, vI x1, vI x2] hp r h1) (k : V g mL_holds mc ms cu su 609 77 L (vI r :: st) RP h1 P) : V g mL_holds mc ms cu su 609 74 L (vI x2 :: vI x1 :: vR x0 :: st) RP hp P :=
  r_callS (as := [vR x0, vI x1, vI x2]) (mcj := 0) (msj := 0) (st := st) dL_holds_74 (coL_isStore (Nat.le_of_ble_eq_true rfl) (Nat.le_of_ble_eq_true rfl)) wd_549 wd_550 rfl rfl hcat hcu hsu (Nat.le_of_ble_eq_true rfl) hJ (fun v n' rp' hp' h => by obtain ⟨rfl, rfl, rfl, rfl⟩ := h; exact k)
theorem sL_holds_87 {g : Gh} {mc ms cu su : Nat} {L : List (Option Vv)} {st : List Vv} {hp h1 : HPt} {P : Pst} {x0 : A4} {x1 : Int32} {x2 : Int32} {r : Int32} (hcu : cu ≤ mc) (hsu : su ≤ ms) (hcat : (st.map fun v => (trv g v).category).sum ≤ 8) (hJ : Ci g mL_isSecret [vR x0, vI x1, vI x2] hp r h1) (k : V g mL_holds mc ms cu su 609 90 L (vI r :: st) RP h1 P) : V g mL_holds mc ms cu su 609 87 L (vI x2 :: vI x1 :: vR x0 :: st) RP hp P :=
  r_callS (as := [vR x0, vI x1, vI x2]) (mcj := 0) (msj := 0) (st := st) dL_holds_87 (coL_isSecret (Nat.le_of_ble_eq_true rfl) (Nat.le_of_ble_eq_true rfl)) wd_571 wd_572 rfl rfl hcat hcu hsu (Nat.le_of_ble_eq_true rfl) hJ (fun v n' rp' hp' h => by obtain ⟨rfl, rfl, rfl, rfl⟩ := h; exact k)
theorem sL_holds_106 {g : Gh} {mc ms cu su : Nat} {L : List (Option Vv)} {st : List Vv} {hp h1 : HPt} {P : Pst} {x0 : Int32} {x1 : Int32} {r : Int32} {b : A4} (hcu : cu ≤ mc) (hsu : su ≤ ms) (hob : okd b.1 = some 6) (hlv : lvp 609 b) (hcat : (st.map fun v => (trv g v).category).sum ≤ 8) (hJ : Ci g mX6_ofSecret [vR b, vI x0, vI x1] hp r h1) (k : V g mL_holds mc ms cu su 609 109 L (vI r :: st) RP h1 P) : V g mL_holds mc ms cu su 609 106 L (vI x1 :: vI x0 :: vR b :: st) RP hp P :=
  r_callV (as := [vI x0, vI x1]) (b := b) (mcj := 0) (msj := 0) (st := st) dL_holds_106 (coX6_ofSecret (Nat.le_of_ble_eq_true rfl) (Nat.le_of_ble_eq_true rfl)) wd_486 wd_487 wd_488 hob (q := (RX6, TX6, 6)) rfl rfl rfl hlv rfl hcat hcu hsu (Nat.le_of_ble_eq_true rfl) hJ (fun v n' rp' hp' h => by obtain ⟨rfl, rfl, rfl, rfl⟩ := h; exact k)
theorem sL_holds_118 {g : Gh} {mc ms cu su : Nat} {L : List (Option Vv)} {st : List Vv} {hp h1 : HPt} {P : Pst} {x0 : Int32} {x1 : Int32} {r : Int32} {b : A4} (hcu : cu ≤ mc) (hsu : su ≤ ms) (hob : okd b.1 = some 6) (hlv : lvp 609 b) (hcat : (st.map fun v => (trv g v).category).sum ≤ 8) (hJ : Ci g mX6_ofSecret [vR b, vI x0, vI x1] hp r h1) (k : V g mL_holds mc ms cu su 609 121 L (vI r :: st) RP h1 P) : V g mL_holds mc ms cu su 609 118 L (vI x1 :: vI x0 :: vR b :: st) RP hp P :=
  r_callV (as := [vI x0, vI x1]) (b := b) (mcj := 0) (msj := 0) (st := st) dL_holds_118 (coX6_ofSecret (Nat.le_of_ble_eq_true rfl) (Nat.le_of_ble_eq_true rfl)) wd_486 wd_487 wd_488 hob (q := (RX6, TX6, 6)) rfl rfl rfl hlv rfl hcat hcu hsu (Nat.le_of_ble_eq_true rfl) hJ (fun v n' rp' hp' h => by obtain ⟨rfl, rfl, rfl, rfl⟩ := h; exact k)
theorem sL_holds_131 {g : Gh} {mc ms cu su : Nat} {L : List (Option Vv)} {st : List Vv} {hp h1 : HPt} {P : Pst} {x0 : Int32} {r : Int32} {b : A4} (hcu : cu ≤ mc) (hsu : su ≤ ms) (hob : okd b.1 = some 6) (hlv : lvp 609 b) (hcat : (st.map fun v => (trv g v).category).sum ≤ 8) (hJ : Ci g mX6_count [vR b, vI x0] hp r h1) (k : V g mL_holds mc ms cu su 609 134 L (vI r :: st) RP h1 P) : V g mL_holds mc ms cu su 609 131 L (vI x0 :: vR b :: st) RP hp P :=
  r_callV (as := [vI x0]) (b := b) (mcj := 0) (msj := 0) (st := st) dL_holds_131 (coX6_count (Nat.le_of_ble_eq_true rfl) (Nat.le_of_ble_eq_true rfl)) wd_267 wd_268 wd_269 hob (q := (RX6, TX6, 6)) rfl rfl rfl hlv rfl hcat hcu hsu (Nat.le_of_ble_eq_true rfl) hJ (fun v n' rp' hp' h => by obtain ⟨rfl, rfl, rfl, rfl⟩ := h; exact k)
theorem sL_holds_143 {g : Gh} {mc ms cu su : Nat} {L : List (Option Vv)} {st : List Vv} {hp h1 : HPt} {P : Pst} {x0 : Int32} {x1 : Int32} {r : Int32} {b : A4} (hcu : cu ≤ mc) (hsu : su ≤ ms) (hob : okd b.1 = some 6) (hlv : lvp 609 b) (hcat : (st.map fun v => (trv g v).category).sum ≤ 8) (hJ : Ci g mX6_ofSecret [vR b, vI x0, vI x1] hp r h1) (k : V g mL_holds mc ms cu su 609 146 L (vI r :: st) RP h1 P) : V g mL_holds mc ms cu su 609 143 L (vI x1 :: vI x0 :: vR b :: st) RP hp P :=
  r_callV (as := [vI x0, vI x1]) (b := b) (mcj := 0) (msj := 0) (st := st) dL_holds_143 (coX6_ofSecret (Nat.le_of_ble_eq_true rfl) (Nat.le_of_ble_eq_true rfl)) wd_486 wd_487 wd_488 hob (q := (RX6, TX6, 6)) rfl rfl rfl hlv rfl hcat hcu hsu (Nat.le_of_ble_eq_true rfl) hJ (fun v n' rp' hp' h => by obtain ⟨rfl, rfl, rfl, rfl⟩ := h; exact k)
theorem sL_holds_159 {g : Gh} {mc ms cu su : Nat} {L : List (Option Vv)} {st : List Vv} {hp h1 : HPt} {P : Pst} {x0 : Int32} {r : Int32} {b : A4} (hcu : cu ≤ mc) (hsu : su ≤ ms) (hob : okd b.1 = some 6) (hlv : lvp 609 b) (hcat : (st.map fun v => (trv g v).category).sum ≤ 8) (hJ : Ci g mX6_count [vR b, vI x0] hp r h1) (k : V g mL_holds mc ms cu su 609 162 L (vI r :: st) RP h1 P) : V g mL_holds mc ms cu su 609 159 L (vI x0 :: vR b :: st) RP hp P :=
  r_callV (as := [vI x0]) (b := b) (mcj := 0) (msj := 0) (st := st) dL_holds_159 (coX6_count (Nat.le_of_ble_eq_true rfl) (Nat.le_of_ble_eq_true rfl)) wd_267 wd_268 wd_269 hob (q := (RX6, TX6, 6)) rfl rfl rfl hlv rfl hcat hcu hsu (Nat.le_of_ble_eq_true rfl) hJ (fun v n' rp' hp' h => by obtain ⟨rfl, rfl, rfl, rfl⟩ := h; exact k)
theorem sL_holds_171 {g : Gh} {mc ms cu su : Nat} {L : List (Option Vv)} {st : List Vv} {hp h1 : HPt} {P : Pst} {x0 : Int32} {x1 : Int32} {r : Int32} {b : A4} (hcu : cu ≤ mc) (hsu : su ≤ ms) (hob : okd b.1 = some 6) (hlv : lvp 609 b) (hcat : (st.map fun v => (trv g v).category).sum ≤ 8) (hJ : Ci g mX6_ofSecret [vR b, vI x0, vI x1] hp r h1) (k : V g mL_holds mc ms cu su 609 174 L (vI r :: st) RP h1 P) : V g mL_holds mc ms cu su 609 171 L (vI x1 :: vI x0 :: vR b :: st) RP hp P :=
  r_callV (as := [vI x0, vI x1]) (b := b) (mcj := 0) (msj := 0) (st := st) dL_holds_171 (coX6_ofSecret (Nat.le_of_ble_eq_true rfl) (Nat.le_of_ble_eq_true rfl)) wd_486 wd_487 wd_488 hob (q := (RX6, TX6, 6)) rfl rfl rfl hlv rfl hcat hcu hsu (Nat.le_of_ble_eq_true rfl) hJ (fun v n' rp' hp' h => by obtain ⟨rfl, rfl, rfl, rfl⟩ := h; exact k)
theorem sL_holds_198 {g : Gh} {mc ms cu su : Nat} {L : List (Option Vv)} {st : List Vv} {hp h1 : HPt} {P : Pst} {x0 : Int32} {r : Int32} {b : A4} (hcu : cu ≤ mc) (hsu : su ≤ ms) (hob : okd b.1 = some 6) (hlv : lvp 609 b) (hcat : (st.map fun v => (trv g v).category).sum ≤ 8) (hJ : Ci g mX6_count [vR b, vI x0] hp r h1) (k : V g mL_holds mc ms cu su 609 201 L (vI r :: st) RP h1 P) : V g mL_holds mc ms cu su 609 198 L (vI x0 :: vR b :: st) RP hp P :=
  r_callV (as := [vI x0]) (b := b) (mcj := 0) (msj := 0) (st := st) dL_holds_198 (coX6_count (Nat.le_of_ble_eq_true rfl) (Nat.le_of_ble_eq_true rfl)) wd_267 wd_268 wd_269 hob (q := (RX6, TX6, 6)) rfl rfl rfl hlv rfl hcat hcu hsu (Nat.le_of_ble_eq_true rfl) hJ (fun v n' rp' hp' h => by obtain ⟨rfl, rfl, rfl, rfl⟩ := h; exact k)
theorem sL_holds_204 {g : Gh} {mc ms cu su : Nat} {L : List (Option Vv)} {st : List Vv} {hp h1 : HPt} {P : Pst} {x0 : Int32} {r : Int32} {b : A4} (hcu : cu ≤ mc) (hsu : su ≤ ms) (hob : okd b.1 = some 6) (hlv : lvp 609 b) (hcat : (st.map fun v => (trv g v).category).sum ≤ 8) (hJ : Ci g mX6_count [vR b, vI x0] hp r h1) (k : V g mL_holds mc ms cu su 609 207 L (vI r :: st) RP h1 P) : V g mL_holds mc ms cu su 609 204 L (vI x0 :: vR b :: st) RP hp P :=
  r_callV (as := [vI x0]) (b := b) (mcj := 0) (msj := 0) (st := st) dL_holds_204 (coX6_count (Nat.le_of_ble_eq_true rfl) (Nat.le_of_ble_eq_true rfl)) wd_267 wd_268 wd_269 hob (q := (RX6, TX6, 6)) rfl rfl rfl hlv rfl hcat hcu hsu (Nat.le_of_ble_eq_true rfl) hJ (fun v n' rp' hp' h => by obtain ⟨rfl, rfl, rfl, rfl⟩ := h; exact k)
theorem sL_holds_215 {g : Gh} {mc ms cu su : Nat} {L : List (Option Vv)} {st : List Vv} {hp h1 : HPt} {P : Pst} {x0 : Int32} {r : Int32} {b : A4} (hcu : cu ≤ mc) (hsu : su ≤ ms) (hob : okd b.1 = some 6) (hlv : lvp 609 b) (hcat : (st.map fun v => (trv g v).category).sum ≤ 8) (hJ : Ci g mX6_count [vR b, vI x0] hp r h1) (k : V g mL_holds mc ms cu su 609 218 L (vI r :: st) RP h1 P) : V g mL_holds mc ms cu su 609 215 L (vI x0 :: vR b :: st) RP hp P :=
  r_callV (as := [vI x0]) (b := b) (mcj := 0) (msj := 0) (st := st) dL_holds_215 (coX6_count (Nat.le_of_ble_eq_true rfl) (Nat.le_of_ble_eq_true rfl)) wd_267 wd_268 wd_269 hob (q := (RX6, TX6, 6)) rfl rfl rfl hlv rfl hcat hcu hsu (Nat.le_of_ble_eq_true rfl) hJ (fun v n' rp' hp' h => by obtain ⟨rfl, rfl, rfl, rfl⟩ := h; exact k)
theorem sL_holds_225 {g : Gh} {mc ms cu su : Nat} {L : List (Option Vv)} {st : List Vv} {hp h1 : HPt} {P : Pst} {x0 : Int32} {r : Int32} {b : A4} (hcu : cu ≤ mc) (hsu : su ≤ ms) (hob : okd b.1 = some 6) (hlv : lvp 609 b) (hcat : (st.map fun v => (trv g v).category).sum ≤ 8) (hJ : Ci g mX6_count [vR b, vI x0] hp r h1) (k : V g mL_holds mc ms cu su 609 228 L (vI r :: st) RP h1 P) : V g mL_holds mc ms cu su 609 225 L (vI x0 :: vR b :: st) RP hp P :=
  r_callV (as := [vI x0]) (b := b) (mcj := 0) (msj := 0) (st := st) dL_holds_225 (coX6_count (Nat.le_of_ble_eq_true rfl) (Nat.le_of_ble_eq_true rfl)) wd_267 wd_268 wd_269 hob (q := (RX6, TX6, 6)) rfl rfl rfl hlv rfl hcat hcu hsu (Nat.le_of_ble_eq_true rfl) hJ (fun v n' rp' hp' h => by obtain ⟨rfl, rfl, rfl, rfl⟩ := h; exact k)
theorem sL_holds_235 {g : Gh} {mc ms cu su : Nat} {L : List (Option Vv)} {st : List Vv} {hp h1 : HPt} {P : Pst} {x0 : Int32} {r : Int32} {b : A4} (hcu : cu ≤ mc) (hsu : su ≤ ms) (hob : okd b.1 = some 6) (hlv : lvp 609 b) (hcat : (st.map fun v => (trv g v).category).sum ≤ 8) (hJ : Ci g mX6_count [vR b, vI x0] hp r h1) (k : V g mL_holds mc ms cu su 609 238 L (vI r :: st) RP h1 P) : V g mL_holds mc ms cu su 609 235 L (vI x0 :: vR b :: st) RP hp P :=
  r_callV (as := [vI x0]) (b := b) (mcj := 0) (msj := 0) (st := st) dL_holds_235 (coX6_count (Nat.le_of_ble_eq_true rfl) (Nat.le_of_ble_eq_true rfl)) wd_267 wd_268 wd_269 hob (q := (RX6, TX6, 6)) rfl rfl rfl hlv rfl hcat hcu hsu (Nat.le_of_ble_eq_true rfl) hJ (fun v n' rp' hp' h => by obtain ⟨rfl, rfl, rfl, rfl⟩ := h; exact k)
theorem sL_isCaught_6 {g : Gh} {mc ms cu su : Nat} {L : List (Option Vv)} {st : List Vv} {hp h1 : HPt} {P : Pst} {x0 : Int32} {x1 : Int32} {x2 : Int32} {r : Int32} {b : A4} (hcu : cu ≤ mc) (hsu : su ≤ ms) (hob : okd b.1 = some 6) (hlv : lvp 609 b) (hcat : (st.map fun v => (trv g v).category).sum ≤ 8) (hJ : Ci g mX6_of [vR b, vI x0, vI x1, vI x2] hp r h1) (k : V g mL_isCaught mc ms cu su 609 9 L (vI r :: st) RP h1 P) : V g mL_isCaught mc ms cu su 609 6 L (vI x2 :: vI x1 :: vI x0 :: vR b :: st) RP hp P :=
  r_callV (as := [vI x0, vI x1, vI x2]) (b := b) (mcj := 0) (msj := 0) (st := st) dL_isCaught_6 (coX6_of (Nat.le_of_ble_eq_true rfl) (Nat.le_of_ble_eq_true rfl)) wd_552 wd_553 wd_554 hob (q := (RX6, TX6, 6)) rfl rfl rfl hlv rfl hcat hcu hsu (Nat.le_of_ble_eq_true rfl) hJ (fun v n' rp' hp' h => by obtain ⟨rfl, rfl, rfl, rfl⟩ := h; exact k)
theorem sL_isCaught_14 {g : Gh} {mc ms cu su : Nat} {L : List (Option Vv)} {st : List Vv} {hp h1 : HPt} {P : Pst} {x0 : Int32} {x1 : Int32} {x2 : Int32} {r : Int32} {b : A4} (hcu : cu ≤ mc) (hsu : su ≤ ms) (hob : okd b.1 = some 6) (hlv : lvp 609 b) (hcat : (st.map fun v => (trv g v).category).sum ≤ 8) (hJ : Ci g mX6_of [vR b, vI x0, vI x1, vI x2] hp r h1) (k : V g mL_isCaught mc ms cu su 609 17 L (vI r :: st) RP h1 P) : V g mL_isCaught mc ms cu su 609 14 L (vI x2 :: vI x1 :: vI x0 :: vR b :: st) RP hp P :=
  r_callV (as := [vI x0, vI x1, vI x2]) (b := b) (mcj := 0) (msj := 0) (st := st) dL_isCaught_14 (coX6_of (Nat.le_of_ble_eq_true rfl) (Nat.le_of_ble_eq_true rfl)) wd_552 wd_553 wd_554 hob (q := (RX6, TX6, 6)) rfl rfl rfl hlv rfl hcat hcu hsu (Nat.le_of_ble_eq_true rfl) hJ (fun v n' rp' hp' h => by obtain ⟨rfl, rfl, rfl, rfl⟩ := h; exact k)
theorem sL_isCaught_24 {g : Gh} {mc ms cu su : Nat} {L : List (Option Vv)} {st : List Vv} {hp h1 : HPt} {P : Pst} {x0 : Int32} {x1 : Int32} {x2 : Int32} {r : Int32} {b : A4} (hcu : cu ≤ mc) (hsu : su ≤ ms) (hob : okd b.1 = some 6) (hlv : lvp 609 b) (hcat : (st.map fun v => (trv g v).category).sum ≤ 8) (hJ : Ci g mX6_of [vR b, vI x0, vI x1, vI x2] hp r h1) (k : V g mL_isCaught mc ms cu su 609 27 L (vI r :: st) RP h1 P) : V g mL_isCaught mc ms cu su 609 24 L (vI x2 :: vI x1 :: vI x0 :: vR b :: st) RP hp P :=
  r_callV (as := [vI x0, vI x1, vI x2]) (b := b) (mcj := 0) (msj := 0) (st := st) dL_isCaught_24 (coX6_of (Nat.le_of_ble_eq_true rfl) (Nat.le_of_ble_eq_true rfl)) wd_552 wd_553 wd_554 hob (q := (RX6, TX6, 6)) rfl rfl rfl hlv rfl hcat hcu hsu (Nat.le_of_ble_eq_true rfl) hJ (fun v n' rp' hp' h => by obtain ⟨rfl, rfl, rfl, rfl⟩ := h; exact k)
theorem sL_isCaught_37 {g : Gh} {mc ms cu su : Nat} {L : List (Option Vv)} {st : List Vv} {hp h1 : HPt} {P : Pst} {x0 : Int32} {x1 : Int32} {x2 : Int32} {r : Int32} {b : A4} (hcu : cu ≤ mc) (hsu : su ≤ ms) (hob : okd b.1 = some 6) (hlv : lvp 609 b) (hcat : (st.map fun v => (trv g v).category).sum ≤ 8) (hJ : Ci g mX6_of [vR b, vI x0, vI x1, vI x2] hp r h1) (k : V g mL_isCaught mc ms cu su 609 40 L (vI r :: st) RP h1 P) : V g mL_isCaught mc ms cu su 609 37 L (vI x2 :: vI x1 :: vI x0 :: vR b :: st) RP hp P :=
  r_callV (as := [vI x0, vI x1, vI x2]) (b := b) (mcj := 0) (msj := 0) (st := st) dL_isCaught_37 (coX6_of (Nat.le_of_ble_eq_true rfl) (Nat.le_of_ble_eq_true rfl)) wd_552 wd_553 wd_554 hob (q := (RX6, TX6, 6)) rfl rfl rfl hlv rfl hcat hcu hsu (Nat.le_of_ble_eq_true rfl) hJ (fun v n' rp' hp' h => by obtain ⟨rfl, rfl, rfl, rfl⟩ := h; exact k)
theorem sL_isSecret_3 {g : Gh} {mc ms cu su : Nat} {L : List (Option Vv)} {st : List Vv} {hp h1 : HPt} {P : Pst} {x0 : Int32} {x1 : Int32} {r : Int32} {b : A4} (hcu : cu ≤ mc) (hsu : su ≤ ms) (hob : okd b.1 = some 6) (hlv : lvp 609 b) (hcat : (st.map fun v => (trv g v).category).sum ≤ 8) (hJ : Ci g mX6_ofSecret [vR b, vI x0, vI x1] hp r h1) (k : V g mL_isSecret mc ms cu su 609 6 L (vI r :: st) RP h1 P) : V g mL_isSecret mc ms cu su 609 3 L (vI x1 :: vI x0 :: vR b :: st) RP hp P :=
  r_callV (as := [vI x0, vI x1]) (b := b) (mcj := 0) (msj := 0) (st := st) dL_isSecret_3 (coX6_ofSecret (Nat.le_of_ble_eq_true rfl) (Nat.le_of_ble_eq_true rfl)) wd_486 wd_487 wd_488 hob (q := (RX6, TX6, 6)) rfl rfl rfl hlv rfl hcat hcu hsu (Nat.le_of_ble_eq_true rfl) hJ (fun v n' rp' hp' h => by obtain ⟨rfl, rfl, rfl, rfl⟩ := h; exact k)
theorem sL_isSecret_13 {g : Gh} {mc ms cu su : Nat} {L : List (Option Vv)} {st : List Vv} {hp h1 : HPt} {P : Pst} {x0 : Int32} {x1 : Int32} {r : Int32} {b : A4} (hcu : cu ≤ mc) (hsu : su ≤ ms) (hob : okd b.1 = some 6) (hlv : lvp 609 b) (hcat : (st.map fun v => (trv g v).category).sum ≤ 8) (hJ : Ci g mX6_ofSecret [vR b, vI x0, vI x1] hp r h1) (k : V g mL_isSecret mc ms cu su 609 16 L (vI r :: st) RP h1 P) : V g mL_isSecret mc ms cu su 609 13 L (vI x1 :: vI x0 :: vR b :: st) RP hp P :=
  r_callV (as := [vI x0, vI x1]) (b := b) (mcj := 0) (msj := 0) (st := st) dL_isSecret_13 (coX6_ofSecret (Nat.le_of_ble_eq_true rfl) (Nat.le_of_ble_eq_true rfl)) wd_486 wd_487 wd_488 hob (q := (RX6, TX6, 6)) rfl rfl rfl hlv rfl hcat hcu hsu (Nat.le_of_ble_eq_true rfl) hJ (fun v n' rp' hp' h => by obtain ⟨rfl, rfl, rfl, rfl⟩ := h; exact k)
theorem sL_isSecret_31 {g : Gh} {mc ms cu su : Nat} {L : List (Option Vv)} {st : List Vv} {hp h1 : HPt} {P : Pst} {x0 : Int32} {x1 : Int32} {x2 : Int32} {r : Int32} {b : A4} (hcu : cu ≤ mc) (hsu : su ≤ ms) (hob : okd b.1 = some 6) (hlv : lvp 609 b) (hcat : (st.map fun v => (trv g v).category).sum ≤ 8) (hJ : Ci g mX6_of [vR b, vI x0, vI x1, vI x2] hp r h1) (k : V g mL_isSecret mc ms cu su 609 34 L (vI r :: st) RP h1 P) : V g mL_isSecret mc ms cu su 609 31 L (vI x2 :: vI x1 :: vI x0 :: vR b :: st) RP hp P :=
  r_callV (as := [vI x0, vI x1, vI x2]) (b := b) (mcj := 0) (msj := 0) (st := st) dL_isSecret_31 (coX6_of (Nat.le_of_ble_eq_true rfl) (Nat.le_of_ble_eq_true rfl)) wd_552 wd_553 wd_554 hob (q := (RX6, TX6, 6)) rfl rfl rfl hlv rfl hcat hcu hsu (Nat.le_of_ble_eq_true rfl) hJ (fun v n' rp' hp' h => by obtain ⟨rfl, rfl, rfl, rfl⟩ := h; exact k)
theorem sL_isSecret_38 {g : Gh} {mc ms cu su : Nat} {L : List (Option Vv)} {st : List Vv} {hp h1 : HPt} {P : Pst} {x0 : Int32} {x1 : Int32} {x2 : Int32} {r : Int32} {b : A4} (hcu : cu ≤ mc) (hsu : su ≤ ms) (hob : okd b.1 = some 6) (hlv : lvp 609 b) (hcat : (st.map fun v => (trv g v).category).sum ≤ 8) (hJ : Ci g mX6_of [vR b, vI x0, vI x1, vI x2] hp r h1) (k : V g mL_isSecret mc ms cu su 609 41 L (vI r :: st) RP h1 P) : V g mL_isSecret mc ms cu su 609 38 L (vI x2 :: vI x1 :: vI x0 :: vR b :: st) RP hp P :=
  r_callV (as := [vI x0, vI x1, vI x2]) (b := b) (mcj := 0) (msj := 0) (st := st) dL_isSecret_38 (coX6_of (Nat.le_of_ble_eq_true rfl) (Nat.le_of_ble_eq_true rfl)) wd_552 wd_553 wd_554 hob (q := (RX6, TX6, 6)) rfl rfl rfl hlv rfl hcat hcu hsu (Nat.le_of_ble_eq_true rfl) hJ (fun v n' rp' hp' h => by obtain ⟨rfl, rfl, rfl, rfl⟩ := h; exact k)
theorem sL_isSecret_54 {g : Gh} {mc ms cu su : Nat} {L : List (Option Vv)} {st : List Vv} {hp h1 : HPt} {P : Pst} {x0 : Int32} {x1 : Int32} {x2 : Int32} {r : Int32} {b : A4} (hcu : cu ≤ mc) (hsu : su ≤ ms) (hob : okd b.1 = some 6) (hlv : lvp 609 b) (hcat : (st.map fun v => (trv g v).category).sum ≤ 8) (hJ : Ci g mX6_otherwise [vR b, vI x0, vI x1, vI x2] hp r h1) (k : V g mL_isSecret mc ms cu su 609 57 L (vI r :: st) RP h1 P) : V g mL_isSecret mc ms cu su 609 54 L (vI x2 :: vI x1 :: vI x0 :: vR b :: st) RP hp P :=
  r_callV (as := [vI x0, vI x1, vI x2]) (b := b) (mcj := 0) (msj := 0) (st := st) dL_isSecret_54 (coX6_otherwise (Nat.le_of_ble_eq_true rfl) (Nat.le_of_ble_eq_true rfl)) wd_574 wd_575 wd_576 hob (q := (RX6, TX6, 6)) rfl rfl rfl hlv rfl hcat hcu hsu (Nat.le_of_ble_eq_true rfl) hJ (fun v n' rp' hp' h => by obtain ⟨rfl, rfl, rfl, rfl⟩ := h; exact k)
theorem sL_isSecret_61 {g : Gh} {mc ms cu su : Nat} {L : List (Option Vv)} {st : List Vv} {hp h1 : HPt} {P : Pst} {x0 : Int32} {x1 : Int32} {x2 : Int32} {r : Int32} {b : A4} (hcu : cu ≤ mc) (hsu : su ≤ ms) (hob : okd b.1 = some 6) (hlv : lvp 609 b) (hcat : (st.map fun v => (trv g v).category).sum ≤ 8) (hJ : Ci g mX6_of [vR b, vI x0, vI x1, vI x2] hp r h1) (k : V g mL_isSecret mc ms cu su 609 64 L (vI r :: st) RP h1 P) : V g mL_isSecret mc ms cu su 609 61 L (vI x2 :: vI x1 :: vI x0 :: vR b :: st) RP hp P :=
  r_callV (as := [vI x0, vI x1, vI x2]) (b := b) (mcj := 0) (msj := 0) (st := st) dL_isSecret_61 (coX6_of (Nat.le_of_ble_eq_true rfl) (Nat.le_of_ble_eq_true rfl)) wd_552 wd_553 wd_554 hob (q := (RX6, TX6, 6)) rfl rfl rfl hlv rfl hcat hcu hsu (Nat.le_of_ble_eq_true rfl) hJ (fun v n' rp' hp' h => by obtain ⟨rfl, rfl, rfl, rfl⟩ := h; exact k)
theorem sL_isSecret_71 {g : Gh} {mc ms cu su : Nat} {L : List (Option Vv)} {st : List Vv} {hp h1 : HPt} {P : Pst} {x0 : Int32} {x1 : Int32} {x2 : Int32} {r : Int32} {b : A4} (hcu : cu ≤ mc) (hsu : su ≤ ms) (hob : okd b.1 = some 6) (hlv : lvp 609 b) (hcat : (st.map fun v => (trv g v).category).sum ≤ 8) (hJ : Ci g mX6_otherwise [vR b, vI x0, vI x1, vI x2] hp r h1) (k : V g mL_isSecret mc ms cu su 609 74 L (vI r :: st) RP h1 P) : V g mL_isSecret mc ms cu su 609 71 L (vI x2 :: vI x1 :: vI x0 :: vR b :: st) RP hp P :=
  r_callV (as := [vI x0, vI x1, vI x2]) (b := b) (mcj := 0) (msj := 0) (st := st) dL_isSecret_71 (coX6_otherwise (Nat.le_of_ble_eq_true rfl) (Nat.le_of_ble_eq_true rfl)) wd_574 wd_575 wd_576 hob (q := (RX6, TX6, 6)) rfl rfl rfl hlv rfl hcat hcu hsu (Nat.le_of_ble_eq_true rfl) hJ (fun v n' rp' hp' h => by obtain ⟨rfl, rfl, rfl, rfl⟩ := h; exact k)
theorem sL_isSecret_78 {g : Gh} {mc ms cu su : Nat} {L : List (Option Vv)} {st : List Vv} {hp h1 : HPt} {P : Pst} {x0 : Int32} {x1 : Int32} {x2 : Int32} {r : Int32} {b : A4} (hcu : cu ≤ mc) (hsu : su ≤ ms) (hob : okd b.1 = some 6) (hlv : lvp 609 b) (hcat : (st.map fun v => (trv g v).category).sum ≤ 8) (hJ : Ci g mX6_of [vR b, vI x0, vI x1, vI x2] hp r h1) (k : V g mL_isSecret mc ms cu su 609 81 L (vI r :: st) RP h1 P) : V g mL_isSecret mc ms cu su 609 78 L (vI x2 :: vI x1 :: vI x0 :: vR b :: st) RP hp P :=
  r_callV (as := [vI x0, vI x1, vI x2]) (b := b) (mcj := 0) (msj := 0) (st := st) dL_isSecret_78 (coX6_of (Nat.le_of_ble_eq_true rfl) (Nat.le_of_ble_eq_true rfl)) wd_552 wd_553 wd_554 hob (q := (RX6, TX6, 6)) rfl rfl rfl hlv rfl hcat hcu hsu (Nat.le_of_ble_eq_true rfl) hJ (fun v n' rp' hp' h => by obtain ⟨rfl, rfl, rfl, rfl⟩ := h; exact k)
theorem sL_isSecret_94 {g : Gh} {mc ms cu su : Nat} {L : List (Option Vv)} {st : List Vv} {hp h1 : HPt} {P : Pst} {x0 : Int32} {x1 : Int32} {r : Int32} {b : A4} (hcu : cu ≤ mc) (hsu : su ≤ ms) (hob : okd b.1 = some 6) (hlv : lvp 609 b) (hcat : (st.map fun v => (trv g v).category).sum ≤ 8) (hJ : Ci g mX6_ofSecret [vR b, vI x0, vI x1] hp r h1) (k : V g mL_isSecret mc ms cu su 609 97 L (vI r :: st) RP h1 P) : V g mL_isSecret mc ms cu su 609 94 L (vI x1 :: vI x0 :: vR b :: st) RP hp P :=
  r_callV (as := [vI x0, vI x1]) (b := b) (mcj := 0) (msj := 0) (st := st) dL_isSecret_94 (coX6_ofSecret (Nat.le_of_ble_eq_true rfl) (Nat.le_of_ble_eq_true rfl)) wd_486 wd_487 wd_488 hob (q := (RX6, TX6, 6)) rfl rfl rfl hlv rfl hcat hcu hsu (Nat.le_of_ble_eq_true rfl) hJ (fun v n' rp' hp' h => by obtain ⟨rfl, rfl, rfl, rfl⟩ := h; exact k)
theorem sL_isSecret_118 {g : Gh} {mc ms cu su : Nat} {L : List (Option Vv)} {st : List Vv} {hp h1 : HPt} {P : Pst} {x0 : Int32} {x1 : Int32} {x2 : Int32} {r : Int32} {b : A4} (hcu : cu ≤ mc) (hsu : su ≤ ms) (hob : okd b.1 = some 6) (hlv : lvp 609 b) (hcat : (st.map fun v => (trv g v).category).sum ≤ 8) (hJ : Ci g mX6_old [vR b, vI x0, vI x1, vI x2] hp r h1) (k : V g mL_isSecret mc ms cu su 609 121 L (vI r :: st) RP h1 P) : V g mL_isSecret mc ms cu su 609 118 L (vI x2 :: vI x1 :: vI x0 :: vR b :: st) RP hp P :=
  r_callV (as := [vI x0, vI x1, vI x2]) (b := b) (mcj := 0) (msj := 0) (st := st) dL_isSecret_118 (coX6_old (Nat.le_of_ble_eq_true rfl) (Nat.le_of_ble_eq_true rfl)) wd_582 wd_583 wd_584 hob (q := (RX6, TX6, 6)) rfl rfl rfl hlv rfl hcat hcu hsu (Nat.le_of_ble_eq_true rfl) hJ (fun v n' rp' hp' h => by obtain ⟨rfl, rfl, rfl, rfl⟩ := h; exact k)
theorem sL_isSecret_131 {g : Gh} {mc ms cu su : Nat} {L : List (Option Vv)} {st : List Vv} {hp h1 : HPt} {P : Pst} {x0 : Int32} {x1 : Int32} {x2 : Int32} {r : Int32} {b : A4} (hcu : cu ≤ mc) (hsu : su ≤ ms) (hob : okd b.1 = some 6) (hlv : lvp 609 b) (hcat : (st.map fun v => (trv g v).category).sum ≤ 8) (hJ : Ci g mX6_old [vR b, vI x0, vI x1, vI x2] hp r h1) (k : V g mL_isSecret mc ms cu su 609 134 L (vI r :: st) RP h1 P) : V g mL_isSecret mc ms cu su 609 131 L (vI x2 :: vI x1 :: vI x0 :: vR b :: st) RP hp P :=
  r_callV (as := [vI x0, vI x1, vI x2]) (b := b) (mcj := 0) (msj := 0) (st := st) dL_isSecret_131 (coX6_old (Nat.le_of_ble_eq_true rfl) (Nat.le_of_ble_eq_true rfl)) wd_582 wd_583 wd_584 hob (q := (RX6, TX6, 6)) rfl rfl rfl hlv rfl hcat hcu hsu (Nat.le_of_ble_eq_true rfl) hJ (fun v n' rp' hp' h => by obtain ⟨rfl, rfl, rfl, rfl⟩ := h; exact k)
theorem sL_isSecret_142 {g : Gh} {mc ms cu su : Nat} {L : List (Option Vv)} {st : List Vv} {hp h1 : HPt} {P : Pst} {x0 : Int32} {x1 : Int32} {x2 : Int32} {r : Int32} {b : A4} (hcu : cu ≤ mc) (hsu : su ≤ ms) (hob : okd b.1 = some 6) (hlv : lvp 609 b) (hcat : (st.map fun v => (trv g v).category).sum ≤ 8) (hJ : Ci g mX6_old [vR b, vI x0, vI x1, vI x2] hp r h1) (k : V g mL_isSecret mc ms cu su 609 145 L (vI r :: st) RP h1 P) : V g mL_isSecret mc ms cu su 609 142 L (vI x2 :: vI x1 :: vI x0 :: vR b :: st) RP hp P :=
  r_callV (as := [vI x0, vI x1, vI x2]) (b := b) (mcj := 0) (msj := 0) (st := st) dL_isSecret_142 (coX6_old (Nat.le_of_ble_eq_true rfl) (Nat.le_of_ble_eq_true rfl)) wd_582 wd_583 wd_584 hob (q := (RX6, TX6, 6)) rfl rfl rfl hlv rfl hcat hcu hsu (Nat.le_of_ble_eq_true rfl) hJ (fun v n' rp' hp' h => by obtain ⟨rfl, rfl, rfl, rfl⟩ := h; exact k)
theorem sL_isSecret_150 {g : Gh} {mc ms cu su : Nat} {L : List (Option Vv)} {st : List Vv} {hp h1 : HPt} {P : Pst} {x0 : Int32} {x1 : Int32} {x2 : Int32} {r : Int32} {b : A4} (hcu : cu ≤ mc) (hsu : su ≤ ms) (hob : okd b.1 = some 6) (hlv : lvp 609 b) (hcat : (st.map fun v => (trv g v).category).sum ≤ 8) (hJ : Ci g mX6_old [vR b, vI x0, vI x1, vI x2] hp r h1) (k : V g mL_isSecret mc ms cu su 609 153 L (vI r :: st) RP h1 P) : V g mL_isSecret mc ms cu su 609 150 L (vI x2 :: vI x1 :: vI x0 :: vR b :: st) RP hp P :=
  r_callV (as := [vI x0, vI x1, vI x2]) (b := b) (mcj := 0) (msj := 0) (st := st) dL_isSecret_150 (coX6_old (Nat.le_of_ble_eq_true rfl) (Nat.le_of_ble_eq_true rfl)) wd_582 wd_583 wd_584 hob (q := (RX6, TX6, 6)) rfl rfl rfl hlv rfl hcat hcu hsu (Nat.le_of_ble_eq_true rfl) hJ (fun v n' rp' hp' h => by obtain ⟨rfl, rfl, rfl, rfl⟩ := h; exact k)
theorem sL_isSecret_174 {g : Gh} {mc ms cu su : Nat} {L : List (Option Vv)} {st : List Vv} {hp h1 : HPt} {P : Pst} {x0 : Int32} {x1 : Int32} {x2 : Int32} {r : Int32} {b : A4} (hcu : cu ≤ mc) (hsu : su ≤ ms) (hob : okd b.1 = some 6) (hlv : lvp 609 b) (hcat : (st.map fun v => (trv g v).category).sum ≤ 8) (hJ : Ci g mX6_old [vR b, vI x0, vI x1, vI x2] hp r h1) (k : V g mL_isSecret mc ms cu su 609 177 L (vI r :: st) RP h1 P) : V g mL_isSecret mc ms cu su 609 174 L (vI x2 :: vI x1 :: vI x0 :: vR b :: st) RP hp P :=
  r_callV (as := [vI x0, vI x1, vI x2]) (b := b) (mcj := 0) (msj := 0) (st := st) dL_isSecret_174 (coX6_old (Nat.le_of_ble_eq_true rfl) (Nat.le_of_ble_eq_true rfl)) wd_582 wd_583 wd_584 hob (q := (RX6, TX6, 6)) rfl rfl rfl hlv rfl hcat hcu hsu (Nat.le_of_ble_eq_true rfl) hJ (fun v n' rp' hp' h => by obtain ⟨rfl, rfl, rfl, rfl⟩ := h; exact k)
theorem sL_isSecret_184 {g : Gh} {mc ms cu su : Nat} {L : List (Option Vv)} {st : List Vv} {hp h1 : HPt} {P : Pst} {x0 : Int32} {x1 : Int32} {x2 : Int32} {r : Int32} {b : A4} (hcu : cu ≤ mc) (hsu : su ≤ ms) (hob : okd b.1 = some 6) (hlv : lvp 609 b) (hcat : (st.map fun v => (trv g v).category).sum ≤ 8) (hJ : Ci g mX6_old [vR b, vI x0, vI x1, vI x2] hp r h1) (k : V g mL_isSecret mc ms cu su 609 187 L (vI r :: st) RP h1 P) : V g mL_isSecret mc ms cu su 609 184 L (vI x2 :: vI x1 :: vI x0 :: vR b :: st) RP hp P :=
  r_callV (as := [vI x0, vI x1, vI x2]) (b := b) (mcj := 0) (msj := 0) (st := st) dL_isSecret_184 (coX6_old (Nat.le_of_ble_eq_true rfl) (Nat.le_of_ble_eq_true rfl)) wd_582 wd_583 wd_584 hob (q := (RX6, TX6, 6)) rfl rfl rfl hlv rfl hcat hcu hsu (Nat.le_of_ble_eq_true rfl) hJ (fun v n' rp' hp' h => by obtain ⟨rfl, rfl, rfl, rfl⟩ := h; exact k)
theorem sL_isSecret_254 {g : Gh} {mc ms cu su : Nat} {L : List (Option Vv)} {st : List Vv} {hp h1 : HPt} {P : Pst} {x0 : Int32} {x1 : Int32} {x2 : Int32} {r : Int32} {b : A4} (hcu : cu ≤ mc) (hsu : su ≤ ms) (hob : okd b.1 = some 6) (hlv : lvp 609 b) (hcat : (st.map fun v => (trv g v).category).sum ≤ 8) (hJ : Ci g mX6_old [vR b, vI x0, vI x1, vI x2] hp r h1) (k : V g mL_isSecret mc ms cu su 609 257 L (vI r :: st) RP h1 P) : V g mL_isSecret mc ms cu su 609 254 L (vI x2 :: vI x1 :: vI x0 :: vR b :: st) RP hp P :=
  r_callV (as := [vI x0, vI x1, vI x2]) (b := b) (mcj := 0) (msj := 0) (st := st) dL_isSecret_254 (coX6_old (Nat.le_of_ble_eq_true rfl) (Nat.le_of_ble_eq_true rfl)) wd_582 wd_583 wd_584 hob (q := (RX6, TX6, 6)) rfl rfl rfl hlv rfl hcat hcu hsu (Nat.le_of_ble_eq_true rfl) hJ (fun v n' rp' hp' h => by obtain ⟨rfl, rfl, rfl, rfl⟩ := h; exact k)
theorem sL_isSecret_263 {g : Gh} {mc ms cu su : Nat} {L : List (Option Vv)} {st : List Vv} {hp h1 : HPt} {P : Pst} {x0 : Int32} {r : Int32} {b : A4} (hcu : cu ≤ mc) (hsu : su ≤ ms) (hob : okd b.1 = some 6) (hlv : lvp 609 b) (hcat : (st.map fun v => (trv g v).category).sum ≤ 8) (hJ : Ci g mX6_atRisk [vR b, vI x0] hp r h1) (k : V g mL_isSecret mc ms cu su 609 266 L (vI r :: st) RP h1 P) : V g mL_isSecret mc ms cu su 609 263 L (vI x0 :: vR b :: st) RP hp P :=
  r_callV (as := [vI x0]) (b := b) (mcj := 0) (msj := 0) (st := st) dL_isSecret_263 (coX6_atRisk (Nat.le_of_ble_eq_true rfl) (Nat.le_of_ble_eq_true rfl)) wd_591 wd_592 wd_593 hob (q := (RX6, TX6, 6)) rfl rfl rfl hlv rfl hcat hcu hsu (Nat.le_of_ble_eq_true rfl) hJ (fun v n' rp' hp' h => by obtain ⟨rfl, rfl, rfl, rfl⟩ := h; exact k)
theorem sL_isSecret_273 {g : Gh} {mc ms cu su : Nat} {L : List (Option Vv)} {st : List Vv} {hp h1 : HPt} {P : Pst} {x0 : Int32} {r : Int32} {b : A4} (hcu : cu ≤ mc) (hsu : su ≤ ms) (hob : okd b.1 = some 6) (hlv : lvp 609 b) (hcat : (st.map fun v => (trv g v).category).sum ≤ 8) (hJ : Ci g mX6_atRisk [vR b, vI x0] hp r h1) (k : V g mL_isSecret mc ms cu su 609 276 L (vI r :: st) RP h1 P) : V g mL_isSecret mc ms cu su 609 273 L (vI x0 :: vR b :: st) RP hp P :=
  r_callV (as := [vI x0]) (b := b) (mcj := 0) (msj := 0) (st := st) dL_isSecret_273 (coX6_atRisk (Nat.le_of_ble_eq_true rfl) (Nat.le_of_ble_eq_true rfl)) wd_591 wd_592 wd_593 hob (q := (RX6, TX6, 6)) rfl rfl rfl hlv rfl hcat hcu hsu (Nat.le_of_ble_eq_true rfl) hJ (fun v n' rp' hp' h => by obtain ⟨rfl, rfl, rfl, rfl⟩ := h; exact k)
theorem sL_isSecret_297 {g : Gh} {mc ms cu su : Nat} {L : List (Option Vv)} {st : List Vv} {hp h1 : HPt} {P : Pst} {x0 : Int32} {r : Int32} {b : A4} (hcu : cu ≤ mc) (hsu : su ≤ ms) (hob : okd b.1 = some 6) (hlv : lvp 609 b) (hcat : (st.map fun v => (trv g v).category).sum ≤ 8) (hJ : Ci g mX6_needed [vR b, vI x0] hp r h1) (k : V g mL_isSecret mc ms cu su 609 300 L (vI r :: st) RP h1 P) : V g mL_isSecret mc ms cu su 609 297 L (vI x0 :: vR b :: st) RP hp P :=
  r_callV (as := [vI x0]) (b := b) (mcj := 0) (msj := 0) (st := st) dL_isSecret_297 (coX6_needed (Nat.le_of_ble_eq_true rfl) (Nat.le_of_ble_eq_true rfl)) wd_603 wd_604 wd_605 hob (q := (RX6, TX6, 6)) rfl rfl rfl hlv rfl hcat hcu hsu (Nat.le_of_ble_eq_true rfl) hJ (fun v n' rp' hp' h => by obtain ⟨rfl, rfl, rfl, rfl⟩ := h; exact k)
theorem sL_isSecret_311 {g : Gh} {mc ms cu su : Nat} {L : List (Option Vv)} {st : List Vv} {hp h1 : HPt} {P : Pst} {x0 : Int32} {r : Int32} {b : A4} (hcu : cu ≤ mc) (hsu : su ≤ ms) (hob : okd b.1 = some 6) (hlv : lvp 609 b) (hcat : (st.map fun v => (trv g v).category).sum ≤ 8) (hJ : Ci g mX6_atRisk [vR b, vI x0] hp r h1) (k : V g mL_isSecret mc ms cu su 609 314 L (vI r :: st) RP h1 P) : V g mL_isSecret mc ms cu su 609 311 L (vI x0 :: vR b :: st) RP hp P :=
  r_callV (as := [vI x0]) (b := b) (mcj := 0) (msj := 0) (st := st) dL_isSecret_311 (coX6_atRisk (Nat.le_of_ble_eq_true rfl) (Nat.le_of_ble_eq_true rfl)) wd_591 wd_592 wd_593 hob (q := (RX6, TX6, 6)) rfl rfl rfl hlv rfl hcat hcu hsu (Nat.le_of_ble_eq_true rfl) hJ (fun v n' rp' hp' h => by obtain ⟨rfl, rfl, rfl, rfl⟩ := h; exact k)
theorem sL_isSecret_334 {g : Gh} {mc ms cu su : Nat} {L : List (Option Vv)} {st : List Vv} {hp h1 : HPt} {P : Pst} {x0 : Int32} {x1 : Int32} {r : Int32} {b : A4} (hcu : cu ≤ mc) (hsu : su ≤ ms) (hob : okd b.1 = some 6) (hlv : lvp 609 b) (hcat : (st.map fun v => (trv g v).category).sum ≤ 8) (hJ : Ci g mX6_ofSecret [vR b, vI x0, vI x1] hp r h1) (k : V g mL_isSecret mc ms cu su 609 337 L (vI r :: st) RP h1 P) : V g mL_isSecret mc ms cu su 609 334 L (vI x1 :: vI x0 :: vR b :: st) RP hp P :=
  r_callV (as := [vI x0, vI x1]) (b := b) (mcj := 0) (msj := 0) (st := st) dL_isSecret_334 (coX6_ofSecret (Nat.le_of_ble_eq_true rfl) (Nat.le_of_ble_eq_true rfl)) wd_486 wd_487 wd_488 hob (q := (RX6, TX6, 6)) rfl rfl rfl hlv rfl hcat hcu hsu (Nat.le_of_ble_eq_true rfl) hJ (fun v n' rp' hp' h => by obtain ⟨rfl, rfl, rfl, rfl⟩ := h; exact k)
theorem sL_isSecret_351 {g : Gh} {mc ms cu su : Nat} {L : List (Option Vv)} {st : List Vv} {hp h1 : HPt} {P : Pst} {x0 : A4} {x1 : Int32} {x2 : Int32} {r : Int32} (hcu : cu ≤ mc) (hsu : su ≤ ms) (hcat : (st.map fun v => (trv g v).category).sum ≤ 8) (hJ : Ci g mL_isCaught [vR x0, vI x1, vI x2] hp r h1) (k : V g mL_isSecret mc ms cu su 609 354 L (vI r :: st) RP h1 P) : V g mL_isSecret mc ms cu su 609 351 L (vI x2 :: vI x1 :: vR x0 :: st) RP hp P :=
  r_callS (as := [vR x0, vI x1, vI x2]) (mcj := 0) (msj := 0) (st := st) dL_isSecret_351 (coL_isCaught (Nat.le_of_ble_eq_true rfl) (Nat.le_of_ble_eq_true rfl)) wd_611 wd_612 rfl rfl hcat hcu hsu (Nat.le_of_ble_eq_true rfl) hJ (fun v n' rp' hp' h => by obtain ⟨rfl, rfl, rfl, rfl⟩ := h; exact k)
theorem sL_isSecret_366 {g : Gh} {mc ms cu su : Nat} {L : List (Option Vv)} {st : List Vv} {hp h1 : HPt} {P : Pst} {x0 : A4} {x1 : Int32} {x2 : Int32} {r : Int32} (hcu : cu ≤ mc) (hsu : su ≤ ms) (hcat : (st.map fun v => (trv g v).category).sum ≤ 8) (hJ : Ci g mL_isCaught [vR x0, vI x1, vI x2] hp r h1) (k : V g mL_isSecret mc ms cu su 609 369 L (vI r :: st) RP h1 P) : V g mL_isSecret mc ms cu su 609 366 L (vI x2 :: vI x1 :: vR x0 :: st) RP hp P :=
  r_callS (as := [vR x0, vI x1, vI x2]) (mcj := 0) (msj := 0) (st := st) dL_isSecret_366 (coL_isCaught (Nat.le_of_ble_eq_true rfl) (Nat.le_of_ble_eq_true rfl)) wd_611 wd_612 rfl rfl hcat hcu hsu (Nat.le_of_ble_eq_true rfl) hJ (fun v n' rp' hp' h => by obtain ⟨rfl, rfl, rfl, rfl⟩ := h; exact k)
theorem sL_isSecret_383 {g : Gh} {mc ms cu su : Nat} {L : List (Option Vv)} {st : List Vv} {hp h1 : HPt} {P : Pst} {x0 : Int32} {x1 : Int32} {x2 : Int32} {r : Int32} {b : A4} (hcu : cu ≤ mc) (hsu : su ≤ ms) (hob : okd b.1 = some 6) (hlv : lvp 609 b) (hcat : (st.map fun v => (trv g v).category).sum ≤ 8) (hJ : Ci g mX6_of [vR b, vI x0, vI x1, vI x2] hp r h1) (k : V g mL_isSecret mc ms cu su 609 386 L (vI r :: st) RP h1 P) : V g mL_isSecret mc ms cu su 609 383 L (vI x2 :: vI x1 :: vI x0 :: vR b :: st) RP hp P :=
  r_callV (as := [vI x0, vI x1, vI x2]) (b := b) (mcj := 0) (msj := 0) (st := st) dL_isSecret_383 (coX6_of (Nat.le_of_ble_eq_true rfl) (Nat.le_of_ble_eq_true rfl)) wd_552 wd_553 wd_554 hob (q := (RX6, TX6, 6)) rfl rfl rfl hlv rfl hcat hcu hsu (Nat.le_of_ble_eq_true rfl) hJ (fun v n' rp' hp' h => by obtain ⟨rfl, rfl, rfl, rfl⟩ := h; exact k)
theorem sL_isSecret_391 {g : Gh} {mc ms cu su : Nat} {L : List (Option Vv)} {st : List Vv} {hp h1 : HPt} {P : Pst} {x0 : Int32} {x1 : Int32} {x2 : Int32} {r : Int32} {b : A4} (hcu : cu ≤ mc) (hsu : su ≤ ms) (hob : okd b.1 = some 6) (hlv : lvp 609 b) (hcat : (st.map fun v => (trv g v).category).sum ≤ 8) (hJ : Ci g mX6_of [vR b, vI x0, vI x1, vI x2] hp r h1) (k : V g mL_isSecret mc ms cu su 609 394 L (vI r :: st) RP h1 P) : V g mL_isSecret mc ms cu su 609 391 L (vI x2 :: vI x1 :: vI x0 :: vR b :: st) RP hp P :=
  r_callV (as := [vI x0, vI x1, vI x2]) (b := b) (mcj := 0) (msj := 0) (st := st) dL_isSecret_391 (coX6_of (Nat.le_of_ble_eq_true rfl) (Nat.le_of_ble_eq_true rfl)) wd_552 wd_553 wd_554 hob (q := (RX6, TX6, 6)) rfl rfl rfl hlv rfl hcat hcu hsu (Nat.le_of_ble_eq_true rfl) hJ (fun v n' rp' hp' h => by obtain ⟨rfl, rfl, rfl, rfl⟩ := h; exact k)
theorem sL_isSecret_403 {g : Gh} {mc ms cu su : Nat} {L : List (Option Vv)} {st : List Vv} {hp h1 : HPt} {P : Pst} {x0 : Int32} {r : Int32} {b : A4} (hcu : cu ≤ mc) (hsu : su ≤ ms) (hob : okd b.1 = some 6) (hlv : lvp 609 b) (hcat : (st.map fun v => (trv g v).category).sum ≤ 8) (hJ : Ci g mX6_count [vR b, vI x0] hp r h1) (k : V g mL_isSecret mc ms cu su 609 406 L (vI r :: st) RP h1 P) : V g mL_isSecret mc ms cu su 609 403 L (vI x0 :: vR b :: st) RP hp P :=
  r_callV (as := [vI x0]) (b := b) (mcj := 0) (msj := 0) (st := st) dL_isSecret_403 (coX6_count (Nat.le_of_ble_eq_true rfl) (Nat.le_of_ble_eq_true rfl)) wd_267 wd_268 wd_269 hob (q := (RX6, TX6, 6)) rfl rfl rfl hlv rfl hcat hcu hsu (Nat.le_of_ble_eq_true rfl) hJ (fun v n' rp' hp' h => by obtain ⟨rfl, rfl, rfl, rfl⟩ := h; exact k)
theorem sL_isSecret_408 {g : Gh} {mc ms cu su : Nat} {L : List (Option Vv)} {st : List Vv} {hp h1 : HPt} {P : Pst} {x0 : Int32} {r : Int32} {b : A4} (hcu : cu ≤ mc) (hsu : su ≤ ms) (hob : okd b.1 = some 6) (hlv : lvp 609 b) (hcat : (st.map fun v => (trv g v).category).sum ≤ 8) (hJ : Ci g mX6_count [vR b, vI x0] hp r h1) (k : V g mL_isSecret mc ms cu su 609 411 L (vI r :: st) RP h1 P) : V g mL_isSecret mc ms cu su 609 408 L (vI x0 :: vR b :: st) RP hp P :=
  r_callV (as := [vI x0]) (b := b) (mcj := 0) (msj := 0) (st := st) dL_isSecret_408 (coX6_count (Nat.le_of_ble_eq_true rfl) (Nat.le_of_ble_eq_true rfl)) wd_267 wd_268 wd_269 hob (q := (RX6, TX6, 6)) rfl rfl rfl hlv rfl hcat hcu hsu (Nat.le_of_ble_eq_true rfl) hJ (fun v n' rp' hp' h => by obtain ⟨rfl, rfl, rfl, rfl⟩ := h; exact k)
theorem sL_isSecret_431 {g : Gh} {mc ms cu su : Nat} {L : List (Option Vv)} {st : List Vv} {hp h1 : HPt} {P : Pst} {x0 : Int32} {r : Int32} {b : A4} (hcu : cu ≤ mc) (hsu : su ≤ ms) (hob : okd b.1 = some 6) (hlv : lvp 609 b) (hcat : (st.map fun v => (trv g v).category).sum ≤ 8) (hJ : Ci g mX6_ifMerged [vR b, vI x0] hp r h1) (k : V g mL_isSecret mc ms cu su 609 434 L (vI r :: st) RP h1 P) : V g mL_isSecret mc ms cu su 609 431 L (vI x0 :: vR b :: st) RP hp P :=
  r_callV (as := [vI x0]) (b := b) (mcj := 0) (msj := 0) (st := st) dL_isSecret_431 (coX6_ifMerged (Nat.le_of_ble_eq_true rfl) (Nat.le_of_ble_eq_true rfl)) wd_283 wd_284 wd_285 hob (q := (RX6, TX6, 6)) rfl rfl rfl hlv rfl hcat hcu hsu (Nat.le_of_ble_eq_true rfl) hJ (fun v n' rp' hp' h => by obtain ⟨rfl, rfl, rfl, rfl⟩ := h; exact k)
theorem sL_isSecret_442 {g : Gh} {mc ms cu su : Nat} {L : List (Option Vv)} {st : List Vv} {hp h1 : HPt} {P : Pst} {x0 : Int32} {x1 : Int32} {r : Int32} {b : A4} (hcu : cu ≤ mc) (hsu : su ≤ ms) (hob : okd b.1 = some 6) (hlv : lvp 609 b) (hcat : (st.map fun v => (trv g v).category).sum ≤ 8) (hJ : Ci g mX6_ofSecret [vR b, vI x0, vI x1] hp r h1) (k : V g mL_isSecret mc ms cu su 609 445 L (vI r :: st) RP h1 P) : V g mL_isSecret mc ms cu su 609 442 L (vI x1 :: vI x0 :: vR b :: st) RP hp P :=
  r_callV (as := [vI x0, vI x1]) (b := b) (mcj := 0) (msj := 0) (st := st) dL_isSecret_442 (coX6_ofSecret (Nat.le_of_ble_eq_true rfl) (Nat.le_of_ble_eq_true rfl)) wd_486 wd_487 wd_488 hob (q := (RX6, TX6, 6)) rfl rfl rfl hlv rfl hcat hcu hsu (Nat.le_of_ble_eq_true rfl) hJ (fun v n' rp' hp' h => by obtain ⟨rfl, rfl, rfl, rfl⟩ := h; exact k)
theorem sL_isSecret_458 {g : Gh} {mc ms cu su : Nat} {L : List (Option Vv)} {st : List Vv} {hp h1 : HPt} {P : Pst} {x0 : Int32} {x1 : Int32} {r : Int32} {b : A4} (hcu : cu ≤ mc) (hsu : su ≤ ms) (hob : okd b.1 = some 6) (hlv : lvp 609 b) (hcat : (st.map fun v => (trv g v).category).sum ≤ 8) (hJ : Ci g mX6_ofSecret [vR b, vI x0, vI x1] hp r h1) (k : V g mL_isSecret mc ms cu su 609 461 L (vI r :: st) RP h1 P) : V g mL_isSecret mc ms cu su 609 458 L (vI x1 :: vI x0 :: vR b :: st) RP hp P :=
  r_callV (as := [vI x0, vI x1]) (b := b) (mcj := 0) (msj := 0) (st := st) dL_isSecret_458 (coX6_ofSecret (Nat.le_of_ble_eq_true rfl) (Nat.le_of_ble_eq_true rfl)) wd_486 wd_487 wd_488 hob (q := (RX6, TX6, 6)) rfl rfl rfl hlv rfl hcat hcu hsu (Nat.le_of_ble_eq_true rfl) hJ (fun v n' rp' hp' h => by obtain ⟨rfl, rfl, rfl, rfl⟩ := h; exact k)
theorem sL_isStore_4 {g : Gh} {mc ms cu su : Nat} {L : List (Option Vv)} {st : List Vv} {hp h1 : HPt} {P : Pst} {x0 : Int32} {x1 : Int32} {x2 : Int32} {r : Int32} {b : A4} (hcu : cu ≤ mc) (hsu : su ≤ ms) (hob : okd b.1 = some 6) (hlv : lvp 609 b) (hcat : (st.map fun v => (trv g v).category).sum ≤ 8) (hJ : Ci g mX6_of [vR b, vI x0, vI x1, vI x2] hp r h1) (k : V g mL_isStore mc ms cu su 609 7 L (vI r :: st) RP h1 P) : V g mL_isStore mc ms cu su 609 4 L (vI x2 :: vI x1 :: vI x0 :: vR b :: st) RP hp P :=
  r_callV (as := [vI x0, vI x1, vI x2]) (b := b) (mcj := 0) (msj := 0) (st := st) dL_isStore_4 (coX6_of (Nat.le_of_ble_eq_true rfl) (Nat.le_of_ble_eq_true rfl)) wd_552 wd_553 wd_554 hob (q := (RX6, TX6, 6)) rfl rfl rfl hlv rfl hcat hcu hsu (Nat.le_of_ble_eq_true rfl) hJ (fun v n' rp' hp' h => by obtain ⟨rfl, rfl, rfl, rfl⟩ := h; exact k)
theorem sL_isStore_14 {g : Gh} {mc ms cu su : Nat} {L : List (Option Vv)} {st : List Vv} {hp h1 : HPt} {P : Pst} {x0 : Int32} {x1 : Int32} {x2 : Int32} {r : Int32} {b : A4} (hcu : cu ≤ mc) (hsu : su ≤ ms) (hob : okd b.1 = some 6) (hlv : lvp 609 b) (hcat : (st.map fun v => (trv g v).category).sum ≤ 8) (hJ : Ci g mX6_of [vR b, vI x0, vI x1, vI x2] hp r h1) (k : V g mL_isStore mc ms cu su 609 17 L (vI r :: st) RP h1 P) : V g mL_isStore mc ms cu su 609 14 L (vI x2 :: vI x1 :: vI x0 :: vR b :: st) RP hp P :=
  r_callV (as := [vI x0, vI x1, vI x2]) (b := b) (mcj := 0) (msj := 0) (st := st) dL_isStore_14 (coX6_of (Nat.le_of_ble_eq_true rfl) (Nat.le_of_ble_eq_true rfl)) wd_552 wd_553 wd_554 hob (q := (RX6, TX6, 6)) rfl rfl rfl hlv rfl hcat hcu hsu (Nat.le_of_ble_eq_true rfl) hJ (fun v n' rp' hp' h => by obtain ⟨rfl, rfl, rfl, rfl⟩ := h; exact k)
theorem sL_isStore_25 {g : Gh} {mc ms cu su : Nat} {L : List (Option Vv)} {st : List Vv} {hp h1 : HPt} {P : Pst} {x0 : Int32} {x1 : Int32} {x2 : Int32} {r : Int32} {b : A4} (hcu : cu ≤ mc) (hsu : su ≤ ms) (hob : okd b.1 = some 6) (hlv : lvp 609 b) (hcat : (st.map fun v => (trv g v).category).sum ≤ 8) (hJ : Ci g mX6_of [vR b, vI x0, vI x1, vI x2] hp r h1) (k : V g mL_isStore mc ms cu su 609 28 L (vI r :: st) RP h1 P) : V g mL_isStore mc ms cu su 609 25 L (vI x2 :: vI x1 :: vI x0 :: vR b :: st) RP hp P :=
  r_callV (as := [vI x0, vI x1, vI x2]) (b := b) (mcj := 0) (msj := 0) (st := st) dL_isStore_25 (coX6_of (Nat.le_of_ble_eq_true rfl) (Nat.le_of_ble_eq_true rfl)) wd_552 wd_553 wd_554 hob (q := (RX6, TX6, 6)) rfl rfl rfl hlv rfl hcat hcu hsu (Nat.le_of_ble_eq_true rfl) hJ (fun v n' rp' hp' h => by obtain ⟨rfl, rfl, rfl, rfl⟩ := h; exact k)
theorem sL_isStore_71 {g : Gh} {mc ms cu su : Nat} {L : List (Option Vv)} {st : List Vv} {hp h1 : HPt} {P : Pst} {x0 : Int32} {x1 : Int32} {x2 : Int32} {r : Int32} {b : A4} (hcu : cu ≤ mc) (hsu : su ≤ ms) (hob : okd b.1 = some 6) (hlv : lvp 609 b) (hcat : (st.map fun v => (trv g v).category).sum ≤ 8) (hJ : Ci g mX6_of [vR b, vI x0, vI x1, vI x2] hp r h1) (k : V g mL_isStore mc ms cu su 609 74 L (vI r :: st) RP h1 P) : V g mL_isStore mc ms cu su 609 71 L (vI x2 :: vI x1 :: vI x0 :: vR b :: st) RP hp P :=
  r_callV (as := [vI x0, vI x1, vI x2]) (b := b) (mcj := 0) (msj := 0) (st := st) dL_isStore_71 (coX6_of (Nat.le_of_ble_eq_true rfl) (Nat.le_of_ble_eq_true rfl)) wd_552 wd_553 wd_554 hob (q := (RX6, TX6, 6)) rfl rfl rfl hlv rfl hcat hcu hsu (Nat.le_of_ble_eq_true rfl) hJ (fun v n' rp' hp' h => by obtain ⟨rfl, rfl, rfl, rfl⟩ := h; exact k)
theorem sL_isStore_105 {g : Gh} {mc ms cu su : Nat} {L : List (Option Vv)} {st : List Vv} {hp h1 : HPt} {P : Pst} {x0 : Int32} {x1 : Int32} {x2 : Int32} {r : Int32} {b : A4} (hcu : cu ≤ mc) (hsu : su ≤ ms) (hob : okd b.1 = some 6) (hlv : lvp 609 b) (hcat : (st.map fun v => (trv g v).category).sum ≤ 8) (hJ : Ci g mX6_of [vR b, vI x0, vI x1, vI x2] hp r h1) (k : V g mL_isStore mc ms cu su 609 108 L (vI r :: st) RP h1 P) : V g mL_isStore mc ms cu su 609 105 L (vI x2 :: vI x1 :: vI x0 :: vR b :: st) RP hp P :=
  r_callV (as := [vI x0, vI x1, vI x2]) (b := b) (mcj := 0) (msj := 0) (st := st) dL_isStore_105 (coX6_of (Nat.le_of_ble_eq_true rfl) (Nat.le_of_ble_eq_true rfl)) wd_552 wd_553 wd_554 hob (q := (RX6, TX6, 6)) rfl rfl rfl hlv rfl hcat hcu hsu (Nat.le_of_ble_eq_true rfl) hJ (fun v n' rp' hp' h => by obtain ⟨rfl, rfl, rfl, rfl⟩ := h; exact k)
theorem sL_isStore_113 {g : Gh} {mc ms cu su : Nat} {L : List (Option Vv)} {st : List Vv} {hp h1 : HPt} {P : Pst} {x0 : Int32} {x1 : Int32} {x2 : Int32} {r : Int32} {b : A4} (hcu : cu ≤ mc) (hsu : su ≤ ms) (hob : okd b.1 = some 6) (hlv : lvp 609 b) (hcat : (st.map fun v => (trv g v).category).sum ≤ 8) (hJ : Ci g mX6_of [vR b, vI x0, vI x1, vI x2] hp r h1) (k : V g mL_isStore mc ms cu su 609 116 L (vI r :: st) RP h1 P) : V g mL_isStore mc ms cu su 609 113 L (vI x2 :: vI x1 :: vI x0 :: vR b :: st) RP hp P :=
  r_callV (as := [vI x0, vI x1, vI x2]) (b := b) (mcj := 0) (msj := 0) (st := st) dL_isStore_113 (coX6_of (Nat.le_of_ble_eq_true rfl) (Nat.le_of_ble_eq_true rfl)) wd_552 wd_553 wd_554 hob (q := (RX6, TX6, 6)) rfl rfl rfl hlv rfl hcat hcu hsu (Nat.le_of_ble_eq_true rfl) hJ (fun v n' rp' hp' h => by obtain ⟨rfl, rfl, rfl, rfl⟩ := h; exact k)
theorem sL_isStore_129 {g : Gh} {mc ms cu su : Nat} {L : List (Option Vv)} {st : List Vv} {hp h1 : HPt} {P : Pst} {x0 : Int32} {x1 : Int32} {x2 : Int32} {r : Int32} {b : A4} (hcu : cu ≤ mc) (hsu : su ≤ ms) (hob : okd b.1 = some 6) (hlv : lvp 609 b) (hcat : (st.map fun v => (trv g v).category).sum ≤ 8) (hJ : Ci g mX6_of [vR b, vI x0, vI x1, vI x2] hp r h1) (k : V g mL_isStore mc ms cu su 609 132 L (vI r :: st) RP h1 P) : V g mL_isStore mc ms cu su 609 129 L (vI x2 :: vI x1 :: vI x0 :: vR b :: st) RP hp P :=
  r_callV (as := [vI x0, vI x1, vI x2]) (b := b) (mcj := 0) (msj := 0) (st := st) dL_isStore_129 (coX6_of (Nat.le_of_ble_eq_true rfl) (Nat.le_of_ble_eq_true rfl)) wd_552 wd_553 wd_554 hob (q := (RX6, TX6, 6)) rfl rfl rfl hlv rfl hcat hcu hsu (Nat.le_of_ble_eq_true rfl) hJ (fun v n' rp' hp' h => by obtain ⟨rfl, rfl, rfl, rfl⟩ := h; exact k)
theorem sL_isStore_136 {g : Gh} {mc ms cu su : Nat} {L : List (Option Vv)} {st : List Vv} {hp h1 : HPt} {P : Pst} {x0 : Int32} {x1 : Int32} {x2 : Int32} {r : Int32} {b : A4} (hcu : cu ≤ mc) (hsu : su ≤ ms) (hob : okd b.1 = some 6) (hlv : lvp 609 b) (hcat : (st.map fun v => (trv g v).category).sum ≤ 8) (hJ : Ci g mX6_of [vR b, vI x0, vI x1, vI x2] hp r h1) (k : V g mL_isStore mc ms cu su 609 139 L (vI r :: st) RP h1 P) : V g mL_isStore mc ms cu su 609 136 L (vI x2 :: vI x1 :: vI x0 :: vR b :: st) RP hp P :=
  r_callV (as := [vI x0, vI x1, vI x2]) (b := b) (mcj := 0) (msj := 0) (st := st) dL_isStore_136 (coX6_of (Nat.le_of_ble_eq_true rfl) (Nat.le_of_ble_eq_true rfl)) wd_552 wd_553 wd_554 hob (q := (RX6, TX6, 6)) rfl rfl rfl hlv rfl hcat hcu hsu (Nat.le_of_ble_eq_true rfl) hJ (fun v n' rp' hp' h => by obtain ⟨rfl, rfl, rfl, rfl⟩ := h; exact k)
theorem sL_isStore_143 {g : Gh} {mc ms cu su : Nat} {L : List (Option Vv)} {st : List Vv} {hp h1 : HPt} {P : Pst} {x0 : Int32} {x1 : Int32} {x2 : Int32} {r : Int32} {b : A4} (hcu : cu ≤ mc) (hsu : su ≤ ms) (hob : okd b.1 = some 6) (hlv : lvp 609 b) (hcat : (st.map fun v => (trv g v).category).sum ≤ 8) (hJ : Ci g mX6_of [vR b, vI x0, vI x1, vI x2] hp r h1) (k : V g mL_isStore mc ms cu su 609 146 L (vI r :: st) RP h1 P) : V g mL_isStore mc ms cu su 609 143 L (vI x2 :: vI x1 :: vI x0 :: vR b :: st) RP hp P :=
  r_callV (as := [vI x0, vI x1, vI x2]) (b := b) (mcj := 0) (msj := 0) (st := st) dL_isStore_143 (coX6_of (Nat.le_of_ble_eq_true rfl) (Nat.le_of_ble_eq_true rfl)) wd_552 wd_553 wd_554 hob (q := (RX6, TX6, 6)) rfl rfl rfl hlv rfl hcat hcu hsu (Nat.le_of_ble_eq_true rfl) hJ (fun v n' rp' hp' h => by obtain ⟨rfl, rfl, rfl, rfl⟩ := h; exact k)
theorem sL_isStore_170 {g : Gh} {mc ms cu su : Nat} {L : List (Option Vv)} {st : List Vv} {hp h1 : HPt} {P : Pst} {x0 : Int32} {x1 : Int32} {x2 : Int32} {r : Int32} {b : A4} (hcu : cu ≤ mc) (hsu : su ≤ ms) (hob : okd b.1 = some 6) (hlv : lvp 609 b) (hcat : (st.map fun v => (trv g v).category).sum ≤ 8) (hJ : Ci g mX6_passing [vR b, vI x0, vI x1, vI x2] hp r h1) (k : V g mL_isStore mc ms cu su 609 173 L (vI r :: st) RP h1 P) : V g mL_isStore mc ms cu su 609 170 L (vI x2 :: vI x1 :: vI x0 :: vR b :: st) RP hp P :=
  r_callV (as := [vI x0, vI x1, vI x2]) (b := b) (mcj := 0) (msj := 0) (st := st) dL_isStore_170 (coX6_passing (Nat.le_of_ble_eq_true rfl) (Nat.le_of_ble_eq_true rfl)) wd_456 wd_457 wd_458 hob (q := (RX6, TX6, 6)) rfl rfl rfl hlv rfl hcat hcu hsu (Nat.le_of_ble_eq_true rfl) hJ (fun v n' rp' hp' h => by obtain ⟨rfl, rfl, rfl, rfl⟩ := h; exact k)
theorem sL_isStore_180 {g : Gh} {mc ms cu su : Nat} {L : List (Option Vv)} {st : List Vv} {hp h1 : HPt} {P : Pst} {x0 : Int32} {x1 : Int32} {x2 : Int32} {r : Int32} {b : A4} (hcu : cu ≤ mc) (hsu : su ≤ ms) (hob : okd b.1 = some 6) (hlv : lvp 609 b) (hcat : (st.map fun v => (trv g v).category).sum ≤ 8) (hJ : Ci g mX6_passes [vR b, vI x0, vI x1, vI x2] hp r h1) (k : V g mL_isStore mc ms cu su 609 183 L (vI r :: st) RP h1 P) : V g mL_isStore mc ms cu su 609 180 L (vI x2 :: vI x1 :: vI x0 :: vR b :: st) RP hp P :=
  r_callV (as := [vI x0, vI x1, vI x2]) (b := b) (mcj := 0) (msj := 0) (st := st) dL_isStore_180 (coX6_passes (Nat.le_of_ble_eq_true rfl) (Nat.le_of_ble_eq_true rfl)) wd_562 wd_563 wd_564 hob (q := (RX6, TX6, 6)) rfl rfl rfl hlv rfl hcat hcu hsu (Nat.le_of_ble_eq_true rfl) hJ (fun v n' rp' hp' h => by obtain ⟨rfl, rfl, rfl, rfl⟩ := h; exact k)
theorem sL_law_14 {g : Gh} {mc ms cu su : Nat} {L : List (Option Vv)} {st : List Vv} {hp h1 : HPt} {P : Pst} {r : Int32} {b : A4} (hcu : cu ≤ mc) (hsu : su ≤ ms) (hob : okd b.1 = some 6) (hlv : lvp 609 b) (hcat : (st.map fun v => (trv g v).category).sum ≤ 8) (hJ : Ci g mX6_undo [vR b] hp r h1) (k : V g mL_law mc ms cu su 609 17 L (vI r :: st) RP h1 P) : V g mL_law mc ms cu su 609 14 L (vR b :: st) RP hp P :=
  r_callV (as := []) (b := b) (mcj := 0) (msj := 0) (st := st) dL_law_14 (coX6_undo (Nat.le_of_ble_eq_true rfl) (Nat.le_of_ble_eq_true rfl)) wd_324 wd_325 wd_326 hob (q := (RX6, TX6, 6)) rfl rfl rfl hlv rfl hcat hcu hsu (Nat.le_of_ble_eq_true rfl) hJ (fun v n' rp' hp' h => by obtain ⟨rfl, rfl, rfl, rfl⟩ := h; exact k)
theorem sL_law_24 {g : Gh} {mc ms cu su : Nat} {L : List (Option Vv)} {st : List Vv} {hp h1 : HPt} {P : Pst} {x0 : A4} {x1 : A4} {r : Int32} (hcu : cu ≤ mc) (hsu : su ≤ ms) (hcat : (st.map fun v => (trv g v).category).sum ≤ 8) (hJ : Ci g mL_holds [vR x0, vR x1] hp r h1) (k : V g mL_law mc ms cu su 609 27 L (vI r :: st) RP h1 P) : V g mL_law mc ms cu su 609 24 L (vR x1 :: vR x0 :: st) RP hp P :=
  r_callS (as := [vR x0, vR x1]) (mcj := 0) (msj := 0) (st := st) dL_law_24 (coL_holds (Nat.le_of_ble_eq_true rfl) (Nat.le_of_ble_eq_true rfl)) wd_546 wd_547 rfl rfl hcat hcu hsu (Nat.le_of_ble_eq_true rfl) hJ (fun v n' rp' hp' h => by obtain ⟨rfl, rfl, rfl, rfl⟩ := h; exact k)
theorem sL_law_75 {g : Gh} {mc ms cu su : Nat} {L : List (Option Vv)} {st : List Vv} {hp h1 : HPt} {P : Pst} {x0 : A4} {x1 : Int32} {r : Int32} (hcu : cu ≤ mc) (hsu : su ≤ ms) (hcat : (st.map fun v => (trv g v).category).sum ≤ 8) (hJ : Ci g mL_cell [vR x0, vI x1] hp r h1) (k : V g mL_law mc ms cu su 609 78 L (vI r :: st) RP h1 P) : V g mL_law mc ms cu su 609 75 L (vI x1 :: vR x0 :: st) RP hp P :=
  r_callS (as := [vR x0, vI x1]) (mcj := 0) (msj := 0) (st := st) dL_law_75 (coL_cell (Nat.le_of_ble_eq_true rfl) (Nat.le_of_ble_eq_true rfl)) wd_344 wd_345 rfl rfl hcat hcu hsu (Nat.le_of_ble_eq_true rfl) hJ (fun v n' rp' hp' h => by obtain ⟨rfl, rfl, rfl, rfl⟩ := h; exact k)
theorem sL_law_80 {g : Gh} {mc ms cu su : Nat} {L : List (Option Vv)} {st : List Vv} {hp h1 : HPt} {P : Pst} {x0 : Int32} {x1 : Int32} {r : Int32} (hcu : cu ≤ mc) (hsu : su ≤ ms) (hcat : (st.map fun v => (trv g v).category).sum ≤ 8) (hJ : Ci g mL_low [vI x0, vI x1] hp r h1) (k : V g mL_law mc ms cu su 609 83 L (vI r :: st) RP h1 P) : V g mL_law mc ms cu su 609 80 L (vI x1 :: vI x0 :: st) RP hp P :=
  r_callS (as := [vI x0, vI x1]) (mcj := 0) (msj := 0) (st := st) dL_law_80 (coL_low (Nat.le_of_ble_eq_true rfl) (Nat.le_of_ble_eq_true rfl)) wd_348 wd_349 rfl rfl hcat hcu hsu (Nat.le_of_ble_eq_true rfl) hJ (fun v n' rp' hp' h => by obtain ⟨rfl, rfl, rfl, rfl⟩ := h; exact k)
theorem sL_law_88 {g : Gh} {mc ms cu su : Nat} {L : List (Option Vv)} {st : List Vv} {hp h1 : HPt} {P : Pst} {x0 : Int32} {r : Int32} {b : A4} (hcu : cu ≤ mc) (hsu : su ≤ ms) (hob : okd b.1 = some 6) (hlv : lvp 609 b) (hcat : (st.map fun v => (trv g v).category).sum ≤ 8) (hJ : Ci g mX6_count [vR b, vI x0] hp r h1) (k : V g mL_law mc ms cu su 609 91 L (vI r :: st) RP h1 P) : V g mL_law mc ms cu su 609 88 L (vI x0 :: vR b :: st) RP hp P :=
  r_callV (as := [vI x0]) (b := b) (mcj := 0) (msj := 0) (st := st) dL_law_88 (coX6_count (Nat.le_of_ble_eq_true rfl) (Nat.le_of_ble_eq_true rfl)) wd_267 wd_268 wd_269 hob (q := (RX6, TX6, 6)) rfl rfl rfl hlv rfl hcat hcu hsu (Nat.le_of_ble_eq_true rfl) hJ (fun v n' rp' hp' h => by obtain ⟨rfl, rfl, rfl, rfl⟩ := h; exact k)
theorem sL_law_115 {g : Gh} {mc ms cu su : Nat} {L : List (Option Vv)} {st : List Vv} {hp h1 : HPt} {P : Pst} {x0 : A4} {x1 : Int32} {r : Int32} (hcu : cu ≤ mc) (hsu : su ≤ ms) (hcat : (st.map fun v => (trv g v).category).sum ≤ 8) (hJ : Ci g mL_cell [vR x0, vI x1] hp r h1) (k : V g mL_law mc ms cu su 609 118 L (vI r :: st) RP h1 P) : V g mL_law mc ms cu su 609 115 L (vI x1 :: vR x0 :: st) RP hp P :=
  r_callS (as := [vR x0, vI x1]) (mcj := 0) (msj := 0) (st := st) dL_law_115 (coL_cell (Nat.le_of_ble_eq_true rfl) (Nat.le_of_ble_eq_true rfl)) wd_344 wd_345 rfl rfl hcat hcu hsu (Nat.le_of_ble_eq_true rfl) hJ (fun v n' rp' hp' h => by obtain ⟨rfl, rfl, rfl, rfl⟩ := h; exact k)
theorem sL_law_120 {g : Gh} {mc ms cu su : Nat} {L : List (Option Vv)} {st : List Vv} {hp h1 : HPt} {P : Pst} {x0 : Int32} {r : Int32} {b : A4} (hcu : cu ≤ mc) (hsu : su ≤ ms) (hob : okd b.1 = some 6) (hlv : lvp 609 b) (hcat : (st.map fun v => (trv g v).category).sum ≤ 8) (hJ : Ci g mX6_count [vR b, vI x0] hp r h1) (k : V g mL_law mc ms cu su 609 123 L (vI r :: st) RP h1 P) : V g mL_law mc ms cu su 609 120 L (vI x0 :: vR b :: st) RP hp P :=
  r_callV (as := [vI x0]) (b := b) (mcj := 0) (msj := 0) (st := st) dL_law_120 (coX6_count (Nat.le_of_ble_eq_true rfl) (Nat.le_of_ble_eq_true rfl)) wd_267 wd_268 wd_269 hob (q := (RX6, TX6, 6)) rfl rfl rfl hlv rfl hcat hcu hsu (Nat.le_of_ble_eq_true rfl) hJ (fun v n' rp' hp' h => by obtain ⟨rfl, rfl, rfl, rfl⟩ := h; exact k)
theorem sL_law_125 {g : Gh} {mc ms cu su : Nat} {L : List (Option Vv)} {st : List Vv} {hp h1 : HPt} {P : Pst} {x0 : Int32} {x1 : Int32} {r : Int32} (hcu : cu ≤ mc) (hsu : su ≤ ms) (hcat : (st.map fun v => (trv g v).category).sum ≤ 8) (hJ : Ci g mL_low [vI x0, vI x1] hp r h1) (k : V g mL_law mc ms cu su 609 128 L (vI r :: st) RP h1 P) : V g mL_law mc ms cu su 609 125 L (vI x1 :: vI x0 :: st) RP hp P :=
  r_callS (as := [vI x0, vI x1]) (mcj := 0) (msj := 0) (st := st) dL_law_125 (coL_low (Nat.le_of_ble_eq_true rfl) (Nat.le_of_ble_eq_true rfl)) wd_348 wd_349 rfl rfl hcat hcu hsu (Nat.le_of_ble_eq_true rfl) hJ (fun v n' rp' hp' h => by obtain ⟨rfl, rfl, rfl, rfl⟩ := h; exact k)
theorem sL_law_128 {g : Gh} {mc ms cu su : Nat} {L : List (Option Vv)} {st : List Vv} {hp h1 : HPt} {P : Pst} {x0 : Int32} {r : Int32} {b : A4} (hcu : cu ≤ mc) (hsu : su ≤ ms) (hob : okd b.1 = some 6) (hlv : lvp 609 b) (hcat : (st.map fun v => (trv g v).category).sum ≤ 8) (hJ : Ci g mX6_ifMerged [vR b, vI x0] hp r h1) (k : V g mL_law mc ms cu su 609 131 L (vI r :: st) RP h1 P) : V g mL_law mc ms cu su 609 128 L (vI x0 :: vR b :: st) RP hp P :=
  r_callV (as := [vI x0]) (b := b) (mcj := 0) (msj := 0) (st := st) dL_law_128 (coX6_ifMerged (Nat.le_of_ble_eq_true rfl) (Nat.le_of_ble_eq_true rfl)) wd_283 wd_284 wd_285 hob (q := (RX6, TX6, 6)) rfl rfl rfl hlv rfl hcat hcu hsu (Nat.le_of_ble_eq_true rfl) hJ (fun v n' rp' hp' h => by obtain ⟨rfl, rfl, rfl, rfl⟩ := h; exact k)
theorem sL_law_148 {g : Gh} {mc ms cu su : Nat} {L : List (Option Vv)} {st : List Vv} {hp h1 : HPt} {P : Pst} {x0 : A4} {x1 : Int32} {r : Int32} (hcu : cu ≤ mc) (hsu : su ≤ ms) (hcat : (st.map fun v => (trv g v).category).sum ≤ 8) (hJ : Ci g mL_cell [vR x0, vI x1] hp r h1) (k : V g mL_law mc ms cu su 609 151 L (vI r :: st) RP h1 P) : V g mL_law mc ms cu su 609 148 L (vI x1 :: vR x0 :: st) RP hp P :=
  r_callS (as := [vR x0, vI x1]) (mcj := 0) (msj := 0) (st := st) dL_law_148 (coL_cell (Nat.le_of_ble_eq_true rfl) (Nat.le_of_ble_eq_true rfl)) wd_344 wd_345 rfl rfl hcat hcu hsu (Nat.le_of_ble_eq_true rfl) hJ (fun v n' rp' hp' h => by obtain ⟨rfl, rfl, rfl, rfl⟩ := h; exact k)
theorem sL_law_158 {g : Gh} {mc ms cu su : Nat} {L : List (Option Vv)} {st : List Vv} {hp h1 : HPt} {P : Pst} {x0 : A4} {x1 : Int32} {r : Int32} (hcu : cu ≤ mc) (hsu : su ≤ ms) (hcat : (st.map fun v => (trv g v).category).sum ≤ 8) (hJ : Ci g mL_cell [vR x0, vI x1] hp r h1) (k : V g mL_law mc ms cu su 609 161 L (vI r :: st) RP h1 P) : V g mL_law mc ms cu su 609 158 L (vI x1 :: vR x0 :: st) RP hp P :=
  r_callS (as := [vR x0, vI x1]) (mcj := 0) (msj := 0) (st := st) dL_law_158 (coL_cell (Nat.le_of_ble_eq_true rfl) (Nat.le_of_ble_eq_true rfl)) wd_344 wd_345 rfl rfl hcat hcu hsu (Nat.le_of_ble_eq_true rfl) hJ (fun v n' rp' hp' h => by obtain ⟨rfl, rfl, rfl, rfl⟩ := h; exact k)
theorem sL_law_161 {g : Gh} {mc ms cu su : Nat} {L : List (Option Vv)} {st : List Vv} {hp h1 : HPt} {P : Pst} {x0 : A4} {x1 : A4} {x2 : Int32} {x3 : Int32} {x4 : Int32} {r : Int32} (hcu : cu ≤ mc) (hsu : su ≤ ms) (hcat : (st.map fun v => (trv g v).category).sum ≤ 8) (hJ : Ci g mL_change [vR x0, vR x1, vI x2, vI x3, vI x4] hp r h1) (k : V g mL_law mc ms cu su 609 164 L (vI r :: st) RP h1 P) : V g mL_law mc ms cu su 609 161 L (vI x4 :: vI x3 :: vI x2 :: vR x1 :: vR x0 :: st) RP hp P :=
  r_callS (as := [vR x0, vR x1, vI x2, vI x3, vI x4]) (mcj := 0) (msj := 0) (st := st) dL_law_161 (coL_change (Nat.le_of_ble_eq_true rfl) (Nat.le_of_ble_eq_true rfl)) wd_352 wd_353 rfl rfl hcat hcu hsu (Nat.le_of_ble_eq_true rfl) hJ (fun v n' rp' hp' h => by obtain ⟨rfl, rfl, rfl, rfl⟩ := h; exact k)
theorem sL_law_169 {g : Gh} {mc ms cu su : Nat} {L : List (Option Vv)} {st : List Vv} {hp h1 : HPt} {P : Pst} {x0 : Int32} {r : Int32} {b : A4} (hcu : cu ≤ mc) (hsu : su ≤ ms) (hob : okd b.1 = some 6) (hlv : lvp 609 b) (hcat : (st.map fun v => (trv g v).category).sum ≤ 8) (hJ : Ci g mX6_count [vR b, vI x0] hp r h1) (k : V g mL_law mc ms cu su 609 172 L (vI r :: st) RP h1 P) : V g mL_law mc ms cu su 609 169 L (vI x0 :: vR b :: st) RP hp P :=
  r_callV (as := [vI x0]) (b := b) (mcj := 0) (msj := 0) (st := st) dL_law_169 (coX6_count (Nat.le_of_ble_eq_true rfl) (Nat.le_of_ble_eq_true rfl)) wd_267 wd_268 wd_269 hob (q := (RX6, TX6, 6)) rfl rfl rfl hlv rfl hcat hcu hsu (Nat.le_of_ble_eq_true rfl) hJ (fun v n' rp' hp' h => by obtain ⟨rfl, rfl, rfl, rfl⟩ := h; exact k)
theorem sL_law_224 {g : Gh} {mc ms cu su : Nat} {L : List (Option Vv)} {st : List Vv} {hp h1 : HPt} {P : Pst} {x0 : A4} {x1 : A4} {r : Int32} (hcu : cu ≤ mc) (hsu : su ≤ ms) (hcat : (st.map fun v => (trv g v).category).sum ≤ 8) (hJ : Ci g mL_holds [vR x0, vR x1] hp r h1) (k : V g mL_law mc ms cu su 609 227 L (vI r :: st) RP h1 P) : V g mL_law mc ms cu su 609 224 L (vR x1 :: vR x0 :: st) RP hp P :=
  r_callS (as := [vR x0, vR x1]) (mcj := 0) (msj := 0) (st := st) dL_law_224 (coL_holds (Nat.le_of_ble_eq_true rfl) (Nat.le_of_ble_eq_true rfl)) wd_546 wd_547 rfl rfl hcat hcu hsu (Nat.le_of_ble_eq_true rfl) hJ (fun v n' rp' hp' h => by obtain ⟨rfl, rfl, rfl, rfl⟩ := h; exact k)
theorem sL_law_256 {g : Gh} {mc ms cu su : Nat} {L : List (Option Vv)} {st : List Vv} {hp h1 : HPt} {P : Pst} {x0 : Int32} {r : Int32} {b : A4} (hcu : cu ≤ mc) (hsu : su ≤ ms) (hob : okd b.1 = some 6) (hlv : lvp 609 b) (hcat : (st.map fun v => (trv g v).category).sum ≤ 8) (hJ : Ci g mX6_count [vR b, vI x0] hp r h1) (k : V g mL_law mc ms cu su 609 259 L (vI r :: st) RP h1 P) : V g mL_law mc ms cu su 609 256 L (vI x0 :: vR b :: st) RP hp P :=
  r_callV (as := [vI x0]) (b := b) (mcj := 0) (msj := 0) (st := st) dL_law_256 (coX6_count (Nat.le_of_ble_eq_true rfl) (Nat.le_of_ble_eq_true rfl)) wd_267 wd_268 wd_269 hob (q := (RX6, TX6, 6)) rfl rfl rfl hlv rfl hcat hcu hsu (Nat.le_of_ble_eq_true rfl) hJ (fun v n' rp' hp' h => by obtain ⟨rfl, rfl, rfl, rfl⟩ := h; exact k)
theorem sL_law_264 {g : Gh} {mc ms cu su : Nat} {L : List (Option Vv)} {st : List Vv} {hp h1 : HPt} {P : Pst} {x0 : Int32} {r : Int32} {b : A4} (hcu : cu ≤ mc) (hsu : su ≤ ms) (hob : okd b.1 = some 6) (hlv : lvp 609 b) (hcat : (st.map fun v => (trv g v).category).sum ≤ 8) (hJ : Ci g mX6_count [vR b, vI x0] hp r h1) (k : V g mL_law mc ms cu su 609 267 L (vI r :: st) RP h1 P) : V g mL_law mc ms cu su 609 264 L (vI x0 :: vR b :: st) RP hp P :=
  r_callV (as := [vI x0]) (b := b) (mcj := 0) (msj := 0) (st := st) dL_law_264 (coX6_count (Nat.le_of_ble_eq_true rfl) (Nat.le_of_ble_eq_true rfl)) wd_267 wd_268 wd_269 hob (q := (RX6, TX6, 6)) rfl rfl rfl hlv rfl hcat hcu hsu (Nat.le_of_ble_eq_true rfl) hJ (fun v n' rp' hp' h => by obtain ⟨rfl, rfl, rfl, rfl⟩ := h; exact k)
theorem sL_law_270 {g : Gh} {mc ms cu su : Nat} {L : List (Option Vv)} {st : List Vv} {hp h1 : HPt} {P : Pst} {r : Int32} {b : A4} (hcu : cu ≤ mc) (hsu : su ≤ ms) (hob : okd b.1 = some 6) (hlv : lvp 609 b) (hcat : (st.map fun v => (trv g v).category).sum ≤ 8) (hJ : Ci g mX6_undo [vR b] hp r h1) (k : V g mL_law mc ms cu su 609 273 L (vI r :: st) RP h1 P) : V g mL_law mc ms cu su 609 270 L (vR b :: st) RP hp P :=
  r_callV (as := []) (b := b) (mcj := 0) (msj := 0) (st := st) dL_law_270 (coX6_undo (Nat.le_of_ble_eq_true rfl) (Nat.le_of_ble_eq_true rfl)) wd_324 wd_325 wd_326 hob (q := (RX6, TX6, 6)) rfl rfl rfl hlv rfl hcat hcu hsu (Nat.le_of_ble_eq_true rfl) hJ (fun v n' rp' hp' h => by obtain ⟨rfl, rfl, rfl, rfl⟩ := h; exact k)
theorem sL_law_291 {g : Gh} {mc ms cu su : Nat} {L : List (Option Vv)} {st : List Vv} {hp h1 : HPt} {P : Pst} {x0 : A4} {x1 : A4} {r : Int32} (hcu : cu ≤ mc) (hsu : su ≤ ms) (hcat : (st.map fun v => (trv g v).category).sum ≤ 8) (hJ : Ci g mL_holds [vR x0, vR x1] hp r h1) (k : V g mL_law mc ms cu su 609 294 L (vI r :: st) RP h1 P) : V g mL_law mc ms cu su 609 291 L (vR x1 :: vR x0 :: st) RP hp P :=
  r_callS (as := [vR x0, vR x1]) (mcj := 0) (msj := 0) (st := st) dL_law_291 (coL_holds (Nat.le_of_ble_eq_true rfl) (Nat.le_of_ble_eq_true rfl)) wd_546 wd_547 rfl rfl hcat hcu hsu (Nat.le_of_ble_eq_true rfl) hJ (fun v n' rp' hp' h => by obtain ⟨rfl, rfl, rfl, rfl⟩ := h; exact k)
theorem sL_law_308 {g : Gh} {mc ms cu su : Nat} {L : List (Option Vv)} {st : List Vv} {hp h1 : HPt} {P : Pst} {x0 : A4} {x1 : Int32} {r : Int32} (hcu : cu ≤ mc) (hsu : su ≤ ms) (hcat : (st.map fun v => (trv g v).category).sum ≤ 8) (hJ : Ci g mL_cell [vR x0, vI x1] hp r h1) (k : V g mL_law mc ms cu su 609 311 L (vI r :: st) RP h1 P) : V g mL_law mc ms cu su 609 308 L (vI x1 :: vR x0 :: st) RP hp P :=
  r_callS (as := [vR x0, vI x1]) (mcj := 0) (msj := 0) (st := st) dL_law_308 (coL_cell (Nat.le_of_ble_eq_true rfl) (Nat.le_of_ble_eq_true rfl)) wd_344 wd_345 rfl rfl hcat hcu hsu (Nat.le_of_ble_eq_true rfl) hJ (fun v n' rp' hp' h => by obtain ⟨rfl, rfl, rfl, rfl⟩ := h; exact k)
theorem sL_law_318 {g : Gh} {mc ms cu su : Nat} {L : List (Option Vv)} {st : List Vv} {hp h1 : HPt} {P : Pst} {x0 : A4} {x1 : Int32} {r : Int32} (hcu : cu ≤ mc) (hsu : su ≤ ms) (hcat : (st.map fun v => (trv g v).category).sum ≤ 8) (hJ : Ci g mL_cell [vR x0, vI x1] hp r h1) (k : V g mL_law mc ms cu su 609 321 L (vI r :: st) RP h1 P) : V g mL_law mc ms cu su 609 318 L (vI x1 :: vR x0 :: st) RP hp P :=
  r_callS (as := [vR x0, vI x1]) (mcj := 0) (msj := 0) (st := st) dL_law_318 (coL_cell (Nat.le_of_ble_eq_true rfl) (Nat.le_of_ble_eq_true rfl)) wd_344 wd_345 rfl rfl hcat hcu hsu (Nat.le_of_ble_eq_true rfl) hJ (fun v n' rp' hp' h => by obtain ⟨rfl, rfl, rfl, rfl⟩ := h; exact k)
theorem sL_law_321 {g : Gh} {mc ms cu su : Nat} {L : List (Option Vv)} {st : List Vv} {hp h1 : HPt} {P : Pst} {x0 : A4} {x1 : A4} {x2 : Int32} {x3 : Int32} {x4 : Int32} {r : Int32} (hcu : cu ≤ mc) (hsu : su ≤ ms) (hcat : (st.map fun v => (trv g v).category).sum ≤ 8) (hJ : Ci g mL_change [vR x0, vR x1, vI x2, vI x3, vI x4] hp r h1) (k : V g mL_law mc ms cu su 609 324 L (vI r :: st) RP h1 P) : V g mL_law mc ms cu su 609 321 L (vI x4 :: vI x3 :: vI x2 :: vR x1 :: vR x0 :: st) RP hp P :=
  r_callS (as := [vR x0, vR x1, vI x2, vI x3, vI x4]) (mcj := 0) (msj := 0) (st := st) dL_law_321 (coL_change (Nat.le_of_ble_eq_true rfl) (Nat.le_of_ble_eq_true rfl)) wd_352 wd_353 rfl rfl hcat hcu hsu (Nat.le_of_ble_eq_true rfl) hJ (fun v n' rp' hp' h => by obtain ⟨rfl, rfl, rfl, rfl⟩ := h; exact k)
theorem sL_law_332 {g : Gh} {mc ms cu su : Nat} {L : List (Option Vv)} {st : List Vv} {hp h1 : HPt} {P : Pst} {x0 : Int32} {r : Int32} {b : A4} (hcu : cu ≤ mc) (hsu : su ≤ ms) (hob : okd b.1 = some 6) (hlv : lvp 609 b) (hcat : (st.map fun v => (trv g v).category).sum ≤ 8) (hJ : Ci g mX6_count [vR b, vI x0] hp r h1) (k : V g mL_law mc ms cu su 609 335 L (vI r :: st) RP h1 P) : V g mL_law mc ms cu su 609 332 L (vI x0 :: vR b :: st) RP hp P :=
  r_callV (as := [vI x0]) (b := b) (mcj := 0) (msj := 0) (st := st) dL_law_332 (coX6_count (Nat.le_of_ble_eq_true rfl) (Nat.le_of_ble_eq_true rfl)) wd_267 wd_268 wd_269 hob (q := (RX6, TX6, 6)) rfl rfl rfl hlv rfl hcat hcu hsu (Nat.le_of_ble_eq_true rfl) hJ (fun v n' rp' hp' h => by obtain ⟨rfl, rfl, rfl, rfl⟩ := h; exact k)
theorem sL_law_343 {g : Gh} {mc ms cu su : Nat} {L : List (Option Vv)} {st : List Vv} {hp h1 : HPt} {P : Pst} {x0 : Int32} {r : Int32} {b : A4} (hcu : cu ≤ mc) (hsu : su ≤ ms) (hob : okd b.1 = some 6) (hlv : lvp 609 b) (hcat : (st.map fun v => (trv g v).category).sum ≤ 8) (hJ : Ci g mX6_count [vR b, vI x0] hp r h1) (k : V g mL_law mc ms cu su 609 346 L (vI r :: st) RP h1 P) : V g mL_law mc ms cu su 609 343 L (vI x0 :: vR b :: st) RP hp P :=
  r_callV (as := [vI x0]) (b := b) (mcj := 0) (msj := 0) (st := st) dL_law_343 (coX6_count (Nat.le_of_ble_eq_true rfl) (Nat.le_of_ble_eq_true rfl)) wd_267 wd_268 wd_269 hob (q := (RX6, TX6, 6)) rfl rfl rfl hlv rfl hcat hcu hsu (Nat.le_of_ble_eq_true rfl) hJ (fun v n' rp' hp' h => by obtain ⟨rfl, rfl, rfl, rfl⟩ := h; exact k)
theorem sX0_catches_2 {g : Gh} {mc ms cu su : Nat} {L : List (Option Vv)} {st : List Vv} {hp h1 : HPt} {P : Pst} {r : Int32} {b : A4} (hcu : cu ≤ mc) (hsu : su ≤ ms) (hob : okd b.1 = some 0) (hlv : lvp 609 b) (hcat : (st.map fun v => (trv g v).category).sum ≤ 8) (hJ : Ci g mX0_toldPart [vR b] hp r h1) (k : V g mX0_catches mc ms cu su 609 5 L (vI r :: st) RP h1 P) : V g mX0_catches mc ms cu su 609 2 L (vR b :: st) RP hp P :=
  r_callV (as := []) (b := b) (mcj := 0) (msj := 0) (st := st) dX0_catches_2 (coX0_toldPart (Nat.le_of_ble_eq_true rfl) (Nat.le_of_ble_eq_true rfl)) wd_307 wd_309 wd_8 hob (q := (RX0, TX0, 7)) rfl rfl rfl hlv rfl hcat hcu hsu (Nat.le_of_ble_eq_true rfl) hJ (fun v n' rp' hp' h => by obtain ⟨rfl, rfl, rfl, rfl⟩ := h; exact k)
theorem sX0_catches_5 {g : Gh} {mc ms cu su : Nat} {L : List (Option Vv)} {st : List Vv} {hp h1 : HPt} {P : Pst} {x0 : Int32} {r : Int32} {b : A4} (hcu : cu ≤ mc) (hsu : su ≤ ms) (hob : okd b.1 = some 0) (hlv : lvp 609 b) (hcat : (st.map fun v => (trv g v).category).sum ≤ 8) (hJ : Ci g mX0_tagDueFor [vR b, vI x0] hp r h1) (k : V g mX0_catches mc ms cu su 609 8 L (vI r :: st) RP h1 P) : V g mX0_catches mc ms cu su 609 5 L (vI x0 :: vR b :: st) RP hp P :=
  r_callV (as := [vI x0]) (b := b) (mcj := 0) (msj := 0) (st := st) dX0_catches_5 (coX0_tagDueFor (Nat.le_of_ble_eq_true rfl) (Nat.le_of_ble_eq_true rfl)) wd_315 wd_317 wd_10 hob (q := (RX0, TX0, 7)) rfl rfl rfl hlv rfl hcat hcu hsu (Nat.le_of_ble_eq_true rfl) hJ (fun v n' rp' hp' h => by obtain ⟨rfl, rfl, rfl, rfl⟩ := h; exact k)
theorem sX0_catches_9 {g : Gh} {mc ms cu su : Nat} {L : List (Option Vv)} {st : List Vv} {hp h1 : HPt} {P : Pst} {r : Int32} {b : A4} (hcu : cu ≤ mc) (hsu : su ≤ ms) (hob : okd b.1 = some 0) (hlv : lvp 609 b) (hcat : (st.map fun v => (trv g v).category).sum ≤ 8) (hJ : Ci g mX0_toldTag [vR b] hp r h1) (k : V g mX0_catches mc ms cu su 609 12 L (vI r :: st) RP h1 P) : V g mX0_catches mc ms cu su 609 9 L (vR b :: st) RP hp P :=
  r_callV (as := []) (b := b) (mcj := 0) (msj := 0) (st := st) dX0_catches_9 (coX0_toldTag (Nat.le_of_ble_eq_true rfl) (Nat.le_of_ble_eq_true rfl)) wd_319 wd_321 wd_11 hob (q := (RX0, TX0, 7)) rfl rfl rfl hlv rfl hcat hcu hsu (Nat.le_of_ble_eq_true rfl) hJ (fun v n' rp' hp' h => by obtain ⟨rfl, rfl, rfl, rfl⟩ := h; exact k)
theorem sX0_toldPart_5 {g : Gh} {mc ms cu su : Nat} {L : List (Option Vv)} {st : List Vv} {hp h1 : HPt} {P : Pst} {x0 : Int32} {r : Int32} {b : A4} (hcu : cu ≤ mc) (hsu : su ≤ ms) (hob : okd b.1 = some 0) (hlv : lvp 609 b) (hcat : (st.map fun v => (trv g v).category).sum ≤ 8) (hJ : Ci g mX0_partWith [vR b, vI x0] hp r h1) (k : V g mX0_toldPart mc ms cu su 609 8 L (vI r :: st) RP h1 P) : V g mX0_toldPart mc ms cu su 609 5 L (vI x0 :: vR b :: st) RP hp P :=
  r_callV (as := [vI x0]) (b := b) (mcj := 0) (msj := 0) (st := st) dX0_toldPart_5 (coX0_partWith (Nat.le_of_ble_eq_true rfl) (Nat.le_of_ble_eq_true rfl)) wd_311 wd_313 wd_9 hob (q := (RX0, TX0, 7)) rfl rfl rfl hlv rfl hcat hcu hsu (Nat.le_of_ble_eq_true rfl) hJ (fun v n' rp' hp' h => by obtain ⟨rfl, rfl, rfl, rfl⟩ := h; exact k)
theorem sX1_draft_18 {g : Gh} {mc ms cu su : Nat} {L : List (Option Vv)} {st : List Vv} {hp h1 : HPt} {P : Pst} {x0 : A4} {b : A4} (hcu : cu ≤ mc) (hsu : su ≤ ms) (hob : okd b.1 = some 5) (hlv : lvp 609 b) (hcat : (st.map fun v => (trv g v).category).sum ≤ 8) (hJ : Cv g mX5_copyState [vR b, vR x0] hp h1) (k : V g mX1_draft mc ms cu su 609 21 L (st) RP h1 P) : V g mX1_draft mc ms cu su 609 18 L (vR x0 :: vR b :: st) RP hp P :=
  r_callVN (as := [vR x0]) (b := b) (mcj := 0) (msj := 0) (st := st) dX1_draft_18 (coX5_copyState (Nat.le_of_ble_eq_true rfl) (Nat.le_of_ble_eq_true rfl)) wd_332 wd_334 wd_13 hob (q := (RX5, TX5, 10)) rfl rfl rfl hlv rfl hcat hcu hsu (Nat.le_of_ble_eq_true rfl) hJ (fun v n' rp' hp' h => by obtain ⟨rfl, rfl, rfl, rfl⟩ := h; exact k)
theorem sX1_takesBack_37 {g : Gh} {mc ms cu su : Nat} {L : List (Option Vv)} {st : List Vv} {hp h1 : HPt} {P : Pst} {x0 : A4} {b : A4} (hcu : cu ≤ mc) (hsu : su ≤ ms) (hob : okd b.1 = some 5) (hlv : lvp 609 b) (hcat : (st.map fun v => (trv g v).category).sum ≤ 8) (hJ : Cv g mX5_copyState [vR b, vR x0] hp h1) (k : V g mX1_takesBack mc ms cu su 609 40 L (st) RP h1 P) : V g mX1_takesBack mc ms cu su 609 37 L (vR x0 :: vR b :: st) RP hp P :=
  r_callVN (as := [vR x0]) (b := b) (mcj := 0) (msj := 0) (st := st) dX1_takesBack_37 (coX5_copyState (Nat.le_of_ble_eq_true rfl) (Nat.le_of_ble_eq_true rfl)) wd_332 wd_334 wd_13 hob (q := (RX5, TX5, 10)) rfl rfl rfl hlv rfl hcat hcu hsu (Nat.le_of_ble_eq_true rfl) hJ (fun v n' rp' hp' h => by obtain ⟨rfl, rfl, rfl, rfl⟩ := h; exact k)
theorem sX4_ageKeeping_4 {g : Gh} {mc ms cu su : Nat} {L : List (Option Vv)} {st : List Vv} {hp h1 : HPt} {P : Pst} {b : A4} (hcu : cu ≤ mc) (hsu : su ≤ ms) (hob : okd b.1 = some 0) (hlv : lvp 609 b) (hcat : (st.map fun v => (trv g v).category).sum ≤ 8) (hJ : Cv g mX0_freeRowOfNow [vR b] hp h1) (k : V g mX4_ageKeeping mc ms cu su 609 7 L (st) RP h1 P) : V g mX4_ageKeeping mc ms cu su 609 4 L (vR b :: st) RP hp P :=
  r_callVN (as := []) (b := b) (mcj := 0) (msj := 0) (st := st) dX4_ageKeeping_4 (coX0_freeRowOfNow (Nat.le_of_ble_eq_true rfl) (Nat.le_of_ble_eq_true rfl)) wd_411 wd_413 wd_26 hob (q := (RX0, TX0, 7)) rfl rfl rfl hlv rfl hcat hcu hsu (Nat.le_of_ble_eq_true rfl) hJ (fun v n' rp' hp' h => by obtain ⟨rfl, rfl, rfl, rfl⟩ := h; exact k)
theorem sX4_ageKeeping_11 {g : Gh} {mc ms cu su : Nat} {L : List (Option Vv)} {st : List Vv} {hp h1 : HPt} {P : Pst} {b : A4} (hcu : cu ≤ mc) (hsu : su ≤ ms) (hob : okd b.1 = some 0) (hlv : lvp 609 b) (hcat : (st.map fun v => (trv g v).category).sum ≤ 8) (hJ : Cv g mX0_freeRowOfNow [vR b] hp h1) (k : V g mX4_ageKeeping mc ms cu su 609 14 L (st) RP h1 P) : V g mX4_ageKeeping mc ms cu su 609 11 L (vR b :: st) RP hp P :=
  r_callVN (as := []) (b := b) (mcj := 0) (msj := 0) (st := st) dX4_ageKeeping_11 (coX0_freeRowOfNow (Nat.le_of_ble_eq_true rfl) (Nat.le_of_ble_eq_true rfl)) wd_411 wd_413 wd_26 hob (q := (RX0, TX0, 7)) rfl rfl rfl hlv rfl hcat hcu hsu (Nat.le_of_ble_eq_true rfl) hJ (fun v n' rp' hp' h => by obtain ⟨rfl, rfl, rfl, rfl⟩ := h; exact k)
theorem sX4_ageKeeping_24 {g : Gh} {mc ms cu su : Nat} {L : List (Option Vv)} {st : List Vv} {hp h1 : HPt} {P : Pst} {x0 : Int32} {x1 : Int32} {r : Int32} (hcu : cu ≤ mc) (hsu : su ≤ ms) (hcat : (st.map fun v => (trv g v).category).sum ≤ 8) (hJ : Ci g mJ9_min_7cf53 [vI x0, vI x1] hp r h1) (k : V g mX4_ageKeeping mc ms cu su 609 27 L (vI r :: st) RP h1 P) : V g mX4_ageKeeping mc ms cu su 609 24 L (vI x1 :: vI x0 :: st) RP hp P :=
  r_callS (as := [vI x0, vI x1]) (mcj := 0) (msj := 0) (st := st) dX4_ageKeeping_24 (coJ9_min_7cf53 (Nat.le_of_ble_eq_true rfl) (Nat.le_of_ble_eq_true rfl)) wd_415 wd_416 rfl rfl hcat hcu hsu (Nat.le_of_ble_eq_true rfl) hJ (fun v n' rp' hp' h => by obtain ⟨rfl, rfl, rfl, rfl⟩ := h; exact k)
theorem sX4_answerIfMerged_8 {g : Gh} {mc ms cu su : Nat} {L : List (Option Vv)} {st : List Vv} {hp h1 : HPt} {P : Pst} {x0 : A4} {r : Int32} {b : A4} (hcu : cu ≤ mc) (hsu : su ≤ ms) (hob : okd b.1 = some 0) (hlv : lvp 609 b) (hcat : (st.map fun v => (trv g v).category).sum ≤ 8) (hJ : Ci g mX0_catches [vR b, vR x0] hp r h1) (k : V g mX4_answerIfMerged mc ms cu su 609 11 L (vI r :: st) RP h1 P) : V g mX4_answerIfMerged mc ms cu su 609 8 L (vR x0 :: vR b :: st) RP hp P :=
  r_callVN (as := [vR x0]) (b := b) (mcj := 0) (msj := 0) (st := st) dX4_answerIfMerged_8 (coX0_catches (Nat.le_of_ble_eq_true rfl) (Nat.le_of_ble_eq_true rfl)) wd_303 wd_305 wd_7 hob (q := (RX0, TX0, 7)) rfl rfl rfl hlv rfl hcat hcu hsu (Nat.le_of_ble_eq_true rfl) hJ (fun v n' rp' hp' h => by obtain ⟨rfl, rfl, rfl, rfl⟩ := h; exact k)
theorem sX4_answerIfMerged_26 {g : Gh} {mc ms cu su : Nat} {L : List (Option Vv)} {st : List Vv} {hp h1 : HPt} {P : Pst} {x0 : A4} {r : Int32} {b : A4} (hcu : cu ≤ mc) (hsu : su ≤ ms) (hob : okd b.1 = some 0) (hlv : lvp 609 b) (hcat : (st.map fun v => (trv g v).category).sum ≤ 8) (hJ : Ci g mX0_catches [vR b, vR x0] hp r h1) (k : V g mX4_answerIfMerged mc ms cu su 609 29 L (vI r :: st) RP h1 P) : V g mX4_answerIfMerged mc ms cu su 609 26 L (vR x0 :: vR b :: st) RP hp P :=
  r_callVN (as := [vR x0]) (b := b) (mcj := 0) (msj := 0) (st := st) dX4_answerIfMerged_26 (coX0_catches (Nat.le_of_ble_eq_true rfl) (Nat.le_of_ble_eq_true rfl)) wd_303 wd_305 wd_7 hob (q := (RX0, TX0, 7)) rfl rfl rfl hlv rfl hcat hcu hsu (Nat.le_of_ble_eq_true rfl) hJ (fun v n' rp' hp' h => by obtain ⟨rfl, rfl, rfl, rfl⟩ := h; exact k)
theorem sX4_answerIfMerged_40 {g : Gh} {mc ms cu su : Nat} {L : List (Option Vv)} {st : List Vv} {hp h1 : HPt} {P : Pst} {r : Int32} {b : A4} (hcu : cu ≤ mc) (hsu : su ≤ ms) (hob : okd b.1 = some 0) (hlv : lvp 609 b) (hcat : (st.map fun v => (trv g v).category).sum ≤ 8) (hJ : Ci g mX0_toldPart [vR b] hp r h1) (k : V g mX4_answerIfMerged mc ms cu su 609 43 L (vI r :: st) RP h1 P) : V g mX4_answerIfMerged mc ms cu su 609 40 L (vR b :: st) RP hp P :=
  r_callVN (as := []) (b := b) (mcj := 0) (msj := 0) (st := st) dX4_answerIfMerged_40 (coX0_toldPart (Nat.le_of_ble_eq_true rfl) (Nat.le_of_ble_eq_true rfl)) wd_323 wd_309 wd_8 hob (q := (RX0, TX0, 7)) rfl rfl rfl hlv rfl hcat hcu hsu (Nat.le_of_ble_eq_true rfl) hJ (fun v n' rp' hp' h => by obtain ⟨rfl, rfl, rfl, rfl⟩ := h; exact k)
theorem sX4_answerIfMerged_47 {g : Gh} {mc ms cu su : Nat} {L : List (Option Vv)} {st : List Vv} {hp h1 : HPt} {P : Pst} {r : Int32} {b : A4} (hcu : cu ≤ mc) (hsu : su ≤ ms) (hob : okd b.1 = some 0) (hlv : lvp 609 b) (hcat : (st.map fun v => (trv g v).category).sum ≤ 8) (hJ : Ci g mX0_toldPart [vR b] hp r h1) (k : V g mX4_answerIfMerged mc ms cu su 609 50 L (vI r :: st) RP h1 P) : V g mX4_answerIfMerged mc ms cu su 609 47 L (vR b :: st) RP hp P :=
  r_callVN (as := []) (b := b) (mcj := 0) (msj := 0) (st := st) dX4_answerIfMerged_47 (coX0_toldPart (Nat.le_of_ble_eq_true rfl) (Nat.le_of_ble_eq_true rfl)) wd_323 wd_309 wd_8 hob (q := (RX0, TX0, 7)) rfl rfl rfl hlv rfl hcat hcu hsu (Nat.le_of_ble_eq_true rfl) hJ (fun v n' rp' hp' h => by obtain ⟨rfl, rfl, rfl, rfl⟩ := h; exact k)
theorem sX4_copySecret_8 {g : Gh} {mc ms cu su : Nat} {L : List (Option Vv)} {st : List Vv} {hp h1 : HPt} {P : Pst} {x0 : A4} {b : A4} (hcu : cu ≤ mc) (hsu : su ≤ ms) (hob : okd b.1 = some 0) (hlv : lvp 609 b) (hcat : (st.map fun v => (trv g v).category).sum ≤ 8) (hJ : Cv g mX0_copyHalf [vR b, vR x0] hp h1) (k : V g mX4_copySecret mc ms cu su 609 11 L (st) RP h1 P) : V g mX4_copySecret mc ms cu su 609 8 L (vR x0 :: vR b :: st) RP hp P :=
  r_callVN (as := [vR x0]) (b := b) (mcj := 0) (msj := 0) (st := st) dX4_copySecret_8 (coX0_copyHalf (Nat.le_of_ble_eq_true rfl) (Nat.le_of_ble_eq_true rfl)) wd_340 wd_342 wd_15 hob (q := (RX0, TX0, 7)) rfl rfl rfl hlv rfl hcat hcu hsu (Nat.le_of_ble_eq_true rfl) hJ (fun v n' rp' hp' h => by obtain ⟨rfl, rfl, rfl, rfl⟩ := h; exact k)
theorem sX4_copySecret_19 {g : Gh} {mc ms cu su : Nat} {L : List (Option Vv)} {st : List Vv} {hp h1 : HPt} {P : Pst} {x0 : A4} {b : A4} (hcu : cu ≤ mc) (hsu : su ≤ ms) (hob : okd b.1 = some 0) (hlv : lvp 609 b) (hcat : (st.map fun v => (trv g v).category).sum ≤ 8) (hJ : Cv g mX0_copyHalf [vR b, vR x0] hp h1) (k : V g mX4_copySecret mc ms cu su 609 22 L (st) RP h1 P) : V g mX4_copySecret mc ms cu su 609 19 L (vR x0 :: vR b :: st) RP hp P :=
  r_callVN (as := [vR x0]) (b := b) (mcj := 0) (msj := 0) (st := st) dX4_copySecret_19 (coX0_copyHalf (Nat.le_of_ble_eq_true rfl) (Nat.le_of_ble_eq_true rfl)) wd_340 wd_342 wd_15 hob (q := (RX0, TX0, 7)) rfl rfl rfl hlv rfl hcat hcu hsu (Nat.le_of_ble_eq_true rfl) hJ (fun v n' rp' hp' h => by obtain ⟨rfl, rfl, rfl, rfl⟩ := h; exact k)
theorem sX4_partForThief_2 {g : Gh} {mc ms cu su : Nat} {L : List (Option Vv)} {st : List Vv} {hp h1 : HPt} {P : Pst} {x0 : Int32} {r : A4} {b : A4} (hcu : cu ≤ mc) (hsu : su ≤ ms) (hob : okd b.1 = some 4) (hlv : lvp 609 b) (hcat : (st.map fun v => (trv g v).category).sum ≤ 8) (hJ : Ca g mX4_halfIn [vR b, vI x0] hp r h1) (k : V g mX4_partForThief mc ms cu su 609 5 L (vR r :: st) RP h1 P) : V g mX4_partForThief mc ms cu su 609 2 L (vI x0 :: vR b :: st) RP hp P :=
  r_callV (as := [vI x0]) (b := b) (mcj := 0) (msj := 0) (st := st) dX4_partForThief_2 (coX4_halfIn (Nat.le_of_ble_eq_true rfl) (Nat.le_of_ble_eq_true rfl)) wd_506 wd_454 wd_31 hob (q := (RX4, TX4, 10)) rfl rfl rfl hlv rfl hcat hcu hsu (Nat.le_of_ble_eq_true rfl) hJ (fun v n' rp' hp' h => by obtain ⟨rfl, rfl, rfl, rfl⟩ := h; exact k)
theorem sX4_partForThief_42 {g : Gh} {mc ms cu su : Nat} {L : List (Option Vv)} {st : List Vv} {hp h1 : HPt} {P : Pst} {x0 : Int32} {r : Int32} {b : A4} (hcu : cu ≤ mc) (hsu : su ≤ ms) (hob : okd b.1 = some 4) (hlv : lvp 609 b) (hcat : (st.map fun v => (trv g v).category).sum ≤ 8) (hJ : Ci g mX4_takenSet [vR b, vI x0] hp r h1) (k : V g mX4_partForThief mc ms cu su 609 45 L (vI r :: st) RP h1 P) : V g mX4_partForThief mc ms cu su 609 42 L (vI x0 :: vR b :: st) RP hp P :=
  r_callV (as := [vI x0]) (b := b) (mcj := 0) (msj := 0) (st := st) dX4_partForThief_42 (coX4_takenSet (Nat.le_of_ble_eq_true rfl) (Nat.le_of_ble_eq_true rfl)) wd_507 wd_509 wd_40 hob (q := (RX4, TX4, 10)) rfl rfl rfl hlv rfl hcat hcu hsu (Nat.le_of_ble_eq_true rfl) hJ (fun v n' rp' hp' h => by obtain ⟨rfl, rfl, rfl, rfl⟩ := h; exact k)
theorem sX5_adm_1 {g : Gh} {mc ms cu su : Nat} {L : List (Option Vv)} {st : List Vv} {hp h1 : HPt} {P : Pst} {x0 : Int32} {r : Int32} (hcu : cu ≤ mc) (hsu : su ≤ ms) (hcat : (st.map fun v => (trv g v).category).sum ≤ 8) (hJ : Ci g mX6_isPart [vI x0] hp r h1) (k : V g mX5_adm mc ms cu su 609 4 L (vI r :: st) RP h1 P) : V g mX5_adm mc ms cu su 609 1 L (vI x0 :: st) RP hp P :=
  r_callSN (as := [vI x0]) (mcj := 0) (msj := 0) (st := st) dX5_adm_1 (coX6_isPart (Nat.le_of_ble_eq_true rfl) (Nat.le_of_ble_eq_true rfl)) wd_367 wd_368 rfl rfl hcat hcu hsu (Nat.le_of_ble_eq_true rfl) hJ (fun v n' rp' hp' h => by obtain ⟨rfl, rfl, rfl, rfl⟩ := h; exact k)
theorem sX5_adm_23 {g : Gh} {mc ms cu su : Nat} {L : List (Option Vv)} {st : List Vv} {hp h1 : HPt} {P : Pst} {r : Int32} {b : A4} (hcu : cu ≤ mc) (hsu : su ≤ ms) (hob : okd b.1 = some 5) (hlv : lvp 609 b) (hcat : (st.map fun v => (trv g v).category).sum ≤ 8) (hJ : Ci g mX5_someStoreSleeps [vR b] hp r h1) (k : V g mX5_adm mc ms cu su 609 26 L (vI r :: st) RP h1 P) : V g mX5_adm mc ms cu su 609 23 L (vR b :: st) RP hp P :=
  r_callV (as := []) (b := b) (mcj := 0) (msj := 0) (st := st) dX5_adm_23 (coX5_someStoreSleeps (Nat.le_of_ble_eq_true rfl) (Nat.le_of_ble_eq_true rfl)) wd_295 wd_297 wd_5 hob (q := (RX5, TX5, 10)) rfl rfl rfl hlv rfl hcat hcu hsu (Nat.le_of_ble_eq_true rfl) hJ (fun v n' rp' hp' h => by obtain ⟨rfl, rfl, rfl, rfl⟩ := h; exact k)
theorem sX5_adm_43 {g : Gh} {mc ms cu su : Nat} {L : List (Option Vv)} {st : List Vv} {hp h1 : HPt} {P : Pst} {x0 : A4} {x1 : Int32} {b : A4} (hcu : cu ≤ mc) (hsu : su ≤ ms) (hob : okd b.1 = some 5) (hlv : lvp 609 b) (hcat : (st.map fun v => (trv g v).category).sum ≤ 8) (hJ : Cv g mX5_makeVersion [vR b, vR x0, vI x1] hp h1) (k : V g mX5_adm mc ms cu su 609 46 L (st) RP h1 P) : V g mX5_adm mc ms cu su 609 43 L (vI x1 :: vR x0 :: vR b :: st) RP hp P :=
  r_callV (as := [vR x0, vI x1]) (b := b) (mcj := 0) (msj := 0) (st := st) dX5_adm_43 (coX5_makeVersion (Nat.le_of_ble_eq_true rfl) (Nat.le_of_ble_eq_true rfl)) wd_370 wd_372 wd_18 hob (q := (RX5, TX5, 10)) rfl rfl rfl hlv rfl hcat hcu hsu (Nat.le_of_ble_eq_true rfl) hJ (fun v n' rp' hp' h => by obtain ⟨rfl, rfl, rfl, rfl⟩ := h; exact k)
theorem sX5_answerOfMerger_2 {g : Gh} {mc ms cu su : Nat} {L : List (Option Vv)} {st : List Vv} {hp h1 : HPt} {P : Pst} {x0 : Int32} {r : Int32} {b : A4} (hcu : cu ≤ mc) (hsu : su ≤ ms) (hob : okd b.1 = some 5) (hlv : lvp 609 b) (hcat : (st.map fun v => (trv g v).category).sum ≤ 8) (hJ : Ci g mX5_hasSecret [vR b, vI x0] hp r h1) (k : V g mX5_answerOfMerger mc ms cu su 609 5 L (vI r :: st) RP h1 P) : V g mX5_answerOfMerger mc ms cu su 609 2 L (vI x0 :: vR b :: st) RP hp P :=
  r_callV (as := [vI x0]) (b := b) (mcj := 0) (msj := 0) (st := st) dX5_answerOfMerger_2 (coX5_hasSecret (Nat.le_of_ble_eq_true rfl) (Nat.le_of_ble_eq_true rfl)) wd_291 wd_293 wd_4 hob (q := (RX5, TX5, 10)) rfl rfl rfl hlv rfl hcat hcu hsu (Nat.le_of_ble_eq_true rfl) hJ (fun v n' rp' hp' h => by obtain ⟨rfl, rfl, rfl, rfl⟩ := h; exact k)
theorem sX5_answerOfMerger_11 {g : Gh} {mc ms cu su : Nat} {L : List (Option Vv)} {st : List Vv} {hp h1 : HPt} {P : Pst} {r : Int32} {b : A4} (hcu : cu ≤ mc) (hsu : su ≤ ms) (hob : okd b.1 = some 5) (hlv : lvp 609 b) (hcat : (st.map fun v => (trv g v).category).sum ≤ 8) (hJ : Ci g mX5_someStoreSleeps [vR b] hp r h1) (k : V g mX5_answerOfMerger mc ms cu su 609 14 L (vI r :: st) RP h1 P) : V g mX5_answerOfMerger mc ms cu su 609 11 L (vR b :: st) RP hp P :=
  r_callV (as := []) (b := b) (mcj := 0) (msj := 0) (st := st) dX5_answerOfMerger_11 (coX5_someStoreSleeps (Nat.le_of_ble_eq_true rfl) (Nat.le_of_ble_eq_true rfl)) wd_295 wd_297 wd_5 hob (q := (RX5, TX5, 10)) rfl rfl rfl hlv rfl hcat hcu hsu (Nat.le_of_ble_eq_true rfl) hJ (fun v n' rp' hp' h => by obtain ⟨rfl, rfl, rfl, rfl⟩ := h; exact k)
theorem sX5_answerOfMerger_26 {g : Gh} {mc ms cu su : Nat} {L : List (Option Vv)} {st : List Vv} {hp h1 : HPt} {P : Pst} {r : Int32} {b : A4} (hcu : cu ≤ mc) (hsu : su ≤ ms) (hob : okd b.1 = some 4) (hlv : lvp 609 b) (hcat : (st.map fun v => (trv g v).category).sum ≤ 8) (hJ : Ci g mX4_answerIfMerged [vR b] hp r h1) (k : V g mX5_answerOfMerger mc ms cu su 609 29 L (vI r :: st) RP h1 P) : V g mX5_answerOfMerger mc ms cu su 609 26 L (vR b :: st) RP hp P :=
  r_callVN (as := []) (b := b) (mcj := 0) (msj := 0) (st := st) dX5_answerOfMerger_26 (coX4_answerIfMerged (Nat.le_of_ble_eq_true rfl) (Nat.le_of_ble_eq_true rfl)) wd_299 wd_301 wd_6 hob (q := (RX4, TX4, 10)) rfl rfl rfl hlv rfl hcat hcu hsu (Nat.le_of_ble_eq_true rfl) hJ (fun v n' rp' hp' h => by obtain ⟨rfl, rfl, rfl, rfl⟩ := h; exact k)
theorem sX5_burnOldVersions_2 {g : Gh} {mc ms cu su : Nat} {L : List (Option Vv)} {st : List Vv} {hp h1 : HPt} {P : Pst} {x0 : Int32} {r : Int32} {b : A4} (hcu : cu ≤ mc) (hsu : su ≤ ms) (hob : okd b.1 = some 5) (hlv : lvp 609 b) (hcat : (st.map fun v => (trv g v).category).sum ≤ 8) (hJ : Ci g mX5_hasSecret [vR b, vI x0] hp r h1) (k : V g mX5_burnOldVersions mc ms cu su 609 5 L (vI r :: st) RP h1 P) : V g mX5_burnOldVersions mc ms cu su 609 2 L (vI x0 :: vR b :: st) RP hp P :=
  r_callV (as := [vI x0]) (b := b) (mcj := 0) (msj := 0) (st := st) dX5_burnOldVersions_2 (coX5_hasSecret (Nat.le_of_ble_eq_true rfl) (Nat.le_of_ble_eq_true rfl)) wd_291 wd_293 wd_4 hob (q := (RX5, TX5, 10)) rfl rfl rfl hlv rfl hcat hcu hsu (Nat.le_of_ble_eq_true rfl) hJ (fun v n' rp' hp' h => by obtain ⟨rfl, rfl, rfl, rfl⟩ := h; exact k)
theorem sX5_burnOldVersions_11 {g : Gh} {mc ms cu su : Nat} {L : List (Option Vv)} {st : List Vv} {hp h1 : HPt} {P : Pst} {r : Int32} {b : A4} (hcu : cu ≤ mc) (hsu : su ≤ ms) (hob : okd b.1 = some 5) (hlv : lvp 609 b) (hcat : (st.map fun v => (trv g v).category).sum ≤ 8) (hJ : Ci g mX5_someStoreSleeps [vR b] hp r h1) (k : V g mX5_burnOldVersions mc ms cu su 609 14 L (vI r :: st) RP h1 P) : V g mX5_burnOldVersions mc ms cu su 609 11 L (vR b :: st) RP hp P :=
  r_callV (as := []) (b := b) (mcj := 0) (msj := 0) (st := st) dX5_burnOldVersions_11 (coX5_someStoreSleeps (Nat.le_of_ble_eq_true rfl) (Nat.le_of_ble_eq_true rfl)) wd_295 wd_297 wd_5 hob (q := (RX5, TX5, 10)) rfl rfl rfl hlv rfl hcat hcu hsu (Nat.le_of_ble_eq_true rfl) hJ (fun v n' rp' hp' h => by obtain ⟨rfl, rfl, rfl, rfl⟩ := h; exact k)
theorem sX5_copyState_20 {g : Gh} {mc ms cu su : Nat} {L : List (Option Vv)} {st : List Vv} {hp h1 : HPt} {P : Pst} {x0 : A4} {b : A4} (hcu : cu ≤ mc) (hsu : su ≤ ms) (hob : okd b.1 = some 4) (hlv : lvp 609 b) (hcat : (st.map fun v => (trv g v).category).sum ≤ 8) (hJ : Cv g mX4_copySecret [vR b, vR x0] hp h1) (k : V g mX5_copyState mc ms cu su 609 23 L (st) RP h1 P) : V g mX5_copyState mc ms cu su 609 20 L (vR x0 :: vR b :: st) RP hp P :=
  r_callVN (as := [vR x0]) (b := b) (mcj := 0) (msj := 0) (st := st) dX5_copyState_20 (coX4_copySecret (Nat.le_of_ble_eq_true rfl) (Nat.le_of_ble_eq_true rfl)) wd_336 wd_338 wd_14 hob (q := (RX4, TX4, 10)) rfl rfl rfl hlv rfl hcat hcu hsu (Nat.le_of_ble_eq_true rfl) hJ (fun v n' rp' hp' h => by obtain ⟨rfl, rfl, rfl, rfl⟩ := h; exact k)
theorem sX5_figure_83 {g : Gh} {mc ms cu su : Nat} {L : List (Option Vv)} {st : List Vv} {hp h1 : HPt} {P : Pst} {r : Int32} {b : A4} (hcu : cu ≤ mc) (hsu : su ≤ ms) (hob : okd b.1 = some 5) (hlv : lvp 609 b) (hcat : (st.map fun v => (trv g v).category).sum ≤ 8) (hJ : Ci g mX5_setOfOpen [vR b] hp r h1) (k : V g mX5_figure mc ms cu su 609 86 L (vI r :: st) RP h1 P) : V g mX5_figure mc ms cu su 609 83 L (vR b :: st) RP hp P :=
  r_callV (as := []) (b := b) (mcj := 0) (msj := 0) (st := st) dX5_figure_83 (coX5_setOfOpen (Nat.le_of_ble_eq_true rfl) (Nat.le_of_ble_eq_true rfl)) wd_275 wd_277 wd_1 hob (q := (RX5, TX5, 10)) rfl rfl rfl hlv rfl hcat hcu hsu (Nat.le_of_ble_eq_true rfl) hJ (fun v n' rp' hp' h => by obtain ⟨rfl, rfl, rfl, rfl⟩ := h; exact k)
theorem sX5_figure_88 {g : Gh} {mc ms cu su : Nat} {L : List (Option Vv)} {st : List Vv} {hp h1 : HPt} {P : Pst} {r : Int32} {b : A4} (hcu : cu ≤ mc) (hsu : su ≤ ms) (hob : okd b.1 = some 5) (hlv : lvp 609 b) (hcat : (st.map fun v => (trv g v).category).sum ≤ 8) (hJ : Ci g mX5_setOfKnown [vR b] hp r h1) (k : V g mX5_figure mc ms cu su 609 91 L (vI r :: st) RP h1 P) : V g mX5_figure mc ms cu su 609 88 L (vR b :: st) RP hp P :=
  r_callV (as := []) (b := b) (mcj := 0) (msj := 0) (st := st) dX5_figure_88 (coX5_setOfKnown (Nat.le_of_ble_eq_true rfl) (Nat.le_of_ble_eq_true rfl)) wd_279 wd_281 wd_2 hob (q := (RX5, TX5, 10)) rfl rfl rfl hlv rfl hcat hcu hsu (Nat.le_of_ble_eq_true rfl) hJ (fun v n' rp' hp' h => by obtain ⟨rfl, rfl, rfl, rfl⟩ := h; exact k)
theorem sX5_figureOfHalf_3 {g : Gh} {mc ms cu su : Nat} {L : List (Option Vv)} {st : List Vv} {hp h1 : HPt} {P : Pst} {x0 : Int32} {x1 : Int32} {r : Int32} {b : A4} (hcu : cu ≤ mc) (hsu : su ≤ ms) (hob : okd b.1 = some 5) (hlv : lvp 609 b) (hcat : (st.map fun v => (trv g v).category).sum ≤ 8) (hJ : Ci g mX5_hasHalf [vR b, vI x0, vI x1] hp r h1) (k : V g mX5_figureOfHalf mc ms cu su 609 6 L (vI r :: st) RP h1 P) : V g mX5_figureOfHalf mc ms cu su 609 3 L (vI x1 :: vI x0 :: vR b :: st) RP hp P :=
  r_callV (as := [vI x0, vI x1]) (b := b) (mcj := 0) (msj := 0) (st := st) dX5_figureOfHalf_3 (coX5_hasHalf (Nat.le_of_ble_eq_true rfl) (Nat.le_of_ble_eq_true rfl)) wd_445 wd_447 wd_30 hob (q := (RX5, TX5, 10)) rfl rfl rfl hlv rfl hcat hcu hsu (Nat.le_of_ble_eq_true rfl) hJ (fun v n' rp' hp' h => by obtain ⟨rfl, rfl, rfl, rfl⟩ := h; exact k)
theorem sX5_figureOfHalf_18 {g : Gh} {mc ms cu su : Nat} {L : List (Option Vv)} {st : List Vv} {hp h1 : HPt} {P : Pst} {x0 : Int32} {r : A4} {b : A4} (hcu : cu ≤ mc) (hsu : su ≤ ms) (hob : okd b.1 = some 4) (hlv : lvp 609 b) (hcat : (st.map fun v => (trv g v).category).sum ≤ 8) (hJ : Ca g mX4_halfIn [vR b, vI x0] hp r h1) (k : V g mX5_figureOfHalf mc ms cu su 609 21 L (vR r :: st) RP h1 P) : V g mX5_figureOfHalf mc ms cu su 609 18 L (vI x0 :: vR b :: st) RP hp P :=
  r_callVN (as := [vI x0]) (b := b) (mcj := 0) (msj := 0) (st := st) dX5_figureOfHalf_18 (coX4_halfIn (Nat.le_of_ble_eq_true rfl) (Nat.le_of_ble_eq_true rfl)) wd_452 wd_454 wd_31 hob (q := (RX4, TX4, 10)) rfl rfl rfl hlv rfl hcat hcu hsu (Nat.le_of_ble_eq_true rfl) hJ (fun v n' rp' hp' h => by obtain ⟨rfl, rfl, rfl, rfl⟩ := h; exact k)
theorem sX5_figureOfHalf_112 {g : Gh} {mc ms cu su : Nat} {L : List (Option Vv)} {st : List Vv} {hp h1 : HPt} {P : Pst} {r : Int32} {b : A4} (hcu : cu ≤ mc) (hsu : su ≤ ms) (hob : okd b.1 = some 0) (hlv : lvp 609 b) (hcat : (st.map fun v => (trv g v).category).sum ≤ 8) (hJ : Ci g mX0_toldPart [vR b] hp r h1) (k : V g mX5_figureOfHalf mc ms cu su 609 115 L (vI r :: st) RP h1 P) : V g mX5_figureOfHalf mc ms cu su 609 112 L (vR b :: st) RP hp P :=
  r_callVN (as := []) (b := b) (mcj := 0) (msj := 0) (st := st) dX5_figureOfHalf_112 (coX0_toldPart (Nat.le_of_ble_eq_true rfl) (Nat.le_of_ble_eq_true rfl)) wd_560 wd_309 wd_8 hob (q := (RX0, TX0, 7)) rfl rfl rfl hlv rfl hcat hcu hsu (Nat.le_of_ble_eq_true rfl) hJ (fun v n' rp' hp' h => by obtain ⟨rfl, rfl, rfl, rfl⟩ := h; exact k)
theorem sX5_figureOfHalf_118 {g : Gh} {mc ms cu su : Nat} {L : List (Option Vv)} {st : List Vv} {hp h1 : HPt} {P : Pst} {r : Int32} {b : A4} (hcu : cu ≤ mc) (hsu : su ≤ ms) (hob : okd b.1 = some 0) (hlv : lvp 609 b) (hcat : (st.map fun v => (trv g v).category).sum ≤ 8) (hJ : Ci g mX0_toldTag [vR b] hp r h1) (k : V g mX5_figureOfHalf mc ms cu su 609 121 L (vI r :: st) RP h1 P) : V g mX5_figureOfHalf mc ms cu su 609 118 L (vR b :: st) RP hp P :=
  r_callVN (as := []) (b := b) (mcj := 0) (msj := 0) (st := st) dX5_figureOfHalf_118 (coX0_toldTag (Nat.le_of_ble_eq_true rfl) (Nat.le_of_ble_eq_true rfl)) wd_561 wd_321 wd_11 hob (q := (RX0, TX0, 7)) rfl rfl rfl hlv rfl hcat hcu hsu (Nat.le_of_ble_eq_true rfl) hJ (fun v n' rp' hp' h => by obtain ⟨rfl, rfl, rfl, rfl⟩ := h; exact k)
theorem sX5_figureOfOldVersion_2 {g : Gh} {mc ms cu su : Nat} {L : List (Option Vv)} {st : List Vv} {hp h1 : HPt} {P : Pst} {x0 : Int32} {r : Int32} {b : A4} (hcu : cu ≤ mc) (hsu : su ≤ ms) (hob : okd b.1 = some 5) (hlv : lvp 609 b) (hcat : (st.map fun v => (trv g v).category).sum ≤ 8) (hJ : Ci g mX5_hasSecret [vR b, vI x0] hp r h1) (k : V g mX5_figureOfOldVersion mc ms cu su 609 5 L (vI r :: st) RP h1 P) : V g mX5_figureOfOldVersion mc ms cu su 609 2 L (vI x0 :: vR b :: st) RP hp P :=
  r_callV (as := [vI x0]) (b := b) (mcj := 0) (msj := 0) (st := st) dX5_figureOfOldVersion_2 (coX5_hasSecret (Nat.le_of_ble_eq_true rfl) (Nat.le_of_ble_eq_true rfl)) wd_291 wd_293 wd_4 hob (q := (RX5, TX5, 10)) rfl rfl rfl hlv rfl hcat hcu hsu (Nat.le_of_ble_eq_true rfl) hJ (fun v n' rp' hp' h => by obtain ⟨rfl, rfl, rfl, rfl⟩ := h; exact k)
theorem sX5_figureOfOldVersion_105 {g : Gh} {mc ms cu su : Nat} {L : List (Option Vv)} {st : List Vv} {hp h1 : HPt} {P : Pst} {x0 : Int32} {r : Int32} {b : A4} (hcu : cu ≤ mc) (hsu : su ≤ ms) (hob : okd b.1 = some 4) (hlv : lvp 609 b) (hcat : (st.map fun v => (trv g v).category).sum ≤ 8) (hJ : Ci g mX4_takenSet [vR b, vI x0] hp r h1) (k : V g mX5_figureOfOldVersion mc ms cu su 609 108 L (vI r :: st) RP h1 P) : V g mX5_figureOfOldVersion mc ms cu su 609 105 L (vI x0 :: vR b :: st) RP hp P :=
  r_callVN (as := [vI x0]) (b := b) (mcj := 0) (msj := 0) (st := st) dX5_figureOfOldVersion_105 (coX4_takenSet (Nat.le_of_ble_eq_true rfl) (Nat.le_of_ble_eq_true rfl)) wd_590 wd_509 wd_40 hob (q := (RX4, TX4, 10)) rfl rfl rfl hlv rfl hcat hcu hsu (Nat.le_of_ble_eq_true rfl) hJ (fun v n' rp' hp' h => by obtain ⟨rfl, rfl, rfl, rfl⟩ := h; exact k)
theorem sX5_figureOfSecret_2 {g : Gh} {mc ms cu su : Nat} {L : List (Option Vv)} {st : List Vv} {hp h1 : HPt} {P : Pst} {x0 : Int32} {r : Int32} {b : A4} (hcu : cu ≤ mc) (hsu : su ≤ ms) (hob : okd b.1 = some 5) (hlv : lvp 609 b) (hcat : (st.map fun v => (trv g v).category).sum ≤ 8) (hJ : Ci g mX5_hasSecret [vR b, vI x0] hp r h1) (k : V g mX5_figureOfSecret mc ms cu su 609 5 L (vI r :: st) RP h1 P) : V g mX5_figureOfSecret mc ms cu su 609 2 L (vI x0 :: vR b :: st) RP hp P :=
  r_callV (as := [vI x0]) (b := b) (mcj := 0) (msj := 0) (st := st) dX5_figureOfSecret_2 (coX5_hasSecret (Nat.le_of_ble_eq_true rfl) (Nat.le_of_ble_eq_true rfl)) wd_291 wd_293 wd_4 hob (q := (RX5, TX5, 10)) rfl rfl rfl hlv rfl hcat hcu hsu (Nat.le_of_ble_eq_true rfl) hJ (fun v n' rp' hp' h => by obtain ⟨rfl, rfl, rfl, rfl⟩ := h; exact k)
theorem sX5_givePartToThief_3 {g : Gh} {mc ms cu su : Nat} {L : List (Option Vv)} {st : List Vv} {hp h1 : HPt} {P : Pst} {x0 : Int32} {x1 : Int32} {r : Int32} {b : A4} (hcu : cu ≤ mc) (hsu : su ≤ ms) (hob : okd b.1 = some 5) (hlv : lvp 609 b) (hcat : (st.map fun v => (trv g v).category).sum ≤ 8) (hJ : Ci g mX5_hasHalf [vR b, vI x0, vI x1] hp r h1) (k : V g mX5_givePartToThief mc ms cu su 609 6 L (vI r :: st) RP h1 P) : V g mX5_givePartToThief mc ms cu su 609 3 L (vI x1 :: vI x0 :: vR b :: st) RP hp P :=
  r_callV (as := [vI x0, vI x1]) (b := b) (mcj := 0) (msj := 0) (st := st) dX5_givePartToThief_3 (coX5_hasHalf (Nat.le_of_ble_eq_true rfl) (Nat.le_of_ble_eq_true rfl)) wd_445 wd_447 wd_30 hob (q := (RX5, TX5, 10)) rfl rfl rfl hlv rfl hcat hcu hsu (Nat.le_of_ble_eq_true rfl) hJ (fun v n' rp' hp' h => by obtain ⟨rfl, rfl, rfl, rfl⟩ := h; exact k)
theorem sX5_givePartToThief_55 {g : Gh} {mc ms cu su : Nat} {L : List (Option Vv)} {st : List Vv} {hp h1 : HPt} {P : Pst} {x0 : Int32} {x1 : Int32} {r : Int32} {b : A4} (hcu : cu ≤ mc) (hsu : su ≤ ms) (hob : okd b.1 = some 4) (hlv : lvp 609 b) (hcat : (st.map fun v => (trv g v).category).sum ≤ 8) (hJ : Ci g mX4_partForThief [vR b, vI x0, vI x1] hp r h1) (k : V g mX5_givePartToThief mc ms cu su 609 58 L (vI r :: st) RP h1 P) : V g mX5_givePartToThief mc ms cu su 609 55 L (vI x1 :: vI x0 :: vR b :: st) RP hp P :=
  r_callVN (as := [vI x0, vI x1]) (b := b) (mcj := 0) (msj := 0) (st := st) dX5_givePartToThief_55 (coX4_partForThief (Nat.le_of_ble_eq_true rfl) (Nat.le_of_ble_eq_true rfl)) wd_502 wd_504 wd_39 hob (q := (RX4, TX4, 10)) rfl rfl rfl hlv rfl hcat hcu hsu (Nat.le_of_ble_eq_true rfl) hJ (fun v n' rp' hp' h => by obtain ⟨rfl, rfl, rfl, rfl⟩ := h; exact k)
theorem sX5_hasHalf_1 {g : Gh} {mc ms cu su : Nat} {L : List (Option Vv)} {st : List Vv} {hp h1 : HPt} {P : Pst} {x0 : Int32} {r : Int32} (hcu : cu ≤ mc) (hsu : su ≤ ms) (hcat : (st.map fun v => (trv g v).category).sum ≤ 8) (hJ : Ci g mX6_isStore [vI x0] hp r h1) (k : V g mX5_hasHalf mc ms cu su 609 4 L (vI r :: st) RP h1 P) : V g mX5_hasHalf mc ms cu su 609 1 L (vI x0 :: st) RP hp P :=
  r_callSN (as := [vI x0]) (mcj := 0) (msj := 0) (st := st) dX5_hasHalf_1 (coX6_isStore (Nat.le_of_ble_eq_true rfl) (Nat.le_of_ble_eq_true rfl)) wd_434 wd_435 rfl rfl hcat hcu hsu (Nat.le_of_ble_eq_true rfl) hJ (fun v n' rp' hp' h => by obtain ⟨rfl, rfl, rfl, rfl⟩ := h; exact k)
theorem sX5_hasHalf_9 {g : Gh} {mc ms cu su : Nat} {L : List (Option Vv)} {st : List Vv} {hp h1 : HPt} {P : Pst} {x0 : Int32} {r : Int32} {b : A4} (hcu : cu ≤ mc) (hsu : su ≤ ms) (hob : okd b.1 = some 5) (hlv : lvp 609 b) (hcat : (st.map fun v => (trv g v).category).sum ≤ 8) (hJ : Ci g mX5_hasSecret [vR b, vI x0] hp r h1) (k : V g mX5_hasHalf mc ms cu su 609 12 L (vI r :: st) RP h1 P) : V g mX5_hasHalf mc ms cu su 609 9 L (vI x0 :: vR b :: st) RP hp P :=
  r_callV (as := [vI x0]) (b := b) (mcj := 0) (msj := 0) (st := st) dX5_hasHalf_9 (coX5_hasSecret (Nat.le_of_ble_eq_true rfl) (Nat.le_of_ble_eq_true rfl)) wd_291 wd_293 wd_4 hob (q := (RX5, TX5, 10)) rfl rfl rfl hlv rfl hcat hcu hsu (Nat.le_of_ble_eq_true rfl) hJ (fun v n' rp' hp' h => by obtain ⟨rfl, rfl, rfl, rfl⟩ := h; exact k)
theorem sX5_makeNextVersion_1 {g : Gh} {mc ms cu su : Nat} {L : List (Option Vv)} {st : List Vv} {hp h1 : HPt} {P : Pst} {r : Int32} {b : A4} (hcu : cu ≤ mc) (hsu : su ≤ ms) (hob : okd b.1 = some 4) (hlv : lvp 609 b) (hcat : (st.map fun v => (trv g v).category).sum ≤ 8) (hJ : Ci g mX4_value [vR b] hp r h1) (k : V g mX5_makeNextVersion mc ms cu su 609 4 L (vI r :: st) RP h1 P) : V g mX5_makeNextVersion mc ms cu su 609 1 L (vR b :: st) RP hp P :=
  r_callVN (as := []) (b := b) (mcj := 0) (msj := 0) (st := st) dX5_makeNextVersion_1 (coX4_value (Nat.le_of_ble_eq_true rfl) (Nat.le_of_ble_eq_true rfl)) wd_403 wd_405 wd_24 hob (q := (RX4, TX4, 10)) rfl rfl rfl hlv rfl hcat hcu hsu (Nat.le_of_ble_eq_true rfl) hJ (fun v n' rp' hp' h => by obtain ⟨rfl, rfl, rfl, rfl⟩ := h; exact k)
theorem sX5_makeNextVersion_17 {g : Gh} {mc ms cu su : Nat} {L : List (Option Vv)} {st : List Vv} {hp h1 : HPt} {P : Pst} {x0 : Int32} {r : Int32} {b : A4} (hcu : cu ≤ mc) (hsu : su ≤ ms) (hob : okd b.1 = some 4) (hlv : lvp 609 b) (hcat : (st.map fun v => (trv g v).category).sum ≤ 8) (hJ : Ci g mX4_ageKeeping [vR b, vI x0] hp r h1) (k : V g mX5_makeNextVersion mc ms cu su 609 20 L (vI r :: st) RP h1 P) : V g mX5_makeNextVersion mc ms cu su 609 17 L (vI x0 :: vR b :: st) RP hp P :=
  r_callVN (as := [vI x0]) (b := b) (mcj := 0) (msj := 0) (st := st) dX5_makeNextVersion_17 (coX4_ageKeeping (Nat.le_of_ble_eq_true rfl) (Nat.le_of_ble_eq_true rfl)) wd_407 wd_409 wd_25 hob (q := (RX4, TX4, 10)) rfl rfl rfl hlv rfl hcat hcu hsu (Nat.le_of_ble_eq_true rfl) hJ (fun v n' rp' hp' h => by obtain ⟨rfl, rfl, rfl, rfl⟩ := h; exact k)
theorem sX5_makeNextVersion_27 {g : Gh} {mc ms cu su : Nat} {L : List (Option Vv)} {st : List Vv} {hp h1 : HPt} {P : Pst} {x0 : A4} {x1 : Int32} {b : A4} (hcu : cu ≤ mc) (hsu : su ≤ ms) (hob : okd b.1 = some 5) (hlv : lvp 609 b) (hcat : (st.map fun v => (trv g v).category).sum ≤ 8) (hJ : Cv g mX5_makeVersion [vR b, vR x0, vI x1] hp h1) (k : V g mX5_makeNextVersion mc ms cu su 609 30 L (st) RP h1 P) : V g mX5_makeNextVersion mc ms cu su 609 27 L (vI x1 :: vR x0 :: vR b :: st) RP hp P :=
  r_callV (as := [vR x0, vI x1]) (b := b) (mcj := 0) (msj := 0) (st := st) dX5_makeNextVersion_27 (coX5_makeVersion (Nat.le_of_ble_eq_true rfl) (Nat.le_of_ble_eq_true rfl)) wd_370 wd_372 wd_18 hob (q := (RX5, TX5, 10)) rfl rfl rfl hlv rfl hcat hcu hsu (Nat.le_of_ble_eq_true rfl) hJ (fun v n' rp' hp' h => by obtain ⟨rfl, rfl, rfl, rfl⟩ := h; exact k)
theorem sX5_makeVersion_17 {g : Gh} {mc ms cu su : Nat} {L : List (Option Vv)} {st : List Vv} {hp h1 : HPt} {P : Pst} {r : Int32} {b : A4} (hcu : cu ≤ mc) (hsu : su ≤ ms) (hob : okd b.1 = some 5) (hlv : lvp 609 b) (hcat : (st.map fun v => (trv g v).category).sum ≤ 8) (hJ : Ci g mX5_drawn [vR b] hp r h1) (k : V g mX5_makeVersion mc ms cu su 609 20 L (vI r :: st) RP h1 P) : V g mX5_makeVersion mc ms cu su 609 17 L (vR b :: st) RP hp P :=
  r_callV (as := []) (b := b) (mcj := 0) (msj := 0) (st := st) dX5_makeVersion_17 (coX5_drawn (Nat.le_of_ble_eq_true rfl) (Nat.le_of_ble_eq_true rfl)) wd_374 wd_376 wd_19 hob (q := (RX5, TX5, 10)) rfl rfl rfl hlv rfl hcat hcu hsu (Nat.le_of_ble_eq_true rfl) hJ (fun v n' rp' hp' h => by obtain ⟨rfl, rfl, rfl, rfl⟩ := h; exact k)
theorem sX5_makeVersion_42 {g : Gh} {mc ms cu su : Nat} {L : List (Option Vv)} {st : List Vv} {hp h1 : HPt} {P : Pst} {x0 : Int32} {x1 : Int32} {r : Int32} (hcu : cu ≤ mc) (hsu : su ≤ ms) (hcat : (st.map fun v => (trv g v).category).sum ≤ 8) (hJ : Ci g mJ9_floorMod_7cf53 [vI x0, vI x1] hp r h1) (k : V g mX5_makeVersion mc ms cu su 609 45 L (vI r :: st) RP h1 P) : V g mX5_makeVersion mc ms cu su 609 42 L (vI x1 :: vI x0 :: st) RP hp P :=
  r_callS (as := [vI x0, vI x1]) (mcj := 0) (msj := 0) (st := st) dX5_makeVersion_42 (coJ9_floorMod_7cf53 (Nat.le_of_ble_eq_true rfl) (Nat.le_of_ble_eq_true rfl)) wd_379 wd_380 rfl rfl hcat hcu hsu (Nat.le_of_ble_eq_true rfl) hJ (fun v n' rp' hp' h => by obtain ⟨rfl, rfl, rfl, rfl⟩ := h; exact k)
theorem sX5_makeVersion_49 {g : Gh} {mc ms cu su : Nat} {L : List (Option Vv)} {st : List Vv} {hp h1 : HPt} {P : Pst} {r : Int32} {b : A4} (hcu : cu ≤ mc) (hsu : su ≤ ms) (hob : okd b.1 = some 5) (hlv : lvp 609 b) (hcat : (st.map fun v => (trv g v).category).sum ≤ 8) (hJ : Ci g mX5_drawn [vR b] hp r h1) (k : V g mX5_makeVersion mc ms cu su 609 52 L (vI r :: st) RP h1 P) : V g mX5_makeVersion mc ms cu su 609 49 L (vR b :: st) RP hp P :=
  r_callV (as := []) (b := b) (mcj := 0) (msj := 0) (st := st) dX5_makeVersion_49 (coX5_drawn (Nat.le_of_ble_eq_true rfl) (Nat.le_of_ble_eq_true rfl)) wd_374 wd_376 wd_19 hob (q := (RX5, TX5, 10)) rfl rfl rfl hlv rfl hcat hcu hsu (Nat.le_of_ble_eq_true rfl) hJ (fun v n' rp' hp' h => by obtain ⟨rfl, rfl, rfl, rfl⟩ := h; exact k)
theorem sX5_makeVersion_64 {g : Gh} {mc ms cu su : Nat} {L : List (Option Vv)} {st : List Vv} {hp h1 : HPt} {P : Pst} {r : Int32} {b : A4} (hcu : cu ≤ mc) (hsu : su ≤ ms) (hob : okd b.1 = some 5) (hlv : lvp 609 b) (hcat : (st.map fun v => (trv g v).category).sum ≤ 8) (hJ : Ci g mX5_drawn [vR b] hp r h1) (k : V g mX5_makeVersion mc ms cu su 609 67 L (vI r :: st) RP h1 P) : V g mX5_makeVersion mc ms cu su 609 64 L (vR b :: st) RP hp P :=
  r_callV (as := []) (b := b) (mcj := 0) (msj := 0) (st := st) dX5_makeVersion_64 (coX5_drawn (Nat.le_of_ble_eq_true rfl) (Nat.le_of_ble_eq_true rfl)) wd_374 wd_376 wd_19 hob (q := (RX5, TX5, 10)) rfl rfl rfl hlv rfl hcat hcu hsu (Nat.le_of_ble_eq_true rfl) hJ (fun v n' rp' hp' h => by obtain ⟨rfl, rfl, rfl, rfl⟩ := h; exact k)
theorem sX5_makeVersion_76 {g : Gh} {mc ms cu su : Nat} {L : List (Option Vv)} {st : List Vv} {hp h1 : HPt} {P : Pst} {r : Int32} {b : A4} (hcu : cu ≤ mc) (hsu : su ≤ ms) (hob : okd b.1 = some 5) (hlv : lvp 609 b) (hcat : (st.map fun v => (trv g v).category).sum ≤ 8) (hJ : Ci g mX5_drawn [vR b] hp r h1) (k : V g mX5_makeVersion mc ms cu su 609 79 L (vI r :: st) RP h1 P) : V g mX5_makeVersion mc ms cu su 609 76 L (vR b :: st) RP hp P :=
  r_callV (as := []) (b := b) (mcj := 0) (msj := 0) (st := st) dX5_makeVersion_76 (coX5_drawn (Nat.le_of_ble_eq_true rfl) (Nat.le_of_ble_eq_true rfl)) wd_374 wd_376 wd_19 hob (q := (RX5, TX5, 10)) rfl rfl rfl hlv rfl hcat hcu hsu (Nat.le_of_ble_eq_true rfl) hJ (fun v n' rp' hp' h => by obtain ⟨rfl, rfl, rfl, rfl⟩ := h; exact k)
theorem sX5_makeVersion_90 {g : Gh} {mc ms cu su : Nat} {L : List (Option Vv)} {st : List Vv} {hp h1 : HPt} {P : Pst} {r : Int32} {b : A4} (hcu : cu ≤ mc) (hsu : su ≤ ms) (hob : okd b.1 = some 5) (hlv : lvp 609 b) (hcat : (st.map fun v => (trv g v).category).sum ≤ 8) (hJ : Ci g mX5_drawn [vR b] hp r h1) (k : V g mX5_makeVersion mc ms cu su 609 93 L (vI r :: st) RP h1 P) : V g mX5_makeVersion mc ms cu su 609 90 L (vR b :: st) RP hp P :=
  r_callV (as := []) (b := b) (mcj := 0) (msj := 0) (st := st) dX5_makeVersion_90 (coX5_drawn (Nat.le_of_ble_eq_true rfl) (Nat.le_of_ble_eq_true rfl)) wd_374 wd_376 wd_19 hob (q := (RX5, TX5, 10)) rfl rfl rfl hlv rfl hcat hcu hsu (Nat.le_of_ble_eq_true rfl) hJ (fun v n' rp' hp' h => by obtain ⟨rfl, rfl, rfl, rfl⟩ := h; exact k)
theorem sX5_makeVersion_109 {g : Gh} {mc ms cu su : Nat} {L : List (Option Vv)} {st : List Vv} {hp h1 : HPt} {P : Pst} {x0 : Int32} {r : Int32} {b : A4} (hcu : cu ≤ mc) (hsu : su ≤ ms) (hob : okd b.1 = some 0) (hlv : lvp 609 b) (hcat : (st.map fun v => (trv g v).category).sum ≤ 8) (hJ : Ci g mX0_tagDueFor [vR b, vI x0] hp r h1) (k : V g mX5_makeVersion mc ms cu su 609 112 L (vI r :: st) RP h1 P) : V g mX5_makeVersion mc ms cu su 609 109 L (vI x0 :: vR b :: st) RP hp P :=
  r_callVN (as := [vI x0]) (b := b) (mcj := 0) (msj := 0) (st := st) dX5_makeVersion_109 (coX0_tagDueFor (Nat.le_of_ble_eq_true rfl) (Nat.le_of_ble_eq_true rfl)) wd_382 wd_317 wd_10 hob (q := (RX0, TX0, 7)) rfl rfl rfl hlv rfl hcat hcu hsu (Nat.le_of_ble_eq_true rfl) hJ (fun v n' rp' hp' h => by obtain ⟨rfl, rfl, rfl, rfl⟩ := h; exact k)
theorem sX5_makeVersion_125 {g : Gh} {mc ms cu su : Nat} {L : List (Option Vv)} {st : List Vv} {hp h1 : HPt} {P : Pst} {x0 : Int32} {r : Int32} {b : A4} (hcu : cu ≤ mc) (hsu : su ≤ ms) (hob : okd b.1 = some 0) (hlv : lvp 609 b) (hcat : (st.map fun v => (trv g v).category).sum ≤ 8) (hJ : Ci g mX0_tagDueFor [vR b, vI x0] hp r h1) (k : V g mX5_makeVersion mc ms cu su 609 128 L (vI r :: st) RP h1 P) : V g mX5_makeVersion mc ms cu su 609 125 L (vI x0 :: vR b :: st) RP hp P :=
  r_callVN (as := [vI x0]) (b := b) (mcj := 0) (msj := 0) (st := st) dX5_makeVersion_125 (coX0_tagDueFor (Nat.le_of_ble_eq_true rfl) (Nat.le_of_ble_eq_true rfl)) wd_382 wd_317 wd_10 hob (q := (RX0, TX0, 7)) rfl rfl rfl hlv rfl hcat hcu hsu (Nat.le_of_ble_eq_true rfl) hJ (fun v n' rp' hp' h => by obtain ⟨rfl, rfl, rfl, rfl⟩ := h; exact k)
theorem sX5_mergeParts_2 {g : Gh} {mc ms cu su : Nat} {L : List (Option Vv)} {st : List Vv} {hp h1 : HPt} {P : Pst} {x0 : Int32} {r : Int32} {b : A4} (hcu : cu ≤ mc) (hsu : su ≤ ms) (hob : okd b.1 = some 5) (hlv : lvp 609 b) (hcat : (st.map fun v => (trv g v).category).sum ≤ 8) (hJ : Ci g mX5_answerOfMerger [vR b, vI x0] hp r h1) (k : V g mX5_mergeParts mc ms cu su 609 5 L (vI r :: st) RP h1 P) : V g mX5_mergeParts mc ms cu su 609 2 L (vI x0 :: vR b :: st) RP hp P :=
  r_callV (as := [vI x0]) (b := b) (mcj := 0) (msj := 0) (st := st) dX5_mergeParts_2 (coX5_answerOfMerger (Nat.le_of_ble_eq_true rfl) (Nat.le_of_ble_eq_true rfl)) wd_477 wd_289 wd_3 hob (q := (RX5, TX5, 10)) rfl rfl rfl hlv rfl hcat hcu hsu (Nat.le_of_ble_eq_true rfl) hJ (fun v n' rp' hp' h => by obtain ⟨rfl, rfl, rfl, rfl⟩ := h; exact k)
theorem sX5_mergeParts_56 {g : Gh} {mc ms cu su : Nat} {L : List (Option Vv)} {st : List Vv} {hp h1 : HPt} {P : Pst} {x0 : Int32} {x1 : Int32} {b : A4} (hcu : cu ≤ mc) (hsu : su ≤ ms) (hob : okd b.1 = some 4) (hlv : lvp 609 b) (hcat : (st.map fun v => (trv g v).category).sum ≤ 8) (hJ : Cv g mX4_open [vR b, vI x0, vI x1] hp h1) (k : V g mX5_mergeParts mc ms cu su 609 59 L (st) RP h1 P) : V g mX5_mergeParts mc ms cu su 609 56 L (vI x1 :: vI x0 :: vR b :: st) RP hp P :=
  r_callVN (as := [vI x0, vI x1]) (b := b) (mcj := 0) (msj := 0) (st := st) dX5_mergeParts_56 (coX4_open (Nat.le_of_ble_eq_true rfl) (Nat.le_of_ble_eq_true rfl)) wd_478 wd_480 wd_35 hob (q := (RX4, TX4, 10)) rfl rfl rfl hlv rfl hcat hcu hsu (Nat.le_of_ble_eq_true rfl) hJ (fun v n' rp' hp' h => by obtain ⟨rfl, rfl, rfl, rfl⟩ := h; exact k)
theorem sX5_mergeParts_63 {g : Gh} {mc ms cu su : Nat} {L : List (Option Vv)} {st : List Vv} {hp h1 : HPt} {P : Pst} {r : Int32} {b : A4} (hcu : cu ≤ mc) (hsu : su ≤ ms) (hob : okd b.1 = some 0) (hlv : lvp 609 b) (hcat : (st.map fun v => (trv g v).category).sum ≤ 8) (hJ : Ci g mX0_lies [vR b] hp r h1) (k : V g mX5_mergeParts mc ms cu su 609 66 L (vI r :: st) RP h1 P) : V g mX5_mergeParts mc ms cu su 609 63 L (vR b :: st) RP hp P :=
  r_callVN (as := []) (b := b) (mcj := 0) (msj := 0) (st := st) dX5_mergeParts_63 (coX0_lies (Nat.le_of_ble_eq_true rfl) (Nat.le_of_ble_eq_true rfl)) wd_482 wd_484 wd_36 hob (q := (RX0, TX0, 7)) rfl rfl rfl hlv rfl hcat hcu hsu (Nat.le_of_ble_eq_true rfl) hJ (fun v n' rp' hp' h => by obtain ⟨rfl, rfl, rfl, rfl⟩ := h; exact k)
theorem sX5_mergeParts_73 {g : Gh} {mc ms cu su : Nat} {L : List (Option Vv)} {st : List Vv} {hp h1 : HPt} {P : Pst} {r : Int32} {b : A4} (hcu : cu ≤ mc) (hsu : su ≤ ms) (hob : okd b.1 = some 0) (hlv : lvp 609 b) (hcat : (st.map fun v => (trv g v).category).sum ≤ 8) (hJ : Ci g mX0_lies [vR b] hp r h1) (k : V g mX5_mergeParts mc ms cu su 609 76 L (vI r :: st) RP h1 P) : V g mX5_mergeParts mc ms cu su 609 73 L (vR b :: st) RP hp P :=
  r_callVN (as := []) (b := b) (mcj := 0) (msj := 0) (st := st) dX5_mergeParts_73 (coX0_lies (Nat.le_of_ble_eq_true rfl) (Nat.le_of_ble_eq_true rfl)) wd_482 wd_484 wd_36 hob (q := (RX0, TX0, 7)) rfl rfl rfl hlv rfl hcat hcu hsu (Nat.le_of_ble_eq_true rfl) hJ (fun v n' rp' hp' h => by obtain ⟨rfl, rfl, rfl, rfl⟩ := h; exact k)
theorem sX5_offsetsThatPass_3 {g : Gh} {mc ms cu su : Nat} {L : List (Option Vv)} {st : List Vv} {hp h1 : HPt} {P : Pst} {x0 : Int32} {x1 : Int32} {r : Int32} {b : A4} (hcu : cu ≤ mc) (hsu : su ≤ ms) (hob : okd b.1 = some 5) (hlv : lvp 609 b) (hcat : (st.map fun v => (trv g v).category).sum ≤ 8) (hJ : Ci g mX5_hasHalf [vR b, vI x0, vI x1] hp r h1) (k : V g mX5_offsetsThatPass mc ms cu su 609 6 L (vI r :: st) RP h1 P) : V g mX5_offsetsThatPass mc ms cu su 609 3 L (vI x1 :: vI x0 :: vR b :: st) RP hp P :=
  r_callV (as := [vI x0, vI x1]) (b := b) (mcj := 0) (msj := 0) (st := st) dX5_offsetsThatPass_3 (coX5_hasHalf (Nat.le_of_ble_eq_true rfl) (Nat.le_of_ble_eq_true rfl)) wd_445 wd_447 wd_30 hob (q := (RX5, TX5, 10)) rfl rfl rfl hlv rfl hcat hcu hsu (Nat.le_of_ble_eq_true rfl) hJ (fun v n' rp' hp' h => by obtain ⟨rfl, rfl, rfl, rfl⟩ := h; exact k)
theorem sX5_offsetsThatPass_12 {g : Gh} {mc ms cu su : Nat} {L : List (Option Vv)} {st : List Vv} {hp h1 : HPt} {P : Pst} {x0 : Int32} {r : Int32} (hcu : cu ≤ mc) (hsu : su ≤ ms) (hcat : (st.map fun v => (trv g v).category).sum ≤ 8) (hJ : Ci g mX6_isTag [vI x0] hp r h1) (k : V g mX5_offsetsThatPass mc ms cu su 609 15 L (vI r :: st) RP h1 P) : V g mX5_offsetsThatPass mc ms cu su 609 12 L (vI x0 :: st) RP hp P :=
  r_callSN (as := [vI x0]) (mcj := 0) (msj := 0) (st := st) dX5_offsetsThatPass_12 (coX6_isTag (Nat.le_of_ble_eq_true rfl) (Nat.le_of_ble_eq_true rfl)) wd_449 wd_450 rfl rfl hcat hcu hsu (Nat.le_of_ble_eq_true rfl) hJ (fun v n' rp' hp' h => by obtain ⟨rfl, rfl, rfl, rfl⟩ := h; exact k)
theorem sX5_offsetsThatPass_40 {g : Gh} {mc ms cu su : Nat} {L : List (Option Vv)} {st : List Vv} {hp h1 : HPt} {P : Pst} {x0 : Int32} {x1 : Int32} {x2 : Int32} {r : Int32} {b : A4} (hcu : cu ≤ mc) (hsu : su ≤ ms) (hob : okd b.1 = some 5) (hlv : lvp 609 b) (hcat : (st.map fun v => (trv g v).category).sum ≤ 8) (hJ : Ci g mX5_tagOffsetThatPasses [vR b, vI x0, vI x1, vI x2] hp r h1) (k : V g mX5_offsetsThatPass mc ms cu su 609 43 L (vI r :: st) RP h1 P) : V g mX5_offsetsThatPass mc ms cu su 609 40 L (vI x2 :: vI x1 :: vI x0 :: vR b :: st) RP hp P :=
  r_callV (as := [vI x0, vI x1, vI x2]) (b := b) (mcj := 0) (msj := 0) (st := st) dX5_offsetsThatPass_40 (coX5_tagOffsetThatPasses (Nat.le_of_ble_eq_true rfl) (Nat.le_of_ble_eq_true rfl)) wd_570 wd_462 wd_32 hob (q := (RX5, TX5, 10)) rfl rfl rfl hlv rfl hcat hcu hsu (Nat.le_of_ble_eq_true rfl) hJ (fun v n' rp' hp' h => by obtain ⟨rfl, rfl, rfl, rfl⟩ := h; exact k)
theorem sX5_otherPartFor_3 {g : Gh} {mc ms cu su : Nat} {L : List (Option Vv)} {st : List Vv} {hp h1 : HPt} {P : Pst} {x0 : Int32} {x1 : Int32} {r : Int32} {b : A4} (hcu : cu ≤ mc) (hsu : su ≤ ms) (hob : okd b.1 = some 5) (hlv : lvp 609 b) (hcat : (st.map fun v => (trv g v).category).sum ≤ 8) (hJ : Ci g mX5_hasHalf [vR b, vI x0, vI x1] hp r h1) (k : V g mX5_otherPartFor mc ms cu su 609 6 L (vI r :: st) RP h1 P) : V g mX5_otherPartFor mc ms cu su 609 3 L (vI x1 :: vI x0 :: vR b :: st) RP hp P :=
  r_callV (as := [vI x0, vI x1]) (b := b) (mcj := 0) (msj := 0) (st := st) dX5_otherPartFor_3 (coX5_hasHalf (Nat.le_of_ble_eq_true rfl) (Nat.le_of_ble_eq_true rfl)) wd_445 wd_447 wd_30 hob (q := (RX5, TX5, 10)) rfl rfl rfl hlv rfl hcat hcu hsu (Nat.le_of_ble_eq_true rfl) hJ (fun v n' rp' hp' h => by obtain ⟨rfl, rfl, rfl, rfl⟩ := h; exact k)
theorem sX5_otherPartFor_12 {g : Gh} {mc ms cu su : Nat} {L : List (Option Vv)} {st : List Vv} {hp h1 : HPt} {P : Pst} {x0 : Int32} {r : Int32} (hcu : cu ≤ mc) (hsu : su ≤ ms) (hcat : (st.map fun v => (trv g v).category).sum ≤ 8) (hJ : Ci g mX6_isPart [vI x0] hp r h1) (k : V g mX5_otherPartFor mc ms cu su 609 15 L (vI r :: st) RP h1 P) : V g mX5_otherPartFor mc ms cu su 609 12 L (vI x0 :: st) RP hp P :=
  r_callSN (as := [vI x0]) (mcj := 0) (msj := 0) (st := st) dX5_otherPartFor_12 (coX6_isPart (Nat.le_of_ble_eq_true rfl) (Nat.le_of_ble_eq_true rfl)) wd_367 wd_368 rfl rfl hcat hcu hsu (Nat.le_of_ble_eq_true rfl) hJ (fun v n' rp' hp' h => by obtain ⟨rfl, rfl, rfl, rfl⟩ := h; exact k)
theorem sX5_otherPartFor_29 {g : Gh} {mc ms cu su : Nat} {L : List (Option Vv)} {st : List Vv} {hp h1 : HPt} {P : Pst} {x0 : Int32} {r : A4} {b : A4} (hcu : cu ≤ mc) (hsu : su ≤ ms) (hob : okd b.1 = some 4) (hlv : lvp 609 b) (hcat : (st.map fun v => (trv g v).category).sum ≤ 8) (hJ : Ca g mX4_halfIn [vR b, vI x0] hp r h1) (k : V g mX5_otherPartFor mc ms cu su 609 32 L (vR r :: st) RP h1 P) : V g mX5_otherPartFor mc ms cu su 609 29 L (vI x0 :: vR b :: st) RP hp P :=
  r_callVN (as := [vI x0]) (b := b) (mcj := 0) (msj := 0) (st := st) dX5_otherPartFor_29 (coX4_halfIn (Nat.le_of_ble_eq_true rfl) (Nat.le_of_ble_eq_true rfl)) wd_452 wd_454 wd_31 hob (q := (RX4, TX4, 10)) rfl rfl rfl hlv rfl hcat hcu hsu (Nat.le_of_ble_eq_true rfl) hJ (fun v n' rp' hp' h => by obtain ⟨rfl, rfl, rfl, rfl⟩ := h; exact k)
theorem sX5_otherPartFor_41 {g : Gh} {mc ms cu su : Nat} {L : List (Option Vv)} {st : List Vv} {hp h1 : HPt} {P : Pst} {x0 : Int32} {x1 : Int32} {r : Int32} (hcu : cu ≤ mc) (hsu : su ≤ ms) (hcat : (st.map fun v => (trv g v).category).sum ≤ 8) (hJ : Ci g mJ9_floorMod_7cf53 [vI x0, vI x1] hp r h1) (k : V g mX5_otherPartFor mc ms cu su 609 44 L (vI r :: st) RP h1 P) : V g mX5_otherPartFor mc ms cu su 609 41 L (vI x1 :: vI x0 :: st) RP hp P :=
  r_callS (as := [vI x0, vI x1]) (mcj := 0) (msj := 0) (st := st) dX5_otherPartFor_41 (coJ9_floorMod_7cf53 (Nat.le_of_ble_eq_true rfl) (Nat.le_of_ble_eq_true rfl)) wd_379 wd_380 rfl rfl hcat hcu hsu (Nat.le_of_ble_eq_true rfl) hJ (fun v n' rp' hp' h => by obtain ⟨rfl, rfl, rfl, rfl⟩ := h; exact k)
theorem sX5_partsNeeded_2 {g : Gh} {mc ms cu su : Nat} {L : List (Option Vv)} {st : List Vv} {hp h1 : HPt} {P : Pst} {x0 : Int32} {r : Int32} {b : A4} (hcu : cu ≤ mc) (hsu : su ≤ ms) (hob : okd b.1 = some 5) (hlv : lvp 609 b) (hcat : (st.map fun v => (trv g v).category).sum ≤ 8) (hJ : Ci g mX5_hasSecret [vR b, vI x0] hp r h1) (k : V g mX5_partsNeeded mc ms cu su 609 5 L (vI r :: st) RP h1 P) : V g mX5_partsNeeded mc ms cu su 609 2 L (vI x0 :: vR b :: st) RP hp P :=
  r_callV (as := [vI x0]) (b := b) (mcj := 0) (msj := 0) (st := st) dX5_partsNeeded_2 (coX5_hasSecret (Nat.le_of_ble_eq_true rfl) (Nat.le_of_ble_eq_true rfl)) wd_291 wd_293 wd_4 hob (q := (RX5, TX5, 10)) rfl rfl rfl hlv rfl hcat hcu hsu (Nat.le_of_ble_eq_true rfl) hJ (fun v n' rp' hp' h => by obtain ⟨rfl, rfl, rfl, rfl⟩ := h; exact k)
theorem sX5_partsNeeded_30 {g : Gh} {mc ms cu su : Nat} {L : List (Option Vv)} {st : List Vv} {hp h1 : HPt} {P : Pst} {r : Int32} {b : A4} (hcu : cu ≤ mc) (hsu : su ≤ ms) (hob : okd b.1 = some 4) (hlv : lvp 609 b) (hcat : (st.map fun v => (trv g v).category).sum ≤ 8) (hJ : Ci g mX4_rowsAtRisk [vR b] hp r h1) (k : V g mX5_partsNeeded mc ms cu su 609 33 L (vI r :: st) RP h1 P) : V g mX5_partsNeeded mc ms cu su 609 30 L (vR b :: st) RP hp P :=
  r_callVN (as := []) (b := b) (mcj := 0) (msj := 0) (st := st) dX5_partsNeeded_30 (coX4_rowsAtRisk (Nat.le_of_ble_eq_true rfl) (Nat.le_of_ble_eq_true rfl)) wd_599 wd_601 wd_50 hob (q := (RX4, TX4, 10)) rfl rfl rfl hlv rfl hcat hcu hsu (Nat.le_of_ble_eq_true rfl) hJ (fun v n' rp' hp' h => by obtain ⟨rfl, rfl, rfl, rfl⟩ := h; exact k)
theorem sX5_passBeats_42 {g : Gh} {mc ms cu su : Nat} {L : List (Option Vv)} {st : List Vv} {hp h1 : HPt} {P : Pst} {b : A4} (hcu : cu ≤ mc) (hsu : su ≤ ms) (hob : okd b.1 = some 5) (hlv : lvp 609 b) (hcat : (st.map fun v => (trv g v).category).sum ≤ 8) (hJ : Cv g mX5_passOneBeat [vR b] hp h1) (k : V g mX5_passBeats mc ms cu su 609 45 L (st) RP h1 P) : V g mX5_passBeats mc ms cu su 609 42 L (vR b :: st) RP hp P :=
  r_callV (as := []) (b := b) (mcj := 0) (msj := 0) (st := st) dX5_passBeats_42 (coX5_passOneBeat (Nat.le_of_ble_eq_true rfl) (Nat.le_of_ble_eq_true rfl)) wd_519 wd_521 wd_42 hob (q := (RX5, TX5, 10)) rfl rfl rfl hlv rfl hcat hcu hsu (Nat.le_of_ble_eq_true rfl) hJ (fun v n' rp' hp' h => by obtain ⟨rfl, rfl, rfl, rfl⟩ := h; exact k)
theorem sX5_passOneBeat_28 {g : Gh} {mc ms cu su : Nat} {L : List (Option Vv)} {st : List Vv} {hp h1 : HPt} {P : Pst} {x0 : Int32} {x1 : Int32} {r : Int32} (hcu : cu ≤ mc) (hsu : su ≤ ms) (hcat : (st.map fun v => (trv g v).category).sum ≤ 8) (hJ : Ci g mJ9_max_7cf53 [vI x0, vI x1] hp r h1) (k : V g mX5_passOneBeat mc ms cu su 609 31 L (vI r :: st) RP h1 P) : V g mX5_passOneBeat mc ms cu su 609 28 L (vI x1 :: vI x0 :: st) RP hp P :=
  r_callS (as := [vI x0, vI x1]) (mcj := 0) (msj := 0) (st := st) dX5_passOneBeat_28 (coJ9_max_7cf53 (Nat.le_of_ble_eq_true rfl) (Nat.le_of_ble_eq_true rfl)) wd_523 wd_524 rfl rfl hcat hcu hsu (Nat.le_of_ble_eq_true rfl) hJ (fun v n' rp' hp' h => by obtain ⟨rfl, rfl, rfl, rfl⟩ := h; exact k)
theorem sX5_passOneBeat_74 {g : Gh} {mc ms cu su : Nat} {L : List (Option Vv)} {st : List Vv} {hp h1 : HPt} {P : Pst} {r : Int32} {b : A4} (hcu : cu ≤ mc) (hsu : su ≤ ms) (hob : okd b.1 = some 5) (hlv : lvp 609 b) (hcat : (st.map fun v => (trv g v).category).sum ≤ 8) (hJ : Ci g mX5_someStoreSleeps [vR b] hp r h1) (k : V g mX5_passOneBeat mc ms cu su 609 77 L (vI r :: st) RP h1 P) : V g mX5_passOneBeat mc ms cu su 609 74 L (vR b :: st) RP hp P :=
  r_callV (as := []) (b := b) (mcj := 0) (msj := 0) (st := st) dX5_passOneBeat_74 (coX5_someStoreSleeps (Nat.le_of_ble_eq_true rfl) (Nat.le_of_ble_eq_true rfl)) wd_295 wd_297 wd_5 hob (q := (RX5, TX5, 10)) rfl rfl rfl hlv rfl hcat hcu hsu (Nat.le_of_ble_eq_true rfl) hJ (fun v n' rp' hp' h => by obtain ⟨rfl, rfl, rfl, rfl⟩ := h; exact k)
theorem sX5_passOneBeat_113 {g : Gh} {mc ms cu su : Nat} {L : List (Option Vv)} {st : List Vv} {hp h1 : HPt} {P : Pst} {x0 : A4} {b : A4} (hcu : cu ≤ mc) (hsu : su ≤ ms) (hob : okd b.1 = some 5) (hlv : lvp 609 b) (hcat : (st.map fun v => (trv g v).category).sum ≤ 8) (hJ : Cv g mX5_makeNextVersion [vR b, vR x0] hp h1) (k : V g mX5_passOneBeat mc ms cu su 609 116 L (st) RP h1 P) : V g mX5_passOneBeat mc ms cu su 609 113 L (vR x0 :: vR b :: st) RP hp P :=
  r_callV (as := [vR x0]) (b := b) (mcj := 0) (msj := 0) (st := st) dX5_passOneBeat_113 (coX5_makeNextVersion (Nat.le_of_ble_eq_true rfl) (Nat.le_of_ble_eq_true rfl)) wd_399 wd_401 wd_23 hob (q := (RX5, TX5, 10)) rfl rfl rfl hlv rfl hcat hcu hsu (Nat.le_of_ble_eq_true rfl) hJ (fun v n' rp' hp' h => by obtain ⟨rfl, rfl, rfl, rfl⟩ := h; exact k)
theorem sX5_renew_2 {g : Gh} {mc ms cu su : Nat} {L : List (Option Vv)} {st : List Vv} {hp h1 : HPt} {P : Pst} {x0 : Int32} {r : Int32} {b : A4} (hcu : cu ≤ mc) (hsu : su ≤ ms) (hob : okd b.1 = some 5) (hlv : lvp 609 b) (hcat : (st.map fun v => (trv g v).category).sum ≤ 8) (hJ : Ci g mX5_hasSecret [vR b, vI x0] hp r h1) (k : V g mX5_renew mc ms cu su 609 5 L (vI r :: st) RP h1 P) : V g mX5_renew mc ms cu su 609 2 L (vI x0 :: vR b :: st) RP hp P :=
  r_callV (as := [vI x0]) (b := b) (mcj := 0) (msj := 0) (st := st) dX5_renew_2 (coX5_hasSecret (Nat.le_of_ble_eq_true rfl) (Nat.le_of_ble_eq_true rfl)) wd_291 wd_293 wd_4 hob (q := (RX5, TX5, 10)) rfl rfl rfl hlv rfl hcat hcu hsu (Nat.le_of_ble_eq_true rfl) hJ (fun v n' rp' hp' h => by obtain ⟨rfl, rfl, rfl, rfl⟩ := h; exact k)
theorem sX5_renew_18 {g : Gh} {mc ms cu su : Nat} {L : List (Option Vv)} {st : List Vv} {hp h1 : HPt} {P : Pst} {r : Int32} {b : A4} (hcu : cu ≤ mc) (hsu : su ≤ ms) (hob : okd b.1 = some 5) (hlv : lvp 609 b) (hcat : (st.map fun v => (trv g v).category).sum ≤ 8) (hJ : Ci g mX5_someStoreSleeps [vR b] hp r h1) (k : V g mX5_renew mc ms cu su 609 21 L (vI r :: st) RP h1 P) : V g mX5_renew mc ms cu su 609 18 L (vR b :: st) RP hp P :=
  r_callV (as := []) (b := b) (mcj := 0) (msj := 0) (st := st) dX5_renew_18 (coX5_someStoreSleeps (Nat.le_of_ble_eq_true rfl) (Nat.le_of_ble_eq_true rfl)) wd_295 wd_297 wd_5 hob (q := (RX5, TX5, 10)) rfl rfl rfl hlv rfl hcat hcu hsu (Nat.le_of_ble_eq_true rfl) hJ (fun v n' rp' hp' h => by obtain ⟨rfl, rfl, rfl, rfl⟩ := h; exact k)
theorem sX5_renew_39 {g : Gh} {mc ms cu su : Nat} {L : List (Option Vv)} {st : List Vv} {hp h1 : HPt} {P : Pst} {x0 : A4} {b : A4} (hcu : cu ≤ mc) (hsu : su ≤ ms) (hob : okd b.1 = some 5) (hlv : lvp 609 b) (hcat : (st.map fun v => (trv g v).category).sum ≤ 8) (hJ : Cv g mX5_makeNextVersion [vR b, vR x0] hp h1) (k : V g mX5_renew mc ms cu su 609 42 L (st) RP h1 P) : V g mX5_renew mc ms cu su 609 39 L (vR x0 :: vR b :: st) RP hp P :=
  r_callV (as := [vR x0]) (b := b) (mcj := 0) (msj := 0) (st := st) dX5_renew_39 (coX5_makeNextVersion (Nat.le_of_ble_eq_true rfl) (Nat.le_of_ble_eq_true rfl)) wd_399 wd_401 wd_23 hob (q := (RX5, TX5, 10)) rfl rfl rfl hlv rfl hcat hcu hsu (Nat.le_of_ble_eq_true rfl) hJ (fun v n' rp' hp' h => by obtain ⟨rfl, rfl, rfl, rfl⟩ := h; exact k)
theorem sX5_tagOffsetThatPasses_3 {g : Gh} {mc ms cu su : Nat} {L : List (Option Vv)} {st : List Vv} {hp h1 : HPt} {P : Pst} {x0 : Int32} {x1 : Int32} {r : Int32} {b : A4} (hcu : cu ≤ mc) (hsu : su ≤ ms) (hob : okd b.1 = some 5) (hlv : lvp 609 b) (hcat : (st.map fun v => (trv g v).category).sum ≤ 8) (hJ : Ci g mX5_hasHalf [vR b, vI x0, vI x1] hp r h1) (k : V g mX5_tagOffsetThatPasses mc ms cu su 609 6 L (vI r :: st) RP h1 P) : V g mX5_tagOffsetThatPasses mc ms cu su 609 3 L (vI x1 :: vI x0 :: vR b :: st) RP hp P :=
  r_callV (as := [vI x0, vI x1]) (b := b) (mcj := 0) (msj := 0) (st := st) dX5_tagOffsetThatPasses_3 (coX5_hasHalf (Nat.le_of_ble_eq_true rfl) (Nat.le_of_ble_eq_true rfl)) wd_445 wd_447 wd_30 hob (q := (RX5, TX5, 10)) rfl rfl rfl hlv rfl hcat hcu hsu (Nat.le_of_ble_eq_true rfl) hJ (fun v n' rp' hp' h => by obtain ⟨rfl, rfl, rfl, rfl⟩ := h; exact k)
theorem sX5_tagOffsetThatPasses_12 {g : Gh} {mc ms cu su : Nat} {L : List (Option Vv)} {st : List Vv} {hp h1 : HPt} {P : Pst} {x0 : Int32} {r : Int32} (hcu : cu ≤ mc) (hsu : su ≤ ms) (hcat : (st.map fun v => (trv g v).category).sum ≤ 8) (hJ : Ci g mX6_isPart [vI x0] hp r h1) (k : V g mX5_tagOffsetThatPasses mc ms cu su 609 15 L (vI r :: st) RP h1 P) : V g mX5_tagOffsetThatPasses mc ms cu su 609 12 L (vI x0 :: st) RP hp P :=
  r_callSN (as := [vI x0]) (mcj := 0) (msj := 0) (st := st) dX5_tagOffsetThatPasses_12 (coX6_isPart (Nat.le_of_ble_eq_true rfl) (Nat.le_of_ble_eq_true rfl)) wd_367 wd_368 rfl rfl hcat hcu hsu (Nat.le_of_ble_eq_true rfl) hJ (fun v n' rp' hp' h => by obtain ⟨rfl, rfl, rfl, rfl⟩ := h; exact k)
theorem sX5_tagOffsetThatPasses_28 {g : Gh} {mc ms cu su : Nat} {L : List (Option Vv)} {st : List Vv} {hp h1 : HPt} {P : Pst} {x0 : Int32} {r : A4} {b : A4} (hcu : cu ≤ mc) (hsu : su ≤ ms) (hob : okd b.1 = some 4) (hlv : lvp 609 b) (hcat : (st.map fun v => (trv g v).category).sum ≤ 8) (hJ : Ca g mX4_halfIn [vR b, vI x0] hp r h1) (k : V g mX5_tagOffsetThatPasses mc ms cu su 609 31 L (vR r :: st) RP h1 P) : V g mX5_tagOffsetThatPasses mc ms cu su 609 28 L (vI x0 :: vR b :: st) RP hp P :=
  r_callVN (as := [vI x0]) (b := b) (mcj := 0) (msj := 0) (st := st) dX5_tagOffsetThatPasses_28 (coX4_halfIn (Nat.le_of_ble_eq_true rfl) (Nat.le_of_ble_eq_true rfl)) wd_452 wd_454 wd_31 hob (q := (RX4, TX4, 10)) rfl rfl rfl hlv rfl hcat hcu hsu (Nat.le_of_ble_eq_true rfl) hJ (fun v n' rp' hp' h => by obtain ⟨rfl, rfl, rfl, rfl⟩ := h; exact k)
theorem sX5_tagOffsetThatPasses_40 {g : Gh} {mc ms cu su : Nat} {L : List (Option Vv)} {st : List Vv} {hp h1 : HPt} {P : Pst} {x0 : Int32} {r : A4} {b : A4} (hcu : cu ≤ mc) (hsu : su ≤ ms) (hob : okd b.1 = some 4) (hlv : lvp 609 b) (hcat : (st.map fun v => (trv g v).category).sum ≤ 8) (hJ : Ca g mX4_halfBeside [vR b, vI x0] hp r h1) (k : V g mX5_tagOffsetThatPasses mc ms cu su 609 43 L (vR r :: st) RP h1 P) : V g mX5_tagOffsetThatPasses mc ms cu su 609 40 L (vI x0 :: vR b :: st) RP hp P :=
  r_callVN (as := [vI x0]) (b := b) (mcj := 0) (msj := 0) (st := st) dX5_tagOffsetThatPasses_40 (coX4_halfBeside (Nat.le_of_ble_eq_true rfl) (Nat.le_of_ble_eq_true rfl)) wd_464 wd_466 wd_33 hob (q := (RX4, TX4, 10)) rfl rfl rfl hlv rfl hcat hcu hsu (Nat.le_of_ble_eq_true rfl) hJ (fun v n' rp' hp' h => by obtain ⟨rfl, rfl, rfl, rfl⟩ := h; exact k)
theorem sX5_tagOffsetThatPasses_50 {g : Gh} {mc ms cu su : Nat} {L : List (Option Vv)} {st : List Vv} {hp h1 : HPt} {P : Pst} {x0 : Int32} {r : Int32} {b : A4} (hcu : cu ≤ mc) (hsu : su ≤ ms) (hob : okd b.1 = some 0) (hlv : lvp 609 b) (hcat : (st.map fun v => (trv g v).category).sum ≤ 8) (hJ : Ci g mX0_partWith [vR b, vI x0] hp r h1) (k : V g mX5_tagOffsetThatPasses mc ms cu su 609 53 L (vI r :: st) RP h1 P) : V g mX5_tagOffsetThatPasses mc ms cu su 609 50 L (vI x0 :: vR b :: st) RP hp P :=
  r_callVN (as := [vI x0]) (b := b) (mcj := 0) (msj := 0) (st := st) dX5_tagOffsetThatPasses_50 (coX0_partWith (Nat.le_of_ble_eq_true rfl) (Nat.le_of_ble_eq_true rfl)) wd_468 wd_313 wd_9 hob (q := (RX0, TX0, 7)) rfl rfl rfl hlv rfl hcat hcu hsu (Nat.le_of_ble_eq_true rfl) hJ (fun v n' rp' hp' h => by obtain ⟨rfl, rfl, rfl, rfl⟩ := h; exact k)
theorem sX5_tagOffsetThatPasses_53 {g : Gh} {mc ms cu su : Nat} {L : List (Option Vv)} {st : List Vv} {hp h1 : HPt} {P : Pst} {x0 : Int32} {r : Int32} {b : A4} (hcu : cu ≤ mc) (hsu : su ≤ ms) (hob : okd b.1 = some 0) (hlv : lvp 609 b) (hcat : (st.map fun v => (trv g v).category).sum ≤ 8) (hJ : Ci g mX0_tagDueFor [vR b, vI x0] hp r h1) (k : V g mX5_tagOffsetThatPasses mc ms cu su 609 56 L (vI r :: st) RP h1 P) : V g mX5_tagOffsetThatPasses mc ms cu su 609 53 L (vI x0 :: vR b :: st) RP hp P :=
  r_callVN (as := [vI x0]) (b := b) (mcj := 0) (msj := 0) (st := st) dX5_tagOffsetThatPasses_53 (coX0_tagDueFor (Nat.le_of_ble_eq_true rfl) (Nat.le_of_ble_eq_true rfl)) wd_382 wd_317 wd_10 hob (q := (RX0, TX0, 7)) rfl rfl rfl hlv rfl hcat hcu hsu (Nat.le_of_ble_eq_true rfl) hJ (fun v n' rp' hp' h => by obtain ⟨rfl, rfl, rfl, rfl⟩ := h; exact k)
theorem sX5_tagOffsetThatPasses_65 {g : Gh} {mc ms cu su : Nat} {L : List (Option Vv)} {st : List Vv} {hp h1 : HPt} {P : Pst} {x0 : Int32} {x1 : Int32} {r : Int32} (hcu : cu ≤ mc) (hsu : su ≤ ms) (hcat : (st.map fun v => (trv g v).category).sum ≤ 8) (hJ : Ci g mJ9_floorMod_7cf53 [vI x0, vI x1] hp r h1) (k : V g mX5_tagOffsetThatPasses mc ms cu su 609 68 L (vI r :: st) RP h1 P) : V g mX5_tagOffsetThatPasses mc ms cu su 609 65 L (vI x1 :: vI x0 :: st) RP hp P :=
  r_callS (as := [vI x0, vI x1]) (mcj := 0) (msj := 0) (st := st) dX5_tagOffsetThatPasses_65 (coJ9_floorMod_7cf53 (Nat.le_of_ble_eq_true rfl) (Nat.le_of_ble_eq_true rfl)) wd_379 wd_380 rfl rfl hcat hcu hsu (Nat.le_of_ble_eq_true rfl) hJ (fun v n' rp' hp' h => by obtain ⟨rfl, rfl, rfl, rfl⟩ := h; exact k)
theorem sX5_takeUpLie_3 {g : Gh} {mc ms cu su : Nat} {L : List (Option Vv)} {st : List Vv} {hp h1 : HPt} {P : Pst} {x0 : Int32} {x1 : Int32} {r : Int32} {b : A4} (hcu : cu ≤ mc) (hsu : su ≤ ms) (hob : okd b.1 = some 5) (hlv : lvp 609 b) (hcat : (st.map fun v => (trv g v).category).sum ≤ 8) (hJ : Ci g mX5_hasHalf [vR b, vI x0, vI x1] hp r h1) (k : V g mX5_takeUpLie mc ms cu su 609 6 L (vI r :: st) RP h1 P) : V g mX5_takeUpLie mc ms cu su 609 3 L (vI x1 :: vI x0 :: vR b :: st) RP hp P :=
  r_callV (as := [vI x0, vI x1]) (b := b) (mcj := 0) (msj := 0) (st := st) dX5_takeUpLie_3 (coX5_hasHalf (Nat.le_of_ble_eq_true rfl) (Nat.le_of_ble_eq_true rfl)) wd_445 wd_447 wd_30 hob (q := (RX5, TX5, 10)) rfl rfl rfl hlv rfl hcat hcu hsu (Nat.le_of_ble_eq_true rfl) hJ (fun v n' rp' hp' h => by obtain ⟨rfl, rfl, rfl, rfl⟩ := h; exact k)
theorem sX5_takeUpLie_12 {g : Gh} {mc ms cu su : Nat} {L : List (Option Vv)} {st : List Vv} {hp h1 : HPt} {P : Pst} {x0 : Int32} {r : Int32} (hcu : cu ≤ mc) (hsu : su ≤ ms) (hcat : (st.map fun v => (trv g v).category).sum ≤ 8) (hJ : Ci g mX6_isPart [vI x0] hp r h1) (k : V g mX5_takeUpLie mc ms cu su 609 15 L (vI r :: st) RP h1 P) : V g mX5_takeUpLie mc ms cu su 609 12 L (vI x0 :: st) RP hp P :=
  r_callSN (as := [vI x0]) (mcj := 0) (msj := 0) (st := st) dX5_takeUpLie_12 (coX6_isPart (Nat.le_of_ble_eq_true rfl) (Nat.le_of_ble_eq_true rfl)) wd_367 wd_368 rfl rfl hcat hcu hsu (Nat.le_of_ble_eq_true rfl) hJ (fun v n' rp' hp' h => by obtain ⟨rfl, rfl, rfl, rfl⟩ := h; exact k)
theorem sX5_takeUpLie_20 {g : Gh} {mc ms cu su : Nat} {L : List (Option Vv)} {st : List Vv} {hp h1 : HPt} {P : Pst} {x0 : Int32} {r : Int32} (hcu : cu ≤ mc) (hsu : su ≤ ms) (hcat : (st.map fun v => (trv g v).category).sum ≤ 8) (hJ : Ci g mX6_isTag [vI x0] hp r h1) (k : V g mX5_takeUpLie mc ms cu su 609 23 L (vI r :: st) RP h1 P) : V g mX5_takeUpLie mc ms cu su 609 20 L (vI x0 :: st) RP hp P :=
  r_callSN (as := [vI x0]) (mcj := 0) (msj := 0) (st := st) dX5_takeUpLie_20 (coX6_isTag (Nat.le_of_ble_eq_true rfl) (Nat.le_of_ble_eq_true rfl)) wd_449 wd_450 rfl rfl hcat hcu hsu (Nat.le_of_ble_eq_true rfl) hJ (fun v n' rp' hp' h => by obtain ⟨rfl, rfl, rfl, rfl⟩ := h; exact k)
theorem sX5_takeUpLie_36 {g : Gh} {mc ms cu su : Nat} {L : List (Option Vv)} {st : List Vv} {hp h1 : HPt} {P : Pst} {x0 : Int32} {r : A4} {b : A4} (hcu : cu ≤ mc) (hsu : su ≤ ms) (hob : okd b.1 = some 4) (hlv : lvp 609 b) (hcat : (st.map fun v => (trv g v).category).sum ≤ 8) (hJ : Ca g mX4_halfIn [vR b, vI x0] hp r h1) (k : V g mX5_takeUpLie mc ms cu su 609 39 L (vR r :: st) RP h1 P) : V g mX5_takeUpLie mc ms cu su 609 36 L (vI x0 :: vR b :: st) RP hp P :=
  r_callVN (as := [vI x0]) (b := b) (mcj := 0) (msj := 0) (st := st) dX5_takeUpLie_36 (coX4_halfIn (Nat.le_of_ble_eq_true rfl) (Nat.le_of_ble_eq_true rfl)) wd_452 wd_454 wd_31 hob (q := (RX4, TX4, 10)) rfl rfl rfl hlv rfl hcat hcu hsu (Nat.le_of_ble_eq_true rfl) hJ (fun v n' rp' hp' h => by obtain ⟨rfl, rfl, rfl, rfl⟩ := h; exact k)
theorem sX5_turnSleep_1 {g : Gh} {mc ms cu su : Nat} {L : List (Option Vv)} {st : List Vv} {hp h1 : HPt} {P : Pst} {x0 : Int32} {r : Int32} (hcu : cu ≤ mc) (hsu : su ≤ ms) (hcat : (st.map fun v => (trv g v).category).sum ≤ 8) (hJ : Ci g mX6_isStore [vI x0] hp r h1) (k : V g mX5_turnSleep mc ms cu su 609 4 L (vI r :: st) RP h1 P) : V g mX5_turnSleep mc ms cu su 609 1 L (vI x0 :: st) RP hp P :=
  r_callSN (as := [vI x0]) (mcj := 0) (msj := 0) (st := st) dX5_turnSleep_1 (coX6_isStore (Nat.le_of_ble_eq_true rfl) (Nat.le_of_ble_eq_true rfl)) wd_434 wd_435 rfl rfl hcat hcu hsu (Nat.le_of_ble_eq_true rfl) hJ (fun v n' rp' hp' h => by obtain ⟨rfl, rfl, rfl, rfl⟩ := h; exact k)
theorem sX5_versionsAtRisk_2 {g : Gh} {mc ms cu su : Nat} {L : List (Option Vv)} {st : List Vv} {hp h1 : HPt} {P : Pst} {x0 : Int32} {r : Int32} {b : A4} (hcu : cu ≤ mc) (hsu : su ≤ ms) (hob : okd b.1 = some 5) (hlv : lvp 609 b) (hcat : (st.map fun v => (trv g v).category).sum ≤ 8) (hJ : Ci g mX5_hasSecret [vR b, vI x0] hp r h1) (k : V g mX5_versionsAtRisk mc ms cu su 609 5 L (vI r :: st) RP h1 P) : V g mX5_versionsAtRisk mc ms cu su 609 2 L (vI x0 :: vR b :: st) RP hp P :=
  r_callV (as := [vI x0]) (b := b) (mcj := 0) (msj := 0) (st := st) dX5_versionsAtRisk_2 (coX5_hasSecret (Nat.le_of_ble_eq_true rfl) (Nat.le_of_ble_eq_true rfl)) wd_291 wd_293 wd_4 hob (q := (RX5, TX5, 10)) rfl rfl rfl hlv rfl hcat hcu hsu (Nat.le_of_ble_eq_true rfl) hJ (fun v n' rp' hp' h => by obtain ⟨rfl, rfl, rfl, rfl⟩ := h; exact k)
theorem sX5_versionsAtRisk_14 {g : Gh} {mc ms cu su : Nat} {L : List (Option Vv)} {st : List Vv} {hp h1 : HPt} {P : Pst} {r : Int32} {b : A4} (hcu : cu ≤ mc) (hsu : su ≤ ms) (hob : okd b.1 = some 4) (hlv : lvp 609 b) (hcat : (st.map fun v => (trv g v).category).sum ≤ 8) (hJ : Ci g mX4_rowsAtRisk [vR b] hp r h1) (k : V g mX5_versionsAtRisk mc ms cu su 609 17 L (vI r :: st) RP h1 P) : V g mX5_versionsAtRisk mc ms cu su 609 14 L (vR b :: st) RP hp P :=
  r_callVN (as := []) (b := b) (mcj := 0) (msj := 0) (st := st) dX5_versionsAtRisk_14 (coX4_rowsAtRisk (Nat.le_of_ble_eq_true rfl) (Nat.le_of_ble_eq_true rfl)) wd_599 wd_601 wd_50 hob (q := (RX4, TX4, 10)) rfl rfl rfl hlv rfl hcat hcu hsu (Nat.le_of_ble_eq_true rfl) hJ (fun v n' rp' hp' h => by obtain ⟨rfl, rfl, rfl, rfl⟩ := h; exact k)
theorem sX6_atRisk_5 {g : Gh} {mc ms cu su : Nat} {L : List (Option Vv)} {st : List Vv} {hp h1 : HPt} {P : Pst} {x0 : Int32} {r : Int32} {b : A4} (hcu : cu ≤ mc) (hsu : su ≤ ms) (hob : okd b.1 = some 5) (hlv : lvp 609 b) (hcat : (st.map fun v => (trv g v).category).sum ≤ 8) (hJ : Ci g mX5_versionsAtRisk [vR b, vI x0] hp r h1) (k : V g mX6_atRisk mc ms cu su 609 8 L (vI r :: st) RP h1 P) : V g mX6_atRisk mc ms cu su 609 5 L (vI x0 :: vR b :: st) RP hp P :=
  r_callVN (as := [vI x0]) (b := b) (mcj := 0) (msj := 0) (st := st) dX6_atRisk_5 (coX5_versionsAtRisk (Nat.le_of_ble_eq_true rfl) (Nat.le_of_ble_eq_true rfl)) wd_595 wd_597 wd_49 hob (q := (RX5, TX5, 10)) rfl rfl rfl hlv rfl hcat hcu hsu (Nat.le_of_ble_eq_true rfl) hJ (fun v n' rp' hp' h => by obtain ⟨rfl, rfl, rfl, rfl⟩ := h; exact k)
theorem sX6_burn_8 {g : Gh} {mc ms cu su : Nat} {L : List (Option Vv)} {st : List Vv} {hp h1 : HPt} {P : Pst} {x0 : A4} {b : A4} (hcu : cu ≤ mc) (hsu : su ≤ ms) (hob : okd b.1 = some 1) (hlv : lvp 609 b) (hcat : (st.map fun v => (trv g v).category).sum ≤ 8) (hJ : Cv g mX1_draft [vR b, vR x0] hp h1) (k : V g mX6_burn mc ms cu su 609 11 L (st) RP h1 P) : V g mX6_burn mc ms cu su 609 8 L (vR x0 :: vR b :: st) RP hp P :=
  r_callVN (as := [vR x0]) (b := b) (mcj := 0) (msj := 0) (st := st) dX6_burn_8 (coX1_draft (Nat.le_of_ble_eq_true rfl) (Nat.le_of_ble_eq_true rfl)) wd_359 wd_361 wd_16 hob (q := (RX1, TX1, 3)) rfl rfl rfl hlv rfl hcat hcu hsu (Nat.le_of_ble_eq_true rfl) hJ (fun v n' rp' hp' h => by obtain ⟨rfl, rfl, rfl, rfl⟩ := h; exact k)
theorem sX6_burn_17 {g : Gh} {mc ms cu su : Nat} {L : List (Option Vv)} {st : List Vv} {hp h1 : HPt} {P : Pst} {x0 : Int32} {r : Int32} {b : A4} (hcu : cu ≤ mc) (hsu : su ≤ ms) (hob : okd b.1 = some 5) (hlv : lvp 609 b) (hcat : (st.map fun v => (trv g v).category).sum ≤ 8) (hJ : Ci g mX5_burnOldVersions [vR b, vI x0] hp r h1) (k : V g mX6_burn mc ms cu su 609 20 L (vI r :: st) RP h1 P) : V g mX6_burn mc ms cu su 609 17 L (vI x0 :: vR b :: st) RP hp P :=
  r_callVN (as := [vI x0]) (b := b) (mcj := 0) (msj := 0) (st := st) dX6_burn_17 (coX5_burnOldVersions (Nat.le_of_ble_eq_true rfl) (Nat.le_of_ble_eq_true rfl)) wd_422 wd_424 wd_27 hob (q := (RX5, TX5, 10)) rfl rfl rfl hlv rfl hcat hcu hsu (Nat.le_of_ble_eq_true rfl) hJ (fun v n' rp' hp' h => by obtain ⟨rfl, rfl, rfl, rfl⟩ := h; exact k)
theorem sX6_burn_20 {g : Gh} {mc ms cu su : Nat} {L : List (Option Vv)} {st : List Vv} {hp h1 : HPt} {P : Pst} {x0 : Int32} {r : Int32} {b : A4} (hcu : cu ≤ mc) (hsu : su ≤ ms) (hob : okd b.1 = some 6) (hlv : lvp 609 b) (hcat : (st.map fun v => (trv g v).category).sum ≤ 8) (hJ : Ci g mX6_recorded [vR b, vI x0] hp r h1) (k : V g mX6_burn mc ms cu su 609 23 L (vI r :: st) RP h1 P) : V g mX6_burn mc ms cu su 609 20 L (vI x0 :: vR b :: st) RP hp P :=
  r_callV (as := [vI x0]) (b := b) (mcj := 0) (msj := 0) (st := st) dX6_burn_20 (coX6_recorded (Nat.le_of_ble_eq_true rfl) (Nat.le_of_ble_eq_true rfl)) wd_383 wd_385 wd_20 hob (q := (RX6, TX6, 6)) rfl rfl rfl hlv rfl hcat hcu hsu (Nat.le_of_ble_eq_true rfl) hJ (fun v n' rp' hp' h => by obtain ⟨rfl, rfl, rfl, rfl⟩ := h; exact k)
theorem sX6_count_33 {g : Gh} {mc ms cu su : Nat} {L : List (Option Vv)} {st : List Vv} {hp h1 : HPt} {P : Pst} {x0 : Int32} {r : Int32} {b : A4} (hcu : cu ≤ mc) (hsu : su ≤ ms) (hob : okd b.1 = some 5) (hlv : lvp 609 b) (hcat : (st.map fun v => (trv g v).category).sum ≤ 8) (hJ : Ci g mX5_figure [vR b, vI x0] hp r h1) (k : V g mX6_count mc ms cu su 609 36 L (vI r :: st) RP h1 P) : V g mX6_count mc ms cu su 609 33 L (vI x0 :: vR b :: st) RP hp P :=
  r_callVN (as := [vI x0]) (b := b) (mcj := 0) (msj := 0) (st := st) dX6_count_33 (coX5_figure (Nat.le_of_ble_eq_true rfl) (Nat.le_of_ble_eq_true rfl)) wd_271 wd_273 wd_0 hob (q := (RX5, TX5, 10)) rfl rfl rfl hlv rfl hcat hcu hsu (Nat.le_of_ble_eq_true rfl) hJ (fun v n' rp' hp' h => by obtain ⟨rfl, rfl, rfl, rfl⟩ := h; exact k)
theorem sX6_ifMerged_5 {g : Gh} {mc ms cu su : Nat} {L : List (Option Vv)} {st : List Vv} {hp h1 : HPt} {P : Pst} {x0 : Int32} {r : Int32} {b : A4} (hcu : cu ≤ mc) (hsu : su ≤ ms) (hob : okd b.1 = some 5) (hlv : lvp 609 b) (hcat : (st.map fun v => (trv g v).category).sum ≤ 8) (hJ : Ci g mX5_answerOfMerger [vR b, vI x0] hp r h1) (k : V g mX6_ifMerged mc ms cu su 609 8 L (vI r :: st) RP h1 P) : V g mX6_ifMerged mc ms cu su 609 5 L (vI x0 :: vR b :: st) RP hp P :=
  r_callVN (as := [vI x0]) (b := b) (mcj := 0) (msj := 0) (st := st) dX6_ifMerged_5 (coX5_answerOfMerger (Nat.le_of_ble_eq_true rfl) (Nat.le_of_ble_eq_true rfl)) wd_287 wd_289 wd_3 hob (q := (RX5, TX5, 10)) rfl rfl rfl hlv rfl hcat hcu hsu (Nat.le_of_ble_eq_true rfl) hJ (fun v n' rp' hp' h => by obtain ⟨rfl, rfl, rfl, rfl⟩ := h; exact k)
theorem sX6_keep_8 {g : Gh} {mc ms cu su : Nat} {L : List (Option Vv)} {st : List Vv} {hp h1 : HPt} {P : Pst} {x0 : A4} {b : A4} (hcu : cu ≤ mc) (hsu : su ≤ ms) (hob : okd b.1 = some 1) (hlv : lvp 609 b) (hcat : (st.map fun v => (trv g v).category).sum ≤ 8) (hJ : Cv g mX1_draft [vR b, vR x0] hp h1) (k : V g mX6_keep mc ms cu su 609 11 L (st) RP h1 P) : V g mX6_keep mc ms cu su 609 8 L (vR x0 :: vR b :: st) RP hp P :=
  r_callVN (as := [vR x0]) (b := b) (mcj := 0) (msj := 0) (st := st) dX6_keep_8 (coX1_draft (Nat.le_of_ble_eq_true rfl) (Nat.le_of_ble_eq_true rfl)) wd_359 wd_361 wd_16 hob (q := (RX1, TX1, 3)) rfl rfl rfl hlv rfl hcat hcu hsu (Nat.le_of_ble_eq_true rfl) hJ (fun v n' rp' hp' h => by obtain ⟨rfl, rfl, rfl, rfl⟩ := h; exact k)
theorem sX6_keep_17 {g : Gh} {mc ms cu su : Nat} {L : List (Option Vv)} {st : List Vv} {hp h1 : HPt} {P : Pst} {x0 : Int32} {r : Int32} {b : A4} (hcu : cu ≤ mc) (hsu : su ≤ ms) (hob : okd b.1 = some 5) (hlv : lvp 609 b) (hcat : (st.map fun v => (trv g v).category).sum ≤ 8) (hJ : Ci g mX5_adm [vR b, vI x0] hp r h1) (k : V g mX6_keep mc ms cu su 609 20 L (vI r :: st) RP h1 P) : V g mX6_keep mc ms cu su 609 17 L (vI x0 :: vR b :: st) RP hp P :=
  r_callVN (as := [vI x0]) (b := b) (mcj := 0) (msj := 0) (st := st) dX6_keep_17 (coX5_adm (Nat.le_of_ble_eq_true rfl) (Nat.le_of_ble_eq_true rfl)) wd_363 wd_365 wd_17 hob (q := (RX5, TX5, 10)) rfl rfl rfl hlv rfl hcat hcu hsu (Nat.le_of_ble_eq_true rfl) hJ (fun v n' rp' hp' h => by obtain ⟨rfl, rfl, rfl, rfl⟩ := h; exact k)
theorem sX6_keep_20 {g : Gh} {mc ms cu su : Nat} {L : List (Option Vv)} {st : List Vv} {hp h1 : HPt} {P : Pst} {x0 : Int32} {r : Int32} {b : A4} (hcu : cu ≤ mc) (hsu : su ≤ ms) (hob : okd b.1 = some 6) (hlv : lvp 609 b) (hcat : (st.map fun v => (trv g v).category).sum ≤ 8) (hJ : Ci g mX6_recorded [vR b, vI x0] hp r h1) (k : V g mX6_keep mc ms cu su 609 23 L (vI r :: st) RP h1 P) : V g mX6_keep mc ms cu su 609 20 L (vI x0 :: vR b :: st) RP hp P :=
  r_callV (as := [vI x0]) (b := b) (mcj := 0) (msj := 0) (st := st) dX6_keep_20 (coX6_recorded (Nat.le_of_ble_eq_true rfl) (Nat.le_of_ble_eq_true rfl)) wd_383 wd_385 wd_20 hob (q := (RX6, TX6, 6)) rfl rfl rfl hlv rfl hcat hcu hsu (Nat.le_of_ble_eq_true rfl) hJ (fun v n' rp' hp' h => by obtain ⟨rfl, rfl, rfl, rfl⟩ := h; exact k)
theorem sX6_lie_8 {g : Gh} {mc ms cu su : Nat} {L : List (Option Vv)} {st : List Vv} {hp h1 : HPt} {P : Pst} {x0 : A4} {b : A4} (hcu : cu ≤ mc) (hsu : su ≤ ms) (hob : okd b.1 = some 1) (hlv : lvp 609 b) (hcat : (st.map fun v => (trv g v).category).sum ≤ 8) (hJ : Cv g mX1_draft [vR b, vR x0] hp h1) (k : V g mX6_lie mc ms cu su 609 11 L (st) RP h1 P) : V g mX6_lie mc ms cu su 609 8 L (vR x0 :: vR b :: st) RP hp P :=
  r_callVN (as := [vR x0]) (b := b) (mcj := 0) (msj := 0) (st := st) dX6_lie_8 (coX1_draft (Nat.le_of_ble_eq_true rfl) (Nat.le_of_ble_eq_true rfl)) wd_359 wd_361 wd_16 hob (q := (RX1, TX1, 3)) rfl rfl rfl hlv rfl hcat hcu hsu (Nat.le_of_ble_eq_true rfl) hJ (fun v n' rp' hp' h => by obtain ⟨rfl, rfl, rfl, rfl⟩ := h; exact k)
theorem sX6_lie_21 {g : Gh} {mc ms cu su : Nat} {L : List (Option Vv)} {st : List Vv} {hp h1 : HPt} {P : Pst} {x0 : Int32} {x1 : Int32} {x2 : Int32} {x3 : Int32} {r : Int32} {b : A4} (hcu : cu ≤ mc) (hsu : su ≤ ms) (hob : okd b.1 = some 5) (hlv : lvp 609 b) (hcat : (st.map fun v => (trv g v).category).sum ≤ 8) (hJ : Ci g mX5_takeUpLie [vR b, vI x0, vI x1, vI x2, vI x3] hp r h1) (k : V g mX6_lie mc ms cu su 609 24 L (vI r :: st) RP h1 P) : V g mX6_lie mc ms cu su 609 21 L (vI x3 :: vI x2 :: vI x1 :: vI x0 :: vR b :: st) RP hp P :=
  r_callVN (as := [vI x0, vI x1, vI x2, vI x3]) (b := b) (mcj := 0) (msj := 0) (st := st) dX6_lie_21 (coX5_takeUpLie (Nat.le_of_ble_eq_true rfl) (Nat.le_of_ble_eq_true rfl)) wd_441 wd_443 wd_29 hob (q := (RX5, TX5, 10)) rfl rfl rfl hlv rfl hcat hcu hsu (Nat.le_of_ble_eq_true rfl) hJ (fun v n' rp' hp' h => by obtain ⟨rfl, rfl, rfl, rfl⟩ := h; exact k)
theorem sX6_lie_24 {g : Gh} {mc ms cu su : Nat} {L : List (Option Vv)} {st : List Vv} {hp h1 : HPt} {P : Pst} {x0 : Int32} {r : Int32} {b : A4} (hcu : cu ≤ mc) (hsu : su ≤ ms) (hob : okd b.1 = some 6) (hlv : lvp 609 b) (hcat : (st.map fun v => (trv g v).category).sum ≤ 8) (hJ : Ci g mX6_recorded [vR b, vI x0] hp r h1) (k : V g mX6_lie mc ms cu su 609 27 L (vI r :: st) RP h1 P) : V g mX6_lie mc ms cu su 609 24 L (vI x0 :: vR b :: st) RP hp P :=
  r_callV (as := [vI x0]) (b := b) (mcj := 0) (msj := 0) (st := st) dX6_lie_24 (coX6_recorded (Nat.le_of_ble_eq_true rfl) (Nat.le_of_ble_eq_true rfl)) wd_383 wd_385 wd_20 hob (q := (RX6, TX6, 6)) rfl rfl rfl hlv rfl hcat hcu hsu (Nat.le_of_ble_eq_true rfl) hJ (fun v n' rp' hp' h => by obtain ⟨rfl, rfl, rfl, rfl⟩ := h; exact k)
theorem sX6_merge_8 {g : Gh} {mc ms cu su : Nat} {L : List (Option Vv)} {st : List Vv} {hp h1 : HPt} {P : Pst} {x0 : A4} {b : A4} (hcu : cu ≤ mc) (hsu : su ≤ ms) (hob : okd b.1 = some 1) (hlv : lvp 609 b) (hcat : (st.map fun v => (trv g v).category).sum ≤ 8) (hJ : Cv g mX1_draft [vR b, vR x0] hp h1) (k : V g mX6_merge mc ms cu su 609 11 L (st) RP h1 P) : V g mX6_merge mc ms cu su 609 8 L (vR x0 :: vR b :: st) RP hp P :=
  r_callVN (as := [vR x0]) (b := b) (mcj := 0) (msj := 0) (st := st) dX6_merge_8 (coX1_draft (Nat.le_of_ble_eq_true rfl) (Nat.le_of_ble_eq_true rfl)) wd_359 wd_361 wd_16 hob (q := (RX1, TX1, 3)) rfl rfl rfl hlv rfl hcat hcu hsu (Nat.le_of_ble_eq_true rfl) hJ (fun v n' rp' hp' h => by obtain ⟨rfl, rfl, rfl, rfl⟩ := h; exact k)
theorem sX6_merge_17 {g : Gh} {mc ms cu su : Nat} {L : List (Option Vv)} {st : List Vv} {hp h1 : HPt} {P : Pst} {x0 : Int32} {r : Int32} {b : A4} (hcu : cu ≤ mc) (hsu : su ≤ ms) (hob : okd b.1 = some 5) (hlv : lvp 609 b) (hcat : (st.map fun v => (trv g v).category).sum ≤ 8) (hJ : Ci g mX5_mergeParts [vR b, vI x0] hp r h1) (k : V g mX6_merge mc ms cu su 609 20 L (vI r :: st) RP h1 P) : V g mX6_merge mc ms cu su 609 17 L (vI x0 :: vR b :: st) RP hp P :=
  r_callVN (as := [vI x0]) (b := b) (mcj := 0) (msj := 0) (st := st) dX6_merge_17 (coX5_mergeParts (Nat.le_of_ble_eq_true rfl) (Nat.le_of_ble_eq_true rfl)) wd_473 wd_475 wd_34 hob (q := (RX5, TX5, 10)) rfl rfl rfl hlv rfl hcat hcu hsu (Nat.le_of_ble_eq_true rfl) hJ (fun v n' rp' hp' h => by obtain ⟨rfl, rfl, rfl, rfl⟩ := h; exact k)
theorem sX6_merge_20 {g : Gh} {mc ms cu su : Nat} {L : List (Option Vv)} {st : List Vv} {hp h1 : HPt} {P : Pst} {x0 : Int32} {r : Int32} {b : A4} (hcu : cu ≤ mc) (hsu : su ≤ ms) (hob : okd b.1 = some 6) (hlv : lvp 609 b) (hcat : (st.map fun v => (trv g v).category).sum ≤ 8) (hJ : Ci g mX6_recorded [vR b, vI x0] hp r h1) (k : V g mX6_merge mc ms cu su 609 23 L (vI r :: st) RP h1 P) : V g mX6_merge mc ms cu su 609 20 L (vI x0 :: vR b :: st) RP hp P :=
  r_callV (as := [vI x0]) (b := b) (mcj := 0) (msj := 0) (st := st) dX6_merge_20 (coX6_recorded (Nat.le_of_ble_eq_true rfl) (Nat.le_of_ble_eq_true rfl)) wd_383 wd_385 wd_20 hob (q := (RX6, TX6, 6)) rfl rfl rfl hlv rfl hcat hcu hsu (Nat.le_of_ble_eq_true rfl) hJ (fun v n' rp' hp' h => by obtain ⟨rfl, rfl, rfl, rfl⟩ := h; exact k)
theorem sX6_needed_5 {g : Gh} {mc ms cu su : Nat} {L : List (Option Vv)} {st : List Vv} {hp h1 : HPt} {P : Pst} {x0 : Int32} {r : Int32} {b : A4} (hcu : cu ≤ mc) (hsu : su ≤ ms) (hob : okd b.1 = some 5) (hlv : lvp 609 b) (hcat : (st.map fun v => (trv g v).category).sum ≤ 8) (hJ : Ci g mX5_partsNeeded [vR b, vI x0] hp r h1) (k : V g mX6_needed mc ms cu su 609 8 L (vI r :: st) RP h1 P) : V g mX6_needed mc ms cu su 609 5 L (vI x0 :: vR b :: st) RP hp P :=
  r_callVN (as := [vI x0]) (b := b) (mcj := 0) (msj := 0) (st := st) dX6_needed_5 (coX5_partsNeeded (Nat.le_of_ble_eq_true rfl) (Nat.le_of_ble_eq_true rfl)) wd_607 wd_609 wd_51 hob (q := (RX5, TX5, 10)) rfl rfl rfl hlv rfl hcat hcu hsu (Nat.le_of_ble_eq_true rfl) hJ (fun v n' rp' hp' h => by obtain ⟨rfl, rfl, rfl, rfl⟩ := h; exact k)
theorem sX6_of_7 {g : Gh} {mc ms cu su : Nat} {L : List (Option Vv)} {st : List Vv} {hp h1 : HPt} {P : Pst} {x0 : Int32} {x1 : Int32} {x2 : Int32} {r : Int32} {b : A4} (hcu : cu ≤ mc) (hsu : su ≤ ms) (hob : okd b.1 = some 5) (hlv : lvp 609 b) (hcat : (st.map fun v => (trv g v).category).sum ≤ 8) (hJ : Ci g mX5_figureOfHalf [vR b, vI x0, vI x1, vI x2] hp r h1) (k : V g mX6_of mc ms cu su 609 10 L (vI r :: st) RP h1 P) : V g mX6_of mc ms cu su 609 7 L (vI x2 :: vI x1 :: vI x0 :: vR b :: st) RP hp P :=
  r_callVN (as := [vI x0, vI x1, vI x2]) (b := b) (mcj := 0) (msj := 0) (st := st) dX6_of_7 (coX5_figureOfHalf (Nat.le_of_ble_eq_true rfl) (Nat.le_of_ble_eq_true rfl)) wd_556 wd_558 wd_45 hob (q := (RX5, TX5, 10)) rfl rfl rfl hlv rfl hcat hcu hsu (Nat.le_of_ble_eq_true rfl) hJ (fun v n' rp' hp' h => by obtain ⟨rfl, rfl, rfl, rfl⟩ := h; exact k)
theorem sX6_ofSecret_6 {g : Gh} {mc ms cu su : Nat} {L : List (Option Vv)} {st : List Vv} {hp h1 : HPt} {P : Pst} {x0 : Int32} {x1 : Int32} {r : Int32} {b : A4} (hcu : cu ≤ mc) (hsu : su ≤ ms) (hob : okd b.1 = some 5) (hlv : lvp 609 b) (hcat : (st.map fun v => (trv g v).category).sum ≤ 8) (hJ : Ci g mX5_figureOfSecret [vR b, vI x0, vI x1] hp r h1) (k : V g mX6_ofSecret mc ms cu su 609 9 L (vI r :: st) RP h1 P) : V g mX6_ofSecret mc ms cu su 609 6 L (vI x1 :: vI x0 :: vR b :: st) RP hp P :=
  r_callVN (as := [vI x0, vI x1]) (b := b) (mcj := 0) (msj := 0) (st := st) dX6_ofSecret_6 (coX5_figureOfSecret (Nat.le_of_ble_eq_true rfl) (Nat.le_of_ble_eq_true rfl)) wd_490 wd_492 wd_37 hob (q := (RX5, TX5, 10)) rfl rfl rfl hlv rfl hcat hcu hsu (Nat.le_of_ble_eq_true rfl) hJ (fun v n' rp' hp' h => by obtain ⟨rfl, rfl, rfl, rfl⟩ := h; exact k)
theorem sX6_old_7 {g : Gh} {mc ms cu su : Nat} {L : List (Option Vv)} {st : List Vv} {hp h1 : HPt} {P : Pst} {x0 : Int32} {x1 : Int32} {x2 : Int32} {r : Int32} {b : A4} (hcu : cu ≤ mc) (hsu : su ≤ ms) (hob : okd b.1 = some 5) (hlv : lvp 609 b) (hcat : (st.map fun v => (trv g v).category).sum ≤ 8) (hJ : Ci g mX5_figureOfOldVersion [vR b, vI x0, vI x1, vI x2] hp r h1) (k : V g mX6_old mc ms cu su 609 10 L (vI r :: st) RP h1 P) : V g mX6_old mc ms cu su 609 7 L (vI x2 :: vI x1 :: vI x0 :: vR b :: st) RP hp P :=
  r_callVN (as := [vI x0, vI x1, vI x2]) (b := b) (mcj := 0) (msj := 0) (st := st) dX6_old_7 (coX5_figureOfOldVersion (Nat.le_of_ble_eq_true rfl) (Nat.le_of_ble_eq_true rfl)) wd_586 wd_588 wd_48 hob (q := (RX5, TX5, 10)) rfl rfl rfl hlv rfl hcat hcu hsu (Nat.le_of_ble_eq_true rfl) hJ (fun v n' rp' hp' h => by obtain ⟨rfl, rfl, rfl, rfl⟩ := h; exact k)
theorem sX6_otherwise_7 {g : Gh} {mc ms cu su : Nat} {L : List (Option Vv)} {st : List Vv} {hp h1 : HPt} {P : Pst} {x0 : Int32} {x1 : Int32} {x2 : Int32} {r : Int32} {b : A4} (hcu : cu ≤ mc) (hsu : su ≤ ms) (hob : okd b.1 = some 5) (hlv : lvp 609 b) (hcat : (st.map fun v => (trv g v).category).sum ≤ 8) (hJ : Ci g mX5_otherPartFor [vR b, vI x0, vI x1, vI x2] hp r h1) (k : V g mX6_otherwise mc ms cu su 609 10 L (vI r :: st) RP h1 P) : V g mX6_otherwise mc ms cu su 609 7 L (vI x2 :: vI x1 :: vI x0 :: vR b :: st) RP hp P :=
  r_callVN (as := [vI x0, vI x1, vI x2]) (b := b) (mcj := 0) (msj := 0) (st := st) dX6_otherwise_7 (coX5_otherPartFor (Nat.le_of_ble_eq_true rfl) (Nat.le_of_ble_eq_true rfl)) wd_578 wd_580 wd_47 hob (q := (RX5, TX5, 10)) rfl rfl rfl hlv rfl hcat hcu hsu (Nat.le_of_ble_eq_true rfl) hJ (fun v n' rp' hp' h => by obtain ⟨rfl, rfl, rfl, rfl⟩ := h; exact k)
theorem sX6_pass_8 {g : Gh} {mc ms cu su : Nat} {L : List (Option Vv)} {st : List Vv} {hp h1 : HPt} {P : Pst} {x0 : A4} {b : A4} (hcu : cu ≤ mc) (hsu : su ≤ ms) (hob : okd b.1 = some 1) (hlv : lvp 609 b) (hcat : (st.map fun v => (trv g v).category).sum ≤ 8) (hJ : Cv g mX1_draft [vR b, vR x0] hp h1) (k : V g mX6_pass mc ms cu su 609 11 L (st) RP h1 P) : V g mX6_pass mc ms cu su 609 8 L (vR x0 :: vR b :: st) RP hp P :=
  r_callVN (as := [vR x0]) (b := b) (mcj := 0) (msj := 0) (st := st) dX6_pass_8 (coX1_draft (Nat.le_of_ble_eq_true rfl) (Nat.le_of_ble_eq_true rfl)) wd_359 wd_361 wd_16 hob (q := (RX1, TX1, 3)) rfl rfl rfl hlv rfl hcat hcu hsu (Nat.le_of_ble_eq_true rfl) hJ (fun v n' rp' hp' h => by obtain ⟨rfl, rfl, rfl, rfl⟩ := h; exact k)
theorem sX6_pass_17 {g : Gh} {mc ms cu su : Nat} {L : List (Option Vv)} {st : List Vv} {hp h1 : HPt} {P : Pst} {x0 : Int32} {r : Int32} {b : A4} (hcu : cu ≤ mc) (hsu : su ≤ ms) (hob : okd b.1 = some 5) (hlv : lvp 609 b) (hcat : (st.map fun v => (trv g v).category).sum ≤ 8) (hJ : Ci g mX5_passBeats [vR b, vI x0] hp r h1) (k : V g mX6_pass mc ms cu su 609 20 L (vI r :: st) RP h1 P) : V g mX6_pass mc ms cu su 609 17 L (vI x0 :: vR b :: st) RP hp P :=
  r_callVN (as := [vI x0]) (b := b) (mcj := 0) (msj := 0) (st := st) dX6_pass_17 (coX5_passBeats (Nat.le_of_ble_eq_true rfl) (Nat.le_of_ble_eq_true rfl)) wd_515 wd_517 wd_41 hob (q := (RX5, TX5, 10)) rfl rfl rfl hlv rfl hcat hcu hsu (Nat.le_of_ble_eq_true rfl) hJ (fun v n' rp' hp' h => by obtain ⟨rfl, rfl, rfl, rfl⟩ := h; exact k)
theorem sX6_pass_20 {g : Gh} {mc ms cu su : Nat} {L : List (Option Vv)} {st : List Vv} {hp h1 : HPt} {P : Pst} {x0 : Int32} {r : Int32} {b : A4} (hcu : cu ≤ mc) (hsu : su ≤ ms) (hob : okd b.1 = some 6) (hlv : lvp 609 b) (hcat : (st.map fun v => (trv g v).category).sum ≤ 8) (hJ : Ci g mX6_recorded [vR b, vI x0] hp r h1) (k : V g mX6_pass mc ms cu su 609 23 L (vI r :: st) RP h1 P) : V g mX6_pass mc ms cu su 609 20 L (vI x0 :: vR b :: st) RP hp P :=
  r_callV (as := [vI x0]) (b := b) (mcj := 0) (msj := 0) (st := st) dX6_pass_20 (coX6_recorded (Nat.le_of_ble_eq_true rfl) (Nat.le_of_ble_eq_true rfl)) wd_383 wd_385 wd_20 hob (q := (RX6, TX6, 6)) rfl rfl rfl hlv rfl hcat hcu hsu (Nat.le_of_ble_eq_true rfl) hJ (fun v n' rp' hp' h => by obtain ⟨rfl, rfl, rfl, rfl⟩ := h; exact k)
theorem sX6_passes_7 {g : Gh} {mc ms cu su : Nat} {L : List (Option Vv)} {st : List Vv} {hp h1 : HPt} {P : Pst} {x0 : Int32} {x1 : Int32} {x2 : Int32} {r : Int32} {b : A4} (hcu : cu ≤ mc) (hsu : su ≤ ms) (hob : okd b.1 = some 5) (hlv : lvp 609 b) (hcat : (st.map fun v => (trv g v).category).sum ≤ 8) (hJ : Ci g mX5_offsetsThatPass [vR b, vI x0, vI x1, vI x2] hp r h1) (k : V g mX6_passes mc ms cu su 609 10 L (vI r :: st) RP h1 P) : V g mX6_passes mc ms cu su 609 7 L (vI x2 :: vI x1 :: vI x0 :: vR b :: st) RP hp P :=
  r_callVN (as := [vI x0, vI x1, vI x2]) (b := b) (mcj := 0) (msj := 0) (st := st) dX6_passes_7 (coX5_offsetsThatPass (Nat.le_of_ble_eq_true rfl) (Nat.le_of_ble_eq_true rfl)) wd_566 wd_568 wd_46 hob (q := (RX5, TX5, 10)) rfl rfl rfl hlv rfl hcat hcu hsu (Nat.le_of_ble_eq_true rfl) hJ (fun v n' rp' hp' h => by obtain ⟨rfl, rfl, rfl, rfl⟩ := h; exact k)
theorem sX6_passing_7 {g : Gh} {mc ms cu su : Nat} {L : List (Option Vv)} {st : List Vv} {hp h1 : HPt} {P : Pst} {x0 : Int32} {x1 : Int32} {x2 : Int32} {r : Int32} {b : A4} (hcu : cu ≤ mc) (hsu : su ≤ ms) (hob : okd b.1 = some 5) (hlv : lvp 609 b) (hcat : (st.map fun v => (trv g v).category).sum ≤ 8) (hJ : Ci g mX5_tagOffsetThatPasses [vR b, vI x0, vI x1, vI x2] hp r h1) (k : V g mX6_passing mc ms cu su 609 10 L (vI r :: st) RP h1 P) : V g mX6_passing mc ms cu su 609 7 L (vI x2 :: vI x1 :: vI x0 :: vR b :: st) RP hp P :=
  r_callVN (as := [vI x0, vI x1, vI x2]) (b := b) (mcj := 0) (msj := 0) (st := st) dX6_passing_7 (coX5_tagOffsetThatPasses (Nat.le_of_ble_eq_true rfl) (Nat.le_of_ble_eq_true rfl)) wd_460 wd_462 wd_32 hob (q := (RX5, TX5, 10)) rfl rfl rfl hlv rfl hcat hcu hsu (Nat.le_of_ble_eq_true rfl) hJ (fun v n' rp' hp' h => by obtain ⟨rfl, rfl, rfl, rfl⟩ := h; exact k)
theorem sX6_recorded_8 {g : Gh} {mc ms cu su : Nat} {L : List (Option Vv)} {st : List Vv} {hp h1 : HPt} {P : Pst} {b : A4} (hcu : cu ≤ mc) (hsu : su ≤ ms) (hob : okd b.1 = some 1) (hlv : lvp 609 b) (hcat : (st.map fun v => (trv g v).category).sum ≤ 8) (hJ : Cv g mX1_recordDraft [vR b] hp h1) (k : V g mX6_recorded mc ms cu su 609 11 L (st) RP h1 P) : V g mX6_recorded mc ms cu su 609 8 L (vR b :: st) RP hp P :=
  r_callVN (as := []) (b := b) (mcj := 0) (msj := 0) (st := st) dX6_recorded_8 (coX1_recordDraft (Nat.le_of_ble_eq_true rfl) (Nat.le_of_ble_eq_true rfl)) wd_387 wd_389 wd_21 hob (q := (RX1, TX1, 3)) rfl rfl rfl hlv rfl hcat hcu hsu (Nat.le_of_ble_eq_true rfl) hJ (fun v n' rp' hp' h => by obtain ⟨rfl, rfl, rfl, rfl⟩ := h; exact k)
theorem sX6_refresh_8 {g : Gh} {mc ms cu su : Nat} {L : List (Option Vv)} {st : List Vv} {hp h1 : HPt} {P : Pst} {x0 : A4} {b : A4} (hcu : cu ≤ mc) (hsu : su ≤ ms) (hob : okd b.1 = some 1) (hlv : lvp 609 b) (hcat : (st.map fun v => (trv g v).category).sum ≤ 8) (hJ : Cv g mX1_draft [vR b, vR x0] hp h1) (k : V g mX6_refresh mc ms cu su 609 11 L (st) RP h1 P) : V g mX6_refresh mc ms cu su 609 8 L (vR x0 :: vR b :: st) RP hp P :=
  r_callVN (as := [vR x0]) (b := b) (mcj := 0) (msj := 0) (st := st) dX6_refresh_8 (coX1_draft (Nat.le_of_ble_eq_true rfl) (Nat.le_of_ble_eq_true rfl)) wd_359 wd_361 wd_16 hob (q := (RX1, TX1, 3)) rfl rfl rfl hlv rfl hcat hcu hsu (Nat.le_of_ble_eq_true rfl) hJ (fun v n' rp' hp' h => by obtain ⟨rfl, rfl, rfl, rfl⟩ := h; exact k)
theorem sX6_refresh_17 {g : Gh} {mc ms cu su : Nat} {L : List (Option Vv)} {st : List Vv} {hp h1 : HPt} {P : Pst} {x0 : Int32} {r : Int32} {b : A4} (hcu : cu ≤ mc) (hsu : su ≤ ms) (hob : okd b.1 = some 5) (hlv : lvp 609 b) (hcat : (st.map fun v => (trv g v).category).sum ≤ 8) (hJ : Ci g mX5_renew [vR b, vI x0] hp r h1) (k : V g mX6_refresh mc ms cu su 609 20 L (vI r :: st) RP h1 P) : V g mX6_refresh mc ms cu su 609 17 L (vI x0 :: vR b :: st) RP hp P :=
  r_callVN (as := [vI x0]) (b := b) (mcj := 0) (msj := 0) (st := st) dX6_refresh_17 (coX5_renew (Nat.le_of_ble_eq_true rfl) (Nat.le_of_ble_eq_true rfl)) wd_395 wd_397 wd_22 hob (q := (RX5, TX5, 10)) rfl rfl rfl hlv rfl hcat hcu hsu (Nat.le_of_ble_eq_true rfl) hJ (fun v n' rp' hp' h => by obtain ⟨rfl, rfl, rfl, rfl⟩ := h; exact k)
theorem sX6_refresh_20 {g : Gh} {mc ms cu su : Nat} {L : List (Option Vv)} {st : List Vv} {hp h1 : HPt} {P : Pst} {x0 : Int32} {r : Int32} {b : A4} (hcu : cu ≤ mc) (hsu : su ≤ ms) (hob : okd b.1 = some 6) (hlv : lvp 609 b) (hcat : (st.map fun v => (trv g v).category).sum ≤ 8) (hJ : Ci g mX6_recorded [vR b, vI x0] hp r h1) (k : V g mX6_refresh mc ms cu su 609 23 L (vI r :: st) RP h1 P) : V g mX6_refresh mc ms cu su 609 20 L (vI x0 :: vR b :: st) RP hp P :=
  r_callV (as := [vI x0]) (b := b) (mcj := 0) (msj := 0) (st := st) dX6_refresh_20 (coX6_recorded (Nat.le_of_ble_eq_true rfl) (Nat.le_of_ble_eq_true rfl)) wd_383 wd_385 wd_20 hob (q := (RX6, TX6, 6)) rfl rfl rfl hlv rfl hcat hcu hsu (Nat.le_of_ble_eq_true rfl) hJ (fun v n' rp' hp' h => by obtain ⟨rfl, rfl, rfl, rfl⟩ := h; exact k)
theorem sX6_seed_8 {g : Gh} {mc ms cu su : Nat} {L : List (Option Vv)} {st : List Vv} {hp h1 : HPt} {P : Pst} {x0 : A4} {b : A4} (hcu : cu ≤ mc) (hsu : su ≤ ms) (hob : okd b.1 = some 1) (hlv : lvp 609 b) (hcat : (st.map fun v => (trv g v).category).sum ≤ 8) (hJ : Cv g mX1_draft [vR b, vR x0] hp h1) (k : V g mX6_seed mc ms cu su 609 11 L (st) RP h1 P) : V g mX6_seed mc ms cu su 609 8 L (vR x0 :: vR b :: st) RP hp P :=
  r_callVN (as := [vR x0]) (b := b) (mcj := 0) (msj := 0) (st := st) dX6_seed_8 (coX1_draft (Nat.le_of_ble_eq_true rfl) (Nat.le_of_ble_eq_true rfl)) wd_359 wd_361 wd_16 hob (q := (RX1, TX1, 3)) rfl rfl rfl hlv rfl hcat hcu hsu (Nat.le_of_ble_eq_true rfl) hJ (fun v n' rp' hp' h => by obtain ⟨rfl, rfl, rfl, rfl⟩ := h; exact k)
theorem sX6_seed_17 {g : Gh} {mc ms cu su : Nat} {L : List (Option Vv)} {st : List Vv} {hp h1 : HPt} {P : Pst} {x0 : Int32} {r : Int32} {b : A4} (hcu : cu ≤ mc) (hsu : su ≤ ms) (hob : okd b.1 = some 5) (hlv : lvp 609 b) (hcat : (st.map fun v => (trv g v).category).sum ≤ 8) (hJ : Ci g mX5_changeX [vR b, vI x0] hp r h1) (k : V g mX6_seed mc ms cu su 609 20 L (vI r :: st) RP h1 P) : V g mX6_seed mc ms cu su 609 17 L (vI x0 :: vR b :: st) RP hp P :=
  r_callVN (as := [vI x0]) (b := b) (mcj := 0) (msj := 0) (st := st) dX6_seed_17 (coX5_changeX (Nat.le_of_ble_eq_true rfl) (Nat.le_of_ble_eq_true rfl)) wd_542 wd_544 wd_44 hob (q := (RX5, TX5, 10)) rfl rfl rfl hlv rfl hcat hcu hsu (Nat.le_of_ble_eq_true rfl) hJ (fun v n' rp' hp' h => by obtain ⟨rfl, rfl, rfl, rfl⟩ := h; exact k)
theorem sX6_seed_20 {g : Gh} {mc ms cu su : Nat} {L : List (Option Vv)} {st : List Vv} {hp h1 : HPt} {P : Pst} {x0 : Int32} {r : Int32} {b : A4} (hcu : cu ≤ mc) (hsu : su ≤ ms) (hob : okd b.1 = some 6) (hlv : lvp 609 b) (hcat : (st.map fun v => (trv g v).category).sum ≤ 8) (hJ : Ci g mX6_recorded [vR b, vI x0] hp r h1) (k : V g mX6_seed mc ms cu su 609 23 L (vI r :: st) RP h1 P) : V g mX6_seed mc ms cu su 609 20 L (vI x0 :: vR b :: st) RP hp P :=
  r_callV (as := [vI x0]) (b := b) (mcj := 0) (msj := 0) (st := st) dX6_seed_20 (coX6_recorded (Nat.le_of_ble_eq_true rfl) (Nat.le_of_ble_eq_true rfl)) wd_383 wd_385 wd_20 hob (q := (RX6, TX6, 6)) rfl rfl rfl hlv rfl hcat hcu hsu (Nat.le_of_ble_eq_true rfl) hJ (fun v n' rp' hp' h => by obtain ⟨rfl, rfl, rfl, rfl⟩ := h; exact k)
theorem sX6_set_8 {g : Gh} {mc ms cu su : Nat} {L : List (Option Vv)} {st : List Vv} {hp h1 : HPt} {P : Pst} {x0 : A4} {b : A4} (hcu : cu ≤ mc) (hsu : su ≤ ms) (hob : okd b.1 = some 1) (hlv : lvp 609 b) (hcat : (st.map fun v => (trv g v).category).sum ≤ 8) (hJ : Cv g mX1_draft [vR b, vR x0] hp h1) (k : V g mX6_set mc ms cu su 609 11 L (st) RP h1 P) : V g mX6_set mc ms cu su 609 8 L (vR x0 :: vR b :: st) RP hp P :=
  r_callVN (as := [vR x0]) (b := b) (mcj := 0) (msj := 0) (st := st) dX6_set_8 (coX1_draft (Nat.le_of_ble_eq_true rfl) (Nat.le_of_ble_eq_true rfl)) wd_359 wd_361 wd_16 hob (q := (RX1, TX1, 3)) rfl rfl rfl hlv rfl hcat hcu hsu (Nat.le_of_ble_eq_true rfl) hJ (fun v n' rp' hp' h => by obtain ⟨rfl, rfl, rfl, rfl⟩ := h; exact k)
theorem sX6_set_18 {g : Gh} {mc ms cu su : Nat} {L : List (Option Vv)} {st : List Vv} {hp h1 : HPt} {P : Pst} {x0 : Int32} {x1 : Int32} {r : Int32} {b : A4} (hcu : cu ≤ mc) (hsu : su ≤ ms) (hob : okd b.1 = some 5) (hlv : lvp 609 b) (hcat : (st.map fun v => (trv g v).category).sum ≤ 8) (hJ : Ci g mX5_changeSetting [vR b, vI x0, vI x1] hp r h1) (k : V g mX6_set mc ms cu su 609 21 L (vI r :: st) RP h1 P) : V g mX6_set mc ms cu su 609 18 L (vI x1 :: vI x0 :: vR b :: st) RP hp P :=
  r_callVN (as := [vI x0, vI x1]) (b := b) (mcj := 0) (msj := 0) (st := st) dX6_set_18 (coX5_changeSetting (Nat.le_of_ble_eq_true rfl) (Nat.le_of_ble_eq_true rfl)) wd_530 wd_532 wd_43 hob (q := (RX5, TX5, 10)) rfl rfl rfl hlv rfl hcat hcu hsu (Nat.le_of_ble_eq_true rfl) hJ (fun v n' rp' hp' h => by obtain ⟨rfl, rfl, rfl, rfl⟩ := h; exact k)
theorem sX6_set_21 {g : Gh} {mc ms cu su : Nat} {L : List (Option Vv)} {st : List Vv} {hp h1 : HPt} {P : Pst} {x0 : Int32} {r : Int32} {b : A4} (hcu : cu ≤ mc) (hsu : su ≤ ms) (hob : okd b.1 = some 6) (hlv : lvp 609 b) (hcat : (st.map fun v => (trv g v).category).sum ≤ 8) (hJ : Ci g mX6_recorded [vR b, vI x0] hp r h1) (k : V g mX6_set mc ms cu su 609 24 L (vI r :: st) RP h1 P) : V g mX6_set mc ms cu su 609 21 L (vI x0 :: vR b :: st) RP hp P :=
  r_callV (as := [vI x0]) (b := b) (mcj := 0) (msj := 0) (st := st) dX6_set_21 (coX6_recorded (Nat.le_of_ble_eq_true rfl) (Nat.le_of_ble_eq_true rfl)) wd_383 wd_385 wd_20 hob (q := (RX6, TX6, 6)) rfl rfl rfl hlv rfl hcat hcu hsu (Nat.le_of_ble_eq_true rfl) hJ (fun v n' rp' hp' h => by obtain ⟨rfl, rfl, rfl, rfl⟩ := h; exact k)
theorem sX6_sleep_8 {g : Gh} {mc ms cu su : Nat} {L : List (Option Vv)} {st : List Vv} {hp h1 : HPt} {P : Pst} {x0 : A4} {b : A4} (hcu : cu ≤ mc) (hsu : su ≤ ms) (hob : okd b.1 = some 1) (hlv : lvp 609 b) (hcat : (st.map fun v => (trv g v).category).sum ≤ 8) (hJ : Cv g mX1_draft [vR b, vR x0] hp h1) (k : V g mX6_sleep mc ms cu su 609 11 L (st) RP h1 P) : V g mX6_sleep mc ms cu su 609 8 L (vR x0 :: vR b :: st) RP hp P :=
  r_callVN (as := [vR x0]) (b := b) (mcj := 0) (msj := 0) (st := st) dX6_sleep_8 (coX1_draft (Nat.le_of_ble_eq_true rfl) (Nat.le_of_ble_eq_true rfl)) wd_359 wd_361 wd_16 hob (q := (RX1, TX1, 3)) rfl rfl rfl hlv rfl hcat hcu hsu (Nat.le_of_ble_eq_true rfl) hJ (fun v n' rp' hp' h => by obtain ⟨rfl, rfl, rfl, rfl⟩ := h; exact k)
theorem sX6_sleep_17 {g : Gh} {mc ms cu su : Nat} {L : List (Option Vv)} {st : List Vv} {hp h1 : HPt} {P : Pst} {x0 : Int32} {r : Int32} {b : A4} (hcu : cu ≤ mc) (hsu : su ≤ ms) (hob : okd b.1 = some 5) (hlv : lvp 609 b) (hcat : (st.map fun v => (trv g v).category).sum ≤ 8) (hJ : Ci g mX5_turnSleep [vR b, vI x0] hp r h1) (k : V g mX6_sleep mc ms cu su 609 20 L (vI r :: st) RP h1 P) : V g mX6_sleep mc ms cu su 609 17 L (vI x0 :: vR b :: st) RP hp P :=
  r_callVN (as := [vI x0]) (b := b) (mcj := 0) (msj := 0) (st := st) dX6_sleep_17 (coX5_turnSleep (Nat.le_of_ble_eq_true rfl) (Nat.le_of_ble_eq_true rfl)) wd_430 wd_432 wd_28 hob (q := (RX5, TX5, 10)) rfl rfl rfl hlv rfl hcat hcu hsu (Nat.le_of_ble_eq_true rfl) hJ (fun v n' rp' hp' h => by obtain ⟨rfl, rfl, rfl, rfl⟩ := h; exact k)
theorem sX6_sleep_20 {g : Gh} {mc ms cu su : Nat} {L : List (Option Vv)} {st : List Vv} {hp h1 : HPt} {P : Pst} {x0 : Int32} {r : Int32} {b : A4} (hcu : cu ≤ mc) (hsu : su ≤ ms) (hob : okd b.1 = some 6) (hlv : lvp 609 b) (hcat : (st.map fun v => (trv g v).category).sum ≤ 8) (hJ : Ci g mX6_recorded [vR b, vI x0] hp r h1) (k : V g mX6_sleep mc ms cu su 609 23 L (vI r :: st) RP h1 P) : V g mX6_sleep mc ms cu su 609 20 L (vI x0 :: vR b :: st) RP hp P :=
  r_callV (as := [vI x0]) (b := b) (mcj := 0) (msj := 0) (st := st) dX6_sleep_20 (coX6_recorded (Nat.le_of_ble_eq_true rfl) (Nat.le_of_ble_eq_true rfl)) wd_383 wd_385 wd_20 hob (q := (RX6, TX6, 6)) rfl rfl rfl hlv rfl hcat hcu hsu (Nat.le_of_ble_eq_true rfl) hJ (fun v n' rp' hp' h => by obtain ⟨rfl, rfl, rfl, rfl⟩ := h; exact k)
theorem sX6_steal_8 {g : Gh} {mc ms cu su : Nat} {L : List (Option Vv)} {st : List Vv} {hp h1 : HPt} {P : Pst} {x0 : A4} {b : A4} (hcu : cu ≤ mc) (hsu : su ≤ ms) (hob : okd b.1 = some 1) (hlv : lvp 609 b) (hcat : (st.map fun v => (trv g v).category).sum ≤ 8) (hJ : Cv g mX1_draft [vR b, vR x0] hp h1) (k : V g mX6_steal mc ms cu su 609 11 L (st) RP h1 P) : V g mX6_steal mc ms cu su 609 8 L (vR x0 :: vR b :: st) RP hp P :=
  r_callVN (as := [vR x0]) (b := b) (mcj := 0) (msj := 0) (st := st) dX6_steal_8 (coX1_draft (Nat.le_of_ble_eq_true rfl) (Nat.le_of_ble_eq_true rfl)) wd_359 wd_361 wd_16 hob (q := (RX1, TX1, 3)) rfl rfl rfl hlv rfl hcat hcu hsu (Nat.le_of_ble_eq_true rfl) hJ (fun v n' rp' hp' h => by obtain ⟨rfl, rfl, rfl, rfl⟩ := h; exact k)
theorem sX6_steal_19 {g : Gh} {mc ms cu su : Nat} {L : List (Option Vv)} {st : List Vv} {hp h1 : HPt} {P : Pst} {x0 : Int32} {x1 : Int32} {x2 : Int32} {r : Int32} {b : A4} (hcu : cu ≤ mc) (hsu : su ≤ ms) (hob : okd b.1 = some 5) (hlv : lvp 609 b) (hcat : (st.map fun v => (trv g v).category).sum ≤ 8) (hJ : Ci g mX5_givePartToThief [vR b, vI x0, vI x1, vI x2] hp r h1) (k : V g mX6_steal mc ms cu su 609 22 L (vI r :: st) RP h1 P) : V g mX6_steal mc ms cu su 609 19 L (vI x2 :: vI x1 :: vI x0 :: vR b :: st) RP hp P :=
  r_callVN (as := [vI x0, vI x1, vI x2]) (b := b) (mcj := 0) (msj := 0) (st := st) dX6_steal_19 (coX5_givePartToThief (Nat.le_of_ble_eq_true rfl) (Nat.le_of_ble_eq_true rfl)) wd_498 wd_500 wd_38 hob (q := (RX5, TX5, 10)) rfl rfl rfl hlv rfl hcat hcu hsu (Nat.le_of_ble_eq_true rfl) hJ (fun v n' rp' hp' h => by obtain ⟨rfl, rfl, rfl, rfl⟩ := h; exact k)
theorem sX6_steal_22 {g : Gh} {mc ms cu su : Nat} {L : List (Option Vv)} {st : List Vv} {hp h1 : HPt} {P : Pst} {x0 : Int32} {r : Int32} {b : A4} (hcu : cu ≤ mc) (hsu : su ≤ ms) (hob : okd b.1 = some 6) (hlv : lvp 609 b) (hcat : (st.map fun v => (trv g v).category).sum ≤ 8) (hJ : Ci g mX6_recorded [vR b, vI x0] hp r h1) (k : V g mX6_steal mc ms cu su 609 25 L (vI r :: st) RP h1 P) : V g mX6_steal mc ms cu su 609 22 L (vI x0 :: vR b :: st) RP hp P :=
  r_callV (as := [vI x0]) (b := b) (mcj := 0) (msj := 0) (st := st) dX6_steal_22 (coX6_recorded (Nat.le_of_ble_eq_true rfl) (Nat.le_of_ble_eq_true rfl)) wd_383 wd_385 wd_20 hob (q := (RX6, TX6, 6)) rfl rfl rfl hlv rfl hcat hcu hsu (Nat.le_of_ble_eq_true rfl) hJ (fun v n' rp' hp' h => by obtain ⟨rfl, rfl, rfl, rfl⟩ := h; exact k)
theorem sX6_undo_8 {g : Gh} {mc ms cu su : Nat} {L : List (Option Vv)} {st : List Vv} {hp h1 : HPt} {P : Pst} {x0 : A4} {r : Int32} {b : A4} (hcu : cu ≤ mc) (hsu : su ≤ ms) (hob : okd b.1 = some 1) (hlv : lvp 609 b) (hcat : (st.map fun v => (trv g v).category).sum ≤ 8) (hJ : Ci g mX1_takesBack [vR b, vR x0] hp r h1) (k : V g mX6_undo mc ms cu su 609 11 L (vI r :: st) RP h1 P) : V g mX6_undo mc ms cu su 609 8 L (vR x0 :: vR b :: st) RP hp P :=
  r_callVN (as := [vR x0]) (b := b) (mcj := 0) (msj := 0) (st := st) dX6_undo_8 (coX1_takesBack (Nat.le_of_ble_eq_true rfl) (Nat.le_of_ble_eq_true rfl)) wd_328 wd_330 wd_12 hob (q := (RX1, TX1, 3)) rfl rfl rfl hlv rfl hcat hcu hsu (Nat.le_of_ble_eq_true rfl) hJ (fun v n' rp' hp' h => by obtain ⟨rfl, rfl, rfl, rfl⟩ := h; exact k)
end
section
section DR
variable {g : Gh} {M : Md} {mc ms cu su n pc : Nat} {L : List (Option Vv)} {st : List Vv} {rp : RPt} {hp h1 : HPt} {P : Pst}
theorem r_inc1 {i : Nat} {x : Int32} (hd : decode (mC M) pc = .ok (.iinc i 1, 3)) (hx : L[i]? = some (some (vI x))) (hn : i < mL M) (hln : lnl L i = true) (k : V g M mc ms cu su n (pc + 3) (L.set i (some (vI (x + 1)))) st rp hp P) : V g M mc ms cu su n pc L st rp hp P := r_iinc hd hx rfl hn hln rfl k
theorem r_dec1 {i : Nat} {x : Int32} (hd : decode (mC M) pc = .ok (.iinc i (-1), 3)) (hx : L[i]? = some (some (vI x))) (hn : i < mL M) (hln : lnl L i = true) (k : V g M mc ms cu su n (pc + 3) (L.set i (some (vI (x + (-1))))) st rp hp P) : V g M mc ms cu su n pc L st rp hp P := r_iinc hd hx rfl hn hln rfl k
theorem vpN {x : Int32} {k len : Nat} (hx : x = nI k) (hk : k < len) (hl : len < 2 ^ 31) : vp_in x len ∧ x.toNatClampNeg = k := by
  subst hx
  exact ⟨vp_in_nI hk hl, nI_clamp (by omega)⟩
theorem akd_len {a t len : Nat} (h : akd a = some (t, len)) : len < 2 ^ 31 := by
  unfold akd at h
  split at h <;> cases h <;> decide
theorem rkd_len {a t len : Nat} (h : rkd a = some (t, len)) : len < 2 ^ 31 := by
  unfold rkd at h
  split at h <;> cases h <;> decide
theorem n_iald {a : A4} {x : Int32} {k len : Nat} (hd : decode (mC M) pc = .ok (.iaload, 1)) (ho : akd a.1 = some (0, len)) (hlv : lvp n a) (hx : x = nI k) (hk : k < len) (kk : V g M mc ms cu su n (pc + 1) L (vI (hp a k) :: st) rp hp P) : V g M mc ms cu su n pc L (vI x :: vR a :: st) rp hp P := by
  obtain ⟨h1, h2⟩ := vpN hx hk (akd_len ho)
  exact r_iald hd ho hlv h1 (by rw [h2]; exact kk)
theorem n_zald {a : A4} {x : Int32} {k len : Nat} (hd : decode (mC M) pc = .ok (.baload, 1)) (ho : akd a.1 = some (1, len)) (hlv : lvp n a) (hx : x = nI k) (hk : k < len) (kk : V g M mc ms cu su n (pc + 1) L (vI (hp a k) :: st) rp hp P) : V g M mc ms cu su n pc L (vI x :: vR a :: st) rp hp P := by
  obtain ⟨h1, h2⟩ := vpN hx hk (akd_len ho)
  exact r_zald hd ho hlv h1 (by rw [h2]; exact kk)
theorem n_cald {a : A4} {x : Int32} {k len : Nat} (hd : decode (mC M) pc = .ok (.caload, 1)) (ho : akd a.1 = some (2, len)) (hlv : lvp n a) (hx : x = nI k) (hk : k < len) (kk : V g M mc ms cu su n (pc + 1) L (vI (hp a k) :: st) rp hp P) : V g M mc ms cu su n pc L (vI x :: vR a :: st) rp hp P := by
  obtain ⟨h1, h2⟩ := vpN hx hk (akd_len ho)
  exact r_cald hd ho hlv h1 (by rw [h2]; exact kk)
theorem n_aald {a b : A4} {x : Int32} {k t len : Nat} (hd : decode (mC M) pc = .ok (.aaload, 1)) (ho : rkd a.1 = some (t, len)) (hlv : lvp n a) (hx : x = nI k) (hk : k < len) (hb : rp a k = some b) (kk : V g M mc ms cu su n (pc + 1) L (vR b :: st) rp hp P) : V g M mc ms cu su n pc L (vI x :: vR a :: st) rp hp P := by
  obtain ⟨h1, h2⟩ := vpN hx hk (rkd_len ho)
  exact r_aald hd ho hlv h1 (by rw [h2]; exact hb) kk
theorem n_iast {a : A4} {x y : Int32} {k len : Nat} (hd : decode (mC M) pc = .ok (.iastore, 1)) (ho : akd a.1 = some (0, len)) (hlv : lvp n a) (hx : x = nI k) (hk : k < len) (kk : V g M mc ms cu su n (pc + 1) L st rp (hset hp a k y) P) : V g M mc ms cu su n pc L (vI y :: vI x :: vR a :: st) rp hp P := by
  obtain ⟨h1, h2⟩ := vpN hx hk (akd_len ho)
  exact r_iast hd ho hlv h1 (by rw [h2]; exact kk)
theorem n_zast {a : A4} {x y : Int32} {k len : Nat} (hd : decode (mC M) pc = .ok (.bastore, 1)) (ho : akd a.1 = some (1, len)) (hlv : lvp n a) (hx : x = nI k) (hk : k < len) (hy : vp_nar .boolean y = y) (kk : V g M mc ms cu su n (pc + 1) L st rp (hset hp a k y) P) : V g M mc ms cu su n pc L (vI y :: vI x :: vR a :: st) rp hp P := by
  obtain ⟨h1, h2⟩ := vpN hx hk (akd_len ho)
  exact r_zast hd ho hlv h1 hy (by rw [h2]; exact kk)
theorem n_cast {a : A4} {x y : Int32} {k len : Nat} (hd : decode (mC M) pc = .ok (.castore, 1)) (ho : akd a.1 = some (2, len)) (hlv : lvp n a) (hx : x = nI k) (hk : k < len) (hy : vp_nar .char y = y) (kk : V g M mc ms cu su n (pc + 1) L st rp (hset hp a k y) P) : V g M mc ms cu su n pc L (vI y :: vI x :: vR a :: st) rp hp P := by
  obtain ⟨h1, h2⟩ := vpN hx hk (akd_len ho)
  exact r_cast hd ho hlv h1 hy (by rw [h2]; exact kk)
theorem n_xald {t k : Nat} {x : Int32} (hd : decode (mC M) pc = .ok (.iaload, 1)) (ht : t < 3) (hx : x = nI k) (hk : k < (g.2.2.2.2 t).1) (hl : (g.2.2.2.2 t).1 < 2 ^ 31) (kk : V g M mc ms cu su n (pc + 1) L (vI ((g.2.2.2.2 t).2 k) :: st) rp hp P) : V g M mc ms cu su n pc L (vI x :: vR (24, t, 0, 0) :: st) rp hp P := by
  obtain ⟨h1, h2⟩ := vpN hx hk hl
  exact r_xald hd ht h1 (by rw [h2]; exact kk)
/-- ends of methods that make no cell -/
theorem e_i {x r : Int32} {ty : FieldType} (hd : decode (mC M) pc = .ok (.ireturn, 1)) (hr : mR M = some ty) (hx : narrow ty (.int x) = .int x) (h : x = r) (hh : hp = h1) : V g M 0 0 0 0 609 pc L [vI x] RP hp (Pi r h1) := r_retI hd hr hx (Nat.le_refl _) (Nat.le_refl _) ⟨by rw [h], rfl, rfl, hh⟩
theorem e_v (hd : decode (mC M) pc = .ok (.return_, 1)) (hr : mR M = none) (hh : hp = h1) : V g M 0 0 0 0 609 pc L [] RP hp (Pv h1) := r_retV hd hr (Nat.le_refl _) (Nat.le_refl _) ⟨rfl, rfl, rfl, hh⟩
theorem e_a {a b : A4} {Cn : String} (hd : decode (mC M) pc = .ok (.areturn, 1)) (hr : mR M = some (.object Cn)) (h : a = b) (hh : hp = h1) : V g M 0 0 0 0 609 pc L [vR a] RP hp (Pa b h1) := r_retA hd hr (Nat.le_refl _) (Nat.le_refl _) ⟨by rw [h], rfl, rfl, hh⟩
/-- the same with the judgement's own end replaced -/
theorem V.post {Q : Pst} (h : V g M mc ms cu su n pc L st rp hp Q) (hQ : ∀ v n' rp' hp', Q v n' rp' hp' → P v n' rp' hp') : V g M mc ms cu su n pc L st rp hp P := by
  intro p l e R s m args below meth c Q C RT
  exact h p l e R s m args below meth c Q C (fun v n' cu' su' rp' hp' H' locs' LS' pc' hq => RT v n' cu' su' rp' hp' H' locs' LS' pc' (hQ v n' rp' hp' hq))
theorem V.eqH {hp2 : HPt} (e : hp = hp2) (h : V g M mc ms cu su n pc L st rp hp2 P) : V g M mc ms cu su n pc L st rp hp P := e ▸ h
theorem V.eqL {L2 : List (Option Vv)} (e : L = L2) (h : V g M mc ms cu su n pc L2 st rp hp P) : V g M mc ms cu su n pc L st rp hp P := e ▸ h
theorem V.eqS {st2 : List Vv} (e : st = st2) (h : V g M mc ms cu su n pc L st2 rp hp P) : V g M mc ms cu su n pc L st rp hp P := e ▸ h
theorem Ci.eq {J : Md} {as : List Vv} {r r2 : Int32} {h2 : HPt} (h : Ci g J as hp r h1) (e : r = r2) (e2 : h1 = h2) : Ci g J as hp r2 h2 := e ▸ e2 ▸ h
end DR
theorem hs_eq {hp : HPt} {a : A4} {i : Nat} {x : Int32} : hset hp a i x a i = x := by simp [hset]
theorem hs_a {hp : HPt} {a b : A4} {i k : Nat} {x : Int32} (h : b ≠ a) : hset hp a i x b k = hp b k := by simp [hset, h]
theorem hs_i {hp : HPt} {a b : A4} {i k : Nat} {x : Int32} (h : k ≠ i) : hset hp a i x b k = hp b k := by simp [hset, h]
/-- a truth as an int -/
def bi (b : Bool) : Int32 := if b = true then 1 else 0
theorem bi_nar (b : Bool) : narrow .boolean (.int (bi b)) = .int (bi b) := by cases b <;> rfl
theorem bi_fit (b : Bool) : narrow .boolean (.int (bi b)) = .int (bi b) ∧ fits .boolean (.int (bi b)) = true := by cases b <;> exact ⟨rfl, rfl⟩
theorem bi_vp (b : Bool) : vp_nar .boolean (bi b) = bi b := by cases b <;> rfl
theorem bi_0 {b : Bool} : bi b = 0 ↔ b = false := by cases b <;> simp [bi]
theorem bi_n0 {b : Bool} : ¬ bi b = 0 ↔ b = true := by cases b <;> simp [bi]
theorem bi_t {b : Bool} (h : b = true) : (1 : Int32) = bi b := by rw [h]; rfl
theorem bi_f {b : Bool} (h : b = false) : (0 : Int32) = bi b := by rw [h]; rfl
end
section
theorem tX0_partWith {g : Gh} {t j b : Nat} {hp : HPt} {o : Int32} (ht : t < 10) (hj : j < 8) (hb : b < 2) : Ci g mX0_partWith [vR (5, t, j, b), vI o] hp (jrem (hp (6, t, j, b) 0 + o) 256) hp := by
  unfold Ci
  refine r_aload_n dX0_partWith_0 (i := 0) rfl rfl ?_
  refine r_getR dX0_partWith_1 f_0_9 rfl rfl rfl (lv5 (by first | assumption | decide | omega) (by first | assumption | decide | omega) (by first | assumption | decide | omega)) ?_
  refine r_iconst dX0_partWith_4 (v := 0) rfl ?_
  refine n_iald dX0_partWith_5 rfl (lv6 (by first | assumption | decide | omega) (by first | assumption | decide | omega) (by first | assumption | decide | omega)) (k := 0) rfl (by decide) ?_
  refine r_iload_n dX0_partWith_6 (i := 1) rfl rfl ?_
  refine r_iadd dX0_partWith_7 ?_
  refine r_sipush dX0_partWith_8 (v := 256) rfl ?_
  refine r_irem dX0_partWith_11 (by decide) ?_
  exact e_i dX0_partWith_12 rfl (by first | rfl | exact bi_nar _) (by first | rfl | simp [bi, *]) rfl
theorem tX0_toldPart {g : Gh} {t j b : Nat} {hp : HPt} (ht : t < 10) (hj : j < 8) (hb : b < 2) : Ci g mX0_toldPart [vR (5, t, j, b)] hp (jrem (hp (6, t, j, b) 0 + hp (5, t, j, b) 5) 256) hp := by
  unfold Ci
  refine r_aload_n dX0_toldPart_0 (i := 0) rfl rfl ?_
  refine r_aload_n dX0_toldPart_1 (i := 0) rfl rfl ?_
  refine r_getI dX0_toldPart_2 f_0_29 rfl rfl (lv5 (by first | assumption | decide | omega) (by first | assumption | decide | omega) (by first | assumption | decide | omega)) ?_
  refine sX0_toldPart_5 (Nat.le_refl _) (Nat.le_refl _) rfl (lv5 (by first | assumption | decide | omega) (by first | assumption | decide | omega) (by first | assumption | decide | omega)) (Nat.le_of_ble_eq_true rfl) (tX0_partWith ht hj hb) ?_
  exact e_i dX0_toldPart_8 rfl (by first | rfl | exact bi_nar _) (by first | rfl | simp [bi, *]) rfl
theorem tX0_toldTag {g : Gh} {t j b : Nat} {hp : HPt} (ht : t < 10) (hj : j < 8) (hb : b < 2) : Ci g mX0_toldTag [vR (5, t, j, b)] hp (jrem (hp (5, t, j, b) 2 + hp (5, t, j, b) 6) 257) hp := by
  unfold Ci
  refine r_aload_n dX0_toldTag_0 (i := 0) rfl rfl ?_
  refine r_getI dX0_toldTag_1 f_0_19 rfl rfl (lv5 (by first | assumption | decide | omega) (by first | assumption | decide | omega) (by first | assumption | decide | omega)) ?_
  refine r_aload_n dX0_toldTag_4 (i := 0) rfl rfl ?_
  refine r_getI dX0_toldTag_5 f_0_32 rfl rfl (lv5 (by first | assumption | decide | omega) (by first | assumption | decide | omega) (by first | assumption | decide | omega)) ?_
  refine r_iadd dX0_toldTag_8 ?_
  refine r_sipush dX0_toldTag_9 (v := 257) rfl ?_
  refine r_irem dX0_toldTag_12 (by decide) ?_
  exact e_i dX0_toldTag_13 rfl (by first | rfl | exact bi_nar _) (by first | rfl | simp [bi, *]) rfl
theorem tX0_tagDueFor {g : Gh} {t j b : Nat} {hp : HPt} {o : Int32} (ht : t < 10) (hj : j < 8) (hb : b < 2) : Ci g mX0_tagDueFor [vR (5, t, j, b), vI o] hp (jrem (hp (5, t, j, b) 3 * o + hp (5, t, j, b) 4) 257) hp := by
  unfold Ci
  refine r_aload_n dX0_tagDueFor_0 (i := 0) rfl rfl ?_
  refine r_getI dX0_tagDueFor_1 f_0_23 rfl rfl (lv5 (by first | assumption | decide | omega) (by first | assumption | decide | omega) (by first | assumption | decide | omega)) ?_
  refine r_iload_n dX0_tagDueFor_4 (i := 1) rfl rfl ?_
  refine r_imul dX0_tagDueFor_5 ?_
  refine r_aload_n dX0_tagDueFor_6 (i := 0) rfl rfl ?_
  refine r_getI dX0_tagDueFor_7 f_0_26 rfl rfl (lv5 (by first | assumption | decide | omega) (by first | assumption | decide | omega) (by first | assumption | decide | omega)) ?_
  refine r_iadd dX0_tagDueFor_10 ?_
  refine r_sipush dX0_tagDueFor_11 (v := 257) rfl ?_
  refine r_irem dX0_tagDueFor_14 (by decide) ?_
  exact e_i dX0_tagDueFor_15 rfl (by first | rfl | exact bi_nar _) (by first | rfl | simp [bi, *]) rfl
/-- whether an offset is above 0 -/
def fLies (o q : Int32) : Bool := decide (0 < o) || decide (0 < q)
theorem tX0_lies {g : Gh} {t j b : Nat} {hp : HPt} (ht : t < 10) (hj : j < 8) (hb : b < 2) : Ci g mX0_lies [vR (5, t, j, b)] hp (bi (fLies (hp (5, t, j, b) 5) (hp (5, t, j, b) 6))) hp := by
  unfold Ci
  refine r_aload_n dX0_lies_0 (i := 0) rfl rfl ?_
  refine r_getI dX0_lies_1 f_0_29 rfl rfl (lv5 (by first | assumption | decide | omega) (by first | assumption | decide | omega) (by first | assumption | decide | omega)) ?_
  refine r_if_gt dX0_lies_4 (tgt := 14) rfl (fun h4 => ?_) (fun h4 => ?_)
  · refine r_iconst dX0_lies_14 (v := 1) rfl ?_
    refine r_goto dX0_lies_15 (tgt := 19) rfl ?_
    exact e_i dX0_lies_19 rfl (by first | rfl | exact bi_nar _) (by first | rfl | simp_all [bi, fLies]) rfl
  · refine r_aload_n dX0_lies_7 (i := 0) rfl rfl ?_
    refine r_getI dX0_lies_8 f_0_32 rfl rfl (lv5 (by first | assumption | decide | omega) (by first | assumption | decide | omega) (by first | assumption | decide | omega)) ?_
    refine r_if_le dX0_lies_11 (tgt := 18) rfl (fun h11 => ?_) (fun h11 => ?_)
    · refine r_iconst dX0_lies_18 (v := 0) rfl ?_
      exact e_i dX0_lies_19 rfl (by first | rfl | exact bi_nar _) (by first | rfl | simp_all [bi, fLies]) rfl
    · refine r_iconst dX0_lies_14 (v := 1) rfl ?_
      refine r_goto dX0_lies_15 (tgt := 19) rfl ?_
      exact e_i dX0_lies_19 rfl (by first | rfl | exact bi_nar _) (by first | rfl | simp_all [bi, fLies]) rfl
/-- whether a half finds a lie of the other: factor, sum, part, offset, tag, its offset -/
def fCatch (f u p o q w : Int32) : Bool := !decide (jrem (f * jrem (p + o) 256 + u) 257 = jrem (q + w) 257)
theorem tX0_catches {g : Gh} {t j b c : Nat} {hp : HPt} (ht : t < 10) (hj : j < 8) (hb : b < 2) (hc : c < 2) : Ci g mX0_catches [vR (5, t, j, b), vR (5, t, j, c)] hp (bi (fCatch (hp (5, t, j, b) 3) (hp (5, t, j, b) 4) (hp (6, t, j, c) 0) (hp (5, t, j, c) 5) (hp (5, t, j, c) 2) (hp (5, t, j, c) 6))) hp := by
  unfold Ci
  refine r_aload_n dX0_catches_0 (i := 0) rfl rfl ?_
  refine r_aload_n dX0_catches_1 (i := 1) rfl rfl ?_
  refine sX0_catches_2 (Nat.le_refl _) (Nat.le_refl _) rfl (lv5 (by first | assumption | decide | omega) (by first | assumption | decide | omega) (by first | assumption | decide | omega)) (Nat.le_of_ble_eq_true rfl) (tX0_toldPart ht hj hc) ?_
  refine sX0_catches_5 (Nat.le_refl _) (Nat.le_refl _) rfl (lv5 (by first | assumption | decide | omega) (by first | assumption | decide | omega) (by first | assumption | decide | omega)) (Nat.le_of_ble_eq_true rfl) (tX0_tagDueFor ht hj hb) ?_
  refine r_aload_n dX0_catches_8 (i := 1) rfl rfl ?_
  refine sX0_catches_9 (Nat.le_refl _) (Nat.le_refl _) rfl (lv5 (by first | assumption | decide | omega) (by first | assumption | decide | omega) (by first | assumption | decide | omega)) (Nat.le_of_ble_eq_true rfl) (tX0_toldTag ht hj hc) ?_
  refine r_icmp_eq dX0_catches_12 (tgt := 19) rfl (fun h12 => ?_) (fun h12 => ?_)
  · refine r_iconst dX0_catches_19 (v := 0) rfl ?_
    exact e_i dX0_catches_20 rfl (by first | rfl | exact bi_nar _) (by first | rfl | simp_all [bi, fCatch]) rfl
  · refine r_iconst dX0_catches_15 (v := 1) rfl ?_
    refine r_goto dX0_catches_16 (tgt := 20) rfl ?_
    exact e_i dX0_catches_20 rfl (by first | rfl | exact bi_nar _) (by first | rfl | simp_all [bi, fCatch]) rfl
end
section
/-- the words of a heap that are truths, or signs -/
def bK (k i : Nat) : Bool := Nat.beq k 7 || Nat.beq k 3 || Nat.beq k 11 || Nat.beq k 20 || (Nat.beq k 4 && Nat.beq i 9) || (Nat.beq k 16 && Nat.beq i 9)
def cK (k i : Nat) : Bool := Nat.beq k 13 || (Nat.beq k 14 && Nat.beq i 2)
def okv (k i : Nat) (x : Int32) : Prop := (bK k i = true → x = 0 ∨ x = 1) ∧ (cK k i = true → ∃ q : Nat, q < 65536 ∧ x = nI q)
def WT (hp : HPt) : Prop := ∀ a i, okv a.1 i (hp a i)
theorem okv_free {k i : Nat} {x : Int32} (h1 : bK k i = false) (h2 : cK k i = false) : okv k i x := ⟨fun h => (by rw [h1] at h; cases h), fun h => (by rw [h2] at h; cases h)⟩
theorem okv_bi {k i : Nat} {b : Bool} (h2 : cK k i = false) : okv k i (bi b) := ⟨fun _ => by cases b <;> simp [bi], fun h => (by rw [h2] at h; cases h)⟩
theorem okv_0 {k i : Nat} : okv k i 0 := ⟨fun _ => Or.inl rfl, fun _ => ⟨0, by decide, rfl⟩⟩
theorem okv_1 {k i : Nat} : okv k i 1 := ⟨fun _ => Or.inr rfl, fun _ => ⟨1, by decide, rfl⟩⟩
theorem WT.set {hp : HPt} {a : A4} {i : Nat} {x : Int32} (h : WT hp) (hx : okv a.1 i x) : WT (hset hp a i x) := by
  intro c k
  unfold hset
  split
  next e => obtain ⟨rfl, rfl⟩ := e; exact hx
  next => exact h c k
theorem WT.b {hp : HPt} (h : WT hp) {a : A4} {i : Nat} (hk : bK a.1 i = true) : hp a i = 0 ∨ hp a i = 1 := (h a i).1 hk
theorem vp01 {x : Int32} (h : x = 0 ∨ x = 1) : vp_nar .boolean x = x := by rcases h with h | h <;> rw [h] <;> rfl
theorem nar01 {x : Int32} (h : x = 0 ∨ x = 1) : narrow .boolean (.int x) = .int x := by rcases h with h | h <;> rw [h] <;> rfl
theorem fit01 {x : Int32} (h : x = 0 ∨ x = 1) : narrow .boolean (.int x) = .int x ∧ fits .boolean (.int x) = true := by rcases h with h | h <;> rw [h] <;> exact ⟨rfl, rfl⟩
theorem WT.vp {hp : HPt} (h : WT hp) {a : A4} {i : Nat} (hk : bK a.1 i = true) : vp_nar .boolean (hp a i) = hp a i := vp01 (h.b hk)
/-- rows above r are shifted by one -/
def shR (hp : HPt) (t j b r : Nat) : HPt := fun a i => if (a = (6, t, j, b) ∨ a = (7, t, j, b)) ∧ r < i ∧ i < 5 then hp a (i - 1) else hp a i
theorem shR_set {hp : HPt} {t j b r : Nat} (hr : r + 1 < 5) : hset (hset (shR hp t j b (r + 1)) (6, t, j, b) (r + 1) (shR hp t j b (r + 1) (6, t, j, b) r)) (7, t, j, b) (r + 1) (hset (shR hp t j b (r + 1)) (6, t, j, b) (r + 1) (shR hp t j b (r + 1) (6, t, j, b) r) (7, t, j, b) r) = shR hp t j b r := by
  funext a i
  unfold hset shR
  by_cases h6 : a = (6, t, j, b)
  · subst h6
    by_cases hi : i = r + 1
    · subst hi; simp [hr]; intro h; omega
    · simp [hi]
      by_cases h1 : r + 1 < i
      · simp [h1, show r < i by omega]
      · simp [h1, show ¬ r < i by omega]
  · by_cases h7 : a = (7, t, j, b)
    · subst h7
      by_cases hi : i = r + 1
      · subst hi; simp [hr]; intro h; omega
      · simp [hi]
        by_cases h1 : r + 1 < i
        · simp [h1, show r < i by omega]
        · simp [h1, show ¬ r < i by omega]
    · simp [h6, h7]
theorem shR_4 {hp : HPt} {t j b : Nat} : shR hp t j b 4 = hp := by
  funext a i
  unfold shR
  rw [if_neg (by omega)]
theorem shR_WT {hp : HPt} {t j b r : Nat} (h : WT hp) : WT (shR hp t j b r) := by
  intro a i
  unfold shR
  split
  next e =>
    obtain ⟨e1, e2, e3⟩ := e
    have h2 := h a (i - 1)
    rcases e1 with rfl | rfl
    · exact okv_free rfl rfl
    · exact ⟨fun _ => h2.1 rfl, fun h => by cases h⟩
  next => exact h a i
/-- the rows of one half, freed for a new version -/
def frH (hp : HPt) (t j b : Nat) : HPt := hset (shR hp t j b 0) (7, t, j, b) 0 0
theorem frH_WT {hp : HPt} {t j b : Nat} (h : WT hp) : WT (frH hp t j b) := (shR_WT h).set okv_0
theorem lX0_freeRowOfNow {g : Gh} {t j b : Nat} {hp : HPt} (ht : t < 10) (hj : j < 8) (hb : b < 2) (hW : WT hp) : ∀ r, r < 5 → V g mX0_freeRowOfNow 0 0 0 0 609 2 [some (vR (5, t, j, b)), some (vI (nI r))] [] RP (shR hp t j b r) (Pv (frH hp t j b)) := by
  intro r
  induction r with
  | zero =>
    intro hr
    refine r_iload_n dX0_freeRowOfNow_2 (i := 1) rfl rfl ?_
    refine r_if_le dX0_freeRowOfNow_3 (tgt := 40) rfl (fun _ => ?_) (fun h3 => absurd ((by decide : nI 0 ≤ 0)) h3)
    refine r_aload_n dX0_freeRowOfNow_40 (i := 0) rfl rfl ?_
    refine r_getR dX0_freeRowOfNow_41 f_0_15 rfl rfl rfl (lv5 (by first | assumption | decide | omega) (by first | assumption | decide | omega) (by first | assumption | decide | omega)) ?_
    refine r_iconst dX0_freeRowOfNow_44 (v := 0) rfl ?_
    refine r_iconst dX0_freeRowOfNow_45 (v := 0) rfl ?_
    refine n_zast dX0_freeRowOfNow_46 rfl (lv7 (by first | assumption | decide | omega) (by first | assumption | decide | omega) (by first | assumption | decide | omega)) (k := 0) rfl (by decide) rfl ?_
    exact e_v dX0_freeRowOfNow_47 rfl (by first | rfl | simp [hset])
  | succ r ih =>
    intro hr
    refine r_iload_n dX0_freeRowOfNow_2 (i := 1) rfl rfl ?_
    refine r_if_le dX0_freeRowOfNow_3 (tgt := 40) rfl (fun h => absurd h (nI_nle (by omega) (by omega))) (fun _ => ?_)
    refine r_aload_n dX0_freeRowOfNow_6 (i := 0) rfl rfl ?_
    refine r_getR dX0_freeRowOfNow_7 f_0_9 rfl rfl rfl (lv5 (by first | assumption | decide | omega) (by first | assumption | decide | omega) (by first | assumption | decide | omega)) ?_
    refine r_iload_n dX0_freeRowOfNow_10 (i := 1) rfl rfl ?_
    refine r_aload_n dX0_freeRowOfNow_11 (i := 0) rfl rfl ?_
    refine r_getR dX0_freeRowOfNow_12 f_0_9 rfl rfl rfl (lv5 (by first | assumption | decide | omega) (by first | assumption | decide | omega) (by first | assumption | decide | omega)) ?_
    refine r_iload_n dX0_freeRowOfNow_15 (i := 1) rfl rfl ?_
    refine r_iconst dX0_freeRowOfNow_16 (v := 1) rfl ?_
    refine r_isub dX0_freeRowOfNow_17 ?_
    refine n_iald dX0_freeRowOfNow_18 rfl (lv6 ht hj hb) (k := r) (by rw [nI_succ]; exact Int32.add_sub_cancel _ _) (by omega) ?_
    refine n_iast dX0_freeRowOfNow_19 rfl (lv6 ht hj hb) (k := r + 1) rfl hr ?_
    refine r_aload_n dX0_freeRowOfNow_20 (i := 0) rfl rfl ?_
    refine r_getR dX0_freeRowOfNow_21 f_0_15 rfl rfl rfl (lv5 (by first | assumption | decide | omega) (by first | assumption | decide | omega) (by first | assumption | decide | omega)) ?_
    refine r_iload_n dX0_freeRowOfNow_24 (i := 1) rfl rfl ?_
    refine r_aload_n dX0_freeRowOfNow_25 (i := 0) rfl rfl ?_
    refine r_getR dX0_freeRowOfNow_26 f_0_15 rfl rfl rfl (lv5 (by first | assumption | decide | omega) (by first | assumption | decide | omega) (by first | assumption | decide | omega)) ?_
    refine r_iload_n dX0_freeRowOfNow_29 (i := 1) rfl rfl ?_
    refine r_iconst dX0_freeRowOfNow_30 (v := 1) rfl ?_
    refine r_isub dX0_freeRowOfNow_31 ?_
    refine n_zald dX0_freeRowOfNow_32 rfl (lv7 ht hj hb) (k := r) (by rw [nI_succ]; exact Int32.add_sub_cancel _ _) (by omega) ?_
    refine n_zast dX0_freeRowOfNow_33 rfl (lv7 ht hj hb) (k := r + 1) rfl hr (((shR_WT hW).set (okv_free rfl rfl)).vp rfl) ?_
    refine r_dec1 dX0_freeRowOfNow_34 rfl (Nat.le_of_ble_eq_true rfl) rfl ?_
    refine r_goto dX0_freeRowOfNow_37 (tgt := 2) rfl ?_
    refine V.eqH (shR_set hr) ?_
    refine V.eqL (L2 := [some (vR (5, t, j, b)), some (vI (nI r))]) ?_ (ih (by omega))
    show [some (vR (5, t, j, b)), some (vI (nI (r + 1) + (-1)))] = _
    rw [pk_m1]
theorem tX0_freeRowOfNow {g : Gh} {t j b : Nat} {hp : HPt} (ht : t < 10) (hj : j < 8) (hb : b < 2) (hW : WT hp) : Cv g mX0_freeRowOfNow [vR (5, t, j, b)] hp (frH hp t j b) := by
  unfold Cv
  refine r_iconst dX0_freeRowOfNow_0 (v := 4) rfl ?_
  refine r_istore_n dX0_freeRowOfNow_1 (i := 1) rfl (Nat.le_of_ble_eq_true rfl) rfl rfl ?_
  have h := lX0_freeRowOfNow (g := g) ht hj hb hW 4 (by decide)
  rw [shR_4] at h
  exact h
/-- the words of a Stores that carry something -/
abbrev relS (a : A4) (i : Nat) : Prop := (a.1 = 0 ∧ a.2.2 = (0, 0) ∧ 3 ≤ i ∧ i < 10) ∨ (a.1 = 2 ∧ a.2.2 = (0, 0) ∧ i < 3) ∨ (a.1 = 3 ∧ a.2.2 = (0, 0) ∧ i < 2) ∨ (a.1 = 4 ∧ a.2.2.1 < 8 ∧ a.2.2.2 = 0 ∧ 2 ≤ i ∧ i < 10) ∨ (a.1 = 5 ∧ a.2.2.1 < 8 ∧ a.2.2.2 < 2 ∧ 2 ≤ i ∧ i < 7) ∨ ((a.1 = 6 ∨ a.1 = 7) ∧ a.2.2.1 < 8 ∧ a.2.2.2 < 2 ∧ i < 5)
/-- the first n rows of a half are copied -/
def cpR (hp : HPt) (t u j b n : Nat) : HPt := fun a i => if (a = (6, t, j, b) ∨ a = (7, t, j, b)) ∧ i < n then hp (a.1, u, j, b) i else hp a i
theorem cpR_0 {hp : HPt} {t u j b : Nat} : cpR hp t u j b 0 = hp := by
  funext a i
  unfold cpR
  rw [if_neg (by omega)]
theorem cpR_set {hp : HPt} {t u j b n : Nat} (hn : n < 5) (htu : t ≠ u) : hset (hset (cpR hp t u j b n) (6, t, j, b) n (cpR hp t u j b n (6, u, j, b) n)) (7, t, j, b) n (hset (cpR hp t u j b n) (6, t, j, b) n (cpR hp t u j b n (6, u, j, b) n) (7, u, j, b) n) = cpR hp t u j b (n + 1) := by
  have hut : ¬ u = t := fun h => htu h.symm
  funext a i
  unfold hset cpR
  by_cases h6 : a = (6, t, j, b)
  · subst h6
    by_cases hi : i = n
    · subst hi; simp [hut]
    · simp [hi]
      by_cases h1 : i < n
      · simp [h1, show i < n + 1 by omega]
      · simp [h1, show ¬ i < n + 1 by omega]
  · by_cases h7 : a = (7, t, j, b)
    · subst h7
      by_cases hi : i = n
      · subst hi; simp [hut]
      · simp [hi]
        by_cases h1 : i < n
        · simp [h1, show i < n + 1 by omega]
        · simp [h1, show ¬ i < n + 1 by omega]
    · simp [h6, h7]
theorem cpR_WT {hp : HPt} {t u j b n : Nat} (h : WT hp) : WT (cpR hp t u j b n) := by
  intro a i
  unfold cpR
  split
  next e =>
    obtain ⟨e1, e2⟩ := e
    have h2 := h (a.1, u, j, b) i
    rcases e1 with rfl | rfl <;> exact h2
  next => exact h a i
def cpH (hp : HPt) (t u j b : Nat) : HPt := fun a i => if (a = (5, t, j, b) ∧ 2 ≤ i ∧ i < 7) ∨ ((a = (6, t, j, b) ∨ a = (7, t, j, b)) ∧ i < 5) then hp (a.1, u, j, b) i else hp a i
theorem lX0_copyHalf {g : Gh} {t u j b : Nat} {hp : HPt} (ht : t < 10) (hu : u < 10) (htu : t ≠ u) (hj : j < 8) (hb : b < 2) (hW : WT hp) {P : Pst} (hE : V g mX0_copyHalf 0 0 0 0 609 37 [some (vR (5, t, j, b)), some (vR (5, u, j, b)), some (vI (nI 5))] [] RP (cpR hp t u j b 5) P) : ∀ m r, r + m = 5 → V g mX0_copyHalf 0 0 0 0 609 2 [some (vR (5, t, j, b)), some (vR (5, u, j, b)), some (vI (nI r))] [] RP (cpR hp t u j b r) P := by
  intro m
  induction m with
  | zero =>
    intro r hr
    have hr : r = 5 := by omega
    subst hr
    refine r_iload_n dX0_copyHalf_2 (i := 2) rfl rfl ?_
    refine r_iconst dX0_copyHalf_3 (v := 5) rfl ?_
    refine r_icmp_ge dX0_copyHalf_4 (tgt := 37) rfl (fun _ => ?_) (fun h4 => absurd ((by decide : (5 : Int32) ≤ nI 5)) h4)
    exact hE
  | succ m ih =>
    intro r hr
    have hr5 : r < 5 := by omega
    refine r_iload_n dX0_copyHalf_2 (i := 2) rfl rfl ?_
    refine r_iconst dX0_copyHalf_3 (v := 5) rfl ?_
    refine r_icmp_ge dX0_copyHalf_4 (tgt := 37) rfl (fun h => absurd h (nI_ge (b := 5) hr5 (by decide))) (fun _ => ?_)
    refine r_aload_n dX0_copyHalf_7 (i := 0) rfl rfl ?_
    refine r_getR dX0_copyHalf_8 f_0_9 rfl rfl rfl (lv5 (by first | assumption | decide | omega) (by first | assumption | decide | omega) (by first | assumption | decide | omega)) ?_
    refine r_iload_n dX0_copyHalf_11 (i := 2) rfl rfl ?_
    refine r_aload_n dX0_copyHalf_12 (i := 1) rfl rfl ?_
    refine r_getR dX0_copyHalf_13 f_0_9 rfl rfl rfl (lv5 (by first | assumption | decide | omega) (by first | assumption | decide | omega) (by first | assumption | decide | omega)) ?_
    refine r_iload_n dX0_copyHalf_16 (i := 2) rfl rfl ?_
    refine n_iald dX0_copyHalf_17 rfl (lv6 (by first | assumption | decide | omega) (by first | assumption | decide | omega) (by first | assumption | decide | omega)) rfl (by first | assumption | omega | (unfold cI; omega)) ?_
    refine n_iast dX0_copyHalf_18 rfl (lv6 (by first | assumption | decide | omega) (by first | assumption | decide | omega) (by first | assumption | decide | omega)) rfl (by first | assumption | omega | (unfold cI; omega)) ?_
    refine r_aload_n dX0_copyHalf_19 (i := 0) rfl rfl ?_
    refine r_getR dX0_copyHalf_20 f_0_15 rfl rfl rfl (lv5 (by first | assumption | decide | omega) (by first | assumption | decide | omega) (by first | assumption | decide | omega)) ?_
    refine r_iload_n dX0_copyHalf_23 (i := 2) rfl rfl ?_
    refine r_aload_n dX0_copyHalf_24 (i := 1) rfl rfl ?_
    refine r_getR dX0_copyHalf_25 f_0_15 rfl rfl rfl (lv5 (by first | assumption | decide | omega) (by first | assumption | decide | omega) (by first | assumption | decide | omega)) ?_
    refine r_iload_n dX0_copyHalf_28 (i := 2) rfl rfl ?_
    refine n_zald dX0_copyHalf_29 rfl (lv7 (by first | assumption | decide | omega) (by first | assumption | decide | omega) (by first | assumption | decide | omega)) rfl (by first | assumption | omega | (unfold cI; omega)) ?_
    refine n_zast dX0_copyHalf_30 rfl (lv7 ht hj hb) (k := r) rfl hr5 (((cpR_WT hW).set (okv_free rfl rfl)).vp rfl) ?_
    refine r_inc1 dX0_copyHalf_31 rfl (Nat.le_of_ble_eq_true rfl) rfl ?_
    refine r_goto dX0_copyHalf_34 (tgt := 2) rfl ?_
    refine V.eqH (cpR_set hr5 htu) ?_
    have h := ih (r + 1) (by omega)
    rw [nI_succ] at h
    exact h
theorem tX0_copyHalf {g : Gh} {t u j b : Nat} {hp : HPt} (ht : t < 10) (hu : u < 10) (htu : t ≠ u) (hj : j < 8) (hb : b < 2) (hW : WT hp) : Cv g mX0_copyHalf [vR (5, t, j, b), vR (5, u, j, b)] hp (cpH hp t u j b) := by
  have hut : ¬ u = t := fun h => htu h.symm
  unfold Cv
  refine r_iconst dX0_copyHalf_0 (v := 0) rfl ?_
  refine r_istore_n dX0_copyHalf_1 (i := 2) rfl (Nat.le_of_ble_eq_true rfl) rfl rfl ?_
  have h := lX0_copyHalf (g := g) (hp := hp) ht hu htu hj hb hW (P := Pv (cpH hp t u j b)) ?_ 5 0 rfl
  · rw [cpR_0] at h
    exact h
  refine r_aload_n dX0_copyHalf_37 (i := 0) rfl rfl ?_
  refine r_aload_n dX0_copyHalf_38 (i := 1) rfl rfl ?_
  refine r_getI dX0_copyHalf_39 f_0_19 rfl rfl (lv5 (by first | assumption | decide | omega) (by first | assumption | decide | omega) (by first | assumption | decide | omega)) ?_
  refine r_putI dX0_copyHalf_42 f_0_19 rfl rfl (lv5 (by first | assumption | decide | omega) (by first | assumption | decide | omega) (by first | assumption | decide | omega)) ⟨rfl, rfl⟩ ?_
  refine r_aload_n dX0_copyHalf_45 (i := 0) rfl rfl ?_
  refine r_aload_n dX0_copyHalf_46 (i := 1) rfl rfl ?_
  refine r_getI dX0_copyHalf_47 f_0_23 rfl rfl (lv5 (by first | assumption | decide | omega) (by first | assumption | decide | omega) (by first | assumption | decide | omega)) ?_
  refine r_putI dX0_copyHalf_50 f_0_23 rfl rfl (lv5 (by first | assumption | decide | omega) (by first | assumption | decide | omega) (by first | assumption | decide | omega)) ⟨rfl, rfl⟩ ?_
  refine r_aload_n dX0_copyHalf_53 (i := 0) rfl rfl ?_
  refine r_aload_n dX0_copyHalf_54 (i := 1) rfl rfl ?_
  refine r_getI dX0_copyHalf_55 f_0_26 rfl rfl (lv5 (by first | assumption | decide | omega) (by first | assumption | decide | omega) (by first | assumption | decide | omega)) ?_
  refine r_putI dX0_copyHalf_58 f_0_26 rfl rfl (lv5 (by first | assumption | decide | omega) (by first | assumption | decide | omega) (by first | assumption | decide | omega)) ⟨rfl, rfl⟩ ?_
  refine r_aload_n dX0_copyHalf_61 (i := 0) rfl rfl ?_
  refine r_aload_n dX0_copyHalf_62 (i := 1) rfl rfl ?_
  refine r_getI dX0_copyHalf_63 f_0_29 rfl rfl (lv5 (by first | assumption | decide | omega) (by first | assumption | decide | omega) (by first | assumption | decide | omega)) ?_
  refine r_putI dX0_copyHalf_66 f_0_29 rfl rfl (lv5 (by first | assumption | decide | omega) (by first | assumption | decide | omega) (by first | assumption | decide | omega)) ⟨rfl, rfl⟩ ?_
  refine r_aload_n dX0_copyHalf_69 (i := 0) rfl rfl ?_
  refine r_aload_n dX0_copyHalf_70 (i := 1) rfl rfl ?_
  refine r_getI dX0_copyHalf_71 f_0_32 rfl rfl (lv5 (by first | assumption | decide | omega) (by first | assumption | decide | omega) (by first | assumption | decide | omega)) ?_
  refine r_putI dX0_copyHalf_74 f_0_32 rfl rfl (lv5 (by first | assumption | decide | omega) (by first | assumption | decide | omega) (by first | assumption | decide | omega)) ⟨rfl, rfl⟩ ?_
  refine e_v dX0_copyHalf_77 rfl ?_
  funext a i
  unfold cpH cpR hset
  by_cases h5 : a = (5, t, j, b)
  · subst h5
    by_cases hi : 2 ≤ i ∧ i < 7
    · have : i = 2 ∨ i = 3 ∨ i = 4 ∨ i = 5 ∨ i = 6 := by omega
      rcases this with rfl | rfl | rfl | rfl | rfl <;> simp [hut]
    · have h2 : i ≠ 2 ∧ i ≠ 3 ∧ i ≠ 4 ∧ i ≠ 5 ∧ i ≠ 6 := by omega
      simp [h2, hi]
  · simp [h5]
end
section
theorem tX4_halfIn {g : Gh} {t j b : Nat} {hp : HPt} (ht : t < 10) (hj : j < 8) (hb : b < 2) : Ca g mX4_halfIn [vR (4, t, j, 0), vI (nI b)] hp (5, t, j, b) hp := by
  unfold Ca
  match b, hb with
  | 0, _ =>
    refine r_iload_n dX4_halfIn_0 (i := 1) rfl rfl ?_
    refine r_if_ne dX4_halfIn_1 (tgt := 11) rfl (fun h1 => absurd ((rfl : nI 0 = 0)) h1) (fun _ => ?_)
    refine r_aload_n dX4_halfIn_4 (i := 0) rfl rfl ?_
    refine r_getR dX4_halfIn_5 f_4_12 rfl rfl rfl (lv4 (by first | assumption | decide | omega) (by first | assumption | decide | omega)) ?_
    refine r_goto dX4_halfIn_8 (tgt := 15) rfl ?_
    exact e_a dX4_halfIn_15 rfl (by first | rfl | simp [bi, *]) rfl
  | 1, _ =>
    refine r_iload_n dX4_halfIn_0 (i := 1) rfl rfl ?_
    refine r_if_ne dX4_halfIn_1 (tgt := 11) rfl (fun _ => ?_) (fun h1 => absurd h1 ((by decide : ¬ nI 1 = 0)))
    refine r_aload_n dX4_halfIn_11 (i := 0) rfl rfl ?_
    refine r_getR dX4_halfIn_12 f_4_18 rfl rfl rfl (lv4 (by first | assumption | decide | omega) (by first | assumption | decide | omega)) ?_
    exact e_a dX4_halfIn_15 rfl (by first | rfl | simp [bi, *]) rfl
theorem tX4_halfBeside {g : Gh} {t j b : Nat} {hp : HPt} (ht : t < 10) (hj : j < 8) (hb : b < 2) : Ca g mX4_halfBeside [vR (4, t, j, 0), vI (nI b)] hp (5, t, j, 1 - b) hp := by
  unfold Ca
  match b, hb with
  | 0, _ =>
    refine r_iload_n dX4_halfBeside_0 (i := 1) rfl rfl ?_
    refine r_if_ne dX4_halfBeside_1 (tgt := 11) rfl (fun h1 => absurd ((rfl : nI 0 = 0)) h1) (fun _ => ?_)
    refine r_aload_n dX4_halfBeside_4 (i := 0) rfl rfl ?_
    refine r_getR dX4_halfBeside_5 f_4_18 rfl rfl rfl (lv4 (by first | assumption | decide | omega) (by first | assumption | decide | omega)) ?_
    refine r_goto dX4_halfBeside_8 (tgt := 15) rfl ?_
    exact e_a dX4_halfBeside_15 rfl (by first | rfl | simp [bi, *]) rfl
  | 1, _ =>
    refine r_iload_n dX4_halfBeside_0 (i := 1) rfl rfl ?_
    refine r_if_ne dX4_halfBeside_1 (tgt := 11) rfl (fun _ => ?_) (fun h1 => absurd h1 ((by decide : ¬ nI 1 = 0)))
    refine r_aload_n dX4_halfBeside_11 (i := 0) rfl rfl ?_
    refine r_getR dX4_halfBeside_12 f_4_12 rfl rfl rfl (lv4 (by first | assumption | decide | omega) (by first | assumption | decide | omega)) ?_
    exact e_a dX4_halfBeside_15 rfl (by first | rfl | simp [bi, *]) rfl
theorem tX4_value {g : Gh} {t j : Nat} {hp : HPt} (ht : t < 10) (hj : j < 8) : Ci g mX4_value [vR (4, t, j, 0)] hp (jrem (hp (6, t, j, 0) 0 + hp (6, t, j, 1) 0) 256) hp := by
  unfold Ci
  refine r_aload_n dX4_value_0 (i := 0) rfl rfl ?_
  refine r_getR dX4_value_1 f_4_12 rfl rfl rfl (lv4 (by first | assumption | decide | omega) (by first | assumption | decide | omega)) ?_
  refine r_getR dX4_value_4 f_4_51 rfl rfl rfl (lv5 (by first | assumption | decide | omega) (by first | assumption | decide | omega) (by first | assumption | decide | omega)) ?_
  refine r_iconst dX4_value_7 (v := 0) rfl ?_
  refine n_iald dX4_value_8 rfl (lv6 (by first | assumption | decide | omega) (by first | assumption | decide | omega) (by first | assumption | decide | omega)) (k := 0) rfl (by decide) ?_
  refine r_aload_n dX4_value_9 (i := 0) rfl rfl ?_
  refine r_getR dX4_value_10 f_4_18 rfl rfl rfl (lv4 (by first | assumption | decide | omega) (by first | assumption | decide | omega)) ?_
  refine r_getR dX4_value_13 f_4_51 rfl rfl rfl (lv5 (by first | assumption | decide | omega) (by first | assumption | decide | omega) (by first | assumption | decide | omega)) ?_
  refine r_iconst dX4_value_16 (v := 0) rfl ?_
  refine n_iald dX4_value_17 rfl (lv6 (by first | assumption | decide | omega) (by first | assumption | decide | omega) (by first | assumption | decide | omega)) (k := 0) rfl (by decide) ?_
  refine r_iadd dX4_value_18 ?_
  refine r_sipush dX4_value_19 (v := 256) rfl ?_
  refine r_irem dX4_value_22 (by decide) ?_
  exact e_i dX4_value_23 rfl (by first | rfl | exact bi_nar _) (by first | rfl | simp [bi, *]) rfl
def fMin (x y : Int32) : Int32 := if y < x then y else x
theorem tJ9_min {g : Gh} {x y : Int32} {hp : HPt} : Ci g mJ9_min_7cf53 [vI x, vI y] hp (fMin x y) hp := by
  unfold Ci
  refine r_iload_n dJ9_min_7cf53_0 (i := 0) rfl rfl ?_
  refine r_iload_n dJ9_min_7cf53_1 (i := 1) rfl rfl ?_
  refine r_icmp_gt dJ9_min_7cf53_2 (tgt := 9) rfl (fun h2 => ?_) (fun h2 => ?_)
  · refine r_iload_n dJ9_min_7cf53_9 (i := 1) rfl rfl ?_
    exact e_i dJ9_min_7cf53_10 rfl (by first | rfl | exact bi_nar _) (by first | rfl | simp [fMin, *]) rfl
  · refine r_iload_n dJ9_min_7cf53_5 (i := 0) rfl rfl ?_
    refine r_goto dJ9_min_7cf53_6 (tgt := 10) rfl ?_
    exact e_i dJ9_min_7cf53_10 rfl (by first | rfl | exact bi_nar _) (by first | rfl | simp [fMin, *]) rfl
theorem tJ9_max {g : Gh} {x y : Int32} {hp : HPt} : Ci g mJ9_max_7cf53 [vI x, vI y] hp (if x < y then y else x) hp := by
  unfold Ci
  refine r_iload_n dJ9_max_7cf53_0 (i := 0) rfl rfl ?_
  refine r_iload_n dJ9_max_7cf53_1 (i := 1) rfl rfl ?_
  refine r_icmp_lt dJ9_max_7cf53_2 (tgt := 9) rfl (fun h2 => ?_) (fun h2 => ?_)
  · refine r_iload_n dJ9_max_7cf53_9 (i := 1) rfl rfl ?_
    exact e_i dJ9_max_7cf53_10 rfl (by first | rfl | exact bi_nar _) (by first | rfl | simp [bi, *]) rfl
  · refine r_iload_n dJ9_max_7cf53_5 (i := 0) rfl rfl ?_
    refine r_goto dJ9_max_7cf53_6 (tgt := 10) rfl ?_
    exact e_i dJ9_max_7cf53_10 rfl (by first | rfl | exact bi_nar _) (by first | rfl | simp [bi, *]) rfl
/-- the secret's rows move by one, its old versions are m at most -/
def frS (hp : HPt) (t j : Nat) : HPt := frH (frH hp t j 0) t j 1
theorem frS_WT {hp : HPt} {t j : Nat} (h : WT hp) : WT (frS hp t j) := frH_WT (frH_WT h)
theorem tX4_ageKeeping {g : Gh} {t j : Nat} {hp : HPt} {m : Int32} (ht : t < 10) (hj : j < 8) (hW : WT hp) : Ci g mX4_ageKeeping [vR (4, t, j, 0), vI m] hp (hp (4, t, j, 0) 3 + 1 - fMin (hp (4, t, j, 0) 3 + 1) m) (hset (frS hp t j) (4, t, j, 0) 3 (fMin (hp (4, t, j, 0) 3 + 1) m)) := by
  have e : frS hp t j (4, t, j, 0) 3 = hp (4, t, j, 0) 3 := by simp [frS, frH, shR, hset]
  unfold Ci
  refine r_aload_n dX4_ageKeeping_0 (i := 0) rfl rfl ?_
  refine r_getR dX4_ageKeeping_1 f_4_12 rfl rfl rfl (lv4 (by first | assumption | decide | omega) (by first | assumption | decide | omega)) ?_
  refine sX4_ageKeeping_4 (Nat.le_refl _) (Nat.le_refl _) rfl (lv5 (by first | assumption | decide | omega) (by first | assumption | decide | omega) (by first | assumption | decide | omega)) (Nat.le_of_ble_eq_true rfl) (tX0_freeRowOfNow ht hj (by decide) hW) ?_
  refine r_aload_n dX4_ageKeeping_7 (i := 0) rfl rfl ?_
  refine r_getR dX4_ageKeeping_8 f_4_18 rfl rfl rfl (lv4 (by first | assumption | decide | omega) (by first | assumption | decide | omega)) ?_
  refine sX4_ageKeeping_11 (Nat.le_refl _) (Nat.le_refl _) rfl (lv5 (by first | assumption | decide | omega) (by first | assumption | decide | omega) (by first | assumption | decide | omega)) (Nat.le_of_ble_eq_true rfl) (tX0_freeRowOfNow ht hj (by decide) (frH_WT hW)) ?_
  refine r_aload_n dX4_ageKeeping_14 (i := 0) rfl rfl ?_
  refine r_getI dX4_ageKeeping_15 f_4_29 rfl rfl (lv4 (by first | assumption | decide | omega) (by first | assumption | decide | omega)) ?_
  refine r_iconst dX4_ageKeeping_18 (v := 1) rfl ?_
  refine r_iadd dX4_ageKeeping_19 ?_
  refine r_istore_n dX4_ageKeeping_20 (i := 2) rfl (Nat.le_of_ble_eq_true rfl) rfl rfl ?_
  refine r_aload_n dX4_ageKeeping_21 (i := 0) rfl rfl ?_
  refine r_iload_n dX4_ageKeeping_22 (i := 2) rfl rfl ?_
  refine r_iload_n dX4_ageKeeping_23 (i := 1) rfl rfl ?_
  refine sX4_ageKeeping_24 (Nat.le_refl _) (Nat.le_refl _) (Nat.le_of_ble_eq_true rfl) (tJ9_min) ?_
  refine r_putI dX4_ageKeeping_27 f_4_29 rfl rfl (lv4 (by first | assumption | decide | omega) (by first | assumption | decide | omega)) ⟨rfl, rfl⟩ ?_
  refine r_iload_n dX4_ageKeeping_30 (i := 2) rfl rfl ?_
  refine r_aload_n dX4_ageKeeping_31 (i := 0) rfl rfl ?_
  refine r_getI dX4_ageKeeping_32 f_4_29 rfl rfl (lv4 (by first | assumption | decide | omega) (by first | assumption | decide | omega)) ?_
  refine r_isub dX4_ageKeeping_35 ?_
  refine e_i dX4_ageKeeping_36 rfl rfl ?_ ?_
  · rw [hs_eq]; show frS hp t j (4, t, j, 0) 3 + 1 - fMin (frS hp t j (4, t, j, 0) 3 + 1) m = _; rw [e]
  · show hset (frS hp t j) (4, t, j, 0) 3 (fMin (frS hp t j (4, t, j, 0) 3 + 1) m) = _; rw [e]
/-- what two stores tell of a secret, merged -/
def fMerge (hp : HPt) (t j : Nat) : Int32 := if fCatch (hp (5, t, j, 0) 3) (hp (5, t, j, 0) 4) (hp (6, t, j, 1) 0) (hp (5, t, j, 1) 5) (hp (5, t, j, 1) 2) (hp (5, t, j, 1) 6) = true then 1000 else if fCatch (hp (5, t, j, 1) 3) (hp (5, t, j, 1) 4) (hp (6, t, j, 0) 0) (hp (5, t, j, 0) 5) (hp (5, t, j, 0) 2) (hp (5, t, j, 0) 6) = true then 1001 else jrem (jrem (hp (6, t, j, 0) 0 + hp (5, t, j, 0) 5) 256 + jrem (hp (6, t, j, 1) 0 + hp (5, t, j, 1) 5) 256) 256
theorem tX4_answerIfMerged {g : Gh} {t j : Nat} {hp : HPt} (ht : t < 10) (hj : j < 8) : Ci g mX4_answerIfMerged [vR (4, t, j, 0)] hp (fMerge hp t j) hp := by
  unfold Ci
  refine r_aload_n dX4_answerIfMerged_0 (i := 0) rfl rfl ?_
  refine r_getR dX4_answerIfMerged_1 f_4_12 rfl rfl rfl (lv4 (by first | assumption | decide | omega) (by first | assumption | decide | omega)) ?_
  refine r_aload_n dX4_answerIfMerged_4 (i := 0) rfl rfl ?_
  refine r_getR dX4_answerIfMerged_5 f_4_18 rfl rfl rfl (lv4 (by first | assumption | decide | omega) (by first | assumption | decide | omega)) ?_
  refine sX4_answerIfMerged_8 (Nat.le_refl _) (Nat.le_refl _) rfl (lv5 (by first | assumption | decide | omega) (by first | assumption | decide | omega) (by first | assumption | decide | omega)) (Nat.le_of_ble_eq_true rfl) (tX0_catches ht hj (by decide) (by decide)) ?_
  refine r_if_eq dX4_answerIfMerged_11 (tgt := 18) rfl (fun h11 => ?_) (fun h11 => ?_)
  · refine r_aload_n dX4_answerIfMerged_18 (i := 0) rfl rfl ?_
    refine r_getR dX4_answerIfMerged_19 f_4_18 rfl rfl rfl (lv4 (by first | assumption | decide | omega) (by first | assumption | decide | omega)) ?_
    refine r_aload_n dX4_answerIfMerged_22 (i := 0) rfl rfl ?_
    refine r_getR dX4_answerIfMerged_23 f_4_12 rfl rfl rfl (lv4 (by first | assumption | decide | omega) (by first | assumption | decide | omega)) ?_
    refine sX4_answerIfMerged_26 (Nat.le_refl _) (Nat.le_refl _) rfl (lv5 (by first | assumption | decide | omega) (by first | assumption | decide | omega) (by first | assumption | decide | omega)) (Nat.le_of_ble_eq_true rfl) (tX0_catches ht hj (by decide) (by decide)) ?_
    refine r_if_eq dX4_answerIfMerged_29 (tgt := 36) rfl (fun h29 => ?_) (fun h29 => ?_)
    · refine r_aload_n dX4_answerIfMerged_36 (i := 0) rfl rfl ?_
      refine r_getR dX4_answerIfMerged_37 f_4_12 rfl rfl rfl (lv4 (by first | assumption | decide | omega) (by first | assumption | decide | omega)) ?_
      refine sX4_answerIfMerged_40 (Nat.le_refl _) (Nat.le_refl _) rfl (lv5 (by first | assumption | decide | omega) (by first | assumption | decide | omega) (by first | assumption | decide | omega)) (Nat.le_of_ble_eq_true rfl) (tX0_toldPart ht hj (by decide)) ?_
      refine r_aload_n dX4_answerIfMerged_43 (i := 0) rfl rfl ?_
      refine r_getR dX4_answerIfMerged_44 f_4_18 rfl rfl rfl (lv4 (by first | assumption | decide | omega) (by first | assumption | decide | omega)) ?_
      refine sX4_answerIfMerged_47 (Nat.le_refl _) (Nat.le_refl _) rfl (lv5 (by first | assumption | decide | omega) (by first | assumption | decide | omega) (by first | assumption | decide | omega)) (Nat.le_of_ble_eq_true rfl) (tX0_toldPart ht hj (by decide)) ?_
      refine r_iadd dX4_answerIfMerged_50 ?_
      refine r_sipush dX4_answerIfMerged_51 (v := 256) rfl ?_
      refine r_irem dX4_answerIfMerged_54 (by decide) ?_
      exact e_i dX4_answerIfMerged_55 rfl (by first | rfl | exact bi_nar _) (by simp only [bi_0, bi_n0] at *; simp [fMerge, *]) rfl
    · refine r_sipush dX4_answerIfMerged_32 (v := 1001) rfl ?_
      exact e_i dX4_answerIfMerged_35 rfl (by first | rfl | exact bi_nar _) (by simp only [bi_0, bi_n0] at *; simp [fMerge, *]) rfl
  · refine r_sipush dX4_answerIfMerged_14 (v := 1000) rfl ?_
    exact e_i dX4_answerIfMerged_17 rfl (by first | rfl | exact bi_nar _) (by simp only [bi_0, bi_n0] at *; simp [fMerge, *]) rfl
theorem tX4_open {g : Gh} {t j : Nat} {hp : HPt} {v f : Int32} (ht : t < 10) (hj : j < 8) : Cv g mX4_open [vR (4, t, j, 0), vI v, vI f] hp (hset (hset (hset hp (4, t, j, 0) 4 v) (4, t, j, 0) 5 f) (4, t, j, 0) 7 (hp (4, t, j, 0) 7 + 1)) := by
  unfold Cv
  refine r_aload_n dX4_open_0 (i := 0) rfl rfl ?_
  refine r_iload_n dX4_open_1 (i := 1) rfl rfl ?_
  refine r_putI dX4_open_2 f_4_32 rfl rfl (lv4 (by first | assumption | decide | omega) (by first | assumption | decide | omega)) ⟨rfl, rfl⟩ ?_
  refine r_aload_n dX4_open_5 (i := 0) rfl rfl ?_
  refine r_iload_n dX4_open_6 (i := 2) rfl rfl ?_
  refine r_putI dX4_open_7 f_4_35 rfl rfl (lv4 (by first | assumption | decide | omega) (by first | assumption | decide | omega)) ⟨rfl, rfl⟩ ?_
  refine r_aload_n dX4_open_10 (i := 0) rfl rfl ?_
  refine r_dup dX4_open_11 rfl ?_
  refine r_getI dX4_open_12 f_4_41 rfl rfl (lv4 (by first | assumption | decide | omega) (by first | assumption | decide | omega)) ?_
  refine r_iconst dX4_open_15 (v := 1) rfl ?_
  refine r_iadd dX4_open_16 ?_
  refine r_putI dX4_open_17 f_4_41 rfl rfl (lv4 (by first | assumption | decide | omega) (by first | assumption | decide | omega)) ⟨rfl, rfl⟩ ?_
  exact e_v dX4_open_20 rfl (by first | rfl | simp [hset])
def fTk (x y : Int32) : Int32 := (if x = 0 then 0 else 1) + (if y = 0 then 0 else 2)
theorem tX4_takenSet {g : Gh} {t j r : Nat} {hp : HPt} (ht : t < 10) (hj : j < 8) (hr : r < 5) : Ci g mX4_takenSet [vR (4, t, j, 0), vI (nI r)] hp (fTk (hp (7, t, j, 0) r) (hp (7, t, j, 1) r)) hp := by
  unfold Ci
  refine r_aload_n dX4_takenSet_0 (i := 0) rfl rfl ?_
  refine r_getR dX4_takenSet_1 f_4_12 rfl rfl rfl (lv4 (by first | assumption | decide | omega) (by first | assumption | decide | omega)) ?_
  refine r_getR dX4_takenSet_4 f_4_76 rfl rfl rfl (lv5 (by first | assumption | decide | omega) (by first | assumption | decide | omega) (by first | assumption | decide | omega)) ?_
  refine r_iload_n dX4_takenSet_7 (i := 1) rfl rfl ?_
  refine n_zald dX4_takenSet_8 rfl (lv7 (by first | assumption | decide | omega) (by first | assumption | decide | omega) (by first | assumption | decide | omega)) rfl (by first | assumption | omega | (unfold cI; omega)) ?_
  refine r_if_eq dX4_takenSet_9 (tgt := 16) rfl (fun h9 => ?_) (fun h9 => ?_)
  · refine r_iconst dX4_takenSet_16 (v := 0) rfl ?_
    refine r_aload_n dX4_takenSet_17 (i := 0) rfl rfl ?_
    refine r_getR dX4_takenSet_18 f_4_18 rfl rfl rfl (lv4 (by first | assumption | decide | omega) (by first | assumption | decide | omega)) ?_
    refine r_getR dX4_takenSet_21 f_4_76 rfl rfl rfl (lv5 (by first | assumption | decide | omega) (by first | assumption | decide | omega) (by first | assumption | decide | omega)) ?_
    refine r_iload_n dX4_takenSet_24 (i := 1) rfl rfl ?_
    refine n_zald dX4_takenSet_25 rfl (lv7 (by first | assumption | decide | omega) (by first | assumption | decide | omega) (by first | assumption | decide | omega)) rfl (by first | assumption | omega | (unfold cI; omega)) ?_
    refine r_if_eq dX4_takenSet_26 (tgt := 33) rfl (fun h26 => ?_) (fun h26 => ?_)
    · refine r_iconst dX4_takenSet_33 (v := 0) rfl ?_
      refine r_iadd dX4_takenSet_34 ?_
      exact e_i dX4_takenSet_35 rfl (by first | rfl | exact bi_nar _) (by first | rfl | simp [fTk, *]) rfl
    · refine r_iconst dX4_takenSet_29 (v := 2) rfl ?_
      refine r_goto dX4_takenSet_30 (tgt := 34) rfl ?_
      refine r_iadd dX4_takenSet_34 ?_
      exact e_i dX4_takenSet_35 rfl (by first | rfl | exact bi_nar _) (by first | rfl | simp [fTk, *]) rfl
  · refine r_iconst dX4_takenSet_12 (v := 1) rfl ?_
    refine r_goto dX4_takenSet_13 (tgt := 17) rfl ?_
    refine r_aload_n dX4_takenSet_17 (i := 0) rfl rfl ?_
    refine r_getR dX4_takenSet_18 f_4_18 rfl rfl rfl (lv4 (by first | assumption | decide | omega) (by first | assumption | decide | omega)) ?_
    refine r_getR dX4_takenSet_21 f_4_76 rfl rfl rfl (lv5 (by first | assumption | decide | omega) (by first | assumption | decide | omega) (by first | assumption | decide | omega)) ?_
    refine r_iload_n dX4_takenSet_24 (i := 1) rfl rfl ?_
    refine n_zald dX4_takenSet_25 rfl (lv7 (by first | assumption | decide | omega) (by first | assumption | decide | omega) (by first | assumption | decide | omega)) rfl (by first | assumption | omega | (unfold cI; omega)) ?_
    refine r_if_eq dX4_takenSet_26 (tgt := 33) rfl (fun h26 => ?_) (fun h26 => ?_)
    · refine r_iconst dX4_takenSet_33 (v := 0) rfl ?_
      refine r_iadd dX4_takenSet_34 ?_
      exact e_i dX4_takenSet_35 rfl (by first | rfl | exact bi_nar _) (by first | rfl | simp [fTk, *]) rfl
    · refine r_iconst dX4_takenSet_29 (v := 2) rfl ?_
      refine r_goto dX4_takenSet_30 (tgt := 34) rfl ?_
      refine r_iadd dX4_takenSet_34 ?_
      exact e_i dX4_takenSet_35 rfl (by first | rfl | exact bi_nar _) (by first | rfl | simp [fTk, *]) rfl
/-- a thief takes a part: the parts that thieves have, then whether it is known -/
def thA (hp : HPt) (t j b r : Nat) : HPt := if hp (7, t, j, b) r = 0 then hset (hset hp (7, t, j, b) r 1) (4, t, j, 0) 8 (hp (4, t, j, 0) 8 + 1) else hp
def thB (hp : HPt) (t j b r : Nat) : HPt := hset (thA hp t j b r) (4, t, j, 0) 9 (bi (!decide (hp (4, t, j, 0) 9 = 0) || decide (fTk (thA hp t j b r (7, t, j, 0) r) (thA hp t j b r (7, t, j, 1) r) = 3)))
theorem tX4_partForThief {g : Gh} {t j b r : Nat} {hp : HPt} (ht : t < 10) (hj : j < 8) (hb : b < 2) (hr : r < 5) (hW : WT hp) : Ci g mX4_partForThief [vR (4, t, j, 0), vI (nI b), vI (nI r)] hp (hp (6, t, j, b) r) (thB hp t j b r) := by
  have key : V g mX4_partForThief 0 0 0 0 609 32 [some (vR (4, t, j, 0)), some (vI (nI b)), some (vI (nI r)), some (vR (5, t, j, b))] [] RP (thA hp t j b r) (Pi (hp (6, t, j, b) r) (thB hp t j b r)) := by
    have e1 : thA hp t j b r (4, t, j, 0) 9 = hp (4, t, j, 0) 9 := by unfold thA; split <;> simp [hset]
    have e2 : thA hp t j b r (6, t, j, b) r = hp (6, t, j, b) r := by unfold thA; split <;> simp [hset]
    have fin : ∀ x : Int32, x = bi (!decide (hp (4, t, j, 0) 9 = 0) || decide (fTk (thA hp t j b r (7, t, j, 0) r) (thA hp t j b r (7, t, j, 1) r) = 3)) → V g mX4_partForThief 0 0 0 0 609 54 [some (vR (4, t, j, 0)), some (vI (nI b)), some (vI (nI r)), some (vR (5, t, j, b))] [vI x, vR (4, t, j, 0)] RP (thA hp t j b r) (Pi (hp (6, t, j, b) r) (thB hp t j b r)) := by
      intro x hx
      subst hx
      refine r_putI dX4_partForThief_54 f_4_47 rfl rfl (lv4 (by first | assumption | decide | omega) (by first | assumption | decide | omega)) (bi_fit _) ?_
      refine r_aload_n dX4_partForThief_57 (i := 3) rfl rfl ?_
      refine r_getR dX4_partForThief_58 f_4_51 rfl rfl rfl (lv5 (by first | assumption | decide | omega) (by first | assumption | decide | omega) (by first | assumption | decide | omega)) ?_
      refine r_iload_n dX4_partForThief_61 (i := 2) rfl rfl ?_
      refine n_iald dX4_partForThief_62 rfl (lv6 (by first | assumption | decide | omega) (by first | assumption | decide | omega) (by first | assumption | decide | omega)) rfl (by first | assumption | omega | (unfold cI; omega)) ?_
      exact e_i dX4_partForThief_63 rfl rfl (by rw [hs_a (by simp)]; exact e2) rfl
    refine r_aload_n dX4_partForThief_32 (i := 0) rfl rfl ?_
    refine r_aload_n dX4_partForThief_33 (i := 0) rfl rfl ?_
    refine r_getI dX4_partForThief_34 f_4_47 rfl rfl (lv4 (by first | assumption | decide | omega) (by first | assumption | decide | omega)) ?_
    refine r_if_ne dX4_partForThief_37 (tgt := 49) rfl (fun h37 => ?_) (fun h37 => ?_)
    · refine r_iconst dX4_partForThief_49 (v := 1) rfl ?_
      refine r_goto dX4_partForThief_50 (tgt := 54) rfl ?_
      refine fin _ ?_
      rw [e1] at *
      simp_all [bi]
    · refine r_aload_n dX4_partForThief_40 (i := 0) rfl rfl ?_
      refine r_iload_n dX4_partForThief_41 (i := 2) rfl rfl ?_
      refine sX4_partForThief_42 (Nat.le_refl _) (Nat.le_refl _) rfl (lv4 (by first | assumption | decide | omega) (by first | assumption | decide | omega)) (Nat.le_of_ble_eq_true rfl) (tX4_takenSet ht hj hr) ?_
      refine r_iconst dX4_partForThief_45 (v := 3) rfl ?_
      refine r_icmp_ne dX4_partForThief_46 (tgt := 53) rfl (fun h46 => ?_) (fun h46 => ?_)
      · refine r_iconst dX4_partForThief_53 (v := 0) rfl ?_
        refine fin _ ?_
        rw [e1] at *
        simp_all [bi]
      · refine r_iconst dX4_partForThief_49 (v := 1) rfl ?_
        refine r_goto dX4_partForThief_50 (tgt := 54) rfl ?_
        refine fin _ ?_
        rw [e1] at *
        simp_all [bi]
  unfold Ci
  refine r_aload_n dX4_partForThief_0 (i := 0) rfl rfl ?_
  refine r_iload_n dX4_partForThief_1 (i := 1) rfl rfl ?_
  refine sX4_partForThief_2 (Nat.le_refl _) (Nat.le_refl _) rfl (lv4 (by first | assumption | decide | omega) (by first | assumption | decide | omega)) (Nat.le_of_ble_eq_true rfl) (tX4_halfIn ht hj hb) ?_
  refine r_astore_n dX4_partForThief_5 (i := 3) rfl (Nat.le_of_ble_eq_true rfl) rfl rfl ?_
  refine r_aload_n dX4_partForThief_6 (i := 3) rfl rfl ?_
  refine r_getR dX4_partForThief_7 f_4_76 rfl rfl rfl (lv5 (by first | assumption | decide | omega) (by first | assumption | decide | omega) (by first | assumption | decide | omega)) ?_
  refine r_iload_n dX4_partForThief_10 (i := 2) rfl rfl ?_
  refine n_zald dX4_partForThief_11 rfl (lv7 (by first | assumption | decide | omega) (by first | assumption | decide | omega) (by first | assumption | decide | omega)) rfl (by first | assumption | omega | (unfold cI; omega)) ?_
  refine r_if_ne dX4_partForThief_12 (tgt := 32) rfl (fun h12 => ?_) (fun h12 => ?_)
  · refine V.eqH ?_ key
    unfold thA
    simp_all [hset]
  · refine r_aload_n dX4_partForThief_15 (i := 3) rfl rfl ?_
    refine r_getR dX4_partForThief_16 f_4_76 rfl rfl rfl (lv5 (by first | assumption | decide | omega) (by first | assumption | decide | omega) (by first | assumption | decide | omega)) ?_
    refine r_iload_n dX4_partForThief_19 (i := 2) rfl rfl ?_
    refine r_iconst dX4_partForThief_20 (v := 1) rfl ?_
    refine n_zast dX4_partForThief_21 rfl (lv7 (by first | assumption | decide | omega) (by first | assumption | decide | omega) (by first | assumption | decide | omega)) rfl (by first | assumption | omega | (unfold cI; omega)) rfl ?_
    refine r_aload_n dX4_partForThief_22 (i := 0) rfl rfl ?_
    refine r_dup dX4_partForThief_23 rfl ?_
    refine r_getI dX4_partForThief_24 f_4_44 rfl rfl (lv4 (by first | assumption | decide | omega) (by first | assumption | decide | omega)) ?_
    refine r_iconst dX4_partForThief_27 (v := 1) rfl ?_
    refine r_iadd dX4_partForThief_28 ?_
    refine r_putI dX4_partForThief_29 f_4_44 rfl rfl (lv4 (by first | assumption | decide | omega) (by first | assumption | decide | omega)) ⟨rfl, rfl⟩ ?_
    refine V.eqH ?_ key
    unfold thA
    simp_all [hset]
def rkB (hp : HPt) (t j r : Nat) : Bool := !decide (hp (7, t, j, 0) r = hp (7, t, j, 1) r)
/-- the rows at risk among the first r -/
def rkN (hp : HPt) (t j : Nat) : Nat → Nat
  | 0 => 0
  | r + 1 => rkN hp t j r + (if rkB hp t j r = true then 1 else 0)
theorem rkN_le {hp : HPt} {t j : Nat} : ∀ r, rkN hp t j r ≤ r
  | 0 => Nat.le_refl _
  | r + 1 => by
    have h := rkN_le (hp := hp) (t := t) (j := j) r
    unfold rkN
    split <;> omega
theorem tX4_rowsAtRisk {g : Gh} {t j m : Nat} {hp : HPt} (ht : t < 10) (hj : j < 8) (hm : m < 5) (hM : hp (4, t, j, 0) 3 = nI m) : Ci g mX4_rowsAtRisk [vR (4, t, j, 0)] hp (nI (rkN hp t j (m + 1))) hp := by
  have key : ∀ k r, r + k = m + 1 → V g mX4_rowsAtRisk 0 0 0 0 609 4 [some (vR (4, t, j, 0)), some (vI (nI (rkN hp t j r))), some (vI (nI r))] [] RP hp (Pi (nI (rkN hp t j (m + 1))) hp) := by
    intro k
    induction k with
    | zero =>
      intro r hr
      have hr : r = m + 1 := by omega
      subst hr
      refine r_iload_n dX4_rowsAtRisk_4 (i := 2) rfl rfl ?_
      refine r_aload_n dX4_rowsAtRisk_5 (i := 0) rfl rfl ?_
      refine r_getI dX4_rowsAtRisk_6 f_4_29 rfl rfl (lv4 (by first | assumption | decide | omega) (by first | assumption | decide | omega)) ?_
      refine r_icmp_gt dX4_rowsAtRisk_9 (tgt := 47) rfl (fun _ => ?_) (fun h9 => absurd ((by rw [hM]; exact nI_lt (by omega) (by omega) : hp (4, t, j, 0) 3 < nI (m + 1))) h9)
      refine r_iload_n dX4_rowsAtRisk_47 (i := 1) rfl rfl ?_
      exact e_i dX4_rowsAtRisk_48 rfl (by first | rfl | exact bi_nar _) (by first | rfl | simp [bi, *]) rfl
    | succ k ih =>
      intro r hr
      have hr5 : r < 5 := by omega
      have h := ih (r + 1) (by omega)
      have e1 : nI r + 1 = nI (r + 1) := nI_1 r
      refine r_iload_n dX4_rowsAtRisk_4 (i := 2) rfl rfl ?_
      refine r_aload_n dX4_rowsAtRisk_5 (i := 0) rfl rfl ?_
      refine r_getI dX4_rowsAtRisk_6 f_4_29 rfl rfl (lv4 (by first | assumption | decide | omega) (by first | assumption | decide | omega)) ?_
      refine r_icmp_gt dX4_rowsAtRisk_9 (tgt := 47) rfl (fun h9 => absurd h9 ((by rw [hM]; exact nI_nlt (by omega) (by omega) : ¬ hp (4, t, j, 0) 3 < nI r))) (fun _ => ?_)
      refine r_iload_n dX4_rowsAtRisk_12 (i := 2) rfl rfl ?_
      refine r_iconst dX4_rowsAtRisk_13 (v := 5) rfl ?_
      refine r_icmp_ge dX4_rowsAtRisk_14 (tgt := 47) rfl (fun h14 => absurd h14 ((nI_ge (b := 5) hr5 (by decide) : ¬ (5 : Int32) ≤ nI r))) (fun _ => ?_)
      refine r_aload_n dX4_rowsAtRisk_17 (i := 0) rfl rfl ?_
      refine r_getR dX4_rowsAtRisk_18 f_4_12 rfl rfl rfl (lv4 (by first | assumption | decide | omega) (by first | assumption | decide | omega)) ?_
      refine r_getR dX4_rowsAtRisk_21 f_4_76 rfl rfl rfl (lv5 (by first | assumption | decide | omega) (by first | assumption | decide | omega) (by first | assumption | decide | omega)) ?_
      refine r_iload_n dX4_rowsAtRisk_24 (i := 2) rfl rfl ?_
      refine n_zald dX4_rowsAtRisk_25 rfl (lv7 (by first | assumption | decide | omega) (by first | assumption | decide | omega) (by first | assumption | decide | omega)) rfl (by first | assumption | omega | (unfold cI; omega)) ?_
      refine r_aload_n dX4_rowsAtRisk_26 (i := 0) rfl rfl ?_
      refine r_getR dX4_rowsAtRisk_27 f_4_18 rfl rfl rfl (lv4 (by first | assumption | decide | omega) (by first | assumption | decide | omega)) ?_
      refine r_getR dX4_rowsAtRisk_30 f_4_76 rfl rfl rfl (lv5 (by first | assumption | decide | omega) (by first | assumption | decide | omega) (by first | assumption | decide | omega)) ?_
      refine r_iload_n dX4_rowsAtRisk_33 (i := 2) rfl rfl ?_
      refine n_zald dX4_rowsAtRisk_34 rfl (lv7 (by first | assumption | decide | omega) (by first | assumption | decide | omega) (by first | assumption | decide | omega)) rfl (by first | assumption | omega | (unfold cI; omega)) ?_
      refine r_icmp_eq dX4_rowsAtRisk_35 (tgt := 41) rfl (fun h35 => ?_) (fun h35 => ?_)
      · refine V.eqL (L2 := [some (vR (4, t, j, 0)), some (vI (nI (rkN hp t j (r + 1)))), some (vI (nI r))]) (by simp [rkN, rkB, h35, nI_1]) ?_
        refine r_inc1 dX4_rowsAtRisk_41 rfl (Nat.le_of_ble_eq_true rfl) rfl ?_
        refine r_goto dX4_rowsAtRisk_44 (tgt := 4) rfl ?_
        rw [e1]
        exact h
      · refine r_inc1 dX4_rowsAtRisk_38 rfl (Nat.le_of_ble_eq_true rfl) rfl ?_
        refine V.eqL (L2 := [some (vR (4, t, j, 0)), some (vI (nI (rkN hp t j (r + 1)))), some (vI (nI r))]) (by simp [rkN, rkB, h35, nI_1]) ?_
        refine r_inc1 dX4_rowsAtRisk_41 rfl (Nat.le_of_ble_eq_true rfl) rfl ?_
        refine r_goto dX4_rowsAtRisk_44 (tgt := 4) rfl ?_
        rw [e1]
        exact h
  unfold Ci
  refine r_iconst dX4_rowsAtRisk_0 (v := 0) rfl ?_
  refine r_istore_n dX4_rowsAtRisk_1 (i := 1) rfl (Nat.le_of_ble_eq_true rfl) rfl rfl ?_
  refine r_iconst dX4_rowsAtRisk_2 (v := 0) rfl ?_
  refine r_istore_n dX4_rowsAtRisk_3 (i := 2) rfl (Nat.le_of_ble_eq_true rfl) rfl rfl ?_
  exact key (m + 1) 0 (by omega)
end
section
theorem r_ixor {g : Gh} {M : Md} {mc ms cu su n pc : Nat} {L : List (Option Vv)} {st : List Vv} {rp : RPt} {hp : HPt} {P : Pst} {x y : Int32} (hd : decode (mC M) pc = .ok (.ixor, 1)) (k : V g M mc ms cu su n (pc + 1) L (vI (x ^^^ y) :: st) rp hp P) : V g M mc ms cu su n pc L (vI y :: vI x :: st) rp hp P := by
  intro p l e R s m args below meth c Q C RT H locs LS hH hS hl
  exact lv_ixor C.1 C.2.1 hd (k p l e R s m args below meth c Q C RT H locs LS hH hS hl)
theorem m_xald {g : Gh} {M : Md} {mc ms cu su n pc : Nat} {L : List (Option Vv)} {st : List Vv} {rp : RPt} {hp : HPt} {P : Pst} {t k len : Nat} {f : Nat → Int32} {x : Int32} (hd : decode (mC M) pc = .ok (.iaload, 1)) (ht : t < 3) (hX : g.2.2.2.2 t = (len, f)) (hl : len < 2 ^ 31) (hx : x = nI k) (hk : k < len) (kk : V g M mc ms cu su n (pc + 1) L (vI (f k) :: st) rp hp P) : V g M mc ms cu su n pc L (vI x :: vR (24, t, 0, 0) :: st) rp hp P :=
  n_xald hd ht hx (by rw [hX]; exact hk) (by rw [hX]; exact hl) (by rw [hX]; exact kk)
def fFM (x y : Int32) : Int32 := if (!decide (0 ≤ x ^^^ y) && !decide (jrem x y = 0)) = true then jrem x y + y else jrem x y
theorem tJ9_floorMod {g : Gh} {x y : Int32} {hp : HPt} (hy : ¬ y = 0) : Ci g mJ9_floorMod_7cf53 [vI x, vI y] hp (fFM x y) hp := by
  unfold Ci
  refine r_iload_n dJ9_floorMod_7cf53_0 (i := 0) rfl rfl ?_
  refine r_iload_n dJ9_floorMod_7cf53_1 (i := 1) rfl rfl ?_
  refine r_irem dJ9_floorMod_7cf53_2 hy ?_
  refine r_istore_n dJ9_floorMod_7cf53_3 (i := 2) rfl (Nat.le_of_ble_eq_true rfl) rfl rfl ?_
  refine r_iload_n dJ9_floorMod_7cf53_4 (i := 0) rfl rfl ?_
  refine r_iload_n dJ9_floorMod_7cf53_5 (i := 1) rfl rfl ?_
  refine r_ixor dJ9_floorMod_7cf53_6 ?_
  refine r_if_ge dJ9_floorMod_7cf53_7 (tgt := 18) rfl (fun h7 => ?_) (fun h7 => ?_)
  · refine r_iload_n dJ9_floorMod_7cf53_18 (i := 2) rfl rfl ?_
    exact e_i dJ9_floorMod_7cf53_19 rfl (by first | rfl | exact bi_nar _) (by first | rfl | simp [fFM, *]) rfl
  · refine r_iload_n dJ9_floorMod_7cf53_10 (i := 2) rfl rfl ?_
    refine r_if_eq dJ9_floorMod_7cf53_11 (tgt := 18) rfl (fun h11 => ?_) (fun h11 => ?_)
    · refine r_iload_n dJ9_floorMod_7cf53_18 (i := 2) rfl rfl ?_
      exact e_i dJ9_floorMod_7cf53_19 rfl (by first | rfl | exact bi_nar _) (by first | rfl | simp [fFM, *]) rfl
    · refine r_iload_n dJ9_floorMod_7cf53_14 (i := 2) rfl rfl ?_
      refine r_iload_n dJ9_floorMod_7cf53_15 (i := 1) rfl rfl ?_
      refine r_iadd dJ9_floorMod_7cf53_16 ?_
      exact e_i dJ9_floorMod_7cf53_17 rfl (by first | rfl | exact bi_nar _) (by first | rfl | simp [fFM, *]) rfl
def fL : Nat → Int32 := fun i => if i = 0 then 1 else 0
def fM : Nat → Int32 := fun i => if i = 0 then 20 else if i = 1 then 99 else 4
def GX (g : Gh) : Prop := g.2.2.2.2 1 = (3, fL) ∧ g.2.2.2.2 2 = (3, fM)
def fSt (x : Int32) : Bool := !decide (x < 0) && decide (x < 2)
def fPt (x : Int32) : Bool := !decide (x < 0) && decide (x < 256)
def fTg (x : Int32) : Bool := !decide (x < 0) && decide (x < 257)
def fHas (hp : HPt) (t : Nat) (x : Int32) : Bool := !decide (x < 0) && decide (x < hp (0, t, 0, 0) 3)
def fHalf (hp : HPt) (t : Nat) (s x : Int32) : Bool := fSt s && fHas hp t x
def fSlp (hp : HPt) (t : Nat) : Bool := !decide (hp (3, t, 0, 0) 0 = 0) || !decide (hp (3, t, 0, 0) 1 = 0)
theorem tX6_isStore {g : Gh} {x : Int32} {hp : HPt} : Ci g mX6_isStore [vI x] hp (bi (fSt x)) hp := by
  unfold Ci
  refine r_iload_n dX6_isStore_0 (i := 0) rfl rfl ?_
  refine r_if_lt dX6_isStore_1 (tgt := 13) rfl (fun h1 => ?_) (fun h1 => ?_)
  · refine r_iconst dX6_isStore_13 (v := 0) rfl ?_
    exact e_i dX6_isStore_14 rfl (by first | rfl | exact bi_nar _) (by first | rfl | simp_all [bi, fSt]) rfl
  · refine r_iload_n dX6_isStore_4 (i := 0) rfl rfl ?_
    refine r_iconst dX6_isStore_5 (v := 2) rfl ?_
    refine r_icmp_ge dX6_isStore_6 (tgt := 13) rfl (fun h6 => ?_) (fun h6 => ?_)
    · refine r_iconst dX6_isStore_13 (v := 0) rfl ?_
      exact e_i dX6_isStore_14 rfl (by first | rfl | exact bi_nar _) (by first | rfl | simp_all [bi, fSt]) rfl
    · refine r_iconst dX6_isStore_9 (v := 1) rfl ?_
      refine r_goto dX6_isStore_10 (tgt := 14) rfl ?_
      exact e_i dX6_isStore_14 rfl (by first | rfl | exact bi_nar _) (by first | rfl | simp_all [bi, fSt]) rfl
theorem tX6_isPart {g : Gh} {x : Int32} {hp : HPt} : Ci g mX6_isPart [vI x] hp (bi (fPt x)) hp := by
  unfold Ci
  refine r_iload_n dX6_isPart_0 (i := 0) rfl rfl ?_
  refine r_if_lt dX6_isPart_1 (tgt := 15) rfl (fun h1 => ?_) (fun h1 => ?_)
  · refine r_iconst dX6_isPart_15 (v := 0) rfl ?_
    exact e_i dX6_isPart_16 rfl (by first | rfl | exact bi_nar _) (by first | rfl | simp_all [bi, fPt]) rfl
  · refine r_iload_n dX6_isPart_4 (i := 0) rfl rfl ?_
    refine r_sipush dX6_isPart_5 (v := 256) rfl ?_
    refine r_icmp_ge dX6_isPart_8 (tgt := 15) rfl (fun h8 => ?_) (fun h8 => ?_)
    · refine r_iconst dX6_isPart_15 (v := 0) rfl ?_
      exact e_i dX6_isPart_16 rfl (by first | rfl | exact bi_nar _) (by first | rfl | simp_all [bi, fPt]) rfl
    · refine r_iconst dX6_isPart_11 (v := 1) rfl ?_
      refine r_goto dX6_isPart_12 (tgt := 16) rfl ?_
      exact e_i dX6_isPart_16 rfl (by first | rfl | exact bi_nar _) (by first | rfl | simp_all [bi, fPt]) rfl
theorem tX6_isTag {g : Gh} {x : Int32} {hp : HPt} : Ci g mX6_isTag [vI x] hp (bi (fTg x)) hp := by
  unfold Ci
  refine r_iload_n dX6_isTag_0 (i := 0) rfl rfl ?_
  refine r_if_lt dX6_isTag_1 (tgt := 15) rfl (fun h1 => ?_) (fun h1 => ?_)
  · refine r_iconst dX6_isTag_15 (v := 0) rfl ?_
    exact e_i dX6_isTag_16 rfl (by first | rfl | exact bi_nar _) (by first | rfl | simp_all [bi, fTg]) rfl
  · refine r_iload_n dX6_isTag_4 (i := 0) rfl rfl ?_
    refine r_sipush dX6_isTag_5 (v := 257) rfl ?_
    refine r_icmp_ge dX6_isTag_8 (tgt := 15) rfl (fun h8 => ?_) (fun h8 => ?_)
    · refine r_iconst dX6_isTag_15 (v := 0) rfl ?_
      exact e_i dX6_isTag_16 rfl (by first | rfl | exact bi_nar _) (by first | rfl | simp_all [bi, fTg]) rfl
    · refine r_iconst dX6_isTag_11 (v := 1) rfl ?_
      refine r_goto dX6_isTag_12 (tgt := 16) rfl ?_
      exact e_i dX6_isTag_16 rfl (by first | rfl | exact bi_nar _) (by first | rfl | simp_all [bi, fTg]) rfl
theorem tX5_hasSecret {g : Gh} {t : Nat} {x : Int32} {hp : HPt} (ht : t < 10) : Ci g mX5_hasSecret [vR (0, t, 0, 0), vI x] hp (bi (fHas hp t x)) hp := by
  unfold Ci
  refine r_iload_n dX5_hasSecret_0 (i := 1) rfl rfl ?_
  refine r_if_lt dX5_hasSecret_1 (tgt := 16) rfl (fun h1 => ?_) (fun h1 => ?_)
  · refine r_iconst dX5_hasSecret_16 (v := 0) rfl ?_
    exact e_i dX5_hasSecret_17 rfl (by first | rfl | exact bi_nar _) (by first | rfl | simp_all [bi, fHas]) rfl
  · refine r_iload_n dX5_hasSecret_4 (i := 1) rfl rfl ?_
    refine r_aload_n dX5_hasSecret_5 (i := 0) rfl rfl ?_
    refine r_getI dX5_hasSecret_6 f_5_34 rfl rfl (lv0 (by first | assumption | decide | omega)) ?_
    refine r_icmp_ge dX5_hasSecret_9 (tgt := 16) rfl (fun h9 => ?_) (fun h9 => ?_)
    · refine r_iconst dX5_hasSecret_16 (v := 0) rfl ?_
      exact e_i dX5_hasSecret_17 rfl (by first | rfl | exact bi_nar _) (by first | rfl | simp_all [bi, fHas]) rfl
    · refine r_iconst dX5_hasSecret_12 (v := 1) rfl ?_
      refine r_goto dX5_hasSecret_13 (tgt := 17) rfl ?_
      exact e_i dX5_hasSecret_17 rfl (by first | rfl | exact bi_nar _) (by first | rfl | simp_all [bi, fHas]) rfl
theorem tX5_hasHalf {g : Gh} {t : Nat} {s x : Int32} {hp : HPt} (ht : t < 10) : Ci g mX5_hasHalf [vR (0, t, 0, 0), vI s, vI x] hp (bi (fHalf hp t s x)) hp := by
  unfold Ci
  refine r_iload_n dX5_hasHalf_0 (i := 1) rfl rfl ?_
  refine sX5_hasHalf_1 (Nat.le_refl _) (Nat.le_refl _) (Nat.le_of_ble_eq_true rfl) (tX6_isStore) ?_
  refine r_if_eq dX5_hasHalf_4 (tgt := 19) rfl (fun h4 => ?_) (fun h4 => ?_)
  · refine r_iconst dX5_hasHalf_19 (v := 0) rfl ?_
    exact e_i dX5_hasHalf_20 rfl (by first | rfl | exact bi_nar _) (by (simp only [bi_0, bi_n0] at *; first | rfl | simp_all [bi, fHalf])) rfl
  · refine r_aload_n dX5_hasHalf_7 (i := 0) rfl rfl ?_
    refine r_iload_n dX5_hasHalf_8 (i := 2) rfl rfl ?_
    refine sX5_hasHalf_9 (Nat.le_refl _) (Nat.le_refl _) rfl (lv0 (by first | assumption | decide | omega)) (Nat.le_of_ble_eq_true rfl) (tX5_hasSecret ht) ?_
    refine r_if_eq dX5_hasHalf_12 (tgt := 19) rfl (fun h12 => ?_) (fun h12 => ?_)
    · refine r_iconst dX5_hasHalf_19 (v := 0) rfl ?_
      exact e_i dX5_hasHalf_20 rfl (by first | rfl | exact bi_nar _) (by (simp only [bi_0, bi_n0] at *; first | rfl | simp_all [bi, fHalf])) rfl
    · refine r_iconst dX5_hasHalf_15 (v := 1) rfl ?_
      refine r_goto dX5_hasHalf_16 (tgt := 20) rfl ?_
      exact e_i dX5_hasHalf_20 rfl (by first | rfl | exact bi_nar _) (by (simp only [bi_0, bi_n0] at *; first | rfl | simp_all [bi, fHalf])) rfl
theorem tX5_someStoreSleeps {g : Gh} {t : Nat} {hp : HPt} (ht : t < 10) : Ci g mX5_someStoreSleeps [vR (0, t, 0, 0)] hp (bi (fSlp hp t)) hp := by
  unfold Ci
  refine r_aload_n dX5_someStoreSleeps_0 (i := 0) rfl rfl ?_
  refine r_getR dX5_someStoreSleeps_1 f_5_21 rfl rfl rfl (lv0 (by first | assumption | decide | omega)) ?_
  refine r_iconst dX5_someStoreSleeps_4 (v := 0) rfl ?_
  refine n_zald dX5_someStoreSleeps_5 rfl (lv3 (by first | assumption | decide | omega)) (k := 0) rfl (by decide) ?_
  refine r_if_ne dX5_someStoreSleeps_6 (tgt := 18) rfl (fun h6 => ?_) (fun h6 => ?_)
  · refine r_iconst dX5_someStoreSleeps_18 (v := 1) rfl ?_
    refine r_goto dX5_someStoreSleeps_19 (tgt := 23) rfl ?_
    exact e_i dX5_someStoreSleeps_23 rfl (by first | rfl | exact bi_nar _) (by first | rfl | simp_all [bi, fSlp]) rfl
  · refine r_aload_n dX5_someStoreSleeps_9 (i := 0) rfl rfl ?_
    refine r_getR dX5_someStoreSleeps_10 f_5_21 rfl rfl rfl (lv0 (by first | assumption | decide | omega)) ?_
    refine r_iconst dX5_someStoreSleeps_13 (v := 1) rfl ?_
    refine n_zald dX5_someStoreSleeps_14 rfl (lv3 (by first | assumption | decide | omega)) (k := 1) rfl (by decide) ?_
    refine r_if_eq dX5_someStoreSleeps_15 (tgt := 22) rfl (fun h15 => ?_) (fun h15 => ?_)
    · refine r_iconst dX5_someStoreSleeps_22 (v := 0) rfl ?_
      exact e_i dX5_someStoreSleeps_23 rfl (by first | rfl | exact bi_nar _) (by first | rfl | simp_all [bi, fSlp]) rfl
    · refine r_iconst dX5_someStoreSleeps_18 (v := 1) rfl ?_
      refine r_goto dX5_someStoreSleeps_19 (tgt := 23) rfl ?_
      exact e_i dX5_someStoreSleeps_23 rfl (by first | rfl | exact bi_nar _) (by first | rfl | simp_all [bi, fSlp]) rfl
end
section
theorem tX5_changeX_e {g : Gh} {t : Nat} {x : Int32} {hp : HPt} (ht : t < 10) (hx : (!decide (x < 0) && decide (x ≤ 9999)) = false) : Ci g mX5_changeX [vR (0, t, 0, 0), vI x] hp (-2) hp := by
  unfold Ci
  refine r_iload_n dX5_changeX_0 (i := 1) rfl rfl ?_
  refine r_if_lt dX5_changeX_1 (tgt := 11) rfl (fun h1 => ?_) (fun h1 => ?_)
  · refine r_bipush dX5_changeX_11 (v := (-2)) rfl ?_
    exact e_i dX5_changeX_13 rfl (by first | rfl | exact bi_nar _) (by first | rfl | simp [bi, *]) rfl
  · refine r_iload_n dX5_changeX_4 (i := 1) rfl rfl ?_
    refine r_sipush dX5_changeX_5 (v := 9999) rfl ?_
    refine r_icmp_le dX5_changeX_8 (tgt := 14) rfl (fun h8 => ?_) (fun h8 => ?_)
    · simp_all
    · refine r_bipush dX5_changeX_11 (v := (-2)) rfl ?_
      exact e_i dX5_changeX_13 rfl (by first | rfl | exact bi_nar _) (by first | rfl | simp [bi, *]) rfl
theorem tX5_changeX {g : Gh} {t : Nat} {x : Int32} {hp : HPt} (ht : t < 10) (a1 : ¬ x < 0) (a2 : x ≤ 9999) : Ci g mX5_changeX [vR (0, t, 0, 0), vI x] hp (hp (0, t, 0, 0) 4) (hset hp (0, t, 0, 0) 4 x) := by
  unfold Ci
  refine r_iload_n dX5_changeX_0 (i := 1) rfl rfl ?_
  refine r_if_lt dX5_changeX_1 (tgt := 11) rfl (fun h1 => absurd h1 (a1)) (fun _ => ?_)
  refine r_iload_n dX5_changeX_4 (i := 1) rfl rfl ?_
  refine r_sipush dX5_changeX_5 (v := 9999) rfl ?_
  refine r_icmp_le dX5_changeX_8 (tgt := 14) rfl (fun _ => ?_) (fun h8 => absurd (a2) h8)
  refine r_aload_n dX5_changeX_14 (i := 0) rfl rfl ?_
  refine r_getI dX5_changeX_15 f_5_25 rfl rfl (lv0 (by first | assumption | decide | omega)) ?_
  refine r_istore_n dX5_changeX_18 (i := 2) rfl (Nat.le_of_ble_eq_true rfl) rfl rfl ?_
  refine r_aload_n dX5_changeX_19 (i := 0) rfl rfl ?_
  refine r_iload_n dX5_changeX_20 (i := 1) rfl rfl ?_
  refine r_putI dX5_changeX_21 f_5_25 rfl rfl (lv0 (by first | assumption | decide | omega)) ⟨rfl, rfl⟩ ?_
  refine r_iload_n dX5_changeX_24 (i := 2) rfl rfl ?_
  exact e_i dX5_changeX_25 rfl (by first | rfl | exact bi_nar _) (by first | rfl | simp [bi, *]) rfl
theorem tX5_changeSetting_e {g : Gh} {t : Nat} {x v : Int32} {hp : HPt} (ht : t < 10) (hx : (!decide (x < 0) && decide (x < 3)) = false) : Ci g mX5_changeSetting [vR (0, t, 0, 0), vI x, vI v] hp (-2) hp := by
  unfold Ci
  refine r_iload_n dX5_changeSetting_0 (i := 1) rfl rfl ?_
  refine r_if_lt dX5_changeSetting_1 (tgt := 9) rfl (fun h1 => ?_) (fun h1 => ?_)
  · refine r_bipush dX5_changeSetting_9 (v := (-2)) rfl ?_
    exact e_i dX5_changeSetting_11 rfl (by first | rfl | exact bi_nar _) (by first | rfl | simp [bi, *]) rfl
  · refine r_iload_n dX5_changeSetting_4 (i := 1) rfl rfl ?_
    refine r_iconst dX5_changeSetting_5 (v := 3) rfl ?_
    refine r_icmp_lt dX5_changeSetting_6 (tgt := 12) rfl (fun h6 => ?_) (fun h6 => ?_)
    · simp_all
    · refine r_bipush dX5_changeSetting_9 (v := (-2)) rfl ?_
      exact e_i dX5_changeSetting_11 rfl (by first | rfl | exact bi_nar _) (by first | rfl | simp [bi, *]) rfl
theorem tX5_changeSetting_e2 {g : Gh} {t k : Nat} {v : Int32} {hp : HPt} (hX : GX g) (ht : t < 10) (hk : k < 3) (hv : (!decide (v < fL k) && decide (v ≤ fM k)) = false) : Ci g mX5_changeSetting [vR (0, t, 0, 0), vI (nI k), vI v] hp (-2) hp := by
  unfold Ci
  refine r_iload_n dX5_changeSetting_0 (i := 1) rfl rfl ?_
  refine r_if_lt dX5_changeSetting_1 (tgt := 9) rfl (fun h1 => absurd h1 (nI_pos (by omega))) (fun _ => ?_)
  refine r_iload_n dX5_changeSetting_4 (i := 1) rfl rfl ?_
  refine r_iconst dX5_changeSetting_5 (v := 3) rfl ?_
  refine r_icmp_lt dX5_changeSetting_6 (tgt := 12) rfl (fun _ => ?_) (fun h6 => absurd (nI_lt (b := 3) hk (by decide)) h6)
  refine r_iload_n dX5_changeSetting_12 (i := 2) rfl rfl ?_
  refine r_getL dX5_changeSetting_13 wd_534 ?_
  refine r_iload_n dX5_changeSetting_16 (i := 1) rfl rfl ?_
  refine m_xald dX5_changeSetting_17 (by decide) hX.1 (by decide) rfl hk ?_
  refine r_icmp_lt dX5_changeSetting_18 (tgt := 30) rfl (fun h18 => ?_) (fun h18 => ?_)
  · refine r_bipush dX5_changeSetting_30 (v := (-2)) rfl ?_
    exact e_i dX5_changeSetting_32 rfl (by first | rfl | exact bi_nar _) (by first | rfl | simp [bi, *]) rfl
  · refine r_iload_n dX5_changeSetting_21 (i := 2) rfl rfl ?_
    refine r_getM dX5_changeSetting_22 wd_536 ?_
    refine r_iload_n dX5_changeSetting_25 (i := 1) rfl rfl ?_
    refine m_xald dX5_changeSetting_26 (by decide) hX.2 (by decide) rfl hk ?_
    refine r_icmp_le dX5_changeSetting_27 (tgt := 33) rfl (fun h27 => ?_) (fun h27 => ?_)
    · simp_all
    · refine r_bipush dX5_changeSetting_30 (v := (-2)) rfl ?_
      exact e_i dX5_changeSetting_32 rfl (by first | rfl | exact bi_nar _) (by first | rfl | simp [bi, *]) rfl
theorem tX5_changeSetting {g : Gh} {t k : Nat} {v : Int32} {hp : HPt} (hX : GX g) (ht : t < 10) (hk : k < 3) (a1 : ¬ v < fL k) (a2 : v ≤ fM k) : Ci g mX5_changeSetting [vR (0, t, 0, 0), vI (nI k), vI v] hp (hp (2, t, 0, 0) k) (hset hp (2, t, 0, 0) k v) := by
  unfold Ci
  refine r_iload_n dX5_changeSetting_0 (i := 1) rfl rfl ?_
  refine r_if_lt dX5_changeSetting_1 (tgt := 9) rfl (fun h1 => absurd h1 (nI_pos (by omega))) (fun _ => ?_)
  refine r_iload_n dX5_changeSetting_4 (i := 1) rfl rfl ?_
  refine r_iconst dX5_changeSetting_5 (v := 3) rfl ?_
  refine r_icmp_lt dX5_changeSetting_6 (tgt := 12) rfl (fun _ => ?_) (fun h6 => absurd (nI_lt (b := 3) hk (by decide)) h6)
  refine r_iload_n dX5_changeSetting_12 (i := 2) rfl rfl ?_
  refine r_getL dX5_changeSetting_13 wd_534 ?_
  refine r_iload_n dX5_changeSetting_16 (i := 1) rfl rfl ?_
  refine m_xald dX5_changeSetting_17 (by decide) hX.1 (by decide) rfl hk ?_
  refine r_icmp_lt dX5_changeSetting_18 (tgt := 30) rfl (fun h18 => absurd h18 (a1)) (fun _ => ?_)
  refine r_iload_n dX5_changeSetting_21 (i := 2) rfl rfl ?_
  refine r_getM dX5_changeSetting_22 wd_536 ?_
  refine r_iload_n dX5_changeSetting_25 (i := 1) rfl rfl ?_
  refine m_xald dX5_changeSetting_26 (by decide) hX.2 (by decide) rfl hk ?_
  refine r_icmp_le dX5_changeSetting_27 (tgt := 33) rfl (fun _ => ?_) (fun h27 => absurd (a2) h27)
  refine r_aload_n dX5_changeSetting_33 (i := 0) rfl rfl ?_
  refine r_getR dX5_changeSetting_34 f_5_17 rfl rfl rfl (lv0 (by first | assumption | decide | omega)) ?_
  refine r_iload_n dX5_changeSetting_37 (i := 1) rfl rfl ?_
  refine n_iald dX5_changeSetting_38 rfl (lv2 (by first | assumption | decide | omega)) rfl (by first | assumption | omega | (unfold cI; omega)) ?_
  refine r_istore_n dX5_changeSetting_39 (i := 3) rfl (Nat.le_of_ble_eq_true rfl) rfl rfl ?_
  refine r_aload_n dX5_changeSetting_40 (i := 0) rfl rfl ?_
  refine r_getR dX5_changeSetting_41 f_5_17 rfl rfl rfl (lv0 (by first | assumption | decide | omega)) ?_
  refine r_iload_n dX5_changeSetting_44 (i := 1) rfl rfl ?_
  refine r_iload_n dX5_changeSetting_45 (i := 2) rfl rfl ?_
  refine n_iast dX5_changeSetting_46 rfl (lv2 (by first | assumption | decide | omega)) rfl (by first | assumption | omega | (unfold cI; omega)) ?_
  refine r_iload_n dX5_changeSetting_47 (i := 3) rfl rfl ?_
  exact e_i dX5_changeSetting_48 rfl (by first | rfl | exact bi_nar _) (by first | rfl | simp [bi, *]) rfl
/-- a number is drawn -/
def dr (hp : HPt) (t : Nat) : HPt := hset hp (0, t, 0, 0) 4 (jrem (75 * hp (0, t, 0, 0) 4 + 74) 65537)
def dv (hp : HPt) (t : Nat) : Int32 := dr hp t (0, t, 0, 0) 4 / 16
theorem tX5_drawn {g : Gh} {t : Nat} {hp : HPt} (ht : t < 10) : Ci g mX5_drawn [vR (0, t, 0, 0)] hp (dv hp t) (dr hp t) := by
  unfold Ci
  refine r_aload_n dX5_drawn_0 (i := 0) rfl rfl ?_
  refine r_bipush dX5_drawn_1 (v := 75) rfl ?_
  refine r_aload_n dX5_drawn_3 (i := 0) rfl rfl ?_
  refine r_getI dX5_drawn_4 f_5_25 rfl rfl (lv0 (by first | assumption | decide | omega)) ?_
  refine r_imul dX5_drawn_7 ?_
  refine r_bipush dX5_drawn_8 (v := 74) rfl ?_
  refine r_iadd dX5_drawn_10 ?_
  refine r_ldc dX5_drawn_11 wd_378 ?_
  refine r_irem dX5_drawn_13 (by decide) ?_
  refine r_putI dX5_drawn_14 f_5_25 rfl rfl (lv0 (by first | assumption | decide | omega)) ⟨rfl, rfl⟩ ?_
  refine r_aload_n dX5_drawn_17 (i := 0) rfl rfl ?_
  refine r_getI dX5_drawn_18 f_5_25 rfl rfl (lv0 (by first | assumption | decide | omega)) ?_
  refine r_bipush dX5_drawn_21 (v := 16) rfl ?_
  refine r_idiv dX5_drawn_23 (by decide) ?_
  exact e_i dX5_drawn_24 rfl (by first | rfl | exact bi_nar _) (by first | rfl | simp [bi, *]) rfl
/-- a version is made -/
def mv1 (hp : HPt) (t j : Nat) (v : Int32) : HPt := hset (hset (dr hp t) (6, t, j, 0) 0 (jrem (dv hp t) 256)) (6, t, j, 1) 0 (fFM (v - hset (dr hp t) (6, t, j, 0) 0 (jrem (dv hp t) 256) (6, t, j, 0) 0) 256)
def mv2 (hp : HPt) (t j b : Nat) : HPt := hset (dr hp t) (5, t, j, b) 3 (jrem (dv hp t) 256 + 1)
def mv3 (hp : HPt) (t j b : Nat) : HPt := hset (dr hp t) (5, t, j, b) 4 (jrem (dv hp t) 257)
def mv4 (hp : HPt) (t j b : Nat) : HPt := hset hp (5, t, j, b) 2 (jrem (hp (5, t, j, 1 - b) 3 * hp (6, t, j, b) 0 + hp (5, t, j, 1 - b) 4) 257)
def mv5 (hp : HPt) (t j : Nat) : HPt := hset hp (4, t, j, 0) 2 (hp (4, t, j, 0) 2 + 1)
def mv6 (hp : HPt) (t : Nat) : HPt := hset hp (0, t, 0, 0) 6 (hp (0, t, 0, 0) 6 + 1)
def MV (hp : HPt) (t j : Nat) (v : Int32) : HPt := mv6 (mv5 (mv4 (mv4 (mv3 (mv2 (mv3 (mv2 (mv1 hp t j v) t j 1) t j 1) t j 0) t j 0) t j 0) t j 1) t j) t
theorem tX5_makeVersion {g : Gh} {t j : Nat} {v : Int32} {hp : HPt} (ht : t < 10) (hj : j < 8) : Cv g mX5_makeVersion [vR (0, t, 0, 0), vR (4, t, j, 0), vI v] hp (MV hp t j v) := by
  unfold Cv
  refine r_aload_n dX5_makeVersion_0 (i := 1) rfl rfl ?_
  refine r_getR dX5_makeVersion_1 f_5_80 rfl rfl rfl (lv4 (by first | assumption | decide | omega) (by first | assumption | decide | omega)) ?_
  refine r_astore_n dX5_makeVersion_4 (i := 3) rfl (Nat.le_of_ble_eq_true rfl) rfl rfl ?_
  refine r_aload_n dX5_makeVersion_5 (i := 1) rfl rfl ?_
  refine r_getR dX5_makeVersion_6 f_5_84 rfl rfl rfl (lv4 (by first | assumption | decide | omega) (by first | assumption | decide | omega)) ?_
  refine r_astore dX5_makeVersion_9 (Nat.le_of_ble_eq_true rfl) rfl rfl ?_
  refine r_aload_n dX5_makeVersion_11 (i := 3) rfl rfl ?_
  refine r_getR dX5_makeVersion_12 f_5_87 rfl rfl rfl (lv5 (by first | assumption | decide | omega) (by first | assumption | decide | omega) (by first | assumption | decide | omega)) ?_
  refine r_iconst dX5_makeVersion_15 (v := 0) rfl ?_
  refine r_aload_n dX5_makeVersion_16 (i := 0) rfl rfl ?_
  refine sX5_makeVersion_17 (Nat.le_refl _) (Nat.le_refl _) rfl (lv0 (by first | assumption | decide | omega)) (Nat.le_of_ble_eq_true rfl) (tX5_drawn ht) ?_
  refine r_sipush dX5_makeVersion_20 (v := 256) rfl ?_
  refine r_irem dX5_makeVersion_23 (by decide) ?_
  refine n_iast dX5_makeVersion_24 rfl (lv6 (by first | assumption | decide | omega) (by first | assumption | decide | omega) (by first | assumption | decide | omega)) (k := 0) rfl (by decide) ?_
  refine r_aload dX5_makeVersion_25 rfl ?_
  refine r_getR dX5_makeVersion_27 f_5_87 rfl rfl rfl (lv5 (by first | assumption | decide | omega) (by first | assumption | decide | omega) (by first | assumption | decide | omega)) ?_
  refine r_iconst dX5_makeVersion_30 (v := 0) rfl ?_
  refine r_iload_n dX5_makeVersion_31 (i := 2) rfl rfl ?_
  refine r_aload_n dX5_makeVersion_32 (i := 3) rfl rfl ?_
  refine r_getR dX5_makeVersion_33 f_5_87 rfl rfl rfl (lv5 (by first | assumption | decide | omega) (by first | assumption | decide | omega) (by first | assumption | decide | omega)) ?_
  refine r_iconst dX5_makeVersion_36 (v := 0) rfl ?_
  refine n_iald dX5_makeVersion_37 rfl (lv6 (by first | assumption | decide | omega) (by first | assumption | decide | omega) (by first | assumption | decide | omega)) (k := 0) rfl (by decide) ?_
  refine r_isub dX5_makeVersion_38 ?_
  refine r_sipush dX5_makeVersion_39 (v := 256) rfl ?_
  refine sX5_makeVersion_42 (Nat.le_refl _) (Nat.le_refl _) (Nat.le_of_ble_eq_true rfl) (tJ9_floorMod (by decide)) ?_
  refine n_iast dX5_makeVersion_45 rfl (lv6 (by first | assumption | decide | omega) (by first | assumption | decide | omega) (by first | assumption | decide | omega)) (k := 0) rfl (by decide) ?_
  refine r_aload dX5_makeVersion_46 rfl ?_
  refine r_aload_n dX5_makeVersion_48 (i := 0) rfl rfl ?_
  refine sX5_makeVersion_49 (Nat.le_refl _) (Nat.le_refl _) rfl (lv0 (by first | assumption | decide | omega)) (Nat.le_of_ble_eq_true rfl) (tX5_drawn ht) ?_
  refine r_sipush dX5_makeVersion_52 (v := 256) rfl ?_
  refine r_irem dX5_makeVersion_55 (by decide) ?_
  refine r_iconst dX5_makeVersion_56 (v := 1) rfl ?_
  refine r_iadd dX5_makeVersion_57 ?_
  refine r_putI dX5_makeVersion_58 f_5_102 rfl rfl (lv5 (by first | assumption | decide | omega) (by first | assumption | decide | omega) (by first | assumption | decide | omega)) ⟨rfl, rfl⟩ ?_
  refine r_aload dX5_makeVersion_61 rfl ?_
  refine r_aload_n dX5_makeVersion_63 (i := 0) rfl rfl ?_
  refine sX5_makeVersion_64 (Nat.le_refl _) (Nat.le_refl _) rfl (lv0 (by first | assumption | decide | omega)) (Nat.le_of_ble_eq_true rfl) (tX5_drawn ht) ?_
  refine r_sipush dX5_makeVersion_67 (v := 257) rfl ?_
  refine r_irem dX5_makeVersion_70 (by decide) ?_
  refine r_putI dX5_makeVersion_71 f_5_105 rfl rfl (lv5 (by first | assumption | decide | omega) (by first | assumption | decide | omega) (by first | assumption | decide | omega)) ⟨rfl, rfl⟩ ?_
  refine r_aload_n dX5_makeVersion_74 (i := 3) rfl rfl ?_
  refine r_aload_n dX5_makeVersion_75 (i := 0) rfl rfl ?_
  refine sX5_makeVersion_76 (Nat.le_refl _) (Nat.le_refl _) rfl (lv0 (by first | assumption | decide | omega)) (Nat.le_of_ble_eq_true rfl) (tX5_drawn ht) ?_
  refine r_sipush dX5_makeVersion_79 (v := 256) rfl ?_
  refine r_irem dX5_makeVersion_82 (by decide) ?_
  refine r_iconst dX5_makeVersion_83 (v := 1) rfl ?_
  refine r_iadd dX5_makeVersion_84 ?_
  refine r_putI dX5_makeVersion_85 f_5_102 rfl rfl (lv5 (by first | assumption | decide | omega) (by first | assumption | decide | omega) (by first | assumption | decide | omega)) ⟨rfl, rfl⟩ ?_
  refine r_aload_n dX5_makeVersion_88 (i := 3) rfl rfl ?_
  refine r_aload_n dX5_makeVersion_89 (i := 0) rfl rfl ?_
  refine sX5_makeVersion_90 (Nat.le_refl _) (Nat.le_refl _) rfl (lv0 (by first | assumption | decide | omega)) (Nat.le_of_ble_eq_true rfl) (tX5_drawn ht) ?_
  refine r_sipush dX5_makeVersion_93 (v := 257) rfl ?_
  refine r_irem dX5_makeVersion_96 (by decide) ?_
  refine r_putI dX5_makeVersion_97 f_5_105 rfl rfl (lv5 (by first | assumption | decide | omega) (by first | assumption | decide | omega) (by first | assumption | decide | omega)) ⟨rfl, rfl⟩ ?_
  refine r_aload_n dX5_makeVersion_100 (i := 3) rfl rfl ?_
  refine r_aload dX5_makeVersion_101 rfl ?_
  refine r_aload_n dX5_makeVersion_103 (i := 3) rfl rfl ?_
  refine r_getR dX5_makeVersion_104 f_5_87 rfl rfl rfl (lv5 (by first | assumption | decide | omega) (by first | assumption | decide | omega) (by first | assumption | decide | omega)) ?_
  refine r_iconst dX5_makeVersion_107 (v := 0) rfl ?_
  refine n_iald dX5_makeVersion_108 rfl (lv6 (by first | assumption | decide | omega) (by first | assumption | decide | omega) (by first | assumption | decide | omega)) (k := 0) rfl (by decide) ?_
  refine sX5_makeVersion_109 (Nat.le_refl _) (Nat.le_refl _) rfl (lv5 (by first | assumption | decide | omega) (by first | assumption | decide | omega) (by first | assumption | decide | omega)) (Nat.le_of_ble_eq_true rfl) (tX0_tagDueFor ht hj (by decide)) ?_
  refine r_putI dX5_makeVersion_112 f_5_112 rfl rfl (lv5 (by first | assumption | decide | omega) (by first | assumption | decide | omega) (by first | assumption | decide | omega)) ⟨rfl, rfl⟩ ?_
  refine r_aload dX5_makeVersion_115 rfl ?_
  refine r_aload_n dX5_makeVersion_117 (i := 3) rfl rfl ?_
  refine r_aload dX5_makeVersion_118 rfl ?_
  refine r_getR dX5_makeVersion_120 f_5_87 rfl rfl rfl (lv5 (by first | assumption | decide | omega) (by first | assumption | decide | omega) (by first | assumption | decide | omega)) ?_
  refine r_iconst dX5_makeVersion_123 (v := 0) rfl ?_
  refine n_iald dX5_makeVersion_124 rfl (lv6 (by first | assumption | decide | omega) (by first | assumption | decide | omega) (by first | assumption | decide | omega)) (k := 0) rfl (by decide) ?_
  refine sX5_makeVersion_125 (Nat.le_refl _) (Nat.le_refl _) rfl (lv5 (by first | assumption | decide | omega) (by first | assumption | decide | omega) (by first | assumption | decide | omega)) (Nat.le_of_ble_eq_true rfl) (tX0_tagDueFor ht hj (by decide)) ?_
  refine r_putI dX5_makeVersion_128 f_5_112 rfl rfl (lv5 (by first | assumption | decide | omega) (by first | assumption | decide | omega) (by first | assumption | decide | omega)) ⟨rfl, rfl⟩ ?_
  refine r_aload_n dX5_makeVersion_131 (i := 1) rfl rfl ?_
  refine r_dup dX5_makeVersion_132 rfl ?_
  refine r_getI dX5_makeVersion_133 f_5_59 rfl rfl (lv4 (by first | assumption | decide | omega) (by first | assumption | decide | omega)) ?_
  refine r_iconst dX5_makeVersion_136 (v := 1) rfl ?_
  refine r_iadd dX5_makeVersion_137 ?_
  refine r_putI dX5_makeVersion_138 f_5_59 rfl rfl (lv4 (by first | assumption | decide | omega) (by first | assumption | decide | omega)) ⟨rfl, rfl⟩ ?_
  refine r_aload_n dX5_makeVersion_141 (i := 0) rfl rfl ?_
  refine r_dup dX5_makeVersion_142 rfl ?_
  refine r_getI dX5_makeVersion_143 f_5_40 rfl rfl (lv0 (by first | assumption | decide | omega)) ?_
  refine r_iconst dX5_makeVersion_146 (v := 1) rfl ?_
  refine r_iadd dX5_makeVersion_147 ?_
  refine r_putI dX5_makeVersion_148 f_5_40 rfl rfl (lv0 (by first | assumption | decide | omega)) ⟨rfl, rfl⟩ ?_
  exact e_v dX5_makeVersion_151 rfl (by first | rfl | simp [hset])
def fVal (hp : HPt) (t j : Nat) : Int32 := jrem (hp (6, t, j, 0) 0 + hp (6, t, j, 1) 0) 256
/-- the next version is made -/
def mn1 (hp : HPt) (t j : Nat) : HPt := hset (hset (frS hp t j) (4, t, j, 0) 3 (fMin (hp (4, t, j, 0) 3 + 1) (hp (2, t, 0, 0) 2))) (0, t, 0, 0) 7 (hp (0, t, 0, 0) 7 + (hp (4, t, j, 0) 3 + 1 - fMin (hp (4, t, j, 0) 3 + 1) (hp (2, t, 0, 0) 2)))
def MN (hp : HPt) (t j : Nat) : HPt := MV (mn1 hp t j) t j (fVal hp t j)
theorem tX5_makeNextVersion {g : Gh} {t j : Nat} {hp : HPt} (ht : t < 10) (hj : j < 8) (hW : WT hp) : Cv g mX5_makeNextVersion [vR (0, t, 0, 0), vR (4, t, j, 0)] hp (MN hp t j) := by
  unfold Cv
  refine r_aload_n dX5_makeNextVersion_0 (i := 1) rfl rfl ?_
  refine sX5_makeNextVersion_1 (Nat.le_refl _) (Nat.le_refl _) rfl (lv4 (by first | assumption | decide | omega) (by first | assumption | decide | omega)) (Nat.le_of_ble_eq_true rfl) (tX4_value ht hj) ?_
  refine r_istore_n dX5_makeNextVersion_4 (i := 2) rfl (Nat.le_of_ble_eq_true rfl) rfl rfl ?_
  refine r_aload_n dX5_makeNextVersion_5 (i := 0) rfl rfl ?_
  refine r_dup dX5_makeNextVersion_6 rfl ?_
  refine r_getI dX5_makeNextVersion_7 f_5_43 rfl rfl (lv0 (by first | assumption | decide | omega)) ?_
  refine r_aload_n dX5_makeNextVersion_10 (i := 1) rfl rfl ?_
  refine r_aload_n dX5_makeNextVersion_11 (i := 0) rfl rfl ?_
  refine r_getR dX5_makeNextVersion_12 f_5_17 rfl rfl rfl (lv0 (by first | assumption | decide | omega)) ?_
  refine r_iconst dX5_makeNextVersion_15 (v := 2) rfl ?_
  refine n_iald dX5_makeNextVersion_16 rfl (lv2 (by first | assumption | decide | omega)) (k := 2) rfl (by decide) ?_
  refine sX5_makeNextVersion_17 (Nat.le_refl _) (Nat.le_refl _) rfl (lv4 (by first | assumption | decide | omega) (by first | assumption | decide | omega)) (Nat.le_of_ble_eq_true rfl) (tX4_ageKeeping ht hj hW) ?_
  refine r_iadd dX5_makeNextVersion_20 ?_
  refine r_putI dX5_makeNextVersion_21 f_5_43 rfl rfl (lv0 (by first | assumption | decide | omega)) ⟨rfl, rfl⟩ ?_
  refine r_aload_n dX5_makeNextVersion_24 (i := 0) rfl rfl ?_
  refine r_aload_n dX5_makeNextVersion_25 (i := 1) rfl rfl ?_
  refine r_iload_n dX5_makeNextVersion_26 (i := 2) rfl rfl ?_
  refine sX5_makeNextVersion_27 (Nat.le_refl _) (Nat.le_refl _) rfl (lv0 (by first | assumption | decide | omega)) (Nat.le_of_ble_eq_true rfl) (tX5_makeVersion ht hj) ?_
  exact e_v dX5_makeNextVersion_30 rfl (by first | rfl | simp [hset])
theorem tX5_adm_e {g : Gh} {t : Nat} {x : Int32} {hp : HPt} (ht : t < 10) (hx : fPt x = false) : Ci g mX5_adm [vR (0, t, 0, 0), vI x] hp (-2) hp := by
  unfold Ci
  refine r_iload_n dX5_adm_0 (i := 1) rfl rfl ?_
  refine sX5_adm_1 (Nat.le_refl _) (Nat.le_refl _) (Nat.le_of_ble_eq_true rfl) (tX6_isPart) ?_
  refine r_if_ne dX5_adm_4 (tgt := 10) rfl (fun h4 => absurd (bi_0.mpr hx) h4) (fun _ => ?_)
  refine r_bipush dX5_adm_7 (v := (-2)) rfl ?_
  exact e_i dX5_adm_9 rfl (by first | rfl | exact bi_nar _) (by first | rfl | simp [bi, *]) rfl
theorem tX5_adm_e2 {g : Gh} {t : Nat} {x : Int32} {hp : HPt} (ht : t < 10) (hx : fPt x = true) (hn : ¬ hp (0, t, 0, 0) 3 < 8) : Ci g mX5_adm [vR (0, t, 0, 0), vI x] hp (-4) hp := by
  unfold Ci
  refine r_iload_n dX5_adm_0 (i := 1) rfl rfl ?_
  refine sX5_adm_1 (Nat.le_refl _) (Nat.le_refl _) (Nat.le_of_ble_eq_true rfl) (tX6_isPart) ?_
  refine r_if_ne dX5_adm_4 (tgt := 10) rfl (fun _ => ?_) (fun h4 => absurd h4 (bi_n0.mpr hx))
  refine r_aload_n dX5_adm_10 (i := 0) rfl rfl ?_
  refine r_getI dX5_adm_11 f_5_34 rfl rfl (lv0 (by first | assumption | decide | omega)) ?_
  refine r_bipush dX5_adm_14 (v := 8) rfl ?_
  refine r_icmp_lt dX5_adm_16 (tgt := 22) rfl (fun h16 => absurd h16 (hn)) (fun _ => ?_)
  refine r_bipush dX5_adm_19 (v := (-4)) rfl ?_
  exact e_i dX5_adm_21 rfl (by first | rfl | exact bi_nar _) (by first | rfl | simp [bi, *]) rfl
theorem tX5_adm_e3 {g : Gh} {t : Nat} {x : Int32} {hp : HPt} (ht : t < 10) (hx : fPt x = true) (hn : hp (0, t, 0, 0) 3 < 8) (hs : fSlp hp t = true) : Ci g mX5_adm [vR (0, t, 0, 0), vI x] hp (-5) hp := by
  unfold Ci
  refine r_iload_n dX5_adm_0 (i := 1) rfl rfl ?_
  refine sX5_adm_1 (Nat.le_refl _) (Nat.le_refl _) (Nat.le_of_ble_eq_true rfl) (tX6_isPart) ?_
  refine r_if_ne dX5_adm_4 (tgt := 10) rfl (fun _ => ?_) (fun h4 => absurd h4 (bi_n0.mpr hx))
  refine r_aload_n dX5_adm_10 (i := 0) rfl rfl ?_
  refine r_getI dX5_adm_11 f_5_34 rfl rfl (lv0 (by first | assumption | decide | omega)) ?_
  refine r_bipush dX5_adm_14 (v := 8) rfl ?_
  refine r_icmp_lt dX5_adm_16 (tgt := 22) rfl (fun _ => ?_) (fun h16 => absurd (hn) h16)
  refine r_aload_n dX5_adm_22 (i := 0) rfl rfl ?_
  refine sX5_adm_23 (Nat.le_refl _) (Nat.le_refl _) rfl (lv0 (by first | assumption | decide | omega)) (Nat.le_of_ble_eq_true rfl) (tX5_someStoreSleeps ht) ?_
  refine r_if_eq dX5_adm_26 (tgt := 32) rfl (fun h26 => absurd h26 (bi_n0.mpr hs)) (fun _ => ?_)
  refine r_bipush dX5_adm_29 (v := (-5)) rfl ?_
  exact e_i dX5_adm_31 rfl (by first | rfl | exact bi_nar _) (by first | rfl | simp [bi, *]) rfl
theorem MV_kept {hp : HPt} {t j : Nat} {v : Int32} : MV hp t j v (0, t, 0, 0) 3 = hp (0, t, 0, 0) 3 := by simp [MV, mv1, mv2, mv3, mv4, mv5, mv6, dr, hset]
theorem tX5_adm {g : Gh} {t n : Nat} {x : Int32} {hp : HPt} (ht : t < 10) (hn8 : n < 8) (hk : hp (0, t, 0, 0) 3 = nI n) (hx : fPt x = true) (hs : fSlp hp t = false) : Ci g mX5_adm [vR (0, t, 0, 0), vI x] hp (nI n) (hset (MV hp t n x) (0, t, 0, 0) 3 (nI (n + 1))) := by
  unfold Ci
  refine r_iload_n dX5_adm_0 (i := 1) rfl rfl ?_
  refine sX5_adm_1 (Nat.le_refl _) (Nat.le_refl _) (Nat.le_of_ble_eq_true rfl) (tX6_isPart) ?_
  refine r_if_ne dX5_adm_4 (tgt := 10) rfl (fun _ => ?_) (fun h4 => absurd h4 (bi_n0.mpr hx))
  refine r_aload_n dX5_adm_10 (i := 0) rfl rfl ?_
  refine r_getI dX5_adm_11 f_5_34 rfl rfl (lv0 (by first | assumption | decide | omega)) ?_
  refine r_bipush dX5_adm_14 (v := 8) rfl ?_
  refine r_icmp_lt dX5_adm_16 (tgt := 22) rfl (fun _ => ?_) (fun h16 => absurd ((by rw [hk]; exact nI_lt (b := 8) hn8 (by decide))) h16)
  refine r_aload_n dX5_adm_22 (i := 0) rfl rfl ?_
  refine sX5_adm_23 (Nat.le_refl _) (Nat.le_refl _) rfl (lv0 (by first | assumption | decide | omega)) (Nat.le_of_ble_eq_true rfl) (tX5_someStoreSleeps ht) ?_
  refine r_if_eq dX5_adm_26 (tgt := 32) rfl (fun _ => ?_) (fun h26 => absurd (bi_0.mpr hs) h26)
  refine r_aload_n dX5_adm_32 (i := 0) rfl rfl ?_
  refine r_aload_n dX5_adm_33 (i := 0) rfl rfl ?_
  refine r_getR dX5_adm_34 f_5_11 rfl rfl rfl (lv0 (by first | assumption | decide | omega)) ?_
  refine r_aload_n dX5_adm_37 (i := 0) rfl rfl ?_
  refine r_getI dX5_adm_38 f_5_34 rfl rfl (lv0 (by first | assumption | decide | omega)) ?_
  refine n_aald dX5_adm_41 rfl (lv1 (by first | assumption | decide | omega)) (k := n) hk hn8 rfl ?_
  refine r_iload_n dX5_adm_42 (i := 1) rfl rfl ?_
  refine sX5_adm_43 (Nat.le_refl _) (Nat.le_refl _) rfl (lv0 (by first | assumption | decide | omega)) (Nat.le_of_ble_eq_true rfl) (tX5_makeVersion ht hn8) ?_
  refine r_aload_n dX5_adm_46 (i := 0) rfl rfl ?_
  refine r_dup dX5_adm_47 rfl ?_
  refine r_getI dX5_adm_48 f_5_34 rfl rfl (lv0 (by first | assumption | decide | omega)) ?_
  refine r_iconst dX5_adm_51 (v := 1) rfl ?_
  refine r_iadd dX5_adm_52 ?_
  refine r_putI dX5_adm_53 f_5_34 rfl rfl (lv0 (by first | assumption | decide | omega)) ⟨rfl, rfl⟩ ?_
  refine V.eqH (hp2 := hset (MV hp t n x) (0, t, 0, 0) 3 (nI (n + 1))) (by rw [MV_kept, hk, nI_1]) ?_
  refine r_aload_n dX5_adm_56 (i := 0) rfl rfl ?_
  refine r_getI dX5_adm_57 f_5_34 rfl rfl (lv0 (by first | assumption | decide | omega)) ?_
  refine r_iconst dX5_adm_60 (v := 1) rfl ?_
  refine r_isub dX5_adm_61 ?_
  exact e_i dX5_adm_62 rfl rfl (by rw [hs_eq, nI_succ]; exact Int32.add_sub_cancel _ _) rfl
theorem tX5_renew_e {g : Gh} {t : Nat} {x : Int32} {hp : HPt} (ht : t < 10) (hx : fHas hp t x = false) : Ci g mX5_renew [vR (0, t, 0, 0), vI x] hp (-1) hp := by
  unfold Ci
  refine r_aload_n dX5_renew_0 (i := 0) rfl rfl ?_
  refine r_iload_n dX5_renew_1 (i := 1) rfl rfl ?_
  refine sX5_renew_2 (Nat.le_refl _) (Nat.le_refl _) rfl (lv0 (by first | assumption | decide | omega)) (Nat.le_of_ble_eq_true rfl) (tX5_hasSecret ht) ?_
  refine r_if_ne dX5_renew_5 (tgt := 10) rfl (fun h5 => absurd (bi_0.mpr hx) h5) (fun _ => ?_)
  refine r_iconst dX5_renew_8 (v := (-1)) rfl ?_
  exact e_i dX5_renew_9 rfl (by first | rfl | exact bi_nar _) (by first | rfl | simp [bi, *]) rfl
theorem tX5_renew_e2 {g : Gh} {t j : Nat} {hp : HPt} (ht : t < 10) (hj : j < 8) (hx : fHas hp t (nI j) = true) (hs : (fSlp hp t || !decide (hp (4, t, j, 0) 2 < 999)) = true) : Ci g mX5_renew [vR (0, t, 0, 0), vI (nI j)] hp (-5) hp := by
  unfold Ci
  refine r_aload_n dX5_renew_0 (i := 0) rfl rfl ?_
  refine r_iload_n dX5_renew_1 (i := 1) rfl rfl ?_
  refine sX5_renew_2 (Nat.le_refl _) (Nat.le_refl _) rfl (lv0 (by first | assumption | decide | omega)) (Nat.le_of_ble_eq_true rfl) (tX5_hasSecret ht) ?_
  refine r_if_ne dX5_renew_5 (tgt := 10) rfl (fun _ => ?_) (fun h5 => absurd h5 (bi_n0.mpr hx))
  refine r_aload_n dX5_renew_10 (i := 0) rfl rfl ?_
  refine r_getR dX5_renew_11 f_5_11 rfl rfl rfl (lv0 (by first | assumption | decide | omega)) ?_
  refine r_iload_n dX5_renew_14 (i := 1) rfl rfl ?_
  refine n_aald dX5_renew_15 rfl (lv1 (by first | assumption | decide | omega)) rfl (by first | assumption | omega | (unfold cI; omega)) rfl ?_
  refine r_astore_n dX5_renew_16 (i := 2) rfl (Nat.le_of_ble_eq_true rfl) rfl rfl ?_
  refine r_aload_n dX5_renew_17 (i := 0) rfl rfl ?_
  refine sX5_renew_18 (Nat.le_refl _) (Nat.le_refl _) rfl (lv0 (by first | assumption | decide | omega)) (Nat.le_of_ble_eq_true rfl) (tX5_someStoreSleeps ht) ?_
  refine r_if_ne dX5_renew_21 (tgt := 34) rfl (fun h21 => ?_) (fun h21 => ?_)
  · refine r_bipush dX5_renew_34 (v := (-5)) rfl ?_
    exact e_i dX5_renew_36 rfl (by first | rfl | exact bi_nar _) (by first | rfl | simp [bi, *]) rfl
  · refine r_aload_n dX5_renew_24 (i := 2) rfl rfl ?_
    refine r_getI dX5_renew_25 f_5_59 rfl rfl (lv4 (by first | assumption | decide | omega) (by first | assumption | decide | omega)) ?_
    refine r_sipush dX5_renew_28 (v := 999) rfl ?_
    refine r_icmp_lt dX5_renew_31 (tgt := 37) rfl (fun h31 => ?_) (fun h31 => ?_)
    · simp_all [bi]
    · refine r_bipush dX5_renew_34 (v := (-5)) rfl ?_
      exact e_i dX5_renew_36 rfl (by first | rfl | exact bi_nar _) (by first | rfl | simp [bi, *]) rfl
theorem tX5_renew {g : Gh} {t j : Nat} {hp : HPt} (ht : t < 10) (hj : j < 8) (hW : WT hp) (hx : fHas hp t (nI j) = true) (hs : fSlp hp t = false) (hv : hp (4, t, j, 0) 2 < 999) : Ci g mX5_renew [vR (0, t, 0, 0), vI (nI j)] hp (MN hp t j (4, t, j, 0) 2) (MN hp t j) := by
  unfold Ci
  refine r_aload_n dX5_renew_0 (i := 0) rfl rfl ?_
  refine r_iload_n dX5_renew_1 (i := 1) rfl rfl ?_
  refine sX5_renew_2 (Nat.le_refl _) (Nat.le_refl _) rfl (lv0 (by first | assumption | decide | omega)) (Nat.le_of_ble_eq_true rfl) (tX5_hasSecret ht) ?_
  refine r_if_ne dX5_renew_5 (tgt := 10) rfl (fun _ => ?_) (fun h5 => absurd h5 (bi_n0.mpr hx))
  refine r_aload_n dX5_renew_10 (i := 0) rfl rfl ?_
  refine r_getR dX5_renew_11 f_5_11 rfl rfl rfl (lv0 (by first | assumption | decide | omega)) ?_
  refine r_iload_n dX5_renew_14 (i := 1) rfl rfl ?_
  refine n_aald dX5_renew_15 rfl (lv1 (by first | assumption | decide | omega)) rfl (by first | assumption | omega | (unfold cI; omega)) rfl ?_
  refine r_astore_n dX5_renew_16 (i := 2) rfl (Nat.le_of_ble_eq_true rfl) rfl rfl ?_
  refine r_aload_n dX5_renew_17 (i := 0) rfl rfl ?_
  refine sX5_renew_18 (Nat.le_refl _) (Nat.le_refl _) rfl (lv0 (by first | assumption | decide | omega)) (Nat.le_of_ble_eq_true rfl) (tX5_someStoreSleeps ht) ?_
  refine r_if_ne dX5_renew_21 (tgt := 34) rfl (fun h21 => absurd (bi_0.mpr hs) h21) (fun _ => ?_)
  refine r_aload_n dX5_renew_24 (i := 2) rfl rfl ?_
  refine r_getI dX5_renew_25 f_5_59 rfl rfl (lv4 (by first | assumption | decide | omega) (by first | assumption | decide | omega)) ?_
  refine r_sipush dX5_renew_28 (v := 999) rfl ?_
  refine r_icmp_lt dX5_renew_31 (tgt := 37) rfl (fun _ => ?_) (fun h31 => absurd (hv) h31)
  refine r_aload_n dX5_renew_37 (i := 0) rfl rfl ?_
  refine r_aload_n dX5_renew_38 (i := 2) rfl rfl ?_
  refine sX5_renew_39 (Nat.le_refl _) (Nat.le_refl _) rfl (lv0 (by first | assumption | decide | omega)) (Nat.le_of_ble_eq_true rfl) (tX5_makeNextVersion ht hj hW) ?_
  refine r_aload_n dX5_renew_42 (i := 2) rfl rfl ?_
  refine r_getI dX5_renew_43 f_5_59 rfl rfl (lv4 (by first | assumption | decide | omega) (by first | assumption | decide | omega)) ?_
  exact e_i dX5_renew_46 rfl (by first | rfl | exact bi_nar _) (by first | rfl | simp [bi, *]) rfl
theorem tX5_burnOldVersions_e {g : Gh} {t : Nat} {x : Int32} {hp : HPt} (ht : t < 10) (hx : fHas hp t x = false) : Ci g mX5_burnOldVersions [vR (0, t, 0, 0), vI x] hp (-1) hp := by
  unfold Ci
  refine r_aload_n dX5_burnOldVersions_0 (i := 0) rfl rfl ?_
  refine r_iload_n dX5_burnOldVersions_1 (i := 1) rfl rfl ?_
  refine sX5_burnOldVersions_2 (Nat.le_refl _) (Nat.le_refl _) rfl (lv0 (by first | assumption | decide | omega)) (Nat.le_of_ble_eq_true rfl) (tX5_hasSecret ht) ?_
  refine r_if_ne dX5_burnOldVersions_5 (tgt := 10) rfl (fun h5 => absurd (bi_0.mpr hx) h5) (fun _ => ?_)
  refine r_iconst dX5_burnOldVersions_8 (v := (-1)) rfl ?_
  exact e_i dX5_burnOldVersions_9 rfl (by first | rfl | exact bi_nar _) (by first | rfl | simp [bi, *]) rfl
theorem tX5_burnOldVersions_e2 {g : Gh} {t j : Nat} {hp : HPt} (ht : t < 10) (hj : j < 8) (hx : fHas hp t (nI j) = true) (hs : fSlp hp t = true) : Ci g mX5_burnOldVersions [vR (0, t, 0, 0), vI (nI j)] hp (-5) hp := by
  unfold Ci
  refine r_aload_n dX5_burnOldVersions_0 (i := 0) rfl rfl ?_
  refine r_iload_n dX5_burnOldVersions_1 (i := 1) rfl rfl ?_
  refine sX5_burnOldVersions_2 (Nat.le_refl _) (Nat.le_refl _) rfl (lv0 (by first | assumption | decide | omega)) (Nat.le_of_ble_eq_true rfl) (tX5_hasSecret ht) ?_
  refine r_if_ne dX5_burnOldVersions_5 (tgt := 10) rfl (fun _ => ?_) (fun h5 => absurd h5 (bi_n0.mpr hx))
  refine r_aload_n dX5_burnOldVersions_10 (i := 0) rfl rfl ?_
  refine sX5_burnOldVersions_11 (Nat.le_refl _) (Nat.le_refl _) rfl (lv0 (by first | assumption | decide | omega)) (Nat.le_of_ble_eq_true rfl) (tX5_someStoreSleeps ht) ?_
  refine r_if_eq dX5_burnOldVersions_14 (tgt := 20) rfl (fun h14 => absurd h14 (bi_n0.mpr hs)) (fun _ => ?_)
  refine r_bipush dX5_burnOldVersions_17 (v := (-5)) rfl ?_
  exact e_i dX5_burnOldVersions_19 rfl (by first | rfl | exact bi_nar _) (by first | rfl | simp [bi, *]) rfl
theorem tX5_burnOldVersions {g : Gh} {t j : Nat} {hp : HPt} (ht : t < 10) (hj : j < 8) (hx : fHas hp t (nI j) = true) (hs : fSlp hp t = false) : Ci g mX5_burnOldVersions [vR (0, t, 0, 0), vI (nI j)] hp (hp (4, t, j, 0) 3) (hset (hset hp (4, t, j, 0) 3 0) (0, t, 0, 0) 7 (hp (0, t, 0, 0) 7 + hp (4, t, j, 0) 3)) := by
  unfold Ci
  refine r_aload_n dX5_burnOldVersions_0 (i := 0) rfl rfl ?_
  refine r_iload_n dX5_burnOldVersions_1 (i := 1) rfl rfl ?_
  refine sX5_burnOldVersions_2 (Nat.le_refl _) (Nat.le_refl _) rfl (lv0 (by first | assumption | decide | omega)) (Nat.le_of_ble_eq_true rfl) (tX5_hasSecret ht) ?_
  refine r_if_ne dX5_burnOldVersions_5 (tgt := 10) rfl (fun _ => ?_) (fun h5 => absurd h5 (bi_n0.mpr hx))
  refine r_aload_n dX5_burnOldVersions_10 (i := 0) rfl rfl ?_
  refine sX5_burnOldVersions_11 (Nat.le_refl _) (Nat.le_refl _) rfl (lv0 (by first | assumption | decide | omega)) (Nat.le_of_ble_eq_true rfl) (tX5_someStoreSleeps ht) ?_
  refine r_if_eq dX5_burnOldVersions_14 (tgt := 20) rfl (fun _ => ?_) (fun h14 => absurd (bi_0.mpr hs) h14)
  refine r_aload_n dX5_burnOldVersions_20 (i := 0) rfl rfl ?_
  refine r_getR dX5_burnOldVersions_21 f_5_11 rfl rfl rfl (lv0 (by first | assumption | decide | omega)) ?_
  refine r_iload_n dX5_burnOldVersions_24 (i := 1) rfl rfl ?_
  refine n_aald dX5_burnOldVersions_25 rfl (lv1 (by first | assumption | decide | omega)) rfl (by first | assumption | omega | (unfold cI; omega)) rfl ?_
  refine r_getI dX5_burnOldVersions_26 f_5_124 rfl rfl (lv4 (by first | assumption | decide | omega) (by first | assumption | decide | omega)) ?_
  refine r_istore_n dX5_burnOldVersions_29 (i := 2) rfl (Nat.le_of_ble_eq_true rfl) rfl rfl ?_
  refine r_aload_n dX5_burnOldVersions_30 (i := 0) rfl rfl ?_
  refine r_getR dX5_burnOldVersions_31 f_5_11 rfl rfl rfl (lv0 (by first | assumption | decide | omega)) ?_
  refine r_iload_n dX5_burnOldVersions_34 (i := 1) rfl rfl ?_
  refine n_aald dX5_burnOldVersions_35 rfl (lv1 (by first | assumption | decide | omega)) rfl (by first | assumption | omega | (unfold cI; omega)) rfl ?_
  refine r_iconst dX5_burnOldVersions_36 (v := 0) rfl ?_
  refine r_putI dX5_burnOldVersions_37 f_5_124 rfl rfl (lv4 (by first | assumption | decide | omega) (by first | assumption | decide | omega)) ⟨rfl, rfl⟩ ?_
  refine r_aload_n dX5_burnOldVersions_40 (i := 0) rfl rfl ?_
  refine r_dup dX5_burnOldVersions_41 rfl ?_
  refine r_getI dX5_burnOldVersions_42 f_5_43 rfl rfl (lv0 (by first | assumption | decide | omega)) ?_
  refine r_iload_n dX5_burnOldVersions_45 (i := 2) rfl rfl ?_
  refine r_iadd dX5_burnOldVersions_46 ?_
  refine r_putI dX5_burnOldVersions_47 f_5_43 rfl rfl (lv0 (by first | assumption | decide | omega)) ⟨rfl, rfl⟩ ?_
  refine r_iload_n dX5_burnOldVersions_50 (i := 2) rfl rfl ?_
  refine e_i dX5_burnOldVersions_51 rfl rfl rfl ?_
  simp [hset]
theorem tX5_turnSleep_e {g : Gh} {t : Nat} {x : Int32} {hp : HPt} (ht : t < 10) (hx : fSt x = false) : Ci g mX5_turnSleep [vR (0, t, 0, 0), vI x] hp (-1) hp := by
  unfold Ci
  refine r_iload_n dX5_turnSleep_0 (i := 1) rfl rfl ?_
  refine sX5_turnSleep_1 (Nat.le_refl _) (Nat.le_refl _) (Nat.le_of_ble_eq_true rfl) (tX6_isStore) ?_
  refine r_if_ne dX5_turnSleep_4 (tgt := 9) rfl (fun h4 => absurd (bi_0.mpr hx) h4) (fun _ => ?_)
  refine r_iconst dX5_turnSleep_7 (v := (-1)) rfl ?_
  exact e_i dX5_turnSleep_8 rfl (by first | rfl | exact bi_nar _) (by first | rfl | simp [bi, *]) rfl
theorem tX5_turnSleep {g : Gh} {t b : Nat} {hp : HPt} (ht : t < 10) (hb : b < 2) : Ci g mX5_turnSleep [vR (0, t, 0, 0), vI (nI b)] hp (bi (decide (hp (3, t, 0, 0) b = 0))) (hset hp (3, t, 0, 0) b (bi (decide (hp (3, t, 0, 0) b = 0)))) := by
  have hx : fSt (nI b) = true := by
    match b, hb with
    | 0, _ => decide
    | 1, _ => decide
  unfold Ci
  refine r_iload_n dX5_turnSleep_0 (i := 1) rfl rfl ?_
  refine sX5_turnSleep_1 (Nat.le_refl _) (Nat.le_refl _) (Nat.le_of_ble_eq_true rfl) (tX6_isStore) ?_
  refine r_if_ne dX5_turnSleep_4 (tgt := 9) rfl (fun _ => ?_) (fun h4 => absurd h4 (bi_n0.mpr hx))
  refine r_aload_n dX5_turnSleep_9 (i := 0) rfl rfl ?_
  refine r_getR dX5_turnSleep_10 f_5_21 rfl rfl rfl (lv0 (by first | assumption | decide | omega)) ?_
  refine r_iload_n dX5_turnSleep_13 (i := 1) rfl rfl ?_
  refine r_aload_n dX5_turnSleep_14 (i := 0) rfl rfl ?_
  refine r_getR dX5_turnSleep_15 f_5_21 rfl rfl rfl (lv0 (by first | assumption | decide | omega)) ?_
  refine r_iload_n dX5_turnSleep_18 (i := 1) rfl rfl ?_
  refine n_zald dX5_turnSleep_19 rfl (lv3 (by first | assumption | decide | omega)) rfl (by first | assumption | omega | (unfold cI; omega)) ?_
  refine r_if_ne dX5_turnSleep_20 (tgt := 27) rfl (fun h20 => ?_) (fun h20 => ?_)
  · refine r_iconst dX5_turnSleep_27 (v := 0) rfl ?_
    refine n_zast dX5_turnSleep_28 rfl (lv3 (by first | assumption | decide | omega)) rfl (by first | assumption | omega | (unfold cI; omega)) rfl ?_
    refine r_aload_n dX5_turnSleep_29 (i := 0) rfl rfl ?_
    refine r_getR dX5_turnSleep_30 f_5_21 rfl rfl rfl (lv0 (by first | assumption | decide | omega)) ?_
    refine r_iload_n dX5_turnSleep_33 (i := 1) rfl rfl ?_
    refine n_zald dX5_turnSleep_34 rfl (lv3 (by first | assumption | decide | omega)) rfl (by first | assumption | omega | (unfold cI; omega)) ?_
    refine r_if_eq dX5_turnSleep_35 (tgt := 42) rfl (fun h35 => ?_) (fun h35 => ?_)
    · refine r_iconst dX5_turnSleep_42 (v := 0) rfl ?_
      refine e_i dX5_turnSleep_43 rfl rfl (by simp_all [bi, hset]) (by simp_all [bi, hset])
    · refine r_iconst dX5_turnSleep_38 (v := 1) rfl ?_
      refine r_goto dX5_turnSleep_39 (tgt := 43) rfl ?_
      refine e_i dX5_turnSleep_43 rfl rfl (by simp_all [bi, hset]) (by simp_all [bi, hset])
  · refine r_iconst dX5_turnSleep_23 (v := 1) rfl ?_
    refine r_goto dX5_turnSleep_24 (tgt := 28) rfl ?_
    refine n_zast dX5_turnSleep_28 rfl (lv3 (by first | assumption | decide | omega)) rfl (by first | assumption | omega | (unfold cI; omega)) rfl ?_
    refine r_aload_n dX5_turnSleep_29 (i := 0) rfl rfl ?_
    refine r_getR dX5_turnSleep_30 f_5_21 rfl rfl rfl (lv0 (by first | assumption | decide | omega)) ?_
    refine r_iload_n dX5_turnSleep_33 (i := 1) rfl rfl ?_
    refine n_zald dX5_turnSleep_34 rfl (lv3 (by first | assumption | decide | omega)) rfl (by first | assumption | omega | (unfold cI; omega)) ?_
    refine r_if_eq dX5_turnSleep_35 (tgt := 42) rfl (fun h35 => ?_) (fun h35 => ?_)
    · refine r_iconst dX5_turnSleep_42 (v := 0) rfl ?_
      refine e_i dX5_turnSleep_43 rfl rfl (by simp_all [bi, hset]) (by simp_all [bi, hset])
    · refine r_iconst dX5_turnSleep_38 (v := 1) rfl ?_
      refine r_goto dX5_turnSleep_39 (tgt := 43) rfl ?_
      refine e_i dX5_turnSleep_43 rfl rfl (by simp_all [bi, hset]) (by simp_all [bi, hset])
theorem tX5_takeUpLie_e {g : Gh} {t : Nat} {s x o q : Int32} {hp : HPt} (ht : t < 10) (hx : fHalf hp t s x = false) : Ci g mX5_takeUpLie [vR (0, t, 0, 0), vI s, vI x, vI o, vI q] hp (-1) hp := by
  unfold Ci
  refine r_aload_n dX5_takeUpLie_0 (i := 0) rfl rfl ?_
  refine r_iload_n dX5_takeUpLie_1 (i := 1) rfl rfl ?_
  refine r_iload_n dX5_takeUpLie_2 (i := 2) rfl rfl ?_
  refine sX5_takeUpLie_3 (Nat.le_refl _) (Nat.le_refl _) rfl (lv0 (by first | assumption | decide | omega)) (Nat.le_of_ble_eq_true rfl) (tX5_hasHalf ht) ?_
  refine r_if_ne dX5_takeUpLie_6 (tgt := 11) rfl (fun h6 => absurd (bi_0.mpr hx) h6) (fun _ => ?_)
  refine r_iconst dX5_takeUpLie_9 (v := (-1)) rfl ?_
  exact e_i dX5_takeUpLie_10 rfl (by first | rfl | exact bi_nar _) (by first | rfl | simp [bi, *]) rfl
theorem tX5_takeUpLie_e2 {g : Gh} {t : Nat} {s x o q : Int32} {hp : HPt} (ht : t < 10) (hx : fHalf hp t s x = true) (ho : (fPt o && fTg q) = false) : Ci g mX5_takeUpLie [vR (0, t, 0, 0), vI s, vI x, vI o, vI q] hp (-2) hp := by
  unfold Ci
  refine r_aload_n dX5_takeUpLie_0 (i := 0) rfl rfl ?_
  refine r_iload_n dX5_takeUpLie_1 (i := 1) rfl rfl ?_
  refine r_iload_n dX5_takeUpLie_2 (i := 2) rfl rfl ?_
  refine sX5_takeUpLie_3 (Nat.le_refl _) (Nat.le_refl _) rfl (lv0 (by first | assumption | decide | omega)) (Nat.le_of_ble_eq_true rfl) (tX5_hasHalf ht) ?_
  refine r_if_ne dX5_takeUpLie_6 (tgt := 11) rfl (fun _ => ?_) (fun h6 => absurd h6 (bi_n0.mpr hx))
  refine r_iload_n dX5_takeUpLie_11 (i := 3) rfl rfl ?_
  refine sX5_takeUpLie_12 (Nat.le_refl _) (Nat.le_refl _) (Nat.le_of_ble_eq_true rfl) (tX6_isPart) ?_
  refine r_if_eq dX5_takeUpLie_15 (tgt := 26) rfl (fun h15 => ?_) (fun h15 => ?_)
  · refine r_bipush dX5_takeUpLie_26 (v := (-2)) rfl ?_
    exact e_i dX5_takeUpLie_28 rfl (by first | rfl | exact bi_nar _) (by first | rfl | simp [bi, *]) rfl
  · refine r_iload dX5_takeUpLie_18 rfl ?_
    refine sX5_takeUpLie_20 (Nat.le_refl _) (Nat.le_refl _) (Nat.le_of_ble_eq_true rfl) (tX6_isTag) ?_
    refine r_if_ne dX5_takeUpLie_23 (tgt := 29) rfl (fun h23 => ?_) (fun h23 => ?_)
    · simp_all [bi]
    · refine r_bipush dX5_takeUpLie_26 (v := (-2)) rfl ?_
      exact e_i dX5_takeUpLie_28 rfl (by first | rfl | exact bi_nar _) (by first | rfl | simp [bi, *]) rfl
theorem tX5_takeUpLie {g : Gh} {t j b : Nat} {o q : Int32} {hp : HPt} (ht : t < 10) (hj : j < 8) (hb : b < 2) (hx : fHalf hp t (nI b) (nI j) = true) (ho : fPt o = true) (hq : fTg q = true) : Ci g mX5_takeUpLie [vR (0, t, 0, 0), vI (nI b), vI (nI j), vI o, vI q] hp (hp (5, t, j, b) 5) (hset (hset hp (5, t, j, b) 5 o) (5, t, j, b) 6 q) := by
  unfold Ci
  refine r_aload_n dX5_takeUpLie_0 (i := 0) rfl rfl ?_
  refine r_iload_n dX5_takeUpLie_1 (i := 1) rfl rfl ?_
  refine r_iload_n dX5_takeUpLie_2 (i := 2) rfl rfl ?_
  refine sX5_takeUpLie_3 (Nat.le_refl _) (Nat.le_refl _) rfl (lv0 (by first | assumption | decide | omega)) (Nat.le_of_ble_eq_true rfl) (tX5_hasHalf ht) ?_
  refine r_if_ne dX5_takeUpLie_6 (tgt := 11) rfl (fun _ => ?_) (fun h6 => absurd h6 (bi_n0.mpr hx))
  refine r_iload_n dX5_takeUpLie_11 (i := 3) rfl rfl ?_
  refine sX5_takeUpLie_12 (Nat.le_refl _) (Nat.le_refl _) (Nat.le_of_ble_eq_true rfl) (tX6_isPart) ?_
  refine r_if_eq dX5_takeUpLie_15 (tgt := 26) rfl (fun h15 => absurd h15 (bi_n0.mpr ho)) (fun _ => ?_)
  refine r_iload dX5_takeUpLie_18 rfl ?_
  refine sX5_takeUpLie_20 (Nat.le_refl _) (Nat.le_refl _) (Nat.le_of_ble_eq_true rfl) (tX6_isTag) ?_
  refine r_if_ne dX5_takeUpLie_23 (tgt := 29) rfl (fun _ => ?_) (fun h23 => absurd h23 (bi_n0.mpr hq))
  refine r_aload_n dX5_takeUpLie_29 (i := 0) rfl rfl ?_
  refine r_getR dX5_takeUpLie_30 f_5_11 rfl rfl rfl (lv0 (by first | assumption | decide | omega)) ?_
  refine r_iload_n dX5_takeUpLie_33 (i := 2) rfl rfl ?_
  refine n_aald dX5_takeUpLie_34 rfl (lv1 (by first | assumption | decide | omega)) rfl (by first | assumption | omega | (unfold cI; omega)) rfl ?_
  refine r_iload_n dX5_takeUpLie_35 (i := 1) rfl rfl ?_
  refine sX5_takeUpLie_36 (Nat.le_refl _) (Nat.le_refl _) rfl (lv4 (by first | assumption | decide | omega) (by first | assumption | decide | omega)) (Nat.le_of_ble_eq_true rfl) (tX4_halfIn ht hj hb) ?_
  refine r_astore dX5_takeUpLie_39 (Nat.le_of_ble_eq_true rfl) rfl rfl ?_
  refine r_aload dX5_takeUpLie_41 rfl ?_
  refine r_getI dX5_takeUpLie_43 f_5_138 rfl rfl (lv5 (by first | assumption | decide | omega) (by first | assumption | decide | omega) (by first | assumption | decide | omega)) ?_
  refine r_istore dX5_takeUpLie_46 (Nat.le_of_ble_eq_true rfl) rfl rfl ?_
  refine r_aload dX5_takeUpLie_48 rfl ?_
  refine r_iload_n dX5_takeUpLie_50 (i := 3) rfl rfl ?_
  refine r_putI dX5_takeUpLie_51 f_5_138 rfl rfl (lv5 (by first | assumption | decide | omega) (by first | assumption | decide | omega) (by first | assumption | decide | omega)) ⟨rfl, rfl⟩ ?_
  refine r_aload dX5_takeUpLie_54 rfl ?_
  refine r_iload dX5_takeUpLie_56 rfl ?_
  refine r_putI dX5_takeUpLie_58 f_5_141 rfl rfl (lv5 (by first | assumption | decide | omega) (by first | assumption | decide | omega) (by first | assumption | decide | omega)) ⟨rfl, rfl⟩ ?_
  refine r_iload dX5_takeUpLie_61 rfl ?_
  exact e_i dX5_takeUpLie_63 rfl (by first | rfl | exact bi_nar _) (by first | rfl | simp [bi, *]) rfl
end
section
theorem tX5_answerOfMerger_e {g : Gh} {t : Nat} {x : Int32} {hp : HPt} (ht : t < 10) (hx : fHas hp t x = false) : Ci g mX5_answerOfMerger [vR (0, t, 0, 0), vI x] hp (-1) hp := by
  unfold Ci
  refine r_aload_n dX5_answerOfMerger_0 (i := 0) rfl rfl ?_
  refine r_iload_n dX5_answerOfMerger_1 (i := 1) rfl rfl ?_
  refine sX5_answerOfMerger_2 (Nat.le_refl _) (Nat.le_refl _) rfl (lv0 (by first | assumption | decide | omega)) (Nat.le_of_ble_eq_true rfl) (tX5_hasSecret ht) ?_
  refine r_if_ne dX5_answerOfMerger_5 (tgt := 10) rfl (fun h5 => absurd (bi_0.mpr hx) h5) (fun _ => ?_)
  refine r_iconst dX5_answerOfMerger_8 (v := (-1)) rfl ?_
  exact e_i dX5_answerOfMerger_9 rfl (by first | rfl | exact bi_nar _) (by first | rfl | simp [bi, *]) rfl
theorem tX5_answerOfMerger_e2 {g : Gh} {t j : Nat} {hp : HPt} (ht : t < 10) (hj : j < 8) (hx : fHas hp t (nI j) = true) (hs : fSlp hp t = true) : Ci g mX5_answerOfMerger [vR (0, t, 0, 0), vI (nI j)] hp (-5) hp := by
  unfold Ci
  refine r_aload_n dX5_answerOfMerger_0 (i := 0) rfl rfl ?_
  refine r_iload_n dX5_answerOfMerger_1 (i := 1) rfl rfl ?_
  refine sX5_answerOfMerger_2 (Nat.le_refl _) (Nat.le_refl _) rfl (lv0 (by first | assumption | decide | omega)) (Nat.le_of_ble_eq_true rfl) (tX5_hasSecret ht) ?_
  refine r_if_ne dX5_answerOfMerger_5 (tgt := 10) rfl (fun _ => ?_) (fun h5 => absurd h5 (bi_n0.mpr hx))
  refine r_aload_n dX5_answerOfMerger_10 (i := 0) rfl rfl ?_
  refine sX5_answerOfMerger_11 (Nat.le_refl _) (Nat.le_refl _) rfl (lv0 (by first | assumption | decide | omega)) (Nat.le_of_ble_eq_true rfl) (tX5_someStoreSleeps ht) ?_
  refine r_if_eq dX5_answerOfMerger_14 (tgt := 20) rfl (fun h14 => absurd h14 (bi_n0.mpr hs)) (fun _ => ?_)
  refine r_bipush dX5_answerOfMerger_17 (v := (-5)) rfl ?_
  exact e_i dX5_answerOfMerger_19 rfl (by first | rfl | exact bi_nar _) (by first | rfl | simp [bi, *]) rfl
theorem tX5_answerOfMerger {g : Gh} {t j : Nat} {hp : HPt} (ht : t < 10) (hj : j < 8) (hx : fHas hp t (nI j) = true) (hs : fSlp hp t = false) : Ci g mX5_answerOfMerger [vR (0, t, 0, 0), vI (nI j)] hp (fMerge hp t j) hp := by
  unfold Ci
  refine r_aload_n dX5_answerOfMerger_0 (i := 0) rfl rfl ?_
  refine r_iload_n dX5_answerOfMerger_1 (i := 1) rfl rfl ?_
  refine sX5_answerOfMerger_2 (Nat.le_refl _) (Nat.le_refl _) rfl (lv0 (by first | assumption | decide | omega)) (Nat.le_of_ble_eq_true rfl) (tX5_hasSecret ht) ?_
  refine r_if_ne dX5_answerOfMerger_5 (tgt := 10) rfl (fun _ => ?_) (fun h5 => absurd h5 (bi_n0.mpr hx))
  refine r_aload_n dX5_answerOfMerger_10 (i := 0) rfl rfl ?_
  refine sX5_answerOfMerger_11 (Nat.le_refl _) (Nat.le_refl _) rfl (lv0 (by first | assumption | decide | omega)) (Nat.le_of_ble_eq_true rfl) (tX5_someStoreSleeps ht) ?_
  refine r_if_eq dX5_answerOfMerger_14 (tgt := 20) rfl (fun _ => ?_) (fun h14 => absurd (bi_0.mpr hs) h14)
  refine r_aload_n dX5_answerOfMerger_20 (i := 0) rfl rfl ?_
  refine r_getR dX5_answerOfMerger_21 f_5_11 rfl rfl rfl (lv0 (by first | assumption | decide | omega)) ?_
  refine r_iload_n dX5_answerOfMerger_24 (i := 1) rfl rfl ?_
  refine n_aald dX5_answerOfMerger_25 rfl (lv1 (by first | assumption | decide | omega)) rfl (by first | assumption | omega | (unfold cI; omega)) rfl ?_
  refine sX5_answerOfMerger_26 (Nat.le_refl _) (Nat.le_refl _) rfl (lv4 (by first | assumption | decide | omega) (by first | assumption | decide | omega)) (Nat.le_of_ble_eq_true rfl) (tX4_answerIfMerged ht hj) ?_
  exact e_i dX5_answerOfMerger_29 rfl (by first | rfl | exact bi_nar _) (by first | rfl | simp [bi, *]) rfl
theorem tX5_mergeParts_e {g : Gh} {t : Nat} {x : Int32} {hp : HPt} (ht : t < 10) (hx : fHas hp t x = false) : Ci g mX5_mergeParts [vR (0, t, 0, 0), vI x] hp (-1) hp := by
  unfold Ci
  refine r_aload_n dX5_mergeParts_0 (i := 0) rfl rfl ?_
  refine r_iload_n dX5_mergeParts_1 (i := 1) rfl rfl ?_
  refine sX5_mergeParts_2 (Nat.le_refl _) (Nat.le_refl _) rfl (lv0 (by first | assumption | decide | omega)) (Nat.le_of_ble_eq_true rfl) (tX5_answerOfMerger_e ht hx) ?_
  refine r_istore_n dX5_mergeParts_5 (i := 2) rfl (Nat.le_of_ble_eq_true rfl) rfl rfl ?_
  refine r_iload_n dX5_mergeParts_6 (i := 2) rfl rfl ?_
  refine r_if_ge dX5_mergeParts_7 (tgt := 12) rfl (fun h7 => absurd h7 ((by decide))) (fun _ => ?_)
  refine r_iload_n dX5_mergeParts_10 (i := 2) rfl rfl ?_
  exact e_i dX5_mergeParts_11 rfl (by first | rfl | exact bi_nar _) (by first | rfl | simp [bi, *]) rfl
theorem tX5_mergeParts_e2 {g : Gh} {t j : Nat} {hp : HPt} (ht : t < 10) (hj : j < 8) (hx : fHas hp t (nI j) = true) (hs : fSlp hp t = true) : Ci g mX5_mergeParts [vR (0, t, 0, 0), vI (nI j)] hp (-5) hp := by
  unfold Ci
  refine r_aload_n dX5_mergeParts_0 (i := 0) rfl rfl ?_
  refine r_iload_n dX5_mergeParts_1 (i := 1) rfl rfl ?_
  refine sX5_mergeParts_2 (Nat.le_refl _) (Nat.le_refl _) rfl (lv0 (by first | assumption | decide | omega)) (Nat.le_of_ble_eq_true rfl) (tX5_answerOfMerger_e2 ht hj hx hs) ?_
  refine r_istore_n dX5_mergeParts_5 (i := 2) rfl (Nat.le_of_ble_eq_true rfl) rfl rfl ?_
  refine r_iload_n dX5_mergeParts_6 (i := 2) rfl rfl ?_
  refine r_if_ge dX5_mergeParts_7 (tgt := 12) rfl (fun h7 => absurd h7 ((by decide))) (fun _ => ?_)
  refine r_iload_n dX5_mergeParts_10 (i := 2) rfl rfl ?_
  exact e_i dX5_mergeParts_11 rfl (by first | rfl | exact bi_nar _) (by first | rfl | simp [bi, *]) rfl
def mgC (hp : HPt) (t j : Nat) : HPt := hset (hset hp (4, t, j, 0) 6 (hp (4, t, j, 0) 6 + 1)) (0, t, 0, 0) 8 (hp (0, t, 0, 0) 8 + 1)
def mgO (hp : HPt) (t j : Nat) (v : Int32) : HPt := hset (hset (hset hp (4, t, j, 0) 4 v) (4, t, j, 0) 5 (hp (2, t, 0, 0) 0)) (4, t, j, 0) 7 (hp (4, t, j, 0) 7 + 1)
def mgL (hp : HPt) (t j : Nat) : Bool := fLies (hp (5, t, j, 0) 5) (hp (5, t, j, 0) 6) || fLies (hp (5, t, j, 1) 5) (hp (5, t, j, 1) 6)
def MG (hp : HPt) (t j : Nat) : HPt := if fMerge hp t j < 1000 then (if mgL hp t j = true then hset (mgO hp t j (fMerge hp t j)) (0, t, 0, 0) 9 (hp (0, t, 0, 0) 9 + 1) else mgO hp t j (fMerge hp t j)) else mgC hp t j
theorem tX5_mergeParts {g : Gh} {t j : Nat} {hp : HPt} (ht : t < 10) (hj : j < 8) (hx : fHas hp t (nI j) = true) (hs : fSlp hp t = false) (h0 : 0 ≤ fMerge hp t j) : Ci g mX5_mergeParts [vR (0, t, 0, 0), vI (nI j)] hp (fMerge hp t j) (MG hp t j) := by
  have e1 : ∀ b, mgO hp t j (fMerge hp t j) (5, t, j, b) 5 = hp (5, t, j, b) 5 := fun b => by simp [mgO, hset]
  have e2 : ∀ b, mgO hp t j (fMerge hp t j) (5, t, j, b) 6 = hp (5, t, j, b) 6 := fun b => by simp [mgO, hset]
  have e3 : mgO hp t j (fMerge hp t j) (0, t, 0, 0) 9 = hp (0, t, 0, 0) 9 := by simp [mgO, hset]
  have k2 := tX0_lies (g := g) (hp := mgO hp t j (fMerge hp t j)) ht hj (b := 0) (by decide)
  have k3 := tX0_lies (g := g) (hp := mgO hp t j (fMerge hp t j)) ht hj (b := 1) (by decide)
  rw [e1, e2] at k2 k3
  unfold Ci
  refine r_aload_n dX5_mergeParts_0 (i := 0) rfl rfl ?_
  refine r_iload_n dX5_mergeParts_1 (i := 1) rfl rfl ?_
  refine sX5_mergeParts_2 (Nat.le_refl _) (Nat.le_refl _) rfl (lv0 (by first | assumption | decide | omega)) (Nat.le_of_ble_eq_true rfl) (tX5_answerOfMerger ht hj hx hs) ?_
  refine r_istore_n dX5_mergeParts_5 (i := 2) rfl (Nat.le_of_ble_eq_true rfl) rfl rfl ?_
  refine r_iload_n dX5_mergeParts_6 (i := 2) rfl rfl ?_
  refine r_if_ge dX5_mergeParts_7 (tgt := 12) rfl (fun _ => ?_) (fun h7 => absurd (h0) h7)
  refine r_aload_n dX5_mergeParts_12 (i := 0) rfl rfl ?_
  refine r_getR dX5_mergeParts_13 f_5_11 rfl rfl rfl (lv0 (by first | assumption | decide | omega)) ?_
  refine r_iload_n dX5_mergeParts_16 (i := 1) rfl rfl ?_
  refine n_aald dX5_mergeParts_17 rfl (lv1 (by first | assumption | decide | omega)) rfl (by first | assumption | omega | (unfold cI; omega)) rfl ?_
  refine r_astore_n dX5_mergeParts_18 (i := 3) rfl (Nat.le_of_ble_eq_true rfl) rfl rfl ?_
  refine r_iload_n dX5_mergeParts_19 (i := 2) rfl rfl ?_
  refine r_sipush dX5_mergeParts_20 (v := 1000) rfl ?_
  refine r_icmp_lt dX5_mergeParts_23 (tgt := 48) rfl (fun h23 => ?_) (fun h23 => ?_)
  · refine r_aload_n dX5_mergeParts_48 (i := 3) rfl rfl ?_
    refine r_iload_n dX5_mergeParts_49 (i := 2) rfl rfl ?_
    refine r_aload_n dX5_mergeParts_50 (i := 0) rfl rfl ?_
    refine r_getR dX5_mergeParts_51 f_5_17 rfl rfl rfl (lv0 (by first | assumption | decide | omega)) ?_
    refine r_iconst dX5_mergeParts_54 (v := 0) rfl ?_
    refine n_iald dX5_mergeParts_55 rfl (lv2 (by first | assumption | decide | omega)) (k := 0) rfl (by decide) ?_
    refine sX5_mergeParts_56 (Nat.le_refl _) (Nat.le_refl _) rfl (lv4 (by first | assumption | decide | omega) (by first | assumption | decide | omega)) (Nat.le_of_ble_eq_true rfl) (tX4_open ht hj) ?_
    refine r_aload_n dX5_mergeParts_59 (i := 3) rfl rfl ?_
    refine r_getR dX5_mergeParts_60 f_5_80 rfl rfl rfl (lv4 (by first | assumption | decide | omega) (by first | assumption | decide | omega)) ?_
    refine sX5_mergeParts_63 (Nat.le_refl _) (Nat.le_refl _) rfl (lv5 (by first | assumption | decide | omega) (by first | assumption | decide | omega) (by first | assumption | decide | omega)) (Nat.le_of_ble_eq_true rfl) (k2) ?_
    refine r_if_ne dX5_mergeParts_66 (tgt := 79) rfl (fun h66 => ?_) (fun h66 => ?_)
    · refine r_aload_n dX5_mergeParts_79 (i := 0) rfl rfl ?_
      refine r_dup dX5_mergeParts_80 rfl ?_
      refine r_getI dX5_mergeParts_81 f_5_49 rfl rfl (lv0 (by first | assumption | decide | omega)) ?_
      refine r_iconst dX5_mergeParts_84 (v := 1) rfl ?_
      refine r_iadd dX5_mergeParts_85 ?_
      refine r_putI dX5_mergeParts_86 f_5_49 rfl rfl (lv0 (by first | assumption | decide | omega)) ⟨rfl, rfl⟩ ?_
      refine r_iload_n dX5_mergeParts_89 (i := 2) rfl rfl ?_
      refine e_i dX5_mergeParts_90 rfl rfl rfl ?_
      simp only [bi_0, bi_n0] at *
      first | (simp [MG, mgL, *]; done) | (simp [MG, mgL, *, mgO, hset]; done)
    · refine r_aload_n dX5_mergeParts_69 (i := 3) rfl rfl ?_
      refine r_getR dX5_mergeParts_70 f_5_84 rfl rfl rfl (lv4 (by first | assumption | decide | omega) (by first | assumption | decide | omega)) ?_
      refine sX5_mergeParts_73 (Nat.le_refl _) (Nat.le_refl _) rfl (lv5 (by first | assumption | decide | omega) (by first | assumption | decide | omega) (by first | assumption | decide | omega)) (Nat.le_of_ble_eq_true rfl) (k3) ?_
      refine r_if_eq dX5_mergeParts_76 (tgt := 89) rfl (fun h76 => ?_) (fun h76 => ?_)
      · refine r_iload_n dX5_mergeParts_89 (i := 2) rfl rfl ?_
        refine e_i dX5_mergeParts_90 rfl rfl rfl ?_
        simp only [bi_0, bi_n0] at *
        first | (simp [MG, mgL, *]; done) | (simp [MG, mgL, *, mgO, hset]; done)
      · refine r_aload_n dX5_mergeParts_79 (i := 0) rfl rfl ?_
        refine r_dup dX5_mergeParts_80 rfl ?_
        refine r_getI dX5_mergeParts_81 f_5_49 rfl rfl (lv0 (by first | assumption | decide | omega)) ?_
        refine r_iconst dX5_mergeParts_84 (v := 1) rfl ?_
        refine r_iadd dX5_mergeParts_85 ?_
        refine r_putI dX5_mergeParts_86 f_5_49 rfl rfl (lv0 (by first | assumption | decide | omega)) ⟨rfl, rfl⟩ ?_
        refine r_iload_n dX5_mergeParts_89 (i := 2) rfl rfl ?_
        refine e_i dX5_mergeParts_90 rfl rfl rfl ?_
        simp only [bi_0, bi_n0] at *
        first | (simp [MG, mgL, *]; done) | (simp [MG, mgL, *, mgO, hset]; done)
  · refine r_aload_n dX5_mergeParts_26 (i := 3) rfl rfl ?_
    refine r_dup dX5_mergeParts_27 rfl ?_
    refine r_getI dX5_mergeParts_28 f_5_150 rfl rfl (lv4 (by first | assumption | decide | omega) (by first | assumption | decide | omega)) ?_
    refine r_iconst dX5_mergeParts_31 (v := 1) rfl ?_
    refine r_iadd dX5_mergeParts_32 ?_
    refine r_putI dX5_mergeParts_33 f_5_150 rfl rfl (lv4 (by first | assumption | decide | omega) (by first | assumption | decide | omega)) ⟨rfl, rfl⟩ ?_
    refine r_aload_n dX5_mergeParts_36 (i := 0) rfl rfl ?_
    refine r_dup dX5_mergeParts_37 rfl ?_
    refine r_getI dX5_mergeParts_38 f_5_46 rfl rfl (lv0 (by first | assumption | decide | omega)) ?_
    refine r_iconst dX5_mergeParts_41 (v := 1) rfl ?_
    refine r_iadd dX5_mergeParts_42 ?_
    refine r_putI dX5_mergeParts_43 f_5_46 rfl rfl (lv0 (by first | assumption | decide | omega)) ⟨rfl, rfl⟩ ?_
    refine r_iload_n dX5_mergeParts_46 (i := 2) rfl rfl ?_
    refine e_i dX5_mergeParts_47 rfl rfl rfl ?_
    simp [MG, h23, mgC, hset]
theorem tX5_givePartToThief_e {g : Gh} {t : Nat} {s x v : Int32} {hp : HPt} (ht : t < 10) (hx : fHalf hp t s x = false) : Ci g mX5_givePartToThief [vR (0, t, 0, 0), vI s, vI x, vI v] hp (-1) hp := by
  unfold Ci
  refine r_aload_n dX5_givePartToThief_0 (i := 0) rfl rfl ?_
  refine r_iload_n dX5_givePartToThief_1 (i := 1) rfl rfl ?_
  refine r_iload_n dX5_givePartToThief_2 (i := 2) rfl rfl ?_
  refine sX5_givePartToThief_3 (Nat.le_refl _) (Nat.le_refl _) rfl (lv0 (by first | assumption | decide | omega)) (Nat.le_of_ble_eq_true rfl) (tX5_hasHalf ht) ?_
  refine r_if_ne dX5_givePartToThief_6 (tgt := 11) rfl (fun h6 => absurd (bi_0.mpr hx) h6) (fun _ => ?_)
  refine r_iconst dX5_givePartToThief_9 (v := (-1)) rfl ?_
  exact e_i dX5_givePartToThief_10 rfl (by first | rfl | exact bi_nar _) (by first | rfl | simp [bi, *]) rfl
theorem tX5_givePartToThief_e2 {g : Gh} {t j : Nat} {s v : Int32} {hp : HPt} (ht : t < 10) (hj : j < 8) (hx : fHalf hp t s (nI j) = true) (hv : (!decide (hp (4, t, j, 0) 2 < v) && decide (hp (4, t, j, 0) 2 - hp (4, t, j, 0) 3 ≤ v)) = false) : Ci g mX5_givePartToThief [vR (0, t, 0, 0), vI s, vI (nI j), vI v] hp (-1) hp := by
  unfold Ci
  refine r_aload_n dX5_givePartToThief_0 (i := 0) rfl rfl ?_
  refine r_iload_n dX5_givePartToThief_1 (i := 1) rfl rfl ?_
  refine r_iload_n dX5_givePartToThief_2 (i := 2) rfl rfl ?_
  refine sX5_givePartToThief_3 (Nat.le_refl _) (Nat.le_refl _) rfl (lv0 (by first | assumption | decide | omega)) (Nat.le_of_ble_eq_true rfl) (tX5_hasHalf ht) ?_
  refine r_if_ne dX5_givePartToThief_6 (tgt := 11) rfl (fun _ => ?_) (fun h6 => absurd h6 (bi_n0.mpr hx))
  refine r_aload_n dX5_givePartToThief_11 (i := 0) rfl rfl ?_
  refine r_getR dX5_givePartToThief_12 f_5_11 rfl rfl rfl (lv0 (by first | assumption | decide | omega)) ?_
  refine r_iload_n dX5_givePartToThief_15 (i := 2) rfl rfl ?_
  refine n_aald dX5_givePartToThief_16 rfl (lv1 (by first | assumption | decide | omega)) rfl (by first | assumption | omega | (unfold cI; omega)) rfl ?_
  refine r_astore dX5_givePartToThief_17 (Nat.le_of_ble_eq_true rfl) rfl rfl ?_
  refine r_iload_n dX5_givePartToThief_19 (i := 3) rfl rfl ?_
  refine r_aload dX5_givePartToThief_20 rfl ?_
  refine r_getI dX5_givePartToThief_22 f_5_59 rfl rfl (lv4 (by first | assumption | decide | omega) (by first | assumption | decide | omega)) ?_
  refine r_icmp_gt dX5_givePartToThief_25 (tgt := 43) rfl (fun h25 => ?_) (fun h25 => ?_)
  · refine r_iconst dX5_givePartToThief_43 (v := (-1)) rfl ?_
    exact e_i dX5_givePartToThief_44 rfl (by first | rfl | exact bi_nar _) (by first | rfl | simp [bi, *]) rfl
  · refine r_iload_n dX5_givePartToThief_28 (i := 3) rfl rfl ?_
    refine r_aload dX5_givePartToThief_29 rfl ?_
    refine r_getI dX5_givePartToThief_31 f_5_59 rfl rfl (lv4 (by first | assumption | decide | omega) (by first | assumption | decide | omega)) ?_
    refine r_aload dX5_givePartToThief_34 rfl ?_
    refine r_getI dX5_givePartToThief_36 f_5_124 rfl rfl (lv4 (by first | assumption | decide | omega) (by first | assumption | decide | omega)) ?_
    refine r_isub dX5_givePartToThief_39 ?_
    refine r_icmp_ge dX5_givePartToThief_40 (tgt := 45) rfl (fun h40 => ?_) (fun h40 => ?_)
    · simp_all
    · refine r_iconst dX5_givePartToThief_43 (v := (-1)) rfl ?_
      exact e_i dX5_givePartToThief_44 rfl (by first | rfl | exact bi_nar _) (by first | rfl | simp [bi, *]) rfl
theorem tX5_givePartToThief {g : Gh} {t j b r : Nat} {v : Int32} {hp : HPt} (ht : t < 10) (hj : j < 8) (hb : b < 2) (hr : r < 5) (hW : WT hp) (hx : fHalf hp t (nI b) (nI j) = true) (a1 : ¬ hp (4, t, j, 0) 2 < v) (a2 : hp (4, t, j, 0) 2 - hp (4, t, j, 0) 3 ≤ v) (a3 : hp (4, t, j, 0) 2 - v = nI r) : Ci g mX5_givePartToThief [vR (0, t, 0, 0), vI (nI b), vI (nI j), vI v] hp (hp (6, t, j, b) r) (thB hp t j b r) := by
  unfold Ci
  refine r_aload_n dX5_givePartToThief_0 (i := 0) rfl rfl ?_
  refine r_iload_n dX5_givePartToThief_1 (i := 1) rfl rfl ?_
  refine r_iload_n dX5_givePartToThief_2 (i := 2) rfl rfl ?_
  refine sX5_givePartToThief_3 (Nat.le_refl _) (Nat.le_refl _) rfl (lv0 (by first | assumption | decide | omega)) (Nat.le_of_ble_eq_true rfl) (tX5_hasHalf ht) ?_
  refine r_if_ne dX5_givePartToThief_6 (tgt := 11) rfl (fun _ => ?_) (fun h6 => absurd h6 (bi_n0.mpr hx))
  refine r_aload_n dX5_givePartToThief_11 (i := 0) rfl rfl ?_
  refine r_getR dX5_givePartToThief_12 f_5_11 rfl rfl rfl (lv0 (by first | assumption | decide | omega)) ?_
  refine r_iload_n dX5_givePartToThief_15 (i := 2) rfl rfl ?_
  refine n_aald dX5_givePartToThief_16 rfl (lv1 (by first | assumption | decide | omega)) rfl (by first | assumption | omega | (unfold cI; omega)) rfl ?_
  refine r_astore dX5_givePartToThief_17 (Nat.le_of_ble_eq_true rfl) rfl rfl ?_
  refine r_iload_n dX5_givePartToThief_19 (i := 3) rfl rfl ?_
  refine r_aload dX5_givePartToThief_20 rfl ?_
  refine r_getI dX5_givePartToThief_22 f_5_59 rfl rfl (lv4 (by first | assumption | decide | omega) (by first | assumption | decide | omega)) ?_
  refine r_icmp_gt dX5_givePartToThief_25 (tgt := 43) rfl (fun h25 => absurd h25 (a1)) (fun _ => ?_)
  refine r_iload_n dX5_givePartToThief_28 (i := 3) rfl rfl ?_
  refine r_aload dX5_givePartToThief_29 rfl ?_
  refine r_getI dX5_givePartToThief_31 f_5_59 rfl rfl (lv4 (by first | assumption | decide | omega) (by first | assumption | decide | omega)) ?_
  refine r_aload dX5_givePartToThief_34 rfl ?_
  refine r_getI dX5_givePartToThief_36 f_5_124 rfl rfl (lv4 (by first | assumption | decide | omega) (by first | assumption | decide | omega)) ?_
  refine r_isub dX5_givePartToThief_39 ?_
  refine r_icmp_ge dX5_givePartToThief_40 (tgt := 45) rfl (fun _ => ?_) (fun h40 => absurd (a2) h40)
  refine r_aload dX5_givePartToThief_45 rfl ?_
  refine r_iload_n dX5_givePartToThief_47 (i := 1) rfl rfl ?_
  refine r_aload dX5_givePartToThief_48 rfl ?_
  refine r_getI dX5_givePartToThief_50 f_5_59 rfl rfl (lv4 (by first | assumption | decide | omega) (by first | assumption | decide | omega)) ?_
  refine r_iload_n dX5_givePartToThief_53 (i := 3) rfl rfl ?_
  refine r_isub dX5_givePartToThief_54 ?_
  rw [a3]
  refine sX5_givePartToThief_55 (Nat.le_refl _) (Nat.le_refl _) rfl (lv4 (by first | assumption | decide | omega) (by first | assumption | decide | omega)) (Nat.le_of_ble_eq_true rfl) (tX4_partForThief ht hj hb hr hW) ?_
  exact e_i dX5_givePartToThief_58 rfl (by first | rfl | exact bi_nar _) (by first | rfl | simp [bi, *]) rfl
theorem tX5_otherPartFor_e {g : Gh} {t : Nat} {s x v : Int32} {hp : HPt} (ht : t < 10) (hx : fHalf hp t s x = false) : Ci g mX5_otherPartFor [vR (0, t, 0, 0), vI s, vI x, vI v] hp (-1) hp := by
  unfold Ci
  refine r_aload_n dX5_otherPartFor_0 (i := 0) rfl rfl ?_
  refine r_iload_n dX5_otherPartFor_1 (i := 1) rfl rfl ?_
  refine r_iload_n dX5_otherPartFor_2 (i := 2) rfl rfl ?_
  refine sX5_otherPartFor_3 (Nat.le_refl _) (Nat.le_refl _) rfl (lv0 (by first | assumption | decide | omega)) (Nat.le_of_ble_eq_true rfl) (tX5_hasHalf ht) ?_
  refine r_if_ne dX5_otherPartFor_6 (tgt := 11) rfl (fun h6 => absurd (bi_0.mpr hx) h6) (fun _ => ?_)
  refine r_iconst dX5_otherPartFor_9 (v := (-1)) rfl ?_
  exact e_i dX5_otherPartFor_10 rfl (by first | rfl | exact bi_nar _) (by first | rfl | simp [bi, *]) rfl
theorem tX5_otherPartFor_e2 {g : Gh} {t : Nat} {s x v : Int32} {hp : HPt} (ht : t < 10) (hx : fHalf hp t s x = true) (hv : fPt v = false) : Ci g mX5_otherPartFor [vR (0, t, 0, 0), vI s, vI x, vI v] hp (-2) hp := by
  unfold Ci
  refine r_aload_n dX5_otherPartFor_0 (i := 0) rfl rfl ?_
  refine r_iload_n dX5_otherPartFor_1 (i := 1) rfl rfl ?_
  refine r_iload_n dX5_otherPartFor_2 (i := 2) rfl rfl ?_
  refine sX5_otherPartFor_3 (Nat.le_refl _) (Nat.le_refl _) rfl (lv0 (by first | assumption | decide | omega)) (Nat.le_of_ble_eq_true rfl) (tX5_hasHalf ht) ?_
  refine r_if_ne dX5_otherPartFor_6 (tgt := 11) rfl (fun _ => ?_) (fun h6 => absurd h6 (bi_n0.mpr hx))
  refine r_iload_n dX5_otherPartFor_11 (i := 3) rfl rfl ?_
  refine sX5_otherPartFor_12 (Nat.le_refl _) (Nat.le_refl _) (Nat.le_of_ble_eq_true rfl) (tX6_isPart) ?_
  refine r_if_ne dX5_otherPartFor_15 (tgt := 21) rfl (fun h15 => absurd (bi_0.mpr hv) h15) (fun _ => ?_)
  refine r_bipush dX5_otherPartFor_18 (v := (-2)) rfl ?_
  exact e_i dX5_otherPartFor_20 rfl (by first | rfl | exact bi_nar _) (by first | rfl | simp [bi, *]) rfl
theorem tX5_otherPartFor {g : Gh} {t j b : Nat} {v : Int32} {hp : HPt} (ht : t < 10) (hj : j < 8) (hb : b < 2) (hx : fHalf hp t (nI b) (nI j) = true) (hv : fPt v = true) : Ci g mX5_otherPartFor [vR (0, t, 0, 0), vI (nI b), vI (nI j), vI v] hp (fFM (v - hp (6, t, j, b) 0) 256) hp := by
  unfold Ci
  refine r_aload_n dX5_otherPartFor_0 (i := 0) rfl rfl ?_
  refine r_iload_n dX5_otherPartFor_1 (i := 1) rfl rfl ?_
  refine r_iload_n dX5_otherPartFor_2 (i := 2) rfl rfl ?_
  refine sX5_otherPartFor_3 (Nat.le_refl _) (Nat.le_refl _) rfl (lv0 (by first | assumption | decide | omega)) (Nat.le_of_ble_eq_true rfl) (tX5_hasHalf ht) ?_
  refine r_if_ne dX5_otherPartFor_6 (tgt := 11) rfl (fun _ => ?_) (fun h6 => absurd h6 (bi_n0.mpr hx))
  refine r_iload_n dX5_otherPartFor_11 (i := 3) rfl rfl ?_
  refine sX5_otherPartFor_12 (Nat.le_refl _) (Nat.le_refl _) (Nat.le_of_ble_eq_true rfl) (tX6_isPart) ?_
  refine r_if_ne dX5_otherPartFor_15 (tgt := 21) rfl (fun _ => ?_) (fun h15 => absurd h15 (bi_n0.mpr hv))
  refine r_iload_n dX5_otherPartFor_21 (i := 3) rfl rfl ?_
  refine r_aload_n dX5_otherPartFor_22 (i := 0) rfl rfl ?_
  refine r_getR dX5_otherPartFor_23 f_5_11 rfl rfl rfl (lv0 (by first | assumption | decide | omega)) ?_
  refine r_iload_n dX5_otherPartFor_26 (i := 2) rfl rfl ?_
  refine n_aald dX5_otherPartFor_27 rfl (lv1 (by first | assumption | decide | omega)) rfl (by first | assumption | omega | (unfold cI; omega)) rfl ?_
  refine r_iload_n dX5_otherPartFor_28 (i := 1) rfl rfl ?_
  refine sX5_otherPartFor_29 (Nat.le_refl _) (Nat.le_refl _) rfl (lv4 (by first | assumption | decide | omega) (by first | assumption | decide | omega)) (Nat.le_of_ble_eq_true rfl) (tX4_halfIn ht hj hb) ?_
  refine r_getR dX5_otherPartFor_32 f_5_87 rfl rfl rfl (lv5 (by first | assumption | decide | omega) (by first | assumption | decide | omega) (by first | assumption | decide | omega)) ?_
  refine r_iconst dX5_otherPartFor_35 (v := 0) rfl ?_
  refine n_iald dX5_otherPartFor_36 rfl (lv6 (by first | assumption | decide | omega) (by first | assumption | decide | omega) (by first | assumption | decide | omega)) (k := 0) rfl (by decide) ?_
  refine r_isub dX5_otherPartFor_37 ?_
  refine r_sipush dX5_otherPartFor_38 (v := 256) rfl ?_
  refine sX5_otherPartFor_41 (Nat.le_refl _) (Nat.le_refl _) (Nat.le_of_ble_eq_true rfl) (tJ9_floorMod (by decide)) ?_
  exact e_i dX5_otherPartFor_44 rfl (by first | rfl | exact bi_nar _) (by first | rfl | simp [bi, *]) rfl
/-- the tag's offset with which a lie passes -/
def fPass (hp : HPt) (t j b : Nat) (o : Int32) : Int32 := fFM (jrem (hp (5, t, j, 1 - b) 3 * jrem (hp (6, t, j, b) 0 + o) 256 + hp (5, t, j, 1 - b) 4) 257 - hp (5, t, j, b) 2) 257
theorem tX5_tagOffsetThatPasses_e {g : Gh} {t : Nat} {s x v : Int32} {hp : HPt} (ht : t < 10) (hx : fHalf hp t s x = false) : Ci g mX5_tagOffsetThatPasses [vR (0, t, 0, 0), vI s, vI x, vI v] hp (-1) hp := by
  unfold Ci
  refine r_aload_n dX5_tagOffsetThatPasses_0 (i := 0) rfl rfl ?_
  refine r_iload_n dX5_tagOffsetThatPasses_1 (i := 1) rfl rfl ?_
  refine r_iload_n dX5_tagOffsetThatPasses_2 (i := 2) rfl rfl ?_
  refine sX5_tagOffsetThatPasses_3 (Nat.le_refl _) (Nat.le_refl _) rfl (lv0 (by first | assumption | decide | omega)) (Nat.le_of_ble_eq_true rfl) (tX5_hasHalf ht) ?_
  refine r_if_ne dX5_tagOffsetThatPasses_6 (tgt := 11) rfl (fun h6 => absurd (bi_0.mpr hx) h6) (fun _ => ?_)
  refine r_iconst dX5_tagOffsetThatPasses_9 (v := (-1)) rfl ?_
  exact e_i dX5_tagOffsetThatPasses_10 rfl (by first | rfl | exact bi_nar _) (by first | rfl | simp [bi, *]) rfl
theorem tX5_tagOffsetThatPasses_e2 {g : Gh} {t : Nat} {s x v : Int32} {hp : HPt} (ht : t < 10) (hx : fHalf hp t s x = true) (hv : fPt v = false) : Ci g mX5_tagOffsetThatPasses [vR (0, t, 0, 0), vI s, vI x, vI v] hp (-2) hp := by
  unfold Ci
  refine r_aload_n dX5_tagOffsetThatPasses_0 (i := 0) rfl rfl ?_
  refine r_iload_n dX5_tagOffsetThatPasses_1 (i := 1) rfl rfl ?_
  refine r_iload_n dX5_tagOffsetThatPasses_2 (i := 2) rfl rfl ?_
  refine sX5_tagOffsetThatPasses_3 (Nat.le_refl _) (Nat.le_refl _) rfl (lv0 (by first | assumption | decide | omega)) (Nat.le_of_ble_eq_true rfl) (tX5_hasHalf ht) ?_
  refine r_if_ne dX5_tagOffsetThatPasses_6 (tgt := 11) rfl (fun _ => ?_) (fun h6 => absurd h6 (bi_n0.mpr hx))
  refine r_iload_n dX5_tagOffsetThatPasses_11 (i := 3) rfl rfl ?_
  refine sX5_tagOffsetThatPasses_12 (Nat.le_refl _) (Nat.le_refl _) (Nat.le_of_ble_eq_true rfl) (tX6_isPart) ?_
  refine r_if_ne dX5_tagOffsetThatPasses_15 (tgt := 21) rfl (fun h15 => absurd (bi_0.mpr hv) h15) (fun _ => ?_)
  refine r_bipush dX5_tagOffsetThatPasses_18 (v := (-2)) rfl ?_
  exact e_i dX5_tagOffsetThatPasses_20 rfl (by first | rfl | exact bi_nar _) (by first | rfl | simp [bi, *]) rfl
theorem tX5_tagOffsetThatPasses {g : Gh} {t j b : Nat} {v : Int32} {hp : HPt} (ht : t < 10) (hj : j < 8) (hb : b < 2) (hx : fHalf hp t (nI b) (nI j) = true) (hv : fPt v = true) : Ci g mX5_tagOffsetThatPasses [vR (0, t, 0, 0), vI (nI b), vI (nI j), vI v] hp (fPass hp t j b v) hp := by
  have hb2 : 1 - b < 2 := by omega
  unfold Ci
  refine r_aload_n dX5_tagOffsetThatPasses_0 (i := 0) rfl rfl ?_
  refine r_iload_n dX5_tagOffsetThatPasses_1 (i := 1) rfl rfl ?_
  refine r_iload_n dX5_tagOffsetThatPasses_2 (i := 2) rfl rfl ?_
  refine sX5_tagOffsetThatPasses_3 (Nat.le_refl _) (Nat.le_refl _) rfl (lv0 (by first | assumption | decide | omega)) (Nat.le_of_ble_eq_true rfl) (tX5_hasHalf ht) ?_
  refine r_if_ne dX5_tagOffsetThatPasses_6 (tgt := 11) rfl (fun _ => ?_) (fun h6 => absurd h6 (bi_n0.mpr hx))
  refine r_iload_n dX5_tagOffsetThatPasses_11 (i := 3) rfl rfl ?_
  refine sX5_tagOffsetThatPasses_12 (Nat.le_refl _) (Nat.le_refl _) (Nat.le_of_ble_eq_true rfl) (tX6_isPart) ?_
  refine r_if_ne dX5_tagOffsetThatPasses_15 (tgt := 21) rfl (fun _ => ?_) (fun h15 => absurd h15 (bi_n0.mpr hv))
  refine r_aload_n dX5_tagOffsetThatPasses_21 (i := 0) rfl rfl ?_
  refine r_getR dX5_tagOffsetThatPasses_22 f_5_11 rfl rfl rfl (lv0 (by first | assumption | decide | omega)) ?_
  refine r_iload_n dX5_tagOffsetThatPasses_25 (i := 2) rfl rfl ?_
  refine n_aald dX5_tagOffsetThatPasses_26 rfl (lv1 (by first | assumption | decide | omega)) rfl (by first | assumption | omega | (unfold cI; omega)) rfl ?_
  refine r_iload_n dX5_tagOffsetThatPasses_27 (i := 1) rfl rfl ?_
  refine sX5_tagOffsetThatPasses_28 (Nat.le_refl _) (Nat.le_refl _) rfl (lv4 (by first | assumption | decide | omega) (by first | assumption | decide | omega)) (Nat.le_of_ble_eq_true rfl) (tX4_halfIn ht hj hb) ?_
  refine r_astore dX5_tagOffsetThatPasses_31 (Nat.le_of_ble_eq_true rfl) rfl rfl ?_
  refine r_aload_n dX5_tagOffsetThatPasses_33 (i := 0) rfl rfl ?_
  refine r_getR dX5_tagOffsetThatPasses_34 f_5_11 rfl rfl rfl (lv0 (by first | assumption | decide | omega)) ?_
  refine r_iload_n dX5_tagOffsetThatPasses_37 (i := 2) rfl rfl ?_
  refine n_aald dX5_tagOffsetThatPasses_38 rfl (lv1 (by first | assumption | decide | omega)) rfl (by first | assumption | omega | (unfold cI; omega)) rfl ?_
  refine r_iload_n dX5_tagOffsetThatPasses_39 (i := 1) rfl rfl ?_
  refine sX5_tagOffsetThatPasses_40 (Nat.le_refl _) (Nat.le_refl _) rfl (lv4 (by first | assumption | decide | omega) (by first | assumption | decide | omega)) (Nat.le_of_ble_eq_true rfl) (tX4_halfBeside ht hj hb) ?_
  refine r_astore dX5_tagOffsetThatPasses_43 (Nat.le_of_ble_eq_true rfl) rfl rfl ?_
  refine r_aload dX5_tagOffsetThatPasses_45 rfl ?_
  refine r_aload dX5_tagOffsetThatPasses_47 rfl ?_
  refine r_iload_n dX5_tagOffsetThatPasses_49 (i := 3) rfl rfl ?_
  refine sX5_tagOffsetThatPasses_50 (Nat.le_refl _) (Nat.le_refl _) rfl (lv5 (by first | assumption | decide | omega) (by first | assumption | decide | omega) (by first | assumption | decide | omega)) (Nat.le_of_ble_eq_true rfl) (tX0_partWith ht hj hb) ?_
  refine sX5_tagOffsetThatPasses_53 (Nat.le_refl _) (Nat.le_refl _) rfl (lv5 (by first | assumption | decide | omega) (by first | assumption | decide | omega) (by first | assumption | decide | omega)) (Nat.le_of_ble_eq_true rfl) (tX0_tagDueFor ht hj hb2) ?_
  refine r_aload dX5_tagOffsetThatPasses_56 rfl ?_
  refine r_getI dX5_tagOffsetThatPasses_58 f_5_112 rfl rfl (lv5 (by first | assumption | decide | omega) (by first | assumption | decide | omega) (by first | assumption | decide | omega)) ?_
  refine r_isub dX5_tagOffsetThatPasses_61 ?_
  refine r_sipush dX5_tagOffsetThatPasses_62 (v := 257) rfl ?_
  refine sX5_tagOffsetThatPasses_65 (Nat.le_refl _) (Nat.le_refl _) (Nat.le_of_ble_eq_true rfl) (tJ9_floorMod (by decide)) ?_
  exact e_i dX5_tagOffsetThatPasses_68 rfl (by first | rfl | exact bi_nar _) (by first | rfl | simp [bi, *]) rfl
theorem tX5_offsetsThatPass_e {g : Gh} {t : Nat} {s x v : Int32} {hp : HPt} (ht : t < 10) (hx : fHalf hp t s x = false) : Ci g mX5_offsetsThatPass [vR (0, t, 0, 0), vI s, vI x, vI v] hp (-1) hp := by
  unfold Ci
  refine r_aload_n dX5_offsetsThatPass_0 (i := 0) rfl rfl ?_
  refine r_iload_n dX5_offsetsThatPass_1 (i := 1) rfl rfl ?_
  refine r_iload_n dX5_offsetsThatPass_2 (i := 2) rfl rfl ?_
  refine sX5_offsetsThatPass_3 (Nat.le_refl _) (Nat.le_refl _) rfl (lv0 (by first | assumption | decide | omega)) (Nat.le_of_ble_eq_true rfl) (tX5_hasHalf ht) ?_
  refine r_if_ne dX5_offsetsThatPass_6 (tgt := 11) rfl (fun h6 => absurd (bi_0.mpr hx) h6) (fun _ => ?_)
  refine r_iconst dX5_offsetsThatPass_9 (v := (-1)) rfl ?_
  exact e_i dX5_offsetsThatPass_10 rfl (by first | rfl | exact bi_nar _) (by first | rfl | simp [bi, *]) rfl
theorem tX5_offsetsThatPass_e2 {g : Gh} {t : Nat} {s x v : Int32} {hp : HPt} (ht : t < 10) (hx : fHalf hp t s x = true) (hv : fTg v = false) : Ci g mX5_offsetsThatPass [vR (0, t, 0, 0), vI s, vI x, vI v] hp (-2) hp := by
  unfold Ci
  refine r_aload_n dX5_offsetsThatPass_0 (i := 0) rfl rfl ?_
  refine r_iload_n dX5_offsetsThatPass_1 (i := 1) rfl rfl ?_
  refine r_iload_n dX5_offsetsThatPass_2 (i := 2) rfl rfl ?_
  refine sX5_offsetsThatPass_3 (Nat.le_refl _) (Nat.le_refl _) rfl (lv0 (by first | assumption | decide | omega)) (Nat.le_of_ble_eq_true rfl) (tX5_hasHalf ht) ?_
  refine r_if_ne dX5_offsetsThatPass_6 (tgt := 11) rfl (fun _ => ?_) (fun h6 => absurd h6 (bi_n0.mpr hx))
  refine r_iload_n dX5_offsetsThatPass_11 (i := 3) rfl rfl ?_
  refine sX5_offsetsThatPass_12 (Nat.le_refl _) (Nat.le_refl _) (Nat.le_of_ble_eq_true rfl) (tX6_isTag) ?_
  refine r_if_ne dX5_offsetsThatPass_15 (tgt := 21) rfl (fun h15 => absurd (bi_0.mpr hv) h15) (fun _ => ?_)
  refine r_bipush dX5_offsetsThatPass_18 (v := (-2)) rfl ?_
  exact e_i dX5_offsetsThatPass_20 rfl (by first | rfl | exact bi_nar _) (by first | rfl | simp [bi, *]) rfl
/-- among the offsets 1 .. r, how many pass -/
def nPass (hp : HPt) (t j b : Nat) (q : Int32) : Nat → Nat
  | 0 => 0
  | r + 1 => nPass hp t j b q r + (if fPass hp t j b (nI (r + 1)) = q then 1 else 0)
theorem fPt_nI {r : Nat} (h : r < 256) : fPt (nI r) = true := by
  unfold fPt
  have h1 : ¬ nI r < 0 := nI_pos (by omega)
  have h2 : nI r < 256 := nI_lt (b := 256) h (by decide)
  simp [h1, h2]
theorem tX5_offsetsThatPass {g : Gh} {t j b : Nat} {v : Int32} {hp : HPt} (ht : t < 10) (hj : j < 8) (hb : b < 2) (hx : fHalf hp t (nI b) (nI j) = true) (hv : fTg v = true) : Ci g mX5_offsetsThatPass [vR (0, t, 0, 0), vI (nI b), vI (nI j), vI v] hp (nI (nPass hp t j b v 255)) hp := by
  have key : ∀ k r, r + k = 255 → V g mX5_offsetsThatPass 0 0 0 0 609 27 [some (vR (0, t, 0, 0)), some (vI (nI b)), some (vI (nI j)), some (vI v), some (vI (nI (nPass hp t j b v r))), some (vI (nI (r + 1)))] [] RP hp (Pi (nI (nPass hp t j b v 255)) hp) := by
    intro k
    induction k with
    | zero =>
      intro r hr
      have hr : r = 255 := by omega
      subst hr
      refine r_iload dX5_offsetsThatPass_27 rfl ?_
      refine r_sipush dX5_offsetsThatPass_29 (v := 256) rfl ?_
      refine r_icmp_ge dX5_offsetsThatPass_32 (tgt := 56) rfl (fun _ => ?_) (fun h32 => absurd ((by decide : (256 : Int32) ≤ nI (255 + 1))) h32)
      refine r_iload dX5_offsetsThatPass_56 rfl ?_
      exact e_i dX5_offsetsThatPass_58 rfl (by first | rfl | exact bi_nar _) (by first | rfl | simp [bi, *]) rfl
    | succ k ih =>
      intro r hr
      have h := ih (r + 1) (by omega)
      refine r_iload dX5_offsetsThatPass_27 rfl ?_
      refine r_sipush dX5_offsetsThatPass_29 (v := 256) rfl ?_
      refine r_icmp_ge dX5_offsetsThatPass_32 (tgt := 56) rfl (fun h32 => absurd h32 ((nI_ge (b := 256) (by omega) (by decide) : ¬ (256 : Int32) ≤ nI (r + 1)))) (fun _ => ?_)
      refine r_aload_n dX5_offsetsThatPass_35 (i := 0) rfl rfl ?_
      refine r_iload_n dX5_offsetsThatPass_36 (i := 1) rfl rfl ?_
      refine r_iload_n dX5_offsetsThatPass_37 (i := 2) rfl rfl ?_
      refine r_iload dX5_offsetsThatPass_38 rfl ?_
      refine sX5_offsetsThatPass_40 (Nat.le_refl _) (Nat.le_refl _) rfl (lv0 (by first | assumption | decide | omega)) (Nat.le_of_ble_eq_true rfl) (tX5_tagOffsetThatPasses ht hj hb hx (fPt_nI (by omega))) ?_
      refine r_iload_n dX5_offsetsThatPass_43 (i := 3) rfl rfl ?_
      refine r_icmp_ne dX5_offsetsThatPass_44 (tgt := 50) rfl (fun h44 => ?_) (fun h44 => ?_)
      · refine V.eqL (L2 := [some (vR (0, t, 0, 0)), some (vI (nI b)), some (vI (nI j)), some (vI v), some (vI (nI (nPass hp t j b v (r + 1)))), some (vI (nI (r + 1)))]) (by simp [nPass, h44, nI_1]) ?_
        refine r_inc1 dX5_offsetsThatPass_50 rfl (Nat.le_of_ble_eq_true rfl) rfl ?_
        refine r_goto dX5_offsetsThatPass_53 (tgt := 27) rfl ?_
        rw [nI_1]
        exact h
      · refine r_inc1 dX5_offsetsThatPass_47 rfl (Nat.le_of_ble_eq_true rfl) rfl ?_
        refine V.eqL (L2 := [some (vR (0, t, 0, 0)), some (vI (nI b)), some (vI (nI j)), some (vI v), some (vI (nI (nPass hp t j b v (r + 1)))), some (vI (nI (r + 1)))]) (by simp [nPass, h44, nI_1]) ?_
        refine r_inc1 dX5_offsetsThatPass_50 rfl (Nat.le_of_ble_eq_true rfl) rfl ?_
        refine r_goto dX5_offsetsThatPass_53 (tgt := 27) rfl ?_
        rw [nI_1]
        exact h
  unfold Ci
  refine r_aload_n dX5_offsetsThatPass_0 (i := 0) rfl rfl ?_
  refine r_iload_n dX5_offsetsThatPass_1 (i := 1) rfl rfl ?_
  refine r_iload_n dX5_offsetsThatPass_2 (i := 2) rfl rfl ?_
  refine sX5_offsetsThatPass_3 (Nat.le_refl _) (Nat.le_refl _) rfl (lv0 (by first | assumption | decide | omega)) (Nat.le_of_ble_eq_true rfl) (tX5_hasHalf ht) ?_
  refine r_if_ne dX5_offsetsThatPass_6 (tgt := 11) rfl (fun _ => ?_) (fun h6 => absurd h6 (bi_n0.mpr hx))
  refine r_iload_n dX5_offsetsThatPass_11 (i := 3) rfl rfl ?_
  refine sX5_offsetsThatPass_12 (Nat.le_refl _) (Nat.le_refl _) (Nat.le_of_ble_eq_true rfl) (tX6_isTag) ?_
  refine r_if_ne dX5_offsetsThatPass_15 (tgt := 21) rfl (fun _ => ?_) (fun h15 => absurd h15 (bi_n0.mpr hv))
  refine r_iconst dX5_offsetsThatPass_21 (v := 0) rfl ?_
  refine r_istore dX5_offsetsThatPass_22 (Nat.le_of_ble_eq_true rfl) rfl rfl ?_
  refine r_iconst dX5_offsetsThatPass_24 (v := 1) rfl ?_
  refine r_istore dX5_offsetsThatPass_25 (Nat.le_of_ble_eq_true rfl) rfl rfl ?_
  exact key 255 0 rfl
theorem tX5_partsNeeded_e {g : Gh} {t : Nat} {x : Int32} {hp : HPt} (ht : t < 10) (hx : fHas hp t x = false) : Ci g mX5_partsNeeded [vR (0, t, 0, 0), vI x] hp (-1) hp := by
  unfold Ci
  refine r_aload_n dX5_partsNeeded_0 (i := 0) rfl rfl ?_
  refine r_iload_n dX5_partsNeeded_1 (i := 1) rfl rfl ?_
  refine sX5_partsNeeded_2 (Nat.le_refl _) (Nat.le_refl _) rfl (lv0 (by first | assumption | decide | omega)) (Nat.le_of_ble_eq_true rfl) (tX5_hasSecret ht) ?_
  refine r_if_ne dX5_partsNeeded_5 (tgt := 10) rfl (fun h5 => absurd (bi_0.mpr hx) h5) (fun _ => ?_)
  refine r_iconst dX5_partsNeeded_8 (v := (-1)) rfl ?_
  exact e_i dX5_partsNeeded_9 rfl (by first | rfl | exact bi_nar _) (by first | rfl | simp [bi, *]) rfl
theorem tX5_partsNeeded {g : Gh} {t j m : Nat} {hp : HPt} (ht : t < 10) (hj : j < 8) (hm : m < 5) (hM : hp (4, t, j, 0) 3 = nI m) (hx : fHas hp t (nI j) = true) : Ci g mX5_partsNeeded [vR (0, t, 0, 0), vI (nI j)] hp (if hp (4, t, j, 0) 9 = 0 then (if 0 < rkN hp t j (m + 1) then 1 else 2) else 0) hp := by
  have hle := rkN_le (hp := hp) (t := t) (j := j) (m + 1)
  have hz : nI (rkN hp t j (m + 1)) ≤ 0 ↔ ¬ 0 < rkN hp t j (m + 1) := by
    rw [show (0 : Int32) = nI 0 from rfl, nI_leI (by omega) (by decide)]
    omega
  unfold Ci
  refine r_aload_n dX5_partsNeeded_0 (i := 0) rfl rfl ?_
  refine r_iload_n dX5_partsNeeded_1 (i := 1) rfl rfl ?_
  refine sX5_partsNeeded_2 (Nat.le_refl _) (Nat.le_refl _) rfl (lv0 (by first | assumption | decide | omega)) (Nat.le_of_ble_eq_true rfl) (tX5_hasSecret ht) ?_
  refine r_if_ne dX5_partsNeeded_5 (tgt := 10) rfl (fun _ => ?_) (fun h5 => absurd h5 (bi_n0.mpr hx))
  refine r_aload_n dX5_partsNeeded_10 (i := 0) rfl rfl ?_
  refine r_getR dX5_partsNeeded_11 f_5_11 rfl rfl rfl (lv0 (by first | assumption | decide | omega)) ?_
  refine r_iload_n dX5_partsNeeded_14 (i := 1) rfl rfl ?_
  refine n_aald dX5_partsNeeded_15 rfl (lv1 (by first | assumption | decide | omega)) rfl (by first | assumption | omega | (unfold cI; omega)) rfl ?_
  refine r_getI dX5_partsNeeded_16 f_5_179 rfl rfl (lv4 (by first | assumption | decide | omega) (by first | assumption | decide | omega)) ?_
  refine r_if_eq dX5_partsNeeded_19 (tgt := 24) rfl (fun h19 => ?_) (fun h19 => ?_)
  · refine r_aload_n dX5_partsNeeded_24 (i := 0) rfl rfl ?_
    refine r_getR dX5_partsNeeded_25 f_5_11 rfl rfl rfl (lv0 (by first | assumption | decide | omega)) ?_
    refine r_iload_n dX5_partsNeeded_28 (i := 1) rfl rfl ?_
    refine n_aald dX5_partsNeeded_29 rfl (lv1 (by first | assumption | decide | omega)) rfl (by first | assumption | omega | (unfold cI; omega)) rfl ?_
    refine sX5_partsNeeded_30 (Nat.le_refl _) (Nat.le_refl _) rfl (lv4 (by first | assumption | decide | omega) (by first | assumption | decide | omega)) (Nat.le_of_ble_eq_true rfl) (tX4_rowsAtRisk ht hj hm hM) ?_
    refine r_if_le dX5_partsNeeded_33 (tgt := 40) rfl (fun h33 => ?_) (fun h33 => ?_)
    · refine r_iconst dX5_partsNeeded_40 (v := 2) rfl ?_
      exact e_i dX5_partsNeeded_41 rfl (by first | rfl | exact bi_nar _) (by first | rfl | (simp only [hz] at *; simp [*]; done) | (simp only [hz] at *; simp_all; done)) rfl
    · refine r_iconst dX5_partsNeeded_36 (v := 1) rfl ?_
      refine r_goto dX5_partsNeeded_37 (tgt := 41) rfl ?_
      exact e_i dX5_partsNeeded_41 rfl (by first | rfl | exact bi_nar _) (by first | rfl | (simp only [hz] at *; simp [*]; done) | (simp only [hz] at *; simp_all; done)) rfl
  · refine r_iconst dX5_partsNeeded_22 (v := 0) rfl ?_
    exact e_i dX5_partsNeeded_23 rfl (by first | rfl | exact bi_nar _) (by first | rfl | (simp only [hz] at *; simp [*]; done) | (simp only [hz] at *; simp_all; done)) rfl
theorem tX5_versionsAtRisk_e {g : Gh} {t : Nat} {x : Int32} {hp : HPt} (ht : t < 10) (hx : fHas hp t x = false) : Ci g mX5_versionsAtRisk [vR (0, t, 0, 0), vI x] hp (-1) hp := by
  unfold Ci
  refine r_aload_n dX5_versionsAtRisk_0 (i := 0) rfl rfl ?_
  refine r_iload_n dX5_versionsAtRisk_1 (i := 1) rfl rfl ?_
  refine sX5_versionsAtRisk_2 (Nat.le_refl _) (Nat.le_refl _) rfl (lv0 (by first | assumption | decide | omega)) (Nat.le_of_ble_eq_true rfl) (tX5_hasSecret ht) ?_
  refine r_if_eq dX5_versionsAtRisk_5 (tgt := 20) rfl (fun _ => ?_) (fun h5 => absurd (bi_0.mpr hx) h5)
  refine r_iconst dX5_versionsAtRisk_20 (v := (-1)) rfl ?_
  exact e_i dX5_versionsAtRisk_21 rfl (by first | rfl | exact bi_nar _) (by first | rfl | simp [bi, *]) rfl
theorem tX5_versionsAtRisk {g : Gh} {t j m : Nat} {hp : HPt} (ht : t < 10) (hj : j < 8) (hm : m < 5) (hM : hp (4, t, j, 0) 3 = nI m) (hx : fHas hp t (nI j) = true) : Ci g mX5_versionsAtRisk [vR (0, t, 0, 0), vI (nI j)] hp (nI (rkN hp t j (m + 1))) hp := by
  unfold Ci
  refine r_aload_n dX5_versionsAtRisk_0 (i := 0) rfl rfl ?_
  refine r_iload_n dX5_versionsAtRisk_1 (i := 1) rfl rfl ?_
  refine sX5_versionsAtRisk_2 (Nat.le_refl _) (Nat.le_refl _) rfl (lv0 (by first | assumption | decide | omega)) (Nat.le_of_ble_eq_true rfl) (tX5_hasSecret ht) ?_
  refine r_if_eq dX5_versionsAtRisk_5 (tgt := 20) rfl (fun h5 => absurd h5 (bi_n0.mpr hx)) (fun _ => ?_)
  refine r_aload_n dX5_versionsAtRisk_8 (i := 0) rfl rfl ?_
  refine r_getR dX5_versionsAtRisk_9 f_5_11 rfl rfl rfl (lv0 (by first | assumption | decide | omega)) ?_
  refine r_iload_n dX5_versionsAtRisk_12 (i := 1) rfl rfl ?_
  refine n_aald dX5_versionsAtRisk_13 rfl (lv1 (by first | assumption | decide | omega)) rfl (by first | assumption | omega | (unfold cI; omega)) rfl ?_
  refine sX5_versionsAtRisk_14 (Nat.le_refl _) (Nat.le_refl _) rfl (lv4 (by first | assumption | decide | omega) (by first | assumption | decide | omega)) (Nat.le_of_ble_eq_true rfl) (tX4_rowsAtRisk ht hj hm hM) ?_
  refine r_goto dX5_versionsAtRisk_17 (tgt := 21) rfl ?_
  exact e_i dX5_versionsAtRisk_21 rfl (by first | rfl | exact bi_nar _) (by first | rfl | simp [bi, *]) rfl
end
section
theorem out_lo {x : Int32} {lo hi : Int} (h : x < 0) (e : lo = 0) : x.toInt < lo ∨ hi < x.toInt := Or.inl (by rw [e]; exact Int32.lt_iff_toInt_lt.mp h)
theorem out_wd {x : Int32} {n : Nat} {hi : Int} (h : (!decide (x < 0) && decide (x < nI n)) = false) (hn : n < 2 ^ 31) (e : hi = (n : Int) - 1) : x.toInt < 0 ∨ hi < x.toInt := by
  by_cases h0 : x < 0
  · exact Or.inl (Int32.lt_iff_toInt_lt.mp h0)
  · by_cases h1 : x < nI n
    · simp [h0, h1] at h
    · right
      rw [Int32.lt_iff_toInt_lt, nI_toInt hn] at h1
      omega
def figH (hp : HPt) (t j b : Nat) (k : Nat) : Int32 := match k with
  | 0 => hp (6, t, j, b) 0
  | 1 => hp (5, t, j, b) 2
  | 2 => hp (5, t, j, b) 3
  | 3 => hp (5, t, j, b) 4
  | 4 => hp (5, t, j, b) 5
  | 5 => hp (5, t, j, b) 6
  | 6 => jrem (hp (6, t, j, b) 0 + hp (5, t, j, b) 5) 256
  | _ => jrem (hp (5, t, j, b) 2 + hp (5, t, j, b) 6) 257
theorem tX5_figureOfHalf_e {g : Gh} {t : Nat} {s x w : Int32} {hp : HPt} (ht : t < 10) (hx : fHalf hp t s x = false) : Ci g mX5_figureOfHalf [vR (0, t, 0, 0), vI s, vI x, vI w] hp (-1) hp := by
  unfold Ci
  refine r_aload_n dX5_figureOfHalf_0 (i := 0) rfl rfl ?_
  refine r_iload_n dX5_figureOfHalf_1 (i := 1) rfl rfl ?_
  refine r_iload_n dX5_figureOfHalf_2 (i := 2) rfl rfl ?_
  refine sX5_figureOfHalf_3 (Nat.le_refl _) (Nat.le_refl _) rfl (lv0 (by first | assumption | decide | omega)) (Nat.le_of_ble_eq_true rfl) (tX5_hasHalf ht) ?_
  refine r_if_ne dX5_figureOfHalf_6 (tgt := 11) rfl (fun h6 => absurd (bi_0.mpr hx) h6) (fun _ => ?_)
  refine r_iconst dX5_figureOfHalf_9 (v := (-1)) rfl ?_
  exact e_i dX5_figureOfHalf_10 rfl (by first | rfl | exact bi_nar _) (by first | rfl | simp [bi, *]) rfl
theorem tX5_figureOfHalf_e2 {g : Gh} {t j b : Nat} {w : Int32} {hp : HPt} (ht : t < 10) (hj : j < 8) (hb : b < 2) (hx : fHalf hp t (nI b) (nI j) = true) (hw : (!decide (w < 0) && decide (w < nI 8)) = false) : Ci g mX5_figureOfHalf [vR (0, t, 0, 0), vI (nI b), vI (nI j), vI w] hp (-2) hp := by
  unfold Ci
  refine r_aload_n dX5_figureOfHalf_0 (i := 0) rfl rfl ?_
  refine r_iload_n dX5_figureOfHalf_1 (i := 1) rfl rfl ?_
  refine r_iload_n dX5_figureOfHalf_2 (i := 2) rfl rfl ?_
  refine sX5_figureOfHalf_3 (Nat.le_refl _) (Nat.le_refl _) rfl (lv0 (by first | assumption | decide | omega)) (Nat.le_of_ble_eq_true rfl) (tX5_hasHalf ht) ?_
  refine r_if_ne dX5_figureOfHalf_6 (tgt := 11) rfl (fun _ => ?_) (fun h6 => absurd h6 (bi_n0.mpr hx))
  refine r_aload_n dX5_figureOfHalf_11 (i := 0) rfl rfl ?_
  refine r_getR dX5_figureOfHalf_12 f_5_11 rfl rfl rfl (lv0 (by first | assumption | decide | omega)) ?_
  refine r_iload_n dX5_figureOfHalf_15 (i := 2) rfl rfl ?_
  refine n_aald dX5_figureOfHalf_16 rfl (lv1 (by first | assumption | decide | omega)) rfl (by first | assumption | omega | (unfold cI; omega)) rfl ?_
  refine r_iload_n dX5_figureOfHalf_17 (i := 1) rfl rfl ?_
  refine sX5_figureOfHalf_18 (Nat.le_refl _) (Nat.le_refl _) rfl (lv4 (by first | assumption | decide | omega) (by first | assumption | decide | omega)) (Nat.le_of_ble_eq_true rfl) (tX4_halfIn ht hj hb) ?_
  refine r_astore dX5_figureOfHalf_21 (Nat.le_of_ble_eq_true rfl) rfl rfl ?_
  refine r_iload_n dX5_figureOfHalf_23 (i := 3) rfl rfl ?_
  refine r_tabOut dX5_figureOfHalf_24 (tgt := 122) (out_wd hw (by decide) rfl) rfl ?_
  refine r_bipush dX5_figureOfHalf_122 (v := (-2)) rfl ?_
  exact e_i dX5_figureOfHalf_124 rfl (by first | rfl | exact bi_nar _) (by first | rfl | simp [bi, *]) rfl
theorem tX5_figureOfHalf {g : Gh} {t j b k : Nat} {hp : HPt} (ht : t < 10) (hj : j < 8) (hb : b < 2) (hx : fHalf hp t (nI b) (nI j) = true) (hk : k < 8) : Ci g mX5_figureOfHalf [vR (0, t, 0, 0), vI (nI b), vI (nI j), vI (nI k)] hp (figH hp t j b k) hp := by
  unfold Ci
  match k, hk with
  | 0, _ =>
    refine r_aload_n dX5_figureOfHalf_0 (i := 0) rfl rfl ?_
    refine r_iload_n dX5_figureOfHalf_1 (i := 1) rfl rfl ?_
    refine r_iload_n dX5_figureOfHalf_2 (i := 2) rfl rfl ?_
    refine sX5_figureOfHalf_3 (Nat.le_refl _) (Nat.le_refl _) rfl (lv0 (by first | assumption | decide | omega)) (Nat.le_of_ble_eq_true rfl) (tX5_hasHalf ht) ?_
    refine r_if_ne dX5_figureOfHalf_6 (tgt := 11) rfl (fun _ => ?_) (fun h6 => absurd h6 (bi_n0.mpr hx))
    refine r_aload_n dX5_figureOfHalf_11 (i := 0) rfl rfl ?_
    refine r_getR dX5_figureOfHalf_12 f_5_11 rfl rfl rfl (lv0 (by first | assumption | decide | omega)) ?_
    refine r_iload_n dX5_figureOfHalf_15 (i := 2) rfl rfl ?_
    refine n_aald dX5_figureOfHalf_16 rfl (lv1 (by first | assumption | decide | omega)) rfl (by first | assumption | omega | (unfold cI; omega)) rfl ?_
    refine r_iload_n dX5_figureOfHalf_17 (i := 1) rfl rfl ?_
    refine sX5_figureOfHalf_18 (Nat.le_refl _) (Nat.le_refl _) rfl (lv4 (by first | assumption | decide | omega) (by first | assumption | decide | omega)) (Nat.le_of_ble_eq_true rfl) (tX4_halfIn ht hj hb) ?_
    refine r_astore dX5_figureOfHalf_21 (Nat.le_of_ble_eq_true rfl) rfl rfl ?_
    refine r_iload_n dX5_figureOfHalf_23 (i := 3) rfl rfl ?_
    refine r_tabIn dX5_figureOfHalf_24 (off := 48) (tgt := 72) (by decide) (by decide) (by decide) rfl ?_
    refine r_aload dX5_figureOfHalf_72 rfl ?_
    refine r_getR dX5_figureOfHalf_74 f_5_87 rfl rfl rfl (lv5 (by first | assumption | decide | omega) (by first | assumption | decide | omega) (by first | assumption | decide | omega)) ?_
    refine r_iconst dX5_figureOfHalf_77 (v := 0) rfl ?_
    refine n_iald dX5_figureOfHalf_78 rfl (lv6 (by first | assumption | decide | omega) (by first | assumption | decide | omega) (by first | assumption | decide | omega)) (k := 0) rfl (by decide) ?_
    exact e_i dX5_figureOfHalf_79 rfl (by first | rfl | exact bi_nar _) (by first | rfl | simp [bi, *]) rfl
  | 1, _ =>
    refine r_aload_n dX5_figureOfHalf_0 (i := 0) rfl rfl ?_
    refine r_iload_n dX5_figureOfHalf_1 (i := 1) rfl rfl ?_
    refine r_iload_n dX5_figureOfHalf_2 (i := 2) rfl rfl ?_
    refine sX5_figureOfHalf_3 (Nat.le_refl _) (Nat.le_refl _) rfl (lv0 (by first | assumption | decide | omega)) (Nat.le_of_ble_eq_true rfl) (tX5_hasHalf ht) ?_
    refine r_if_ne dX5_figureOfHalf_6 (tgt := 11) rfl (fun _ => ?_) (fun h6 => absurd h6 (bi_n0.mpr hx))
    refine r_aload_n dX5_figureOfHalf_11 (i := 0) rfl rfl ?_
    refine r_getR dX5_figureOfHalf_12 f_5_11 rfl rfl rfl (lv0 (by first | assumption | decide | omega)) ?_
    refine r_iload_n dX5_figureOfHalf_15 (i := 2) rfl rfl ?_
    refine n_aald dX5_figureOfHalf_16 rfl (lv1 (by first | assumption | decide | omega)) rfl (by first | assumption | omega | (unfold cI; omega)) rfl ?_
    refine r_iload_n dX5_figureOfHalf_17 (i := 1) rfl rfl ?_
    refine sX5_figureOfHalf_18 (Nat.le_refl _) (Nat.le_refl _) rfl (lv4 (by first | assumption | decide | omega) (by first | assumption | decide | omega)) (Nat.le_of_ble_eq_true rfl) (tX4_halfIn ht hj hb) ?_
    refine r_astore dX5_figureOfHalf_21 (Nat.le_of_ble_eq_true rfl) rfl rfl ?_
    refine r_iload_n dX5_figureOfHalf_23 (i := 3) rfl rfl ?_
    refine r_tabIn dX5_figureOfHalf_24 (off := 56) (tgt := 80) (by decide) (by decide) (by decide) rfl ?_
    refine r_aload dX5_figureOfHalf_80 rfl ?_
    refine r_getI dX5_figureOfHalf_82 f_5_112 rfl rfl (lv5 (by first | assumption | decide | omega) (by first | assumption | decide | omega) (by first | assumption | decide | omega)) ?_
    exact e_i dX5_figureOfHalf_85 rfl (by first | rfl | exact bi_nar _) (by first | rfl | simp [bi, *]) rfl
  | 2, _ =>
    refine r_aload_n dX5_figureOfHalf_0 (i := 0) rfl rfl ?_
    refine r_iload_n dX5_figureOfHalf_1 (i := 1) rfl rfl ?_
    refine r_iload_n dX5_figureOfHalf_2 (i := 2) rfl rfl ?_
    refine sX5_figureOfHalf_3 (Nat.le_refl _) (Nat.le_refl _) rfl (lv0 (by first | assumption | decide | omega)) (Nat.le_of_ble_eq_true rfl) (tX5_hasHalf ht) ?_
    refine r_if_ne dX5_figureOfHalf_6 (tgt := 11) rfl (fun _ => ?_) (fun h6 => absurd h6 (bi_n0.mpr hx))
    refine r_aload_n dX5_figureOfHalf_11 (i := 0) rfl rfl ?_
    refine r_getR dX5_figureOfHalf_12 f_5_11 rfl rfl rfl (lv0 (by first | assumption | decide | omega)) ?_
    refine r_iload_n dX5_figureOfHalf_15 (i := 2) rfl rfl ?_
    refine n_aald dX5_figureOfHalf_16 rfl (lv1 (by first | assumption | decide | omega)) rfl (by first | assumption | omega | (unfold cI; omega)) rfl ?_
    refine r_iload_n dX5_figureOfHalf_17 (i := 1) rfl rfl ?_
    refine sX5_figureOfHalf_18 (Nat.le_refl _) (Nat.le_refl _) rfl (lv4 (by first | assumption | decide | omega) (by first | assumption | decide | omega)) (Nat.le_of_ble_eq_true rfl) (tX4_halfIn ht hj hb) ?_
    refine r_astore dX5_figureOfHalf_21 (Nat.le_of_ble_eq_true rfl) rfl rfl ?_
    refine r_iload_n dX5_figureOfHalf_23 (i := 3) rfl rfl ?_
    refine r_tabIn dX5_figureOfHalf_24 (off := 62) (tgt := 86) (by decide) (by decide) (by decide) rfl ?_
    refine r_aload dX5_figureOfHalf_86 rfl ?_
    refine r_getI dX5_figureOfHalf_88 f_5_102 rfl rfl (lv5 (by first | assumption | decide | omega) (by first | assumption | decide | omega) (by first | assumption | decide | omega)) ?_
    exact e_i dX5_figureOfHalf_91 rfl (by first | rfl | exact bi_nar _) (by first | rfl | simp [bi, *]) rfl
  | 3, _ =>
    refine r_aload_n dX5_figureOfHalf_0 (i := 0) rfl rfl ?_
    refine r_iload_n dX5_figureOfHalf_1 (i := 1) rfl rfl ?_
    refine r_iload_n dX5_figureOfHalf_2 (i := 2) rfl rfl ?_
    refine sX5_figureOfHalf_3 (Nat.le_refl _) (Nat.le_refl _) rfl (lv0 (by first | assumption | decide | omega)) (Nat.le_of_ble_eq_true rfl) (tX5_hasHalf ht) ?_
    refine r_if_ne dX5_figureOfHalf_6 (tgt := 11) rfl (fun _ => ?_) (fun h6 => absurd h6 (bi_n0.mpr hx))
    refine r_aload_n dX5_figureOfHalf_11 (i := 0) rfl rfl ?_
    refine r_getR dX5_figureOfHalf_12 f_5_11 rfl rfl rfl (lv0 (by first | assumption | decide | omega)) ?_
    refine r_iload_n dX5_figureOfHalf_15 (i := 2) rfl rfl ?_
    refine n_aald dX5_figureOfHalf_16 rfl (lv1 (by first | assumption | decide | omega)) rfl (by first | assumption | omega | (unfold cI; omega)) rfl ?_
    refine r_iload_n dX5_figureOfHalf_17 (i := 1) rfl rfl ?_
    refine sX5_figureOfHalf_18 (Nat.le_refl _) (Nat.le_refl _) rfl (lv4 (by first | assumption | decide | omega) (by first | assumption | decide | omega)) (Nat.le_of_ble_eq_true rfl) (tX4_halfIn ht hj hb) ?_
    refine r_astore dX5_figureOfHalf_21 (Nat.le_of_ble_eq_true rfl) rfl rfl ?_
    refine r_iload_n dX5_figureOfHalf_23 (i := 3) rfl rfl ?_
    refine r_tabIn dX5_figureOfHalf_24 (off := 68) (tgt := 92) (by decide) (by decide) (by decide) rfl ?_
    refine r_aload dX5_figureOfHalf_92 rfl ?_
    refine r_getI dX5_figureOfHalf_94 f_5_105 rfl rfl (lv5 (by first | assumption | decide | omega) (by first | assumption | decide | omega) (by first | assumption | decide | omega)) ?_
    exact e_i dX5_figureOfHalf_97 rfl (by first | rfl | exact bi_nar _) (by first | rfl | simp [bi, *]) rfl
  | 4, _ =>
    refine r_aload_n dX5_figureOfHalf_0 (i := 0) rfl rfl ?_
    refine r_iload_n dX5_figureOfHalf_1 (i := 1) rfl rfl ?_
    refine r_iload_n dX5_figureOfHalf_2 (i := 2) rfl rfl ?_
    refine sX5_figureOfHalf_3 (Nat.le_refl _) (Nat.le_refl _) rfl (lv0 (by first | assumption | decide | omega)) (Nat.le_of_ble_eq_true rfl) (tX5_hasHalf ht) ?_
    refine r_if_ne dX5_figureOfHalf_6 (tgt := 11) rfl (fun _ => ?_) (fun h6 => absurd h6 (bi_n0.mpr hx))
    refine r_aload_n dX5_figureOfHalf_11 (i := 0) rfl rfl ?_
    refine r_getR dX5_figureOfHalf_12 f_5_11 rfl rfl rfl (lv0 (by first | assumption | decide | omega)) ?_
    refine r_iload_n dX5_figureOfHalf_15 (i := 2) rfl rfl ?_
    refine n_aald dX5_figureOfHalf_16 rfl (lv1 (by first | assumption | decide | omega)) rfl (by first | assumption | omega | (unfold cI; omega)) rfl ?_
    refine r_iload_n dX5_figureOfHalf_17 (i := 1) rfl rfl ?_
    refine sX5_figureOfHalf_18 (Nat.le_refl _) (Nat.le_refl _) rfl (lv4 (by first | assumption | decide | omega) (by first | assumption | decide | omega)) (Nat.le_of_ble_eq_true rfl) (tX4_halfIn ht hj hb) ?_
    refine r_astore dX5_figureOfHalf_21 (Nat.le_of_ble_eq_true rfl) rfl rfl ?_
    refine r_iload_n dX5_figureOfHalf_23 (i := 3) rfl rfl ?_
    refine r_tabIn dX5_figureOfHalf_24 (off := 74) (tgt := 98) (by decide) (by decide) (by decide) rfl ?_
    refine r_aload dX5_figureOfHalf_98 rfl ?_
    refine r_getI dX5_figureOfHalf_100 f_5_138 rfl rfl (lv5 (by first | assumption | decide | omega) (by first | assumption | decide | omega) (by first | assumption | decide | omega)) ?_
    exact e_i dX5_figureOfHalf_103 rfl (by first | rfl | exact bi_nar _) (by first | rfl | simp [bi, *]) rfl
  | 5, _ =>
    refine r_aload_n dX5_figureOfHalf_0 (i := 0) rfl rfl ?_
    refine r_iload_n dX5_figureOfHalf_1 (i := 1) rfl rfl ?_
    refine r_iload_n dX5_figureOfHalf_2 (i := 2) rfl rfl ?_
    refine sX5_figureOfHalf_3 (Nat.le_refl _) (Nat.le_refl _) rfl (lv0 (by first | assumption | decide | omega)) (Nat.le_of_ble_eq_true rfl) (tX5_hasHalf ht) ?_
    refine r_if_ne dX5_figureOfHalf_6 (tgt := 11) rfl (fun _ => ?_) (fun h6 => absurd h6 (bi_n0.mpr hx))
    refine r_aload_n dX5_figureOfHalf_11 (i := 0) rfl rfl ?_
    refine r_getR dX5_figureOfHalf_12 f_5_11 rfl rfl rfl (lv0 (by first | assumption | decide | omega)) ?_
    refine r_iload_n dX5_figureOfHalf_15 (i := 2) rfl rfl ?_
    refine n_aald dX5_figureOfHalf_16 rfl (lv1 (by first | assumption | decide | omega)) rfl (by first | assumption | omega | (unfold cI; omega)) rfl ?_
    refine r_iload_n dX5_figureOfHalf_17 (i := 1) rfl rfl ?_
    refine sX5_figureOfHalf_18 (Nat.le_refl _) (Nat.le_refl _) rfl (lv4 (by first | assumption | decide | omega) (by first | assumption | decide | omega)) (Nat.le_of_ble_eq_true rfl) (tX4_halfIn ht hj hb) ?_
    refine r_astore dX5_figureOfHalf_21 (Nat.le_of_ble_eq_true rfl) rfl rfl ?_
    refine r_iload_n dX5_figureOfHalf_23 (i := 3) rfl rfl ?_
    refine r_tabIn dX5_figureOfHalf_24 (off := 80) (tgt := 104) (by decide) (by decide) (by decide) rfl ?_
    refine r_aload dX5_figureOfHalf_104 rfl ?_
    refine r_getI dX5_figureOfHalf_106 f_5_141 rfl rfl (lv5 (by first | assumption | decide | omega) (by first | assumption | decide | omega) (by first | assumption | decide | omega)) ?_
    exact e_i dX5_figureOfHalf_109 rfl (by first | rfl | exact bi_nar _) (by first | rfl | simp [bi, *]) rfl
  | 6, _ =>
    refine r_aload_n dX5_figureOfHalf_0 (i := 0) rfl rfl ?_
    refine r_iload_n dX5_figureOfHalf_1 (i := 1) rfl rfl ?_
    refine r_iload_n dX5_figureOfHalf_2 (i := 2) rfl rfl ?_
    refine sX5_figureOfHalf_3 (Nat.le_refl _) (Nat.le_refl _) rfl (lv0 (by first | assumption | decide | omega)) (Nat.le_of_ble_eq_true rfl) (tX5_hasHalf ht) ?_
    refine r_if_ne dX5_figureOfHalf_6 (tgt := 11) rfl (fun _ => ?_) (fun h6 => absurd h6 (bi_n0.mpr hx))
    refine r_aload_n dX5_figureOfHalf_11 (i := 0) rfl rfl ?_
    refine r_getR dX5_figureOfHalf_12 f_5_11 rfl rfl rfl (lv0 (by first | assumption | decide | omega)) ?_
    refine r_iload_n dX5_figureOfHalf_15 (i := 2) rfl rfl ?_
    refine n_aald dX5_figureOfHalf_16 rfl (lv1 (by first | assumption | decide | omega)) rfl (by first | assumption | omega | (unfold cI; omega)) rfl ?_
    refine r_iload_n dX5_figureOfHalf_17 (i := 1) rfl rfl ?_
    refine sX5_figureOfHalf_18 (Nat.le_refl _) (Nat.le_refl _) rfl (lv4 (by first | assumption | decide | omega) (by first | assumption | decide | omega)) (Nat.le_of_ble_eq_true rfl) (tX4_halfIn ht hj hb) ?_
    refine r_astore dX5_figureOfHalf_21 (Nat.le_of_ble_eq_true rfl) rfl rfl ?_
    refine r_iload_n dX5_figureOfHalf_23 (i := 3) rfl rfl ?_
    refine r_tabIn dX5_figureOfHalf_24 (off := 86) (tgt := 110) (by decide) (by decide) (by decide) rfl ?_
    refine r_aload dX5_figureOfHalf_110 rfl ?_
    refine sX5_figureOfHalf_112 (Nat.le_refl _) (Nat.le_refl _) rfl (lv5 (by first | assumption | decide | omega) (by first | assumption | decide | omega) (by first | assumption | decide | omega)) (Nat.le_of_ble_eq_true rfl) (tX0_toldPart ht hj hb) ?_
    exact e_i dX5_figureOfHalf_115 rfl (by first | rfl | exact bi_nar _) (by first | rfl | simp [bi, *]) rfl
  | 7, _ =>
    refine r_aload_n dX5_figureOfHalf_0 (i := 0) rfl rfl ?_
    refine r_iload_n dX5_figureOfHalf_1 (i := 1) rfl rfl ?_
    refine r_iload_n dX5_figureOfHalf_2 (i := 2) rfl rfl ?_
    refine sX5_figureOfHalf_3 (Nat.le_refl _) (Nat.le_refl _) rfl (lv0 (by first | assumption | decide | omega)) (Nat.le_of_ble_eq_true rfl) (tX5_hasHalf ht) ?_
    refine r_if_ne dX5_figureOfHalf_6 (tgt := 11) rfl (fun _ => ?_) (fun h6 => absurd h6 (bi_n0.mpr hx))
    refine r_aload_n dX5_figureOfHalf_11 (i := 0) rfl rfl ?_
    refine r_getR dX5_figureOfHalf_12 f_5_11 rfl rfl rfl (lv0 (by first | assumption | decide | omega)) ?_
    refine r_iload_n dX5_figureOfHalf_15 (i := 2) rfl rfl ?_
    refine n_aald dX5_figureOfHalf_16 rfl (lv1 (by first | assumption | decide | omega)) rfl (by first | assumption | omega | (unfold cI; omega)) rfl ?_
    refine r_iload_n dX5_figureOfHalf_17 (i := 1) rfl rfl ?_
    refine sX5_figureOfHalf_18 (Nat.le_refl _) (Nat.le_refl _) rfl (lv4 (by first | assumption | decide | omega) (by first | assumption | decide | omega)) (Nat.le_of_ble_eq_true rfl) (tX4_halfIn ht hj hb) ?_
    refine r_astore dX5_figureOfHalf_21 (Nat.le_of_ble_eq_true rfl) rfl rfl ?_
    refine r_iload_n dX5_figureOfHalf_23 (i := 3) rfl rfl ?_
    refine r_tabIn dX5_figureOfHalf_24 (off := 92) (tgt := 116) (by decide) (by decide) (by decide) rfl ?_
    refine r_aload dX5_figureOfHalf_116 rfl ?_
    refine sX5_figureOfHalf_118 (Nat.le_refl _) (Nat.le_refl _) rfl (lv5 (by first | assumption | decide | omega) (by first | assumption | decide | omega) (by first | assumption | decide | omega)) (Nat.le_of_ble_eq_true rfl) (tX0_toldTag ht hj hb) ?_
    exact e_i dX5_figureOfHalf_121 rfl (by first | rfl | exact bi_nar _) (by first | rfl | simp [bi, *]) rfl
def figS (hp : HPt) (t j : Nat) (k : Nat) : Int32 := match k with
  | 0 => hp (4, t, j, 0) 2
  | 1 => hp (4, t, j, 0) 3
  | 2 => if hp (4, t, j, 0) 5 ≤ 0 then -6 else hp (4, t, j, 0) 4
  | 3 => hp (4, t, j, 0) 5
  | 4 => hp (4, t, j, 0) 6
  | 5 => if hp (4, t, j, 0) 9 = 0 then 0 else 1
  | 6 => hp (4, t, j, 0) 8
  | _ => hp (4, t, j, 0) 7
theorem tX5_figureOfSecret_e {g : Gh} {t : Nat} {x w : Int32} {hp : HPt} (ht : t < 10) (hx : fHas hp t x = false) : Ci g mX5_figureOfSecret [vR (0, t, 0, 0), vI x, vI w] hp (-1) hp := by
  unfold Ci
  refine r_aload_n dX5_figureOfSecret_0 (i := 0) rfl rfl ?_
  refine r_iload_n dX5_figureOfSecret_1 (i := 1) rfl rfl ?_
  refine sX5_figureOfSecret_2 (Nat.le_refl _) (Nat.le_refl _) rfl (lv0 (by first | assumption | decide | omega)) (Nat.le_of_ble_eq_true rfl) (tX5_hasSecret ht) ?_
  refine r_if_ne dX5_figureOfSecret_5 (tgt := 10) rfl (fun h5 => absurd (bi_0.mpr hx) h5) (fun _ => ?_)
  refine r_iconst dX5_figureOfSecret_8 (v := (-1)) rfl ?_
  exact e_i dX5_figureOfSecret_9 rfl (by first | rfl | exact bi_nar _) (by first | rfl | simp [bi, *]) rfl
theorem tX5_figureOfSecret_e2 {g : Gh} {t j : Nat} {w : Int32} {hp : HPt} (ht : t < 10) (hj : j < 8) (hx : fHas hp t (nI j) = true) (hw : (!decide (w < 0) && decide (w < nI 8)) = false) : Ci g mX5_figureOfSecret [vR (0, t, 0, 0), vI (nI j), vI w] hp (-2) hp := by
  unfold Ci
  refine r_aload_n dX5_figureOfSecret_0 (i := 0) rfl rfl ?_
  refine r_iload_n dX5_figureOfSecret_1 (i := 1) rfl rfl ?_
  refine sX5_figureOfSecret_2 (Nat.le_refl _) (Nat.le_refl _) rfl (lv0 (by first | assumption | decide | omega)) (Nat.le_of_ble_eq_true rfl) (tX5_hasSecret ht) ?_
  refine r_if_ne dX5_figureOfSecret_5 (tgt := 10) rfl (fun _ => ?_) (fun h5 => absurd h5 (bi_n0.mpr hx))
  refine r_aload_n dX5_figureOfSecret_10 (i := 0) rfl rfl ?_
  refine r_getR dX5_figureOfSecret_11 f_5_11 rfl rfl rfl (lv0 (by first | assumption | decide | omega)) ?_
  refine r_iload_n dX5_figureOfSecret_14 (i := 1) rfl rfl ?_
  refine n_aald dX5_figureOfSecret_15 rfl (lv1 (by first | assumption | decide | omega)) rfl (by first | assumption | omega | (unfold cI; omega)) rfl ?_
  refine r_astore_n dX5_figureOfSecret_16 (i := 3) rfl (Nat.le_of_ble_eq_true rfl) rfl rfl ?_
  refine r_iload_n dX5_figureOfSecret_17 (i := 2) rfl rfl ?_
  refine r_tabOut dX5_figureOfSecret_18 (tgt := 124) (out_wd hw (by decide) rfl) rfl ?_
  refine r_bipush dX5_figureOfSecret_124 (v := (-2)) rfl ?_
  exact e_i dX5_figureOfSecret_126 rfl (by first | rfl | exact bi_nar _) (by first | rfl | simp [bi, *]) rfl
theorem tX5_figureOfSecret {g : Gh} {t j k : Nat} {hp : HPt} (ht : t < 10) (hj : j < 8) (hx : fHas hp t (nI j) = true) (hk : k < 8) : Ci g mX5_figureOfSecret [vR (0, t, 0, 0), vI (nI j), vI (nI k)] hp (figS hp t j k) hp := by
  unfold Ci
  match k, hk with
  | 0, _ =>
    refine r_aload_n dX5_figureOfSecret_0 (i := 0) rfl rfl ?_
    refine r_iload_n dX5_figureOfSecret_1 (i := 1) rfl rfl ?_
    refine sX5_figureOfSecret_2 (Nat.le_refl _) (Nat.le_refl _) rfl (lv0 (by first | assumption | decide | omega)) (Nat.le_of_ble_eq_true rfl) (tX5_hasSecret ht) ?_
    refine r_if_ne dX5_figureOfSecret_5 (tgt := 10) rfl (fun _ => ?_) (fun h5 => absurd h5 (bi_n0.mpr hx))
    refine r_aload_n dX5_figureOfSecret_10 (i := 0) rfl rfl ?_
    refine r_getR dX5_figureOfSecret_11 f_5_11 rfl rfl rfl (lv0 (by first | assumption | decide | omega)) ?_
    refine r_iload_n dX5_figureOfSecret_14 (i := 1) rfl rfl ?_
    refine n_aald dX5_figureOfSecret_15 rfl (lv1 (by first | assumption | decide | omega)) rfl (by first | assumption | omega | (unfold cI; omega)) rfl ?_
    refine r_astore_n dX5_figureOfSecret_16 (i := 3) rfl (Nat.le_of_ble_eq_true rfl) rfl rfl ?_
    refine r_iload_n dX5_figureOfSecret_17 (i := 2) rfl rfl ?_
    refine r_tabIn dX5_figureOfSecret_18 (off := 46) (tgt := 64) (by decide) (by decide) (by decide) rfl ?_
    refine r_aload_n dX5_figureOfSecret_64 (i := 3) rfl rfl ?_
    refine r_getI dX5_figureOfSecret_65 f_5_59 rfl rfl (lv4 (by first | assumption | decide | omega) (by first | assumption | decide | omega)) ?_
    exact e_i dX5_figureOfSecret_68 rfl (by first | rfl | exact bi_nar _) (by first | rfl | simp [figS, *]) rfl
  | 1, _ =>
    refine r_aload_n dX5_figureOfSecret_0 (i := 0) rfl rfl ?_
    refine r_iload_n dX5_figureOfSecret_1 (i := 1) rfl rfl ?_
    refine sX5_figureOfSecret_2 (Nat.le_refl _) (Nat.le_refl _) rfl (lv0 (by first | assumption | decide | omega)) (Nat.le_of_ble_eq_true rfl) (tX5_hasSecret ht) ?_
    refine r_if_ne dX5_figureOfSecret_5 (tgt := 10) rfl (fun _ => ?_) (fun h5 => absurd h5 (bi_n0.mpr hx))
    refine r_aload_n dX5_figureOfSecret_10 (i := 0) rfl rfl ?_
    refine r_getR dX5_figureOfSecret_11 f_5_11 rfl rfl rfl (lv0 (by first | assumption | decide | omega)) ?_
    refine r_iload_n dX5_figureOfSecret_14 (i := 1) rfl rfl ?_
    refine n_aald dX5_figureOfSecret_15 rfl (lv1 (by first | assumption | decide | omega)) rfl (by first | assumption | omega | (unfold cI; omega)) rfl ?_
    refine r_astore_n dX5_figureOfSecret_16 (i := 3) rfl (Nat.le_of_ble_eq_true rfl) rfl rfl ?_
    refine r_iload_n dX5_figureOfSecret_17 (i := 2) rfl rfl ?_
    refine r_tabIn dX5_figureOfSecret_18 (off := 51) (tgt := 69) (by decide) (by decide) (by decide) rfl ?_
    refine r_aload_n dX5_figureOfSecret_69 (i := 3) rfl rfl ?_
    refine r_getI dX5_figureOfSecret_70 f_5_124 rfl rfl (lv4 (by first | assumption | decide | omega) (by first | assumption | decide | omega)) ?_
    exact e_i dX5_figureOfSecret_73 rfl (by first | rfl | exact bi_nar _) (by first | rfl | simp [figS, *]) rfl
  | 2, _ =>
    refine r_aload_n dX5_figureOfSecret_0 (i := 0) rfl rfl ?_
    refine r_iload_n dX5_figureOfSecret_1 (i := 1) rfl rfl ?_
    refine sX5_figureOfSecret_2 (Nat.le_refl _) (Nat.le_refl _) rfl (lv0 (by first | assumption | decide | omega)) (Nat.le_of_ble_eq_true rfl) (tX5_hasSecret ht) ?_
    refine r_if_ne dX5_figureOfSecret_5 (tgt := 10) rfl (fun _ => ?_) (fun h5 => absurd h5 (bi_n0.mpr hx))
    refine r_aload_n dX5_figureOfSecret_10 (i := 0) rfl rfl ?_
    refine r_getR dX5_figureOfSecret_11 f_5_11 rfl rfl rfl (lv0 (by first | assumption | decide | omega)) ?_
    refine r_iload_n dX5_figureOfSecret_14 (i := 1) rfl rfl ?_
    refine n_aald dX5_figureOfSecret_15 rfl (lv1 (by first | assumption | decide | omega)) rfl (by first | assumption | omega | (unfold cI; omega)) rfl ?_
    refine r_astore_n dX5_figureOfSecret_16 (i := 3) rfl (Nat.le_of_ble_eq_true rfl) rfl rfl ?_
    refine r_iload_n dX5_figureOfSecret_17 (i := 2) rfl rfl ?_
    refine r_tabIn dX5_figureOfSecret_18 (off := 56) (tgt := 74) (by decide) (by decide) (by decide) rfl ?_
    refine r_aload_n dX5_figureOfSecret_74 (i := 3) rfl rfl ?_
    refine r_getI dX5_figureOfSecret_75 f_5_164 rfl rfl (lv4 (by first | assumption | decide | omega) (by first | assumption | decide | omega)) ?_
    refine r_if_le dX5_figureOfSecret_78 (tgt := 88) rfl (fun h78 => ?_) (fun h78 => ?_)
    · refine r_bipush dX5_figureOfSecret_88 (v := (-6)) rfl ?_
      exact e_i dX5_figureOfSecret_90 rfl (by first | rfl | exact bi_nar _) (by first | rfl | simp [figS, *]) rfl
    · refine r_aload_n dX5_figureOfSecret_81 (i := 3) rfl rfl ?_
      refine r_getI dX5_figureOfSecret_82 f_5_176 rfl rfl (lv4 (by first | assumption | decide | omega) (by first | assumption | decide | omega)) ?_
      refine r_goto dX5_figureOfSecret_85 (tgt := 90) rfl ?_
      exact e_i dX5_figureOfSecret_90 rfl (by first | rfl | exact bi_nar _) (by first | rfl | simp [figS, *]) rfl
  | 3, _ =>
    refine r_aload_n dX5_figureOfSecret_0 (i := 0) rfl rfl ?_
    refine r_iload_n dX5_figureOfSecret_1 (i := 1) rfl rfl ?_
    refine sX5_figureOfSecret_2 (Nat.le_refl _) (Nat.le_refl _) rfl (lv0 (by first | assumption | decide | omega)) (Nat.le_of_ble_eq_true rfl) (tX5_hasSecret ht) ?_
    refine r_if_ne dX5_figureOfSecret_5 (tgt := 10) rfl (fun _ => ?_) (fun h5 => absurd h5 (bi_n0.mpr hx))
    refine r_aload_n dX5_figureOfSecret_10 (i := 0) rfl rfl ?_
    refine r_getR dX5_figureOfSecret_11 f_5_11 rfl rfl rfl (lv0 (by first | assumption | decide | omega)) ?_
    refine r_iload_n dX5_figureOfSecret_14 (i := 1) rfl rfl ?_
    refine n_aald dX5_figureOfSecret_15 rfl (lv1 (by first | assumption | decide | omega)) rfl (by first | assumption | omega | (unfold cI; omega)) rfl ?_
    refine r_astore_n dX5_figureOfSecret_16 (i := 3) rfl (Nat.le_of_ble_eq_true rfl) rfl rfl ?_
    refine r_iload_n dX5_figureOfSecret_17 (i := 2) rfl rfl ?_
    refine r_tabIn dX5_figureOfSecret_18 (off := 73) (tgt := 91) (by decide) (by decide) (by decide) rfl ?_
    refine r_aload_n dX5_figureOfSecret_91 (i := 3) rfl rfl ?_
    refine r_getI dX5_figureOfSecret_92 f_5_164 rfl rfl (lv4 (by first | assumption | decide | omega) (by first | assumption | decide | omega)) ?_
    exact e_i dX5_figureOfSecret_95 rfl (by first | rfl | exact bi_nar _) (by first | rfl | simp [figS, *]) rfl
  | 4, _ =>
    refine r_aload_n dX5_figureOfSecret_0 (i := 0) rfl rfl ?_
    refine r_iload_n dX5_figureOfSecret_1 (i := 1) rfl rfl ?_
    refine sX5_figureOfSecret_2 (Nat.le_refl _) (Nat.le_refl _) rfl (lv0 (by first | assumption | decide | omega)) (Nat.le_of_ble_eq_true rfl) (tX5_hasSecret ht) ?_
    refine r_if_ne dX5_figureOfSecret_5 (tgt := 10) rfl (fun _ => ?_) (fun h5 => absurd h5 (bi_n0.mpr hx))
    refine r_aload_n dX5_figureOfSecret_10 (i := 0) rfl rfl ?_
    refine r_getR dX5_figureOfSecret_11 f_5_11 rfl rfl rfl (lv0 (by first | assumption | decide | omega)) ?_
    refine r_iload_n dX5_figureOfSecret_14 (i := 1) rfl rfl ?_
    refine n_aald dX5_figureOfSecret_15 rfl (lv1 (by first | assumption | decide | omega)) rfl (by first | assumption | omega | (unfold cI; omega)) rfl ?_
    refine r_astore_n dX5_figureOfSecret_16 (i := 3) rfl (Nat.le_of_ble_eq_true rfl) rfl rfl ?_
    refine r_iload_n dX5_figureOfSecret_17 (i := 2) rfl rfl ?_
    refine r_tabIn dX5_figureOfSecret_18 (off := 78) (tgt := 96) (by decide) (by decide) (by decide) rfl ?_
    refine r_aload_n dX5_figureOfSecret_96 (i := 3) rfl rfl ?_
    refine r_getI dX5_figureOfSecret_97 f_5_150 rfl rfl (lv4 (by first | assumption | decide | omega) (by first | assumption | decide | omega)) ?_
    exact e_i dX5_figureOfSecret_100 rfl (by first | rfl | exact bi_nar _) (by first | rfl | simp [figS, *]) rfl
  | 5, _ =>
    refine r_aload_n dX5_figureOfSecret_0 (i := 0) rfl rfl ?_
    refine r_iload_n dX5_figureOfSecret_1 (i := 1) rfl rfl ?_
    refine sX5_figureOfSecret_2 (Nat.le_refl _) (Nat.le_refl _) rfl (lv0 (by first | assumption | decide | omega)) (Nat.le_of_ble_eq_true rfl) (tX5_hasSecret ht) ?_
    refine r_if_ne dX5_figureOfSecret_5 (tgt := 10) rfl (fun _ => ?_) (fun h5 => absurd h5 (bi_n0.mpr hx))
    refine r_aload_n dX5_figureOfSecret_10 (i := 0) rfl rfl ?_
    refine r_getR dX5_figureOfSecret_11 f_5_11 rfl rfl rfl (lv0 (by first | assumption | decide | omega)) ?_
    refine r_iload_n dX5_figureOfSecret_14 (i := 1) rfl rfl ?_
    refine n_aald dX5_figureOfSecret_15 rfl (lv1 (by first | assumption | decide | omega)) rfl (by first | assumption | omega | (unfold cI; omega)) rfl ?_
    refine r_astore_n dX5_figureOfSecret_16 (i := 3) rfl (Nat.le_of_ble_eq_true rfl) rfl rfl ?_
    refine r_iload_n dX5_figureOfSecret_17 (i := 2) rfl rfl ?_
    refine r_tabIn dX5_figureOfSecret_18 (off := 83) (tgt := 101) (by decide) (by decide) (by decide) rfl ?_
    refine r_aload_n dX5_figureOfSecret_101 (i := 3) rfl rfl ?_
    refine r_getI dX5_figureOfSecret_102 f_5_179 rfl rfl (lv4 (by first | assumption | decide | omega) (by first | assumption | decide | omega)) ?_
    refine r_if_eq dX5_figureOfSecret_105 (tgt := 112) rfl (fun h105 => ?_) (fun h105 => ?_)
    · refine r_iconst dX5_figureOfSecret_112 (v := 0) rfl ?_
      exact e_i dX5_figureOfSecret_113 rfl (by first | rfl | exact bi_nar _) (by first | rfl | simp [figS, *]) rfl
    · refine r_iconst dX5_figureOfSecret_108 (v := 1) rfl ?_
      refine r_goto dX5_figureOfSecret_109 (tgt := 113) rfl ?_
      exact e_i dX5_figureOfSecret_113 rfl (by first | rfl | exact bi_nar _) (by first | rfl | simp [figS, *]) rfl
  | 6, _ =>
    refine r_aload_n dX5_figureOfSecret_0 (i := 0) rfl rfl ?_
    refine r_iload_n dX5_figureOfSecret_1 (i := 1) rfl rfl ?_
    refine sX5_figureOfSecret_2 (Nat.le_refl _) (Nat.le_refl _) rfl (lv0 (by first | assumption | decide | omega)) (Nat.le_of_ble_eq_true rfl) (tX5_hasSecret ht) ?_
    refine r_if_ne dX5_figureOfSecret_5 (tgt := 10) rfl (fun _ => ?_) (fun h5 => absurd h5 (bi_n0.mpr hx))
    refine r_aload_n dX5_figureOfSecret_10 (i := 0) rfl rfl ?_
    refine r_getR dX5_figureOfSecret_11 f_5_11 rfl rfl rfl (lv0 (by first | assumption | decide | omega)) ?_
    refine r_iload_n dX5_figureOfSecret_14 (i := 1) rfl rfl ?_
    refine n_aald dX5_figureOfSecret_15 rfl (lv1 (by first | assumption | decide | omega)) rfl (by first | assumption | omega | (unfold cI; omega)) rfl ?_
    refine r_astore_n dX5_figureOfSecret_16 (i := 3) rfl (Nat.le_of_ble_eq_true rfl) rfl rfl ?_
    refine r_iload_n dX5_figureOfSecret_17 (i := 2) rfl rfl ?_
    refine r_tabIn dX5_figureOfSecret_18 (off := 96) (tgt := 114) (by decide) (by decide) (by decide) rfl ?_
    refine r_aload_n dX5_figureOfSecret_114 (i := 3) rfl rfl ?_
    refine r_getI dX5_figureOfSecret_115 f_5_183 rfl rfl (lv4 (by first | assumption | decide | omega) (by first | assumption | decide | omega)) ?_
    exact e_i dX5_figureOfSecret_118 rfl (by first | rfl | exact bi_nar _) (by first | rfl | simp [figS, *]) rfl
  | 7, _ =>
    refine r_aload_n dX5_figureOfSecret_0 (i := 0) rfl rfl ?_
    refine r_iload_n dX5_figureOfSecret_1 (i := 1) rfl rfl ?_
    refine sX5_figureOfSecret_2 (Nat.le_refl _) (Nat.le_refl _) rfl (lv0 (by first | assumption | decide | omega)) (Nat.le_of_ble_eq_true rfl) (tX5_hasSecret ht) ?_
    refine r_if_ne dX5_figureOfSecret_5 (tgt := 10) rfl (fun _ => ?_) (fun h5 => absurd h5 (bi_n0.mpr hx))
    refine r_aload_n dX5_figureOfSecret_10 (i := 0) rfl rfl ?_
    refine r_getR dX5_figureOfSecret_11 f_5_11 rfl rfl rfl (lv0 (by first | assumption | decide | omega)) ?_
    refine r_iload_n dX5_figureOfSecret_14 (i := 1) rfl rfl ?_
    refine n_aald dX5_figureOfSecret_15 rfl (lv1 (by first | assumption | decide | omega)) rfl (by first | assumption | omega | (unfold cI; omega)) rfl ?_
    refine r_astore_n dX5_figureOfSecret_16 (i := 3) rfl (Nat.le_of_ble_eq_true rfl) rfl rfl ?_
    refine r_iload_n dX5_figureOfSecret_17 (i := 2) rfl rfl ?_
    refine r_tabIn dX5_figureOfSecret_18 (off := 101) (tgt := 119) (by decide) (by decide) (by decide) rfl ?_
    refine r_aload_n dX5_figureOfSecret_119 (i := 3) rfl rfl ?_
    refine r_getI dX5_figureOfSecret_120 f_5_186 rfl rfl (lv4 (by first | assumption | decide | omega) (by first | assumption | decide | omega)) ?_
    exact e_i dX5_figureOfSecret_123 rfl (by first | rfl | exact bi_nar _) (by first | rfl | simp [figS, *]) rfl
def figO (hp : HPt) (t j r : Nat) (k : Nat) : Int32 := match k with
  | 0 => hp (4, t, j, 0) 2 - nI (r + 1)
  | 1 => hp (6, t, j, 0) (r + 1)
  | 2 => hp (6, t, j, 1) (r + 1)
  | _ => fTk (hp (7, t, j, 0) (r + 1)) (hp (7, t, j, 1) (r + 1))
theorem tX5_figureOfOldVersion_e {g : Gh} {t : Nat} {x r w : Int32} {hp : HPt} (ht : t < 10) (hx : fHas hp t x = false) : Ci g mX5_figureOfOldVersion [vR (0, t, 0, 0), vI x, vI r, vI w] hp (-1) hp := by
  unfold Ci
  refine r_aload_n dX5_figureOfOldVersion_0 (i := 0) rfl rfl ?_
  refine r_iload_n dX5_figureOfOldVersion_1 (i := 1) rfl rfl ?_
  refine sX5_figureOfOldVersion_2 (Nat.le_refl _) (Nat.le_refl _) rfl (lv0 (by first | assumption | decide | omega)) (Nat.le_of_ble_eq_true rfl) (tX5_hasSecret ht) ?_
  refine r_if_ne dX5_figureOfOldVersion_5 (tgt := 10) rfl (fun h5 => absurd (bi_0.mpr hx) h5) (fun _ => ?_)
  refine r_iconst dX5_figureOfOldVersion_8 (v := (-1)) rfl ?_
  exact e_i dX5_figureOfOldVersion_9 rfl (by first | rfl | exact bi_nar _) (by first | rfl | simp [bi, *]) rfl
theorem tX5_figureOfOldVersion_e2 {g : Gh} {t j : Nat} {r w : Int32} {hp : HPt} (ht : t < 10) (hj : j < 8) (hx : fHas hp t (nI j) = true) (hr : (!decide (r < 0) && decide (r < hp (4, t, j, 0) 3)) = false) : Ci g mX5_figureOfOldVersion [vR (0, t, 0, 0), vI (nI j), vI r, vI w] hp (-1) hp := by
  unfold Ci
  refine r_aload_n dX5_figureOfOldVersion_0 (i := 0) rfl rfl ?_
  refine r_iload_n dX5_figureOfOldVersion_1 (i := 1) rfl rfl ?_
  refine sX5_figureOfOldVersion_2 (Nat.le_refl _) (Nat.le_refl _) rfl (lv0 (by first | assumption | decide | omega)) (Nat.le_of_ble_eq_true rfl) (tX5_hasSecret ht) ?_
  refine r_if_ne dX5_figureOfOldVersion_5 (tgt := 10) rfl (fun _ => ?_) (fun h5 => absurd h5 (bi_n0.mpr hx))
  refine r_aload_n dX5_figureOfOldVersion_10 (i := 0) rfl rfl ?_
  refine r_getR dX5_figureOfOldVersion_11 f_5_11 rfl rfl rfl (lv0 (by first | assumption | decide | omega)) ?_
  refine r_iload_n dX5_figureOfOldVersion_14 (i := 1) rfl rfl ?_
  refine n_aald dX5_figureOfOldVersion_15 rfl (lv1 (by first | assumption | decide | omega)) rfl (by first | assumption | omega | (unfold cI; omega)) rfl ?_
  refine r_astore dX5_figureOfOldVersion_16 (Nat.le_of_ble_eq_true rfl) rfl rfl ?_
  refine r_iload_n dX5_figureOfOldVersion_18 (i := 2) rfl rfl ?_
  refine r_if_lt dX5_figureOfOldVersion_19 (tgt := 31) rfl (fun h19 => ?_) (fun h19 => ?_)
  · refine r_iconst dX5_figureOfOldVersion_31 (v := (-1)) rfl ?_
    exact e_i dX5_figureOfOldVersion_32 rfl (by first | rfl | exact bi_nar _) (by first | rfl | simp [bi, *]) rfl
  · refine r_iload_n dX5_figureOfOldVersion_22 (i := 2) rfl rfl ?_
    refine r_aload dX5_figureOfOldVersion_23 rfl ?_
    refine r_getI dX5_figureOfOldVersion_25 f_5_124 rfl rfl (lv4 (by first | assumption | decide | omega) (by first | assumption | decide | omega)) ?_
    refine r_icmp_lt dX5_figureOfOldVersion_28 (tgt := 33) rfl (fun h28 => ?_) (fun h28 => ?_)
    · simp_all
    · refine r_iconst dX5_figureOfOldVersion_31 (v := (-1)) rfl ?_
      exact e_i dX5_figureOfOldVersion_32 rfl (by first | rfl | exact bi_nar _) (by first | rfl | simp [bi, *]) rfl
theorem tX5_figureOfOldVersion_e3 {g : Gh} {t j r m : Nat} {w : Int32} {hp : HPt} (ht : t < 10) (hj : j < 8) (hx : fHas hp t (nI j) = true) (hm : m < 5) (hM : hp (4, t, j, 0) 3 = nI m) (hr : r < m) (hw : (!decide (w < 0) && decide (w < nI 4)) = false) : Ci g mX5_figureOfOldVersion [vR (0, t, 0, 0), vI (nI j), vI (nI r), vI w] hp (-2) hp := by
  unfold Ci
  refine r_aload_n dX5_figureOfOldVersion_0 (i := 0) rfl rfl ?_
  refine r_iload_n dX5_figureOfOldVersion_1 (i := 1) rfl rfl ?_
  refine sX5_figureOfOldVersion_2 (Nat.le_refl _) (Nat.le_refl _) rfl (lv0 (by first | assumption | decide | omega)) (Nat.le_of_ble_eq_true rfl) (tX5_hasSecret ht) ?_
  refine r_if_ne dX5_figureOfOldVersion_5 (tgt := 10) rfl (fun _ => ?_) (fun h5 => absurd h5 (bi_n0.mpr hx))
  refine r_aload_n dX5_figureOfOldVersion_10 (i := 0) rfl rfl ?_
  refine r_getR dX5_figureOfOldVersion_11 f_5_11 rfl rfl rfl (lv0 (by first | assumption | decide | omega)) ?_
  refine r_iload_n dX5_figureOfOldVersion_14 (i := 1) rfl rfl ?_
  refine n_aald dX5_figureOfOldVersion_15 rfl (lv1 (by first | assumption | decide | omega)) rfl (by first | assumption | omega | (unfold cI; omega)) rfl ?_
  refine r_astore dX5_figureOfOldVersion_16 (Nat.le_of_ble_eq_true rfl) rfl rfl ?_
  refine r_iload_n dX5_figureOfOldVersion_18 (i := 2) rfl rfl ?_
  refine r_if_lt dX5_figureOfOldVersion_19 (tgt := 31) rfl (fun h19 => absurd h19 (nI_pos (by omega))) (fun _ => ?_)
  refine r_iload_n dX5_figureOfOldVersion_22 (i := 2) rfl rfl ?_
  refine r_aload dX5_figureOfOldVersion_23 rfl ?_
  refine r_getI dX5_figureOfOldVersion_25 f_5_124 rfl rfl (lv4 (by first | assumption | decide | omega) (by first | assumption | decide | omega)) ?_
  refine r_icmp_lt dX5_figureOfOldVersion_28 (tgt := 33) rfl (fun _ => ?_) (fun h28 => absurd ((by rw [hM]; exact nI_lt hr (by omega))) h28)
  refine r_iload_n dX5_figureOfOldVersion_33 (i := 2) rfl rfl ?_
  refine r_iconst dX5_figureOfOldVersion_34 (v := 1) rfl ?_
  refine r_iadd dX5_figureOfOldVersion_35 ?_
  refine r_istore dX5_figureOfOldVersion_36 (Nat.le_of_ble_eq_true rfl) rfl rfl ?_
  refine r_iload_n dX5_figureOfOldVersion_38 (i := 3) rfl rfl ?_
  refine r_tabOut dX5_figureOfOldVersion_39 (tgt := 109) (out_wd hw (by decide) rfl) rfl ?_
  refine r_bipush dX5_figureOfOldVersion_109 (v := (-2)) rfl ?_
  exact e_i dX5_figureOfOldVersion_111 rfl (by first | rfl | exact bi_nar _) (by first | rfl | simp [bi, *]) rfl
theorem tX5_figureOfOldVersion {g : Gh} {t j r m k : Nat} {hp : HPt} (ht : t < 10) (hj : j < 8) (hx : fHas hp t (nI j) = true) (hm : m < 5) (hM : hp (4, t, j, 0) 3 = nI m) (hr : r < m) (hk : k < 4) : Ci g mX5_figureOfOldVersion [vR (0, t, 0, 0), vI (nI j), vI (nI r), vI (nI k)] hp (figO hp t j r k) hp := by
  have hr5 : r + 1 < 5 := by omega
  unfold Ci
  match k, hk with
  | 0, _ =>
    refine r_aload_n dX5_figureOfOldVersion_0 (i := 0) rfl rfl ?_
    refine r_iload_n dX5_figureOfOldVersion_1 (i := 1) rfl rfl ?_
    refine sX5_figureOfOldVersion_2 (Nat.le_refl _) (Nat.le_refl _) rfl (lv0 (by first | assumption | decide | omega)) (Nat.le_of_ble_eq_true rfl) (tX5_hasSecret ht) ?_
    refine r_if_ne dX5_figureOfOldVersion_5 (tgt := 10) rfl (fun _ => ?_) (fun h5 => absurd h5 (bi_n0.mpr hx))
    refine r_aload_n dX5_figureOfOldVersion_10 (i := 0) rfl rfl ?_
    refine r_getR dX5_figureOfOldVersion_11 f_5_11 rfl rfl rfl (lv0 (by first | assumption | decide | omega)) ?_
    refine r_iload_n dX5_figureOfOldVersion_14 (i := 1) rfl rfl ?_
    refine n_aald dX5_figureOfOldVersion_15 rfl (lv1 (by first | assumption | decide | omega)) rfl (by first | assumption | omega | (unfold cI; omega)) rfl ?_
    refine r_astore dX5_figureOfOldVersion_16 (Nat.le_of_ble_eq_true rfl) rfl rfl ?_
    refine r_iload_n dX5_figureOfOldVersion_18 (i := 2) rfl rfl ?_
    refine r_if_lt dX5_figureOfOldVersion_19 (tgt := 31) rfl (fun h19 => absurd h19 (nI_pos (by omega))) (fun _ => ?_)
    refine r_iload_n dX5_figureOfOldVersion_22 (i := 2) rfl rfl ?_
    refine r_aload dX5_figureOfOldVersion_23 rfl ?_
    refine r_getI dX5_figureOfOldVersion_25 f_5_124 rfl rfl (lv4 (by first | assumption | decide | omega) (by first | assumption | decide | omega)) ?_
    refine r_icmp_lt dX5_figureOfOldVersion_28 (tgt := 33) rfl (fun _ => ?_) (fun h28 => absurd ((by rw [hM]; exact nI_lt hr (by omega))) h28)
    refine r_iload_n dX5_figureOfOldVersion_33 (i := 2) rfl rfl ?_
    refine r_iconst dX5_figureOfOldVersion_34 (v := 1) rfl ?_
    refine r_iadd dX5_figureOfOldVersion_35 ?_
    rw [nI_1]
    refine r_istore dX5_figureOfOldVersion_36 (Nat.le_of_ble_eq_true rfl) rfl rfl ?_
    refine r_iload_n dX5_figureOfOldVersion_38 (i := 3) rfl rfl ?_
    refine r_tabIn dX5_figureOfOldVersion_39 (off := 29) (tgt := 68) (by decide) (by decide) (by decide) rfl ?_
    refine r_aload dX5_figureOfOldVersion_68 rfl ?_
    refine r_getI dX5_figureOfOldVersion_70 f_5_59 rfl rfl (lv4 (by first | assumption | decide | omega) (by first | assumption | decide | omega)) ?_
    refine r_iload dX5_figureOfOldVersion_73 rfl ?_
    refine r_isub dX5_figureOfOldVersion_75 ?_
    exact e_i dX5_figureOfOldVersion_76 rfl (by first | rfl | exact bi_nar _) (by first | rfl | simp [bi, *]) rfl
  | 1, _ =>
    refine r_aload_n dX5_figureOfOldVersion_0 (i := 0) rfl rfl ?_
    refine r_iload_n dX5_figureOfOldVersion_1 (i := 1) rfl rfl ?_
    refine sX5_figureOfOldVersion_2 (Nat.le_refl _) (Nat.le_refl _) rfl (lv0 (by first | assumption | decide | omega)) (Nat.le_of_ble_eq_true rfl) (tX5_hasSecret ht) ?_
    refine r_if_ne dX5_figureOfOldVersion_5 (tgt := 10) rfl (fun _ => ?_) (fun h5 => absurd h5 (bi_n0.mpr hx))
    refine r_aload_n dX5_figureOfOldVersion_10 (i := 0) rfl rfl ?_
    refine r_getR dX5_figureOfOldVersion_11 f_5_11 rfl rfl rfl (lv0 (by first | assumption | decide | omega)) ?_
    refine r_iload_n dX5_figureOfOldVersion_14 (i := 1) rfl rfl ?_
    refine n_aald dX5_figureOfOldVersion_15 rfl (lv1 (by first | assumption | decide | omega)) rfl (by first | assumption | omega | (unfold cI; omega)) rfl ?_
    refine r_astore dX5_figureOfOldVersion_16 (Nat.le_of_ble_eq_true rfl) rfl rfl ?_
    refine r_iload_n dX5_figureOfOldVersion_18 (i := 2) rfl rfl ?_
    refine r_if_lt dX5_figureOfOldVersion_19 (tgt := 31) rfl (fun h19 => absurd h19 (nI_pos (by omega))) (fun _ => ?_)
    refine r_iload_n dX5_figureOfOldVersion_22 (i := 2) rfl rfl ?_
    refine r_aload dX5_figureOfOldVersion_23 rfl ?_
    refine r_getI dX5_figureOfOldVersion_25 f_5_124 rfl rfl (lv4 (by first | assumption | decide | omega) (by first | assumption | decide | omega)) ?_
    refine r_icmp_lt dX5_figureOfOldVersion_28 (tgt := 33) rfl (fun _ => ?_) (fun h28 => absurd ((by rw [hM]; exact nI_lt hr (by omega))) h28)
    refine r_iload_n dX5_figureOfOldVersion_33 (i := 2) rfl rfl ?_
    refine r_iconst dX5_figureOfOldVersion_34 (v := 1) rfl ?_
    refine r_iadd dX5_figureOfOldVersion_35 ?_
    rw [nI_1]
    refine r_istore dX5_figureOfOldVersion_36 (Nat.le_of_ble_eq_true rfl) rfl rfl ?_
    refine r_iload_n dX5_figureOfOldVersion_38 (i := 3) rfl rfl ?_
    refine r_tabIn dX5_figureOfOldVersion_39 (off := 38) (tgt := 77) (by decide) (by decide) (by decide) rfl ?_
    refine r_aload dX5_figureOfOldVersion_77 rfl ?_
    refine r_getR dX5_figureOfOldVersion_79 f_5_80 rfl rfl rfl (lv4 (by first | assumption | decide | omega) (by first | assumption | decide | omega)) ?_
    refine r_getR dX5_figureOfOldVersion_82 f_5_87 rfl rfl rfl (lv5 (by first | assumption | decide | omega) (by first | assumption | decide | omega) (by first | assumption | decide | omega)) ?_
    refine r_iload dX5_figureOfOldVersion_85 rfl ?_
    refine n_iald dX5_figureOfOldVersion_87 rfl (lv6 (by first | assumption | decide | omega) (by first | assumption | decide | omega) (by first | assumption | decide | omega)) rfl (by first | assumption | omega | (unfold cI; omega)) ?_
    exact e_i dX5_figureOfOldVersion_88 rfl (by first | rfl | exact bi_nar _) (by first | rfl | simp [bi, *]) rfl
  | 2, _ =>
    refine r_aload_n dX5_figureOfOldVersion_0 (i := 0) rfl rfl ?_
    refine r_iload_n dX5_figureOfOldVersion_1 (i := 1) rfl rfl ?_
    refine sX5_figureOfOldVersion_2 (Nat.le_refl _) (Nat.le_refl _) rfl (lv0 (by first | assumption | decide | omega)) (Nat.le_of_ble_eq_true rfl) (tX5_hasSecret ht) ?_
    refine r_if_ne dX5_figureOfOldVersion_5 (tgt := 10) rfl (fun _ => ?_) (fun h5 => absurd h5 (bi_n0.mpr hx))
    refine r_aload_n dX5_figureOfOldVersion_10 (i := 0) rfl rfl ?_
    refine r_getR dX5_figureOfOldVersion_11 f_5_11 rfl rfl rfl (lv0 (by first | assumption | decide | omega)) ?_
    refine r_iload_n dX5_figureOfOldVersion_14 (i := 1) rfl rfl ?_
    refine n_aald dX5_figureOfOldVersion_15 rfl (lv1 (by first | assumption | decide | omega)) rfl (by first | assumption | omega | (unfold cI; omega)) rfl ?_
    refine r_astore dX5_figureOfOldVersion_16 (Nat.le_of_ble_eq_true rfl) rfl rfl ?_
    refine r_iload_n dX5_figureOfOldVersion_18 (i := 2) rfl rfl ?_
    refine r_if_lt dX5_figureOfOldVersion_19 (tgt := 31) rfl (fun h19 => absurd h19 (nI_pos (by omega))) (fun _ => ?_)
    refine r_iload_n dX5_figureOfOldVersion_22 (i := 2) rfl rfl ?_
    refine r_aload dX5_figureOfOldVersion_23 rfl ?_
    refine r_getI dX5_figureOfOldVersion_25 f_5_124 rfl rfl (lv4 (by first | assumption | decide | omega) (by first | assumption | decide | omega)) ?_
    refine r_icmp_lt dX5_figureOfOldVersion_28 (tgt := 33) rfl (fun _ => ?_) (fun h28 => absurd ((by rw [hM]; exact nI_lt hr (by omega))) h28)
    refine r_iload_n dX5_figureOfOldVersion_33 (i := 2) rfl rfl ?_
    refine r_iconst dX5_figureOfOldVersion_34 (v := 1) rfl ?_
    refine r_iadd dX5_figureOfOldVersion_35 ?_
    rw [nI_1]
    refine r_istore dX5_figureOfOldVersion_36 (Nat.le_of_ble_eq_true rfl) rfl rfl ?_
    refine r_iload_n dX5_figureOfOldVersion_38 (i := 3) rfl rfl ?_
    refine r_tabIn dX5_figureOfOldVersion_39 (off := 50) (tgt := 89) (by decide) (by decide) (by decide) rfl ?_
    refine r_aload dX5_figureOfOldVersion_89 rfl ?_
    refine r_getR dX5_figureOfOldVersion_91 f_5_84 rfl rfl rfl (lv4 (by first | assumption | decide | omega) (by first | assumption | decide | omega)) ?_
    refine r_getR dX5_figureOfOldVersion_94 f_5_87 rfl rfl rfl (lv5 (by first | assumption | decide | omega) (by first | assumption | decide | omega) (by first | assumption | decide | omega)) ?_
    refine r_iload dX5_figureOfOldVersion_97 rfl ?_
    refine n_iald dX5_figureOfOldVersion_99 rfl (lv6 (by first | assumption | decide | omega) (by first | assumption | decide | omega) (by first | assumption | decide | omega)) rfl (by first | assumption | omega | (unfold cI; omega)) ?_
    exact e_i dX5_figureOfOldVersion_100 rfl (by first | rfl | exact bi_nar _) (by first | rfl | simp [bi, *]) rfl
  | 3, _ =>
    refine r_aload_n dX5_figureOfOldVersion_0 (i := 0) rfl rfl ?_
    refine r_iload_n dX5_figureOfOldVersion_1 (i := 1) rfl rfl ?_
    refine sX5_figureOfOldVersion_2 (Nat.le_refl _) (Nat.le_refl _) rfl (lv0 (by first | assumption | decide | omega)) (Nat.le_of_ble_eq_true rfl) (tX5_hasSecret ht) ?_
    refine r_if_ne dX5_figureOfOldVersion_5 (tgt := 10) rfl (fun _ => ?_) (fun h5 => absurd h5 (bi_n0.mpr hx))
    refine r_aload_n dX5_figureOfOldVersion_10 (i := 0) rfl rfl ?_
    refine r_getR dX5_figureOfOldVersion_11 f_5_11 rfl rfl rfl (lv0 (by first | assumption | decide | omega)) ?_
    refine r_iload_n dX5_figureOfOldVersion_14 (i := 1) rfl rfl ?_
    refine n_aald dX5_figureOfOldVersion_15 rfl (lv1 (by first | assumption | decide | omega)) rfl (by first | assumption | omega | (unfold cI; omega)) rfl ?_
    refine r_astore dX5_figureOfOldVersion_16 (Nat.le_of_ble_eq_true rfl) rfl rfl ?_
    refine r_iload_n dX5_figureOfOldVersion_18 (i := 2) rfl rfl ?_
    refine r_if_lt dX5_figureOfOldVersion_19 (tgt := 31) rfl (fun h19 => absurd h19 (nI_pos (by omega))) (fun _ => ?_)
    refine r_iload_n dX5_figureOfOldVersion_22 (i := 2) rfl rfl ?_
    refine r_aload dX5_figureOfOldVersion_23 rfl ?_
    refine r_getI dX5_figureOfOldVersion_25 f_5_124 rfl rfl (lv4 (by first | assumption | decide | omega) (by first | assumption | decide | omega)) ?_
    refine r_icmp_lt dX5_figureOfOldVersion_28 (tgt := 33) rfl (fun _ => ?_) (fun h28 => absurd ((by rw [hM]; exact nI_lt hr (by omega))) h28)
    refine r_iload_n dX5_figureOfOldVersion_33 (i := 2) rfl rfl ?_
    refine r_iconst dX5_figureOfOldVersion_34 (v := 1) rfl ?_
    refine r_iadd dX5_figureOfOldVersion_35 ?_
    rw [nI_1]
    refine r_istore dX5_figureOfOldVersion_36 (Nat.le_of_ble_eq_true rfl) rfl rfl ?_
    refine r_iload_n dX5_figureOfOldVersion_38 (i := 3) rfl rfl ?_
    refine r_tabIn dX5_figureOfOldVersion_39 (off := 62) (tgt := 101) (by decide) (by decide) (by decide) rfl ?_
    refine r_aload dX5_figureOfOldVersion_101 rfl ?_
    refine r_iload dX5_figureOfOldVersion_103 rfl ?_
    refine sX5_figureOfOldVersion_105 (Nat.le_refl _) (Nat.le_refl _) rfl (lv4 (by first | assumption | decide | omega) (by first | assumption | decide | omega)) (Nat.le_of_ble_eq_true rfl) (tX4_takenSet ht hj hr5) ?_
    exact e_i dX5_figureOfOldVersion_108 rfl (by first | rfl | exact bi_nar _) (by first | rfl | simp [bi, *]) rfl
/-- sets of secrets: those open, those known -/
def stO (hp : HPt) (t f : Nat) : Nat → Int32
  | 0 => 0
  | i + 1 => stO hp t f i ||| (if hp (4, t, i, 0) f = 0 then 0 else (1 : Int32) <<< (nI i &&& 31))
def stP (hp : HPt) (t f : Nat) : Nat → Int32
  | 0 => 0
  | i + 1 => stP hp t f i ||| (if hp (4, t, i, 0) f ≤ 0 then 0 else (1 : Int32) <<< (nI i &&& 31))
theorem tX5_setOfOpen {g : Gh} {t n : Nat} {hp : HPt} (ht : t < 10) (hn : n ≤ 8) (hk : hp (0, t, 0, 0) 3 = nI n) : Ci g mX5_setOfOpen [vR (0, t, 0, 0)] hp (stP hp t 5 n) hp := by
  have key : ∀ k r, r + k = n → V g mX5_setOfOpen 0 0 0 0 609 4 [some (vR (0, t, 0, 0)), some (vI (stP hp t 5 r)), some (vI (nI r))] [] RP hp (Pi (stP hp t 5 n) hp) := by
    intro k
    induction k with
    | zero =>
      intro r hr
      have hr : r = n := by omega
      subst hr
      refine r_iload_n dX5_setOfOpen_4 (i := 2) rfl rfl ?_
      refine r_aload_n dX5_setOfOpen_5 (i := 0) rfl rfl ?_
      refine r_getI dX5_setOfOpen_6 f_5_34 rfl rfl (lv0 (by first | assumption | decide | omega)) ?_
      refine r_icmp_ge dX5_setOfOpen_9 (tgt := 40) rfl (fun _ => ?_) (fun h9 => absurd ((by rw [hk]; exact Int32.le_refl _)) h9)
      refine r_iload_n dX5_setOfOpen_40 (i := 1) rfl rfl ?_
      exact e_i dX5_setOfOpen_41 rfl (by first | rfl | exact bi_nar _) (by first | rfl | simp [bi, *]) rfl
    | succ k ih =>
      intro r hr
      have hr8 : r < 8 := by omega
      have h := ih (r + 1) (by omega)
      refine r_iload_n dX5_setOfOpen_4 (i := 2) rfl rfl ?_
      refine r_aload_n dX5_setOfOpen_5 (i := 0) rfl rfl ?_
      refine r_getI dX5_setOfOpen_6 f_5_34 rfl rfl (lv0 (by first | assumption | decide | omega)) ?_
      refine r_icmp_ge dX5_setOfOpen_9 (tgt := 40) rfl (fun h9 => absurd h9 ((by rw [hk]; exact nI_ge (by omega) (by omega)))) (fun _ => ?_)
      refine r_iload_n dX5_setOfOpen_12 (i := 1) rfl rfl ?_
      refine r_aload_n dX5_setOfOpen_13 (i := 0) rfl rfl ?_
      refine r_getR dX5_setOfOpen_14 f_5_11 rfl rfl rfl (lv0 (by first | assumption | decide | omega)) ?_
      refine r_iload_n dX5_setOfOpen_17 (i := 2) rfl rfl ?_
      refine n_aald dX5_setOfOpen_18 rfl (lv1 (by first | assumption | decide | omega)) rfl (by first | assumption | omega | (unfold cI; omega)) rfl ?_
      refine r_getI dX5_setOfOpen_19 f_5_164 rfl rfl (lv4 (by first | assumption | decide | omega) (by first | assumption | decide | omega)) ?_
      refine r_if_le dX5_setOfOpen_22 (tgt := 31) rfl (fun h22 => ?_) (fun h22 => ?_)
      · refine r_iconst dX5_setOfOpen_31 (v := 0) rfl ?_
        refine r_ior dX5_setOfOpen_32 ?_
        refine r_istore_n dX5_setOfOpen_33 (i := 1) rfl (Nat.le_of_ble_eq_true rfl) rfl rfl ?_
        refine r_inc1 dX5_setOfOpen_34 rfl (Nat.le_of_ble_eq_true rfl) rfl ?_
        refine r_goto dX5_setOfOpen_37 (tgt := 4) rfl ?_
        refine V.eqL ?_ h
        simp [stP, h22, nI_1]
      · refine r_iconst dX5_setOfOpen_25 (v := 1) rfl ?_
        refine r_iload_n dX5_setOfOpen_26 (i := 2) rfl rfl ?_
        refine r_ishl dX5_setOfOpen_27 ?_
        refine r_goto dX5_setOfOpen_28 (tgt := 32) rfl ?_
        refine r_ior dX5_setOfOpen_32 ?_
        refine r_istore_n dX5_setOfOpen_33 (i := 1) rfl (Nat.le_of_ble_eq_true rfl) rfl rfl ?_
        refine r_inc1 dX5_setOfOpen_34 rfl (Nat.le_of_ble_eq_true rfl) rfl ?_
        refine r_goto dX5_setOfOpen_37 (tgt := 4) rfl ?_
        refine V.eqL ?_ h
        simp [stP, h22, nI_1]
  unfold Ci
  refine r_iconst dX5_setOfOpen_0 (v := 0) rfl ?_
  refine r_istore_n dX5_setOfOpen_1 (i := 1) rfl (Nat.le_of_ble_eq_true rfl) rfl rfl ?_
  refine r_iconst dX5_setOfOpen_2 (v := 0) rfl ?_
  refine r_istore_n dX5_setOfOpen_3 (i := 2) rfl (Nat.le_of_ble_eq_true rfl) rfl rfl ?_
  exact key n 0 (by omega)
theorem tX5_setOfKnown {g : Gh} {t n : Nat} {hp : HPt} (ht : t < 10) (hn : n ≤ 8) (hk : hp (0, t, 0, 0) 3 = nI n) : Ci g mX5_setOfKnown [vR (0, t, 0, 0)] hp (stO hp t 9 n) hp := by
  have key : ∀ k r, r + k = n → V g mX5_setOfKnown 0 0 0 0 609 4 [some (vR (0, t, 0, 0)), some (vI (stO hp t 9 r)), some (vI (nI r))] [] RP hp (Pi (stO hp t 9 n) hp) := by
    intro k
    induction k with
    | zero =>
      intro r hr
      have hr : r = n := by omega
      subst hr
      refine r_iload_n dX5_setOfKnown_4 (i := 2) rfl rfl ?_
      refine r_aload_n dX5_setOfKnown_5 (i := 0) rfl rfl ?_
      refine r_getI dX5_setOfKnown_6 f_5_34 rfl rfl (lv0 (by first | assumption | decide | omega)) ?_
      refine r_icmp_ge dX5_setOfKnown_9 (tgt := 40) rfl (fun _ => ?_) (fun h9 => absurd ((by rw [hk]; exact Int32.le_refl _)) h9)
      refine r_iload_n dX5_setOfKnown_40 (i := 1) rfl rfl ?_
      exact e_i dX5_setOfKnown_41 rfl (by first | rfl | exact bi_nar _) (by first | rfl | simp [bi, *]) rfl
    | succ k ih =>
      intro r hr
      have hr8 : r < 8 := by omega
      have h := ih (r + 1) (by omega)
      refine r_iload_n dX5_setOfKnown_4 (i := 2) rfl rfl ?_
      refine r_aload_n dX5_setOfKnown_5 (i := 0) rfl rfl ?_
      refine r_getI dX5_setOfKnown_6 f_5_34 rfl rfl (lv0 (by first | assumption | decide | omega)) ?_
      refine r_icmp_ge dX5_setOfKnown_9 (tgt := 40) rfl (fun h9 => absurd h9 ((by rw [hk]; exact nI_ge (by omega) (by omega)))) (fun _ => ?_)
      refine r_iload_n dX5_setOfKnown_12 (i := 1) rfl rfl ?_
      refine r_aload_n dX5_setOfKnown_13 (i := 0) rfl rfl ?_
      refine r_getR dX5_setOfKnown_14 f_5_11 rfl rfl rfl (lv0 (by first | assumption | decide | omega)) ?_
      refine r_iload_n dX5_setOfKnown_17 (i := 2) rfl rfl ?_
      refine n_aald dX5_setOfKnown_18 rfl (lv1 (by first | assumption | decide | omega)) rfl (by first | assumption | omega | (unfold cI; omega)) rfl ?_
      refine r_getI dX5_setOfKnown_19 f_5_179 rfl rfl (lv4 (by first | assumption | decide | omega) (by first | assumption | decide | omega)) ?_
      refine r_if_eq dX5_setOfKnown_22 (tgt := 31) rfl (fun h22 => ?_) (fun h22 => ?_)
      · refine r_iconst dX5_setOfKnown_31 (v := 0) rfl ?_
        refine r_ior dX5_setOfKnown_32 ?_
        refine r_istore_n dX5_setOfKnown_33 (i := 1) rfl (Nat.le_of_ble_eq_true rfl) rfl rfl ?_
        refine r_inc1 dX5_setOfKnown_34 rfl (Nat.le_of_ble_eq_true rfl) rfl ?_
        refine r_goto dX5_setOfKnown_37 (tgt := 4) rfl ?_
        refine V.eqL ?_ h
        simp [stO, h22, nI_1]
      · refine r_iconst dX5_setOfKnown_25 (v := 1) rfl ?_
        refine r_iload_n dX5_setOfKnown_26 (i := 2) rfl rfl ?_
        refine r_ishl dX5_setOfKnown_27 ?_
        refine r_goto dX5_setOfKnown_28 (tgt := 32) rfl ?_
        refine r_ior dX5_setOfKnown_32 ?_
        refine r_istore_n dX5_setOfKnown_33 (i := 1) rfl (Nat.le_of_ble_eq_true rfl) rfl rfl ?_
        refine r_inc1 dX5_setOfKnown_34 rfl (Nat.le_of_ble_eq_true rfl) rfl ?_
        refine r_goto dX5_setOfKnown_37 (tgt := 4) rfl ?_
        refine V.eqL ?_ h
        simp [stO, h22, nI_1]
  unfold Ci
  refine r_iconst dX5_setOfKnown_0 (v := 0) rfl ?_
  refine r_istore_n dX5_setOfKnown_1 (i := 1) rfl (Nat.le_of_ble_eq_true rfl) rfl rfl ?_
  refine r_iconst dX5_setOfKnown_2 (v := 0) rfl ?_
  refine r_istore_n dX5_setOfKnown_3 (i := 2) rfl (Nat.le_of_ble_eq_true rfl) rfl rfl ?_
  exact key n 0 (by omega)
def figG (hp : HPt) (t n : Nat) (k : Nat) : Int32 := match k with
  | 0 => hp (0, t, 0, 0) 5
  | 1 => hp (0, t, 0, 0) 3
  | 2 => stP hp t 5 n
  | 3 => stO hp t 9 n
  | 4 => if hp (3, t, 0, 0) 0 = 0 then 0 else 1
  | 5 => if hp (3, t, 0, 0) 1 = 0 then 0 else 1
  | 6 => hp (0, t, 0, 0) 6
  | 7 => hp (0, t, 0, 0) 7
  | 8 => hp (0, t, 0, 0) 8
  | 9 => hp (0, t, 0, 0) 9
  | 10 => hp (0, t, 0, 0) 4
  | 11 => hp (2, t, 0, 0) 0
  | 12 => hp (2, t, 0, 0) 1
  | _ => hp (2, t, 0, 0) 2
theorem tX5_figure_e {g : Gh} {t : Nat} {w : Int32} {hp : HPt} (ht : t < 10) (hw : (!decide (w < 0) && decide (w < nI 14)) = false) : Ci g mX5_figure [vR (0, t, 0, 0), vI w] hp (-2) hp := by
  unfold Ci
  refine r_iload_n dX5_figure_0 (i := 1) rfl rfl ?_
  refine r_tabOut dX5_figure_1 (tgt := 168) (out_wd hw (by decide) rfl) rfl ?_
  refine r_bipush dX5_figure_168 (v := (-2)) rfl ?_
  exact e_i dX5_figure_170 rfl (by first | rfl | exact bi_nar _) (by first | rfl | simp [bi, *]) rfl
theorem tX5_figure {g : Gh} {t n k : Nat} {hp : HPt} (ht : t < 10) (hn : n ≤ 8) (hN : hp (0, t, 0, 0) 3 = nI n) (hk : k < 14) : Ci g mX5_figure [vR (0, t, 0, 0), vI (nI k)] hp (figG hp t n k) hp := by
  unfold Ci
  match k, hk with
  | 0, _ =>
    refine r_iload_n dX5_figure_0 (i := 1) rfl rfl ?_
    refine r_tabIn dX5_figure_1 (off := 71) (tgt := 72) (by decide) (by decide) (by decide) rfl ?_
    refine r_aload_n dX5_figure_72 (i := 0) rfl rfl ?_
    refine r_getI dX5_figure_73 f_5_37 rfl rfl (lv0 (by first | assumption | decide | omega)) ?_
    exact e_i dX5_figure_76 rfl (by first | rfl | exact bi_nar _) (by first | rfl | simp [figG, *]) rfl
  | 1, _ =>
    refine r_iload_n dX5_figure_0 (i := 1) rfl rfl ?_
    refine r_tabIn dX5_figure_1 (off := 76) (tgt := 77) (by decide) (by decide) (by decide) rfl ?_
    refine r_aload_n dX5_figure_77 (i := 0) rfl rfl ?_
    refine r_getI dX5_figure_78 f_5_34 rfl rfl (lv0 (by first | assumption | decide | omega)) ?_
    exact e_i dX5_figure_81 rfl (by first | rfl | exact bi_nar _) (by first | rfl | simp [figG, *]) rfl
  | 2, _ =>
    refine r_iload_n dX5_figure_0 (i := 1) rfl rfl ?_
    refine r_tabIn dX5_figure_1 (off := 81) (tgt := 82) (by decide) (by decide) (by decide) rfl ?_
    refine r_aload_n dX5_figure_82 (i := 0) rfl rfl ?_
    refine sX5_figure_83 (Nat.le_refl _) (Nat.le_refl _) rfl (lv0 (by first | assumption | decide | omega)) (Nat.le_of_ble_eq_true rfl) (tX5_setOfOpen ht hn hN) ?_
    exact e_i dX5_figure_86 rfl (by first | rfl | exact bi_nar _) (by first | rfl | simp [figG, *]) rfl
  | 3, _ =>
    refine r_iload_n dX5_figure_0 (i := 1) rfl rfl ?_
    refine r_tabIn dX5_figure_1 (off := 86) (tgt := 87) (by decide) (by decide) (by decide) rfl ?_
    refine r_aload_n dX5_figure_87 (i := 0) rfl rfl ?_
    refine sX5_figure_88 (Nat.le_refl _) (Nat.le_refl _) rfl (lv0 (by first | assumption | decide | omega)) (Nat.le_of_ble_eq_true rfl) (tX5_setOfKnown ht hn hN) ?_
    exact e_i dX5_figure_91 rfl (by first | rfl | exact bi_nar _) (by first | rfl | simp [figG, *]) rfl
  | 4, _ =>
    refine r_iload_n dX5_figure_0 (i := 1) rfl rfl ?_
    refine r_tabIn dX5_figure_1 (off := 91) (tgt := 92) (by decide) (by decide) (by decide) rfl ?_
    refine r_aload_n dX5_figure_92 (i := 0) rfl rfl ?_
    refine r_getR dX5_figure_93 f_5_21 rfl rfl rfl (lv0 (by first | assumption | decide | omega)) ?_
    refine r_iconst dX5_figure_96 (v := 0) rfl ?_
    refine n_zald dX5_figure_97 rfl (lv3 (by first | assumption | decide | omega)) (k := 0) rfl (by decide) ?_
    refine r_if_eq dX5_figure_98 (tgt := 105) rfl (fun h98 => ?_) (fun h98 => ?_)
    · refine r_iconst dX5_figure_105 (v := 0) rfl ?_
      exact e_i dX5_figure_106 rfl (by first | rfl | exact bi_nar _) (by first | rfl | simp [figG, *]) rfl
    · refine r_iconst dX5_figure_101 (v := 1) rfl ?_
      refine r_goto dX5_figure_102 (tgt := 106) rfl ?_
      exact e_i dX5_figure_106 rfl (by first | rfl | exact bi_nar _) (by first | rfl | simp [figG, *]) rfl
  | 5, _ =>
    refine r_iload_n dX5_figure_0 (i := 1) rfl rfl ?_
    refine r_tabIn dX5_figure_1 (off := 106) (tgt := 107) (by decide) (by decide) (by decide) rfl ?_
    refine r_aload_n dX5_figure_107 (i := 0) rfl rfl ?_
    refine r_getR dX5_figure_108 f_5_21 rfl rfl rfl (lv0 (by first | assumption | decide | omega)) ?_
    refine r_iconst dX5_figure_111 (v := 1) rfl ?_
    refine n_zald dX5_figure_112 rfl (lv3 (by first | assumption | decide | omega)) (k := 1) rfl (by decide) ?_
    refine r_if_eq dX5_figure_113 (tgt := 120) rfl (fun h113 => ?_) (fun h113 => ?_)
    · refine r_iconst dX5_figure_120 (v := 0) rfl ?_
      exact e_i dX5_figure_121 rfl (by first | rfl | exact bi_nar _) (by first | rfl | simp [figG, *]) rfl
    · refine r_iconst dX5_figure_116 (v := 1) rfl ?_
      refine r_goto dX5_figure_117 (tgt := 121) rfl ?_
      exact e_i dX5_figure_121 rfl (by first | rfl | exact bi_nar _) (by first | rfl | simp [figG, *]) rfl
  | 6, _ =>
    refine r_iload_n dX5_figure_0 (i := 1) rfl rfl ?_
    refine r_tabIn dX5_figure_1 (off := 121) (tgt := 122) (by decide) (by decide) (by decide) rfl ?_
    refine r_aload_n dX5_figure_122 (i := 0) rfl rfl ?_
    refine r_getI dX5_figure_123 f_5_40 rfl rfl (lv0 (by first | assumption | decide | omega)) ?_
    exact e_i dX5_figure_126 rfl (by first | rfl | exact bi_nar _) (by first | rfl | simp [figG, *]) rfl
  | 7, _ =>
    refine r_iload_n dX5_figure_0 (i := 1) rfl rfl ?_
    refine r_tabIn dX5_figure_1 (off := 126) (tgt := 127) (by decide) (by decide) (by decide) rfl ?_
    refine r_aload_n dX5_figure_127 (i := 0) rfl rfl ?_
    refine r_getI dX5_figure_128 f_5_43 rfl rfl (lv0 (by first | assumption | decide | omega)) ?_
    exact e_i dX5_figure_131 rfl (by first | rfl | exact bi_nar _) (by first | rfl | simp [figG, *]) rfl
  | 8, _ =>
    refine r_iload_n dX5_figure_0 (i := 1) rfl rfl ?_
    refine r_tabIn dX5_figure_1 (off := 131) (tgt := 132) (by decide) (by decide) (by decide) rfl ?_
    refine r_aload_n dX5_figure_132 (i := 0) rfl rfl ?_
    refine r_getI dX5_figure_133 f_5_46 rfl rfl (lv0 (by first | assumption | decide | omega)) ?_
    exact e_i dX5_figure_136 rfl (by first | rfl | exact bi_nar _) (by first | rfl | simp [figG, *]) rfl
  | 9, _ =>
    refine r_iload_n dX5_figure_0 (i := 1) rfl rfl ?_
    refine r_tabIn dX5_figure_1 (off := 136) (tgt := 137) (by decide) (by decide) (by decide) rfl ?_
    refine r_aload_n dX5_figure_137 (i := 0) rfl rfl ?_
    refine r_getI dX5_figure_138 f_5_49 rfl rfl (lv0 (by first | assumption | decide | omega)) ?_
    exact e_i dX5_figure_141 rfl (by first | rfl | exact bi_nar _) (by first | rfl | simp [figG, *]) rfl
  | 10, _ =>
    refine r_iload_n dX5_figure_0 (i := 1) rfl rfl ?_
    refine r_tabIn dX5_figure_1 (off := 141) (tgt := 142) (by decide) (by decide) (by decide) rfl ?_
    refine r_aload_n dX5_figure_142 (i := 0) rfl rfl ?_
    refine r_getI dX5_figure_143 f_5_25 rfl rfl (lv0 (by first | assumption | decide | omega)) ?_
    exact e_i dX5_figure_146 rfl (by first | rfl | exact bi_nar _) (by first | rfl | simp [figG, *]) rfl
  | 11, _ =>
    refine r_iload_n dX5_figure_0 (i := 1) rfl rfl ?_
    refine r_tabIn dX5_figure_1 (off := 146) (tgt := 147) (by decide) (by decide) (by decide) rfl ?_
    refine r_aload_n dX5_figure_147 (i := 0) rfl rfl ?_
    refine r_getR dX5_figure_148 f_5_17 rfl rfl rfl (lv0 (by first | assumption | decide | omega)) ?_
    refine r_iconst dX5_figure_151 (v := 0) rfl ?_
    refine n_iald dX5_figure_152 rfl (lv2 (by first | assumption | decide | omega)) (k := 0) rfl (by decide) ?_
    exact e_i dX5_figure_153 rfl (by first | rfl | exact bi_nar _) (by first | rfl | simp [figG, *]) rfl
  | 12, _ =>
    refine r_iload_n dX5_figure_0 (i := 1) rfl rfl ?_
    refine r_tabIn dX5_figure_1 (off := 153) (tgt := 154) (by decide) (by decide) (by decide) rfl ?_
    refine r_aload_n dX5_figure_154 (i := 0) rfl rfl ?_
    refine r_getR dX5_figure_155 f_5_17 rfl rfl rfl (lv0 (by first | assumption | decide | omega)) ?_
    refine r_iconst dX5_figure_158 (v := 1) rfl ?_
    refine n_iald dX5_figure_159 rfl (lv2 (by first | assumption | decide | omega)) (k := 1) rfl (by decide) ?_
    exact e_i dX5_figure_160 rfl (by first | rfl | exact bi_nar _) (by first | rfl | simp [figG, *]) rfl
  | 13, _ =>
    refine r_iload_n dX5_figure_0 (i := 1) rfl rfl ?_
    refine r_tabIn dX5_figure_1 (off := 160) (tgt := 161) (by decide) (by decide) (by decide) rfl ?_
    refine r_aload_n dX5_figure_161 (i := 0) rfl rfl ?_
    refine r_getR dX5_figure_162 f_5_17 rfl rfl rfl (lv0 (by first | assumption | decide | omega)) ?_
    refine r_iconst dX5_figure_165 (v := 2) rfl ?_
    refine n_iald dX5_figure_166 rfl (lv2 (by first | assumption | decide | omega)) (k := 2) rfl (by decide) ?_
    exact e_i dX5_figure_167 rfl (by first | rfl | exact bi_nar _) (by first | rfl | simp [figG, *]) rfl
end
section
def cpS (hp : HPt) (t u j : Nat) : HPt := fun a i => if a = (4, t, j, 0) ∧ 2 ≤ i ∧ i < 10 then hp (4, u, j, 0) i else cpH (cpH hp t u j 0) t u j 1 a i
theorem cpH_WT {hp : HPt} {t u j b : Nat} (h : WT hp) : WT (cpH hp t u j b) := by
  intro a i
  unfold cpH
  split
  next e => exact h (a.1, u, j, b) i
  next => exact h a i
theorem cpS_WT {hp : HPt} {t u j : Nat} (h : WT hp) : WT (cpS hp t u j) := by
  intro a i
  unfold cpS
  split
  next e => obtain ⟨rfl, -⟩ := e; exact h (4, u, j, 0) i
  next => exact cpH_WT (cpH_WT h) a i
theorem tX4_copySecret {g : Gh} {t u j : Nat} {hp : HPt} (ht : t < 10) (hu : u < 10) (htu : t ≠ u) (hj : j < 8) (hW : WT hp) : Cv g mX4_copySecret [vR (4, t, j, 0), vR (4, u, j, 0)] hp (cpS hp t u j) := by
  have hut : ¬ u = t := fun h => htu h.symm
  have e0 : ∀ i, cpH (cpH hp t u j 0) t u j 1 (4, u, j, 0) i = hp (4, u, j, 0) i := fun i => by simp [cpH]
  have hk : ∀ H : HPt, (∀ i, H (4, u, j, 0) i = hp (4, u, j, 0) i) → ∀ i x k, hset H (4, t, j, 0) i x (4, u, j, 0) k = hp (4, u, j, 0) k := fun H h i x k => by simp [hset, hut, h]
  have h9 : hp (4, u, j, 0) 9 = 0 ∨ hp (4, u, j, 0) 9 = 1 := hW.b rfl
  unfold Cv
  refine r_aload_n dX4_copySecret_0 (i := 0) rfl rfl ?_
  refine r_getR dX4_copySecret_1 f_4_12 rfl rfl rfl (lv4 (by first | assumption | decide | omega) (by first | assumption | decide | omega)) ?_
  refine r_aload_n dX4_copySecret_4 (i := 1) rfl rfl ?_
  refine r_getR dX4_copySecret_5 f_4_12 rfl rfl rfl (lv4 (by first | assumption | decide | omega) (by first | assumption | decide | omega)) ?_
  refine sX4_copySecret_8 (Nat.le_refl _) (Nat.le_refl _) rfl (lv5 (by first | assumption | decide | omega) (by first | assumption | decide | omega) (by first | assumption | decide | omega)) (Nat.le_of_ble_eq_true rfl) (tX0_copyHalf ht hu htu hj (by decide) hW) ?_
  refine r_aload_n dX4_copySecret_11 (i := 0) rfl rfl ?_
  refine r_getR dX4_copySecret_12 f_4_18 rfl rfl rfl (lv4 (by first | assumption | decide | omega) (by first | assumption | decide | omega)) ?_
  refine r_aload_n dX4_copySecret_15 (i := 1) rfl rfl ?_
  refine r_getR dX4_copySecret_16 f_4_18 rfl rfl rfl (lv4 (by first | assumption | decide | omega) (by first | assumption | decide | omega)) ?_
  refine sX4_copySecret_19 (Nat.le_refl _) (Nat.le_refl _) rfl (lv5 (by first | assumption | decide | omega) (by first | assumption | decide | omega) (by first | assumption | decide | omega)) (Nat.le_of_ble_eq_true rfl) (tX0_copyHalf ht hu htu hj (by decide) (cpH_WT hW)) ?_
  refine r_aload_n dX4_copySecret_22 (i := 0) rfl rfl ?_
  refine r_aload_n dX4_copySecret_23 (i := 1) rfl rfl ?_
  refine r_getI dX4_copySecret_24 f_4_25 rfl rfl (lv4 (by first | assumption | decide | omega) (by first | assumption | decide | omega)) ?_
  refine r_putI dX4_copySecret_27 f_4_25 rfl rfl (lv4 (by first | assumption | decide | omega) (by first | assumption | decide | omega)) ⟨rfl, rfl⟩ ?_
  refine r_aload_n dX4_copySecret_30 (i := 0) rfl rfl ?_
  refine r_aload_n dX4_copySecret_31 (i := 1) rfl rfl ?_
  refine r_getI dX4_copySecret_32 f_4_29 rfl rfl (lv4 (by first | assumption | decide | omega) (by first | assumption | decide | omega)) ?_
  refine r_putI dX4_copySecret_35 f_4_29 rfl rfl (lv4 (by first | assumption | decide | omega) (by first | assumption | decide | omega)) ⟨rfl, rfl⟩ ?_
  refine r_aload_n dX4_copySecret_38 (i := 0) rfl rfl ?_
  refine r_aload_n dX4_copySecret_39 (i := 1) rfl rfl ?_
  refine r_getI dX4_copySecret_40 f_4_32 rfl rfl (lv4 (by first | assumption | decide | omega) (by first | assumption | decide | omega)) ?_
  refine r_putI dX4_copySecret_43 f_4_32 rfl rfl (lv4 (by first | assumption | decide | omega) (by first | assumption | decide | omega)) ⟨rfl, rfl⟩ ?_
  refine r_aload_n dX4_copySecret_46 (i := 0) rfl rfl ?_
  refine r_aload_n dX4_copySecret_47 (i := 1) rfl rfl ?_
  refine r_getI dX4_copySecret_48 f_4_35 rfl rfl (lv4 (by first | assumption | decide | omega) (by first | assumption | decide | omega)) ?_
  refine r_putI dX4_copySecret_51 f_4_35 rfl rfl (lv4 (by first | assumption | decide | omega) (by first | assumption | decide | omega)) ⟨rfl, rfl⟩ ?_
  refine r_aload_n dX4_copySecret_54 (i := 0) rfl rfl ?_
  refine r_aload_n dX4_copySecret_55 (i := 1) rfl rfl ?_
  refine r_getI dX4_copySecret_56 f_4_38 rfl rfl (lv4 (by first | assumption | decide | omega) (by first | assumption | decide | omega)) ?_
  refine r_putI dX4_copySecret_59 f_4_38 rfl rfl (lv4 (by first | assumption | decide | omega) (by first | assumption | decide | omega)) ⟨rfl, rfl⟩ ?_
  refine r_aload_n dX4_copySecret_62 (i := 0) rfl rfl ?_
  refine r_aload_n dX4_copySecret_63 (i := 1) rfl rfl ?_
  refine r_getI dX4_copySecret_64 f_4_41 rfl rfl (lv4 (by first | assumption | decide | omega) (by first | assumption | decide | omega)) ?_
  refine r_putI dX4_copySecret_67 f_4_41 rfl rfl (lv4 (by first | assumption | decide | omega) (by first | assumption | decide | omega)) ⟨rfl, rfl⟩ ?_
  refine r_aload_n dX4_copySecret_70 (i := 0) rfl rfl ?_
  refine r_aload_n dX4_copySecret_71 (i := 1) rfl rfl ?_
  refine r_getI dX4_copySecret_72 f_4_44 rfl rfl (lv4 (by first | assumption | decide | omega) (by first | assumption | decide | omega)) ?_
  refine r_putI dX4_copySecret_75 f_4_44 rfl rfl (lv4 (by first | assumption | decide | omega) (by first | assumption | decide | omega)) ⟨rfl, rfl⟩ ?_
  refine r_aload_n dX4_copySecret_78 (i := 0) rfl rfl ?_
  refine r_aload_n dX4_copySecret_79 (i := 1) rfl rfl ?_
  refine r_getI dX4_copySecret_80 f_4_47 rfl rfl (lv4 (by first | assumption | decide | omega) (by first | assumption | decide | omega)) ?_
  refine r_putI dX4_copySecret_83 f_4_47 rfl rfl (lv4 (by first | assumption | decide | omega) (by first | assumption | decide | omega)) (by simp [hset, hut, e0]; exact fit01 h9) ?_
  refine e_v dX4_copySecret_86 rfl ?_
  funext a i
  unfold cpS
  by_cases h5 : a = (4, t, j, 0)
  · subst h5
    by_cases hi : 2 ≤ i ∧ i < 10
    · have : i = 2 ∨ i = 3 ∨ i = 4 ∨ i = 5 ∨ i = 6 ∨ i = 7 ∨ i = 8 ∨ i = 9 := by omega
      rcases this with rfl | rfl | rfl | rfl | rfl | rfl | rfl | rfl <;> simp [hset, hut, e0]
    · have h2 : i ≠ 2 ∧ i ≠ 3 ∧ i ≠ 4 ∧ i ≠ 5 ∧ i ≠ 6 ∧ i ≠ 7 ∧ i ≠ 8 ∧ i ≠ 9 := by omega
      simp [hset, h2, hi]
  · simp [hset, h5]
/-- the first n secrets are copied -/
def cpN (hp : HPt) (t u : Nat) : Nat → HPt
  | 0 => hp
  | n + 1 => cpS (cpN hp t u n) t u n
theorem cpN_WT {hp : HPt} {t u : Nat} (h : WT hp) : ∀ n, WT (cpN hp t u n)
  | 0 => h
  | n + 1 => cpS_WT (cpN_WT h n)
/-- n words of the array of kind k are copied -/
def cpA (hp : HPt) (k t u n : Nat) : HPt := fun a i => if a = (k, t, 0, 0) ∧ i < n then hp (k, u, 0, 0) i else hp a i
theorem cpA_0 {hp : HPt} {k t u : Nat} : cpA hp k t u 0 = hp := by
  funext a i
  unfold cpA
  rw [if_neg (by omega)]
theorem cpA_set {hp : HPt} {k t u n : Nat} (htu : t ≠ u) : hset (cpA hp k t u n) (k, t, 0, 0) n (cpA hp k t u n (k, u, 0, 0) n) = cpA hp k t u (n + 1) := by
  have hut : ¬ u = t := fun h => htu h.symm
  funext a i
  unfold hset cpA
  by_cases h6 : a = (k, t, 0, 0)
  · subst h6
    by_cases hi : i = n
    · subst hi; simp [hut]
    · simp [hi]
      by_cases h1 : i < n
      · simp [h1, show i < n + 1 by omega]
      · simp [h1, show ¬ i < n + 1 by omega]
  · simp [h6]
theorem cpA_WT {hp : HPt} {k t u n : Nat} (h : WT hp) : WT (cpA hp k t u n) := by
  intro a i
  unfold cpA
  split
  next e => obtain ⟨rfl, -⟩ := e; exact h (k, u, 0, 0) i
  next => exact h a i
def cpB (hp : HPt) (t u : Nat) : HPt := cpA (cpA (cpN hp t u 8) 2 t u 3) 3 t u 2
def CPS (hp : HPt) (t u : Nat) : HPt := fun a i => if a = (0, t, 0, 0) ∧ 3 ≤ i ∧ i < 10 then hp (0, u, 0, 0) i else cpB hp t u a i
theorem CPS_WT {hp : HPt} {t u : Nat} (h : WT hp) : WT (CPS hp t u) := by
  intro a i
  unfold CPS
  split
  next e => obtain ⟨rfl, -⟩ := e; exact h (0, u, 0, 0) i
  next => exact cpA_WT (cpA_WT (cpN_WT h 8)) a i
theorem cpN_off {hp : HPt} {t u : Nat} {a : A4} {i : Nat} (h : a.2.1 ≠ t ∨ a.1 < 4 ∨ 8 ≤ a.1) : ∀ n, cpN hp t u n a i = hp a i
  | 0 => rfl
  | n + 1 => by
    have ih := cpN_off (hp := hp) (u := u) (i := i) h n
    have h4 : ∀ k j b, 4 ≤ k → k < 8 → ¬ a = (k, t, j, b) := by
      rintro k j b h1 h2 rfl
      simp at h
      omega
    unfold cpN cpS cpH
    simp [h4 4 _ _ (by decide) (by decide), h4 5 _ _ (by decide) (by decide), h4 6 _ _ (by decide) (by decide), h4 7 _ _ (by decide) (by decide), ih]
theorem tX5_copyState {g : Gh} {t u : Nat} {hp : HPt} (ht : t < 10) (hu : u < 10) (htu : t ≠ u) (hW : WT hp) : Cv g mX5_copyState [vR (0, t, 0, 0), vR (0, u, 0, 0)] hp (CPS hp t u) := by
  have hut : ¬ u = t := fun h => htu h.symm
  have fin : V g mX5_copyState 0 0 0 0 609 79 [some (vR (0, t, 0, 0)), some (vR (0, u, 0, 0)), some (vI (nI 2))] [] RP (cpB hp t u) (Pv (CPS hp t u)) := by
    have e0 : ∀ i, cpB hp t u (0, u, 0, 0) i = hp (0, u, 0, 0) i := fun i => by simp [cpB, cpA, cpN_off]
    refine r_aload_n dX5_copyState_79 (i := 0) rfl rfl ?_
    refine r_aload_n dX5_copyState_80 (i := 1) rfl rfl ?_
    refine r_getI dX5_copyState_81 f_5_34 rfl rfl (lv0 (by first | assumption | decide | omega)) ?_
    refine r_putI dX5_copyState_84 f_5_34 rfl rfl (lv0 (by first | assumption | decide | omega)) ⟨rfl, rfl⟩ ?_
    refine r_aload_n dX5_copyState_87 (i := 0) rfl rfl ?_
    refine r_aload_n dX5_copyState_88 (i := 1) rfl rfl ?_
    refine r_getI dX5_copyState_89 f_5_25 rfl rfl (lv0 (by first | assumption | decide | omega)) ?_
    refine r_putI dX5_copyState_92 f_5_25 rfl rfl (lv0 (by first | assumption | decide | omega)) ⟨rfl, rfl⟩ ?_
    refine r_aload_n dX5_copyState_95 (i := 0) rfl rfl ?_
    refine r_aload_n dX5_copyState_96 (i := 1) rfl rfl ?_
    refine r_getI dX5_copyState_97 f_5_37 rfl rfl (lv0 (by first | assumption | decide | omega)) ?_
    refine r_putI dX5_copyState_100 f_5_37 rfl rfl (lv0 (by first | assumption | decide | omega)) ⟨rfl, rfl⟩ ?_
    refine r_aload_n dX5_copyState_103 (i := 0) rfl rfl ?_
    refine r_aload_n dX5_copyState_104 (i := 1) rfl rfl ?_
    refine r_getI dX5_copyState_105 f_5_40 rfl rfl (lv0 (by first | assumption | decide | omega)) ?_
    refine r_putI dX5_copyState_108 f_5_40 rfl rfl (lv0 (by first | assumption | decide | omega)) ⟨rfl, rfl⟩ ?_
    refine r_aload_n dX5_copyState_111 (i := 0) rfl rfl ?_
    refine r_aload_n dX5_copyState_112 (i := 1) rfl rfl ?_
    refine r_getI dX5_copyState_113 f_5_43 rfl rfl (lv0 (by first | assumption | decide | omega)) ?_
    refine r_putI dX5_copyState_116 f_5_43 rfl rfl (lv0 (by first | assumption | decide | omega)) ⟨rfl, rfl⟩ ?_
    refine r_aload_n dX5_copyState_119 (i := 0) rfl rfl ?_
    refine r_aload_n dX5_copyState_120 (i := 1) rfl rfl ?_
    refine r_getI dX5_copyState_121 f_5_46 rfl rfl (lv0 (by first | assumption | decide | omega)) ?_
    refine r_putI dX5_copyState_124 f_5_46 rfl rfl (lv0 (by first | assumption | decide | omega)) ⟨rfl, rfl⟩ ?_
    refine r_aload_n dX5_copyState_127 (i := 0) rfl rfl ?_
    refine r_aload_n dX5_copyState_128 (i := 1) rfl rfl ?_
    refine r_getI dX5_copyState_129 f_5_49 rfl rfl (lv0 (by first | assumption | decide | omega)) ?_
    refine r_putI dX5_copyState_132 f_5_49 rfl rfl (lv0 (by first | assumption | decide | omega)) ⟨rfl, rfl⟩ ?_
    refine e_v dX5_copyState_135 rfl ?_
    funext a i
    unfold CPS
    by_cases h5 : a = (0, t, 0, 0)
    · subst h5
      by_cases hi : 3 ≤ i ∧ i < 10
      · have : i = 3 ∨ i = 4 ∨ i = 5 ∨ i = 6 ∨ i = 7 ∨ i = 8 ∨ i = 9 := by omega
        rcases this with rfl | rfl | rfl | rfl | rfl | rfl | rfl <;> simp [hset, hut, e0]
      · have h2 : i ≠ 3 ∧ i ≠ 4 ∧ i ≠ 5 ∧ i ≠ 6 ∧ i ≠ 7 ∧ i ≠ 8 ∧ i ≠ 9 := by omega
        simp [hset, h2, hi]
    · simp [hset, h5]
  have l3 : ∀ m r, r + m = 2 → V g mX5_copyState 0 0 0 0 609 56 [some (vR (0, t, 0, 0)), some (vR (0, u, 0, 0)), some (vI (nI r))] [] RP (cpA (cpA (cpN hp t u 8) 2 t u 3) 3 t u r) (Pv (CPS hp t u)) := by
    intro m
    induction m with
    | zero =>
      intro r hr
      have hr : r = 2 := by omega
      subst hr
      refine r_iload_n dX5_copyState_56 (i := 2) rfl rfl ?_
      refine r_iconst dX5_copyState_57 (v := 2) rfl ?_
      refine r_icmp_ge dX5_copyState_58 (tgt := 79) rfl (fun _ => ?_) (fun h58 => absurd ((by decide : (2 : Int32) ≤ nI 2)) h58)
      exact fin
    | succ m ih =>
      intro r hr
      have hr2 : r < 2 := by omega
      have h := ih (r + 1) (by omega)
      rw [nI_succ] at h
      refine r_iload_n dX5_copyState_56 (i := 2) rfl rfl ?_
      refine r_iconst dX5_copyState_57 (v := 2) rfl ?_
      refine r_icmp_ge dX5_copyState_58 (tgt := 79) rfl (fun h58 => absurd h58 ((nI_ge (b := 2) hr2 (by decide) : ¬ (2 : Int32) ≤ nI r))) (fun _ => ?_)
      refine r_aload_n dX5_copyState_61 (i := 0) rfl rfl ?_
      refine r_getR dX5_copyState_62 f_5_21 rfl rfl rfl (lv0 (by first | assumption | decide | omega)) ?_
      refine r_iload_n dX5_copyState_65 (i := 2) rfl rfl ?_
      refine r_aload_n dX5_copyState_66 (i := 1) rfl rfl ?_
      refine r_getR dX5_copyState_67 f_5_21 rfl rfl rfl (lv0 (by first | assumption | decide | omega)) ?_
      refine r_iload_n dX5_copyState_70 (i := 2) rfl rfl ?_
      refine n_zald dX5_copyState_71 rfl (lv3 (by first | assumption | decide | omega)) rfl (by first | assumption | omega | (unfold cI; omega)) ?_
      refine n_zast dX5_copyState_72 rfl (lv3 (by first | assumption | decide | omega)) (k := r) rfl hr2 ((cpA_WT (cpA_WT (cpN_WT hW 8))).vp rfl) ?_
      refine V.eqH (cpA_set htu) ?_
      refine r_inc1 dX5_copyState_73 rfl (Nat.le_of_ble_eq_true rfl) rfl ?_
      refine r_goto dX5_copyState_76 (tgt := 56) rfl ?_
      exact h
  have l2 : ∀ m r, r + m = 3 → V g mX5_copyState 0 0 0 0 609 31 [some (vR (0, t, 0, 0)), some (vR (0, u, 0, 0)), some (vI (nI r))] [] RP (cpA (cpN hp t u 8) 2 t u r) (Pv (CPS hp t u)) := by
    intro m
    induction m with
    | zero =>
      intro r hr
      have hr : r = 3 := by omega
      subst hr
      have h := l3 2 0 rfl
      rw [cpA_0] at h
      refine r_iload_n dX5_copyState_31 (i := 2) rfl rfl ?_
      refine r_iconst dX5_copyState_32 (v := 3) rfl ?_
      refine r_icmp_ge dX5_copyState_33 (tgt := 54) rfl (fun _ => ?_) (fun h33 => absurd ((by decide : (3 : Int32) ≤ nI 3)) h33)
      refine r_iconst dX5_copyState_54 (v := 0) rfl ?_
      refine r_istore_n dX5_copyState_55 (i := 2) rfl (Nat.le_of_ble_eq_true rfl) rfl rfl ?_
      exact h
    | succ m ih =>
      intro r hr
      have hr3 : r < 3 := by omega
      have h := ih (r + 1) (by omega)
      rw [nI_succ] at h
      refine r_iload_n dX5_copyState_31 (i := 2) rfl rfl ?_
      refine r_iconst dX5_copyState_32 (v := 3) rfl ?_
      refine r_icmp_ge dX5_copyState_33 (tgt := 54) rfl (fun h33 => absurd h33 ((nI_ge (b := 3) hr3 (by decide) : ¬ (3 : Int32) ≤ nI r))) (fun _ => ?_)
      refine r_aload_n dX5_copyState_36 (i := 0) rfl rfl ?_
      refine r_getR dX5_copyState_37 f_5_17 rfl rfl rfl (lv0 (by first | assumption | decide | omega)) ?_
      refine r_iload_n dX5_copyState_40 (i := 2) rfl rfl ?_
      refine r_aload_n dX5_copyState_41 (i := 1) rfl rfl ?_
      refine r_getR dX5_copyState_42 f_5_17 rfl rfl rfl (lv0 (by first | assumption | decide | omega)) ?_
      refine r_iload_n dX5_copyState_45 (i := 2) rfl rfl ?_
      refine n_iald dX5_copyState_46 rfl (lv2 (by first | assumption | decide | omega)) rfl (by first | assumption | omega | (unfold cI; omega)) ?_
      refine n_iast dX5_copyState_47 rfl (lv2 (by first | assumption | decide | omega)) rfl (by first | assumption | omega | (unfold cI; omega)) ?_
      refine V.eqH (cpA_set htu) ?_
      refine r_inc1 dX5_copyState_48 rfl (Nat.le_of_ble_eq_true rfl) rfl ?_
      refine r_goto dX5_copyState_51 (tgt := 31) rfl ?_
      exact h
  have l1 : ∀ m r, r + m = 8 → V g mX5_copyState 0 0 0 0 609 2 [some (vR (0, t, 0, 0)), some (vR (0, u, 0, 0)), some (vI (nI r))] [] RP (cpN hp t u r) (Pv (CPS hp t u)) := by
    intro m
    induction m with
    | zero =>
      intro r hr
      have hr : r = 8 := by omega
      subst hr
      have h := l2 3 0 rfl
      rw [cpA_0] at h
      refine r_iload_n dX5_copyState_2 (i := 2) rfl rfl ?_
      refine r_bipush dX5_copyState_3 (v := 8) rfl ?_
      refine r_icmp_ge dX5_copyState_5 (tgt := 29) rfl (fun _ => ?_) (fun h5 => absurd ((by decide : (8 : Int32) ≤ nI 8)) h5)
      refine r_iconst dX5_copyState_29 (v := 0) rfl ?_
      refine r_istore_n dX5_copyState_30 (i := 2) rfl (Nat.le_of_ble_eq_true rfl) rfl rfl ?_
      exact h
    | succ m ih =>
      intro r hr
      have hr8 : r < 8 := by omega
      have h := ih (r + 1) (by omega)
      rw [nI_succ] at h
      refine r_iload_n dX5_copyState_2 (i := 2) rfl rfl ?_
      refine r_bipush dX5_copyState_3 (v := 8) rfl ?_
      refine r_icmp_ge dX5_copyState_5 (tgt := 29) rfl (fun h5 => absurd h5 ((nI_ge (b := 8) hr8 (by decide) : ¬ (8 : Int32) ≤ nI r))) (fun _ => ?_)
      refine r_aload_n dX5_copyState_8 (i := 0) rfl rfl ?_
      refine r_getR dX5_copyState_9 f_5_11 rfl rfl rfl (lv0 (by first | assumption | decide | omega)) ?_
      refine r_iload_n dX5_copyState_12 (i := 2) rfl rfl ?_
      refine n_aald dX5_copyState_13 rfl (lv1 (by first | assumption | decide | omega)) rfl (by first | assumption | omega | (unfold cI; omega)) rfl ?_
      refine r_aload_n dX5_copyState_14 (i := 1) rfl rfl ?_
      refine r_getR dX5_copyState_15 f_5_11 rfl rfl rfl (lv0 (by first | assumption | decide | omega)) ?_
      refine r_iload_n dX5_copyState_18 (i := 2) rfl rfl ?_
      refine n_aald dX5_copyState_19 rfl (lv1 (by first | assumption | decide | omega)) rfl (by first | assumption | omega | (unfold cI; omega)) rfl ?_
      refine sX5_copyState_20 (Nat.le_refl _) (Nat.le_refl _) rfl (lv4 (by first | assumption | decide | omega) (by first | assumption | decide | omega)) (Nat.le_of_ble_eq_true rfl) (tX4_copySecret ht hu htu hr8 (cpN_WT hW r)) ?_
      refine r_inc1 dX5_copyState_23 rfl (Nat.le_of_ble_eq_true rfl) rfl ?_
      refine r_goto dX5_copyState_26 (tgt := 2) rfl ?_
      exact h
  unfold Cv
  refine r_iconst dX5_copyState_0 (v := 0) rfl ?_
  refine r_istore_n dX5_copyState_1 (i := 2) rfl (Nat.le_of_ble_eq_true rfl) rfl rfl ?_
  exact l1 8 0 rfl
/-- what the copy holds -/
theorem cpN_on {hp : HPt} {t u k j b : Nat} {i : Nat} (htu : t ≠ u) (hr : (k = 4 ∧ b = 0 ∧ 2 ≤ i ∧ i < 10) ∨ (k = 5 ∧ b < 2 ∧ 2 ≤ i ∧ i < 7) ∨ ((k = 6 ∨ k = 7) ∧ b < 2 ∧ i < 5)) : ∀ n, cpN hp t u n (k, t, j, b) i = if j < n then hp (k, u, j, b) i else hp (k, t, j, b) i
  | 0 => by simp [cpN]
  | n + 1 => by
    have hut : ¬ u = t := fun h => htu h.symm
    have ih := cpN_on (hp := hp) (j := j) htu hr n
    have iu : ∀ k2 j2 b2 i2, cpN hp t u n (k2, u, j2, b2) i2 = hp (k2, u, j2, b2) i2 := fun k2 j2 b2 i2 => cpN_off (Or.inl hut) n
    unfold cpN cpS cpH
    by_cases hj : j = n
    · subst hj
      simp only [show j < j + 1 by omega, if_true]
      rcases hr with ⟨rfl, rfl, h1, h2⟩ | ⟨rfl, hb, h1, h2⟩ | ⟨hk, hb, h1⟩
      · simp [h1, h2, iu]
      · have : b = 0 ∨ b = 1 := by omega
        rcases this with rfl | rfl <;> simp [h1, h2, iu, hut]
      · have : b = 0 ∨ b = 1 := by omega
        rcases hk with rfl | rfl <;> rcases this with rfl | rfl <;> simp [h1, iu, hut]
    · have hlt : (j < n + 1) = (j < n) := by
        apply propext
        omega
      simp only [hlt]
      simp [hj, ih]
theorem CPS_on {hp : HPt} {t u k j b : Nat} {i : Nat} (htu : t ≠ u) (hj : j < 8) (hr : (k = 4 ∧ b = 0 ∧ 2 ≤ i ∧ i < 10) ∨ (k = 5 ∧ b < 2 ∧ 2 ≤ i ∧ i < 7) ∨ ((k = 6 ∨ k = 7) ∧ b < 2 ∧ i < 5)) : CPS hp t u (k, t, j, b) i = hp (k, u, j, b) i := by
  have h := cpN_on (hp := hp) (j := j) htu hr 8
  rw [if_pos hj] at h
  have hk : ¬ k = 0 ∧ ¬ k = 2 ∧ ¬ k = 3 := by omega
  simp [CPS, cpB, cpA, hk, h]
theorem CPS_0 {hp : HPt} {t u i : Nat} (h1 : 3 ≤ i) (h2 : i < 10) : CPS hp t u (0, t, 0, 0) i = hp (0, u, 0, 0) i := by simp [CPS, h1, h2]
theorem CPS_2 {hp : HPt} {t u i : Nat} (htu : t ≠ u) (h1 : i < 3) : CPS hp t u (2, t, 0, 0) i = hp (2, u, 0, 0) i := by
  have e : cpN hp t u 8 (2, u, 0, 0) i = hp (2, u, 0, 0) i := cpN_off (Or.inr (Or.inl (show (2 : Nat) < 4 by decide))) 8
  simp [CPS, cpB, cpA, h1, e]
theorem CPS_3 {hp : HPt} {t u i : Nat} (htu : t ≠ u) (h1 : i < 2) : CPS hp t u (3, t, 0, 0) i = hp (3, u, 0, 0) i := by
  have e : cpN hp t u 8 (3, u, 0, 0) i = hp (3, u, 0, 0) i := cpN_off (Or.inr (Or.inl (show (3 : Nat) < 4 by decide))) 8
  simp [CPS, cpB, cpA, h1, e]
theorem CPS_off {hp : HPt} {t u : Nat} {a : A4} {i : Nat} (h : a.2.1 ≠ t ∨ 8 ≤ a.1) : CPS hp t u a i = hp a i := by
  have e : cpN hp t u 8 a i = hp a i := cpN_off (by rcases h with h | h; exact Or.inl h; exact Or.inr (Or.inr h)) 8
  have h4 : ∀ k j b, k < 8 → ¬ a = (k, t, j, b) := by
    rintro k j b h2 rfl
    simp at h
    omega
  simp [CPS, cpB, cpA, h4 0 _ _ (by decide), h4 2 _ _ (by decide), h4 3 _ _ (by decide), e]
end
section
theorem dr_WT {hp : HPt} {t : Nat} (h : WT hp) : WT (dr hp t) := h.set (okv_free rfl rfl)
theorem MV_WT {hp : HPt} {t j : Nat} {v : Int32} (h : WT hp) : WT (MV hp t j v) := by
  have h1 : WT (mv1 hp t j v) := ((dr_WT h).set (okv_free rfl rfl)).set (okv_free rfl rfl)
  have h2 : ∀ (H : HPt) (b : Nat), WT H → WT (mv2 H t j b) := fun H b hH => (dr_WT hH).set (okv_free rfl rfl)
  have h3 : ∀ (H : HPt) (b : Nat), WT H → WT (mv3 H t j b) := fun H b hH => (dr_WT hH).set (okv_free rfl rfl)
  have h4 : ∀ (H : HPt) (b : Nat), WT H → WT (mv4 H t j b) := fun H b hH => hH.set (okv_free rfl rfl)
  have h5 : ∀ (H : HPt), WT H → WT (mv5 H t j) := fun H hH => hH.set (okv_free rfl rfl)
  have h6 : ∀ (H : HPt), WT H → WT (mv6 H t) := fun H hH => hH.set (okv_free rfl rfl)
  exact h6 _ (h5 _ (h4 _ _ (h4 _ _ (h3 _ _ (h2 _ _ (h3 _ _ (h2 _ _ h1)))))))
theorem MN_WT {hp : HPt} {t j : Nat} (h : WT hp) : WT (MN hp t j) := MV_WT (((frS_WT h).set (okv_free rfl rfl)).set (okv_free rfl rfl))
/-- cells of a Stores outside of a version's making stay -/
theorem MV_off {hp : HPt} {t j : Nat} {v : Int32} {a : A4} {i : Nat} (h0 : a = (0, t, 0, 0) → i ≠ 4 ∧ i ≠ 6) (h4 : a = (4, t, j, 0) → i ≠ 2) (h5 : ∀ b, a ≠ (5, t, j, b)) (h6 : ∀ b, a ≠ (6, t, j, b)) : MV hp t j v a i = hp a i := by
  by_cases e0 : a = (0, t, 0, 0)
  · have h := h0 e0
    subst e0
    simp [MV, mv1, mv2, mv3, mv4, mv5, mv6, dr, hset, h]
  · by_cases e4 : a = (4, t, j, 0)
    · have h := h4 e4
      subst e4
      simp [MV, mv1, mv2, mv3, mv4, mv5, mv6, dr, hset, h]
    · simp [MV, mv1, mv2, mv3, mv4, mv5, mv6, dr, hset, e0, e4, h5, h6]
theorem frS_off {hp : HPt} {t j : Nat} {a : A4} {i : Nat} (h6 : ∀ b, a ≠ (6, t, j, b)) (h7 : ∀ b, a ≠ (7, t, j, b)) : frS hp t j a i = hp a i := by
  simp [frS, frH, shR, hset, h6, h7]
theorem MN_off {hp : HPt} {t j : Nat} {a : A4} {i : Nat} (h0 : a = (0, t, 0, 0) → i ≠ 4 ∧ i ≠ 6 ∧ i ≠ 7) (h4 : a = (4, t, j, 0) → i ≠ 2 ∧ i ≠ 3) (h5 : ∀ b, a ≠ (5, t, j, b)) (h6 : ∀ b, a ≠ (6, t, j, b)) (h7 : ∀ b, a ≠ (7, t, j, b)) : MN hp t j a i = hp a i := by
  unfold MN
  rw [MV_off (fun e => ⟨(h0 e).1, (h0 e).2.1⟩) (fun e => (h4 e).1) h5 h6]
  unfold mn1
  by_cases e0 : a = (0, t, 0, 0)
  · have h := h0 e0
    subst e0
    simp [hset, h, frS_off]
  · by_cases e4 : a = (4, t, j, 0)
    · have h := h4 e4
      subst e4
      simp [hset, h, frS_off]
    · simp [hset, e0, e4, frS_off h6 h7]
/-- a beat passes: for the first i secrets -/
def p1 (hp : HPt) (t : Nat) : Nat → HPt
  | 0 => hp
  | i + 1 => hset (p1 hp t i) (4, t, i, 0) 5 (if 0 < p1 hp t i (4, t, i, 0) 5 - 1 then p1 hp t i (4, t, i, 0) 5 - 1 else 0)
theorem p1_WT {hp : HPt} {t : Nat} (h : WT hp) : ∀ i, WT (p1 hp t i)
  | 0 => h
  | i + 1 => (p1_WT h i).set (okv_free rfl rfl)
theorem p1_off {hp : HPt} {t : Nat} {a : A4} {k : Nat} (h : a.1 ≠ 4 ∨ k ≠ 5) : ∀ i, p1 hp t i a k = hp a k
  | 0 => rfl
  | i + 1 => by
    have ih := p1_off (hp := hp) (t := t) h i
    have h2 : ¬ (a = (4, t, i, 0) ∧ k = 5) := by
      rintro ⟨rfl, rfl⟩
      simp at h
    show hset _ _ _ _ a k = _
    unfold hset
    rw [if_neg h2, ih]
def p2 (hp : HPt) (t n : Nat) : HPt := hset (p1 hp t n) (0, t, 0, 0) 5 (hp (0, t, 0, 0) 5 + 1)
/-- all secrets are refreshed, but those whose version would be above 999 -/
def q1 (hp : HPt) (t : Nat) : Nat → HPt
  | 0 => hp
  | i + 1 => if 999 ≤ q1 hp t i (4, t, i, 0) 2 then q1 hp t i else MN (q1 hp t i) t i
theorem q1_WT {hp : HPt} {t : Nat} (h : WT hp) : ∀ i, WT (q1 hp t i)
  | 0 => h
  | i + 1 => by
    unfold q1
    split
    · exact q1_WT h i
    · exact MN_WT (q1_WT h i)
theorem q1_0 {hp : HPt} {t : Nat} {k : Nat} (h : k ≠ 4 ∧ k ≠ 6 ∧ k ≠ 7) : ∀ i, q1 hp t i (0, t, 0, 0) k = hp (0, t, 0, 0) k
  | 0 => rfl
  | i + 1 => by
    unfold q1
    split
    · exact q1_0 h i
    · rw [MN_off (fun _ => h) (by simp) (by simp) (by simp) (by simp)]
      exact q1_0 h i
def fSkip (hp : HPt) (t : Nat) : Bool := decide (hp (2, t, 0, 0) 1 = 0) || !decide (jrem (hp (0, t, 0, 0) 5) (hp (2, t, 0, 0) 1) = 0) || fSlp hp t
def PB (hp : HPt) (t n : Nat) : HPt := if fSkip (p2 hp t n) t = true then p2 hp t n else q1 (p2 hp t n) t n
theorem p2_WT {hp : HPt} {t n : Nat} (h : WT hp) : WT (p2 hp t n) := (p1_WT h n).set (okv_free rfl rfl)
theorem PB_WT {hp : HPt} {t n : Nat} (h : WT hp) : WT (PB hp t n) := by
  unfold PB
  split
  · exact p2_WT h
  · exact q1_WT (p2_WT h) n
theorem tX5_passOneBeat {g : Gh} {t n : Nat} {hp : HPt} (ht : t < 10) (hn : n ≤ 8) (hN : hp (0, t, 0, 0) 3 = nI n) (hW : WT hp) : Cv g mX5_passOneBeat [vR (0, t, 0, 0)] hp (PB hp t n) := by
  have hN1 : ∀ r, p1 hp t r (0, t, 0, 0) 3 = nI n := fun r => by rw [p1_off (by simp)]; exact hN
  have hN2 : p2 hp t n (0, t, 0, 0) 3 = nI n := by
    unfold p2
    rw [hs_i (by decide)]
    exact hN1 n
  have hN3 : ∀ r, q1 (p2 hp t n) t r (0, t, 0, 0) 3 = nI n := fun r => by rw [q1_0 (by decide)]; exact hN2
  have k2 : fSkip (p2 hp t n) t = false → ∀ k r, r + k = n → V g mX5_passOneBeat 0 0 0 0 609 83 [some (vR (0, t, 0, 0)), some (vI (nI r))] [] RP (q1 (p2 hp t n) t r) (Pv (PB hp t n)) := by
    intro hs k
    induction k with
    | zero =>
      intro r hr
      have hr : r = n := by omega
      subst hr
      refine r_iload_n dX5_passOneBeat_83 (i := 1) rfl rfl ?_
      refine r_aload_n dX5_passOneBeat_84 (i := 0) rfl rfl ?_
      refine r_getI dX5_passOneBeat_85 f_5_34 rfl rfl (lv0 (by first | assumption | decide | omega)) ?_
      refine r_icmp_ge dX5_passOneBeat_88 (tgt := 122) rfl (fun _ => ?_) (fun h88 => absurd ((by rw [hN3]; exact Int32.le_refl _)) h88)
      exact e_v dX5_passOneBeat_122 rfl (by simp [PB, hs])
    | succ k ih =>
      intro r hr
      have hr8 : r < 8 := by omega
      have h := ih (r + 1) (by omega)
      rw [nI_succ] at h
      refine r_iload_n dX5_passOneBeat_83 (i := 1) rfl rfl ?_
      refine r_aload_n dX5_passOneBeat_84 (i := 0) rfl rfl ?_
      refine r_getI dX5_passOneBeat_85 f_5_34 rfl rfl (lv0 (by first | assumption | decide | omega)) ?_
      refine r_icmp_ge dX5_passOneBeat_88 (tgt := 122) rfl (fun h88 => absurd h88 ((by rw [hN3]; exact nI_ge (by omega) (by omega)))) (fun _ => ?_)
      refine r_aload_n dX5_passOneBeat_91 (i := 0) rfl rfl ?_
      refine r_getR dX5_passOneBeat_92 f_5_11 rfl rfl rfl (lv0 (by first | assumption | decide | omega)) ?_
      refine r_iload_n dX5_passOneBeat_95 (i := 1) rfl rfl ?_
      refine n_aald dX5_passOneBeat_96 rfl (lv1 (by first | assumption | decide | omega)) rfl (by first | assumption | omega | (unfold cI; omega)) rfl ?_
      refine r_getI dX5_passOneBeat_97 f_5_59 rfl rfl (lv4 (by first | assumption | decide | omega) (by first | assumption | decide | omega)) ?_
      refine r_sipush dX5_passOneBeat_100 (v := 999) rfl ?_
      refine r_icmp_ge dX5_passOneBeat_103 (tgt := 116) rfl (fun h103 => ?_) (fun h103 => ?_)
      · refine V.eqH (hp2 := q1 (p2 hp t n) t (r + 1)) (by simp [q1, h103]) ?_
        refine r_inc1 dX5_passOneBeat_116 rfl (Nat.le_of_ble_eq_true rfl) rfl ?_
        refine r_goto dX5_passOneBeat_119 (tgt := 83) rfl ?_
        exact h
      · refine r_aload_n dX5_passOneBeat_106 (i := 0) rfl rfl ?_
        refine r_aload_n dX5_passOneBeat_107 (i := 0) rfl rfl ?_
        refine r_getR dX5_passOneBeat_108 f_5_11 rfl rfl rfl (lv0 (by first | assumption | decide | omega)) ?_
        refine r_iload_n dX5_passOneBeat_111 (i := 1) rfl rfl ?_
        refine n_aald dX5_passOneBeat_112 rfl (lv1 (by first | assumption | decide | omega)) rfl (by first | assumption | omega | (unfold cI; omega)) rfl ?_
        refine sX5_passOneBeat_113 (Nat.le_refl _) (Nat.le_refl _) rfl (lv0 (by first | assumption | decide | omega)) (Nat.le_of_ble_eq_true rfl) (tX5_makeNextVersion ht hr8 (q1_WT (p2_WT hW) r)) ?_
        refine V.eqH (hp2 := q1 (p2 hp t n) t (r + 1)) (by simp [q1, h103]) ?_
        refine r_inc1 dX5_passOneBeat_116 rfl (Nat.le_of_ble_eq_true rfl) rfl ?_
        refine r_goto dX5_passOneBeat_119 (tgt := 83) rfl ?_
        exact h
  have mid : V g mX5_passOneBeat 0 0 0 0 609 40 [some (vR (0, t, 0, 0)), some (vI (nI n))] [] RP (p1 hp t n) (Pv (PB hp t n)) := by
    refine r_aload_n dX5_passOneBeat_40 (i := 0) rfl rfl ?_
    refine r_dup dX5_passOneBeat_41 rfl ?_
    refine r_getI dX5_passOneBeat_42 f_5_37 rfl rfl (lv0 (by first | assumption | decide | omega)) ?_
    refine r_iconst dX5_passOneBeat_45 (v := 1) rfl ?_
    refine r_iadd dX5_passOneBeat_46 ?_
    refine r_putI dX5_passOneBeat_47 f_5_37 rfl rfl (lv0 (by first | assumption | decide | omega)) ⟨rfl, rfl⟩ ?_
    refine V.eqH (hp2 := p2 hp t n) (by unfold p2; rw [p1_off (by simp)]) ?_
    refine r_aload_n dX5_passOneBeat_50 (i := 0) rfl rfl ?_
    refine r_getR dX5_passOneBeat_51 f_5_17 rfl rfl rfl (lv0 (by first | assumption | decide | omega)) ?_
    refine r_iconst dX5_passOneBeat_54 (v := 1) rfl ?_
    refine n_iald dX5_passOneBeat_55 rfl (lv2 (by first | assumption | decide | omega)) (k := 1) rfl (by decide) ?_
    refine r_if_eq dX5_passOneBeat_56 (tgt := 80) rfl (fun h56 => ?_) (fun h56 => ?_)
    · refine e_v dX5_passOneBeat_80 rfl ?_
      simp_all [PB, fSkip, bi]
    · refine r_aload_n dX5_passOneBeat_59 (i := 0) rfl rfl ?_
      refine r_getI dX5_passOneBeat_60 f_5_37 rfl rfl (lv0 (by first | assumption | decide | omega)) ?_
      refine r_aload_n dX5_passOneBeat_63 (i := 0) rfl rfl ?_
      refine r_getR dX5_passOneBeat_64 f_5_17 rfl rfl rfl (lv0 (by first | assumption | decide | omega)) ?_
      refine r_iconst dX5_passOneBeat_67 (v := 1) rfl ?_
      refine n_iald dX5_passOneBeat_68 rfl (lv2 (by first | assumption | decide | omega)) (k := 1) rfl (by decide) ?_
      refine r_irem dX5_passOneBeat_69 h56 ?_
      refine r_if_ne dX5_passOneBeat_70 (tgt := 80) rfl (fun h70 => ?_) (fun h70 => ?_)
      · refine e_v dX5_passOneBeat_80 rfl ?_
        simp_all [PB, fSkip, bi]
      · refine r_aload_n dX5_passOneBeat_73 (i := 0) rfl rfl ?_
        refine sX5_passOneBeat_74 (Nat.le_refl _) (Nat.le_refl _) rfl (lv0 (by first | assumption | decide | omega)) (Nat.le_of_ble_eq_true rfl) (tX5_someStoreSleeps ht) ?_
        refine r_if_eq dX5_passOneBeat_77 (tgt := 81) rfl (fun h77 => ?_) (fun h77 => ?_)
        · refine r_iconst dX5_passOneBeat_81 (v := 0) rfl ?_
          refine r_istore_n dX5_passOneBeat_82 (i := 1) rfl (Nat.le_of_ble_eq_true rfl) rfl rfl ?_
          exact k2 (by simp_all [fSkip, bi]) n 0 (by omega)
        · refine e_v dX5_passOneBeat_80 rfl ?_
          simp_all [PB, fSkip, bi]
  have k1 : ∀ k r, r + k = n → V g mX5_passOneBeat 0 0 0 0 609 2 [some (vR (0, t, 0, 0)), some (vI (nI r))] [] RP (p1 hp t r) (Pv (PB hp t n)) := by
    intro k
    induction k with
    | zero =>
      intro r hr
      have hr : r = n := by omega
      subst hr
      refine r_iload_n dX5_passOneBeat_2 (i := 1) rfl rfl ?_
      refine r_aload_n dX5_passOneBeat_3 (i := 0) rfl rfl ?_
      refine r_getI dX5_passOneBeat_4 f_5_34 rfl rfl (lv0 (by first | assumption | decide | omega)) ?_
      refine r_icmp_ge dX5_passOneBeat_7 (tgt := 40) rfl (fun _ => ?_) (fun h7 => absurd ((by rw [hN1]; exact Int32.le_refl _)) h7)
      exact mid
    | succ k ih =>
      intro r hr
      have hr8 : r < 8 := by omega
      have h := ih (r + 1) (by omega)
      rw [nI_succ] at h
      refine r_iload_n dX5_passOneBeat_2 (i := 1) rfl rfl ?_
      refine r_aload_n dX5_passOneBeat_3 (i := 0) rfl rfl ?_
      refine r_getI dX5_passOneBeat_4 f_5_34 rfl rfl (lv0 (by first | assumption | decide | omega)) ?_
      refine r_icmp_ge dX5_passOneBeat_7 (tgt := 40) rfl (fun h7 => absurd h7 ((by rw [hN1]; exact nI_ge (by omega) (by omega)))) (fun _ => ?_)
      refine r_aload_n dX5_passOneBeat_10 (i := 0) rfl rfl ?_
      refine r_getR dX5_passOneBeat_11 f_5_11 rfl rfl rfl (lv0 (by first | assumption | decide | omega)) ?_
      refine r_iload_n dX5_passOneBeat_14 (i := 1) rfl rfl ?_
      refine n_aald dX5_passOneBeat_15 rfl (lv1 (by first | assumption | decide | omega)) rfl (by first | assumption | omega | (unfold cI; omega)) rfl ?_
      refine r_iconst dX5_passOneBeat_16 (v := 0) rfl ?_
      refine r_aload_n dX5_passOneBeat_17 (i := 0) rfl rfl ?_
      refine r_getR dX5_passOneBeat_18 f_5_11 rfl rfl rfl (lv0 (by first | assumption | decide | omega)) ?_
      refine r_iload_n dX5_passOneBeat_21 (i := 1) rfl rfl ?_
      refine n_aald dX5_passOneBeat_22 rfl (lv1 (by first | assumption | decide | omega)) rfl (by first | assumption | omega | (unfold cI; omega)) rfl ?_
      refine r_getI dX5_passOneBeat_23 f_5_164 rfl rfl (lv4 (by first | assumption | decide | omega) (by first | assumption | decide | omega)) ?_
      refine r_iconst dX5_passOneBeat_26 (v := 1) rfl ?_
      refine r_isub dX5_passOneBeat_27 ?_
      refine sX5_passOneBeat_28 (Nat.le_refl _) (Nat.le_refl _) (Nat.le_of_ble_eq_true rfl) (tJ9_max) ?_
      refine r_putI dX5_passOneBeat_31 f_5_164 rfl rfl (lv4 (by first | assumption | decide | omega) (by first | assumption | decide | omega)) ⟨rfl, rfl⟩ ?_
      refine r_inc1 dX5_passOneBeat_34 rfl (Nat.le_of_ble_eq_true rfl) rfl ?_
      refine r_goto dX5_passOneBeat_37 (tgt := 2) rfl ?_
      exact h
  unfold Cv
  refine r_iconst dX5_passOneBeat_0 (v := 0) rfl ?_
  refine r_istore_n dX5_passOneBeat_1 (i := 1) rfl (Nat.le_of_ble_eq_true rfl) rfl rfl ?_
  exact k1 n 0 (by omega)
def PBs (hp : HPt) (t n : Nat) : Nat → HPt
  | 0 => hp
  | k + 1 => PB (PBs hp t n k) t n
theorem PB_0 {hp : HPt} {t n k : Nat} (h : k ≠ 4 ∧ k ≠ 5 ∧ k ≠ 6 ∧ k ≠ 7) : PB hp t n (0, t, 0, 0) k = hp (0, t, 0, 0) k := by
  have h2 : p2 hp t n (0, t, 0, 0) k = hp (0, t, 0, 0) k := by
    unfold p2
    rw [hs_i h.2.1, p1_off (by simp)]
  unfold PB
  split
  · exact h2
  · rw [q1_0 ⟨h.1, h.2.2.1, h.2.2.2⟩]
    exact h2
theorem PBs_WT {hp : HPt} {t n : Nat} (h : WT hp) : ∀ k, WT (PBs hp t n k)
  | 0 => h
  | k + 1 => PB_WT (PBs_WT h k)
theorem PBs_0 {hp : HPt} {t n i : Nat} (h : i ≠ 4 ∧ i ≠ 5 ∧ i ≠ 6 ∧ i ≠ 7) : ∀ k, PBs hp t n k (0, t, 0, 0) i = hp (0, t, 0, 0) i
  | 0 => rfl
  | k + 1 => by
    unfold PBs
    rw [PB_0 h]
    exact PBs_0 h k
theorem tX5_passBeats_e {g : Gh} {t : Nat} {x : Int32} {hp : HPt} (ht : t < 10) (hx : (!decide (x < 1) && decide (x ≤ 99)) = false) : Ci g mX5_passBeats [vR (0, t, 0, 0), vI x] hp (-2) hp := by
  unfold Ci
  refine r_iload_n dX5_passBeats_0 (i := 1) rfl rfl ?_
  refine r_iconst dX5_passBeats_1 (v := 1) rfl ?_
  refine r_icmp_lt dX5_passBeats_2 (tgt := 11) rfl (fun h2 => ?_) (fun h2 => ?_)
  · refine r_bipush dX5_passBeats_11 (v := (-2)) rfl ?_
    exact e_i dX5_passBeats_13 rfl (by first | rfl | exact bi_nar _) (by first | rfl | simp [bi, *]) rfl
  · refine r_iload_n dX5_passBeats_5 (i := 1) rfl rfl ?_
    refine r_bipush dX5_passBeats_6 (v := 99) rfl ?_
    refine r_icmp_le dX5_passBeats_8 (tgt := 14) rfl (fun h8 => ?_) (fun h8 => ?_)
    · simp_all
    · refine r_bipush dX5_passBeats_11 (v := (-2)) rfl ?_
      exact e_i dX5_passBeats_13 rfl (by first | rfl | exact bi_nar _) (by first | rfl | simp [bi, *]) rfl
theorem tX5_passBeats_e2 {g : Gh} {t : Nat} {x : Int32} {hp : HPt} (ht : t < 10) (a1 : ¬ x < 1) (a2 : x ≤ 99) (a3 : ¬ hp (0, t, 0, 0) 5 + x ≤ 9999) : Ci g mX5_passBeats [vR (0, t, 0, 0), vI x] hp (-5) hp := by
  unfold Ci
  refine r_iload_n dX5_passBeats_0 (i := 1) rfl rfl ?_
  refine r_iconst dX5_passBeats_1 (v := 1) rfl ?_
  refine r_icmp_lt dX5_passBeats_2 (tgt := 11) rfl (fun h2 => absurd h2 (a1)) (fun _ => ?_)
  refine r_iload_n dX5_passBeats_5 (i := 1) rfl rfl ?_
  refine r_bipush dX5_passBeats_6 (v := 99) rfl ?_
  refine r_icmp_le dX5_passBeats_8 (tgt := 14) rfl (fun _ => ?_) (fun h8 => absurd (a2) h8)
  refine r_aload_n dX5_passBeats_14 (i := 0) rfl rfl ?_
  refine r_getI dX5_passBeats_15 f_5_37 rfl rfl (lv0 (by first | assumption | decide | omega)) ?_
  refine r_iload_n dX5_passBeats_18 (i := 1) rfl rfl ?_
  refine r_iadd dX5_passBeats_19 ?_
  refine r_sipush dX5_passBeats_20 (v := 9999) rfl ?_
  refine r_icmp_le dX5_passBeats_23 (tgt := 29) rfl (fun h23 => absurd h23 (a3)) (fun _ => ?_)
  refine r_bipush dX5_passBeats_26 (v := (-5)) rfl ?_
  exact e_i dX5_passBeats_28 rfl (by first | rfl | exact bi_nar _) (by first | rfl | simp [bi, *]) rfl
theorem tX5_passBeats {g : Gh} {t n b : Nat} {hp : HPt} (ht : t < 10) (hn : n ≤ 8) (hN : hp (0, t, 0, 0) 3 = nI n) (hW : WT hp) (hb : b < 100) (a1 : ¬ nI b < 1) (a2 : nI b ≤ 99) (a3 : hp (0, t, 0, 0) 5 + nI b ≤ 9999) : Ci g mX5_passBeats [vR (0, t, 0, 0), vI (nI b)] hp (PBs hp t n b (0, t, 0, 0) 6 - hp (0, t, 0, 0) 6) (PBs hp t n b) := by
  have hN1 : ∀ r, PBs hp t n r (0, t, 0, 0) 3 = nI n := fun r => by rw [PBs_0 (by decide)]; exact hN
  have key : ∀ k r, r + k = b → V g mX5_passBeats 0 0 0 0 609 36 [some (vR (0, t, 0, 0)), some (vI (nI b)), some (vI (hp (0, t, 0, 0) 6)), some (vI (nI r))] [] RP (PBs hp t n r) (Pi (PBs hp t n b (0, t, 0, 0) 6 - hp (0, t, 0, 0) 6) (PBs hp t n b)) := by
    intro k
    induction k with
    | zero =>
      intro r hr
      have hr : r = b := by omega
      subst hr
      refine r_iload_n dX5_passBeats_36 (i := 3) rfl rfl ?_
      refine r_iload_n dX5_passBeats_37 (i := 1) rfl rfl ?_
      refine r_icmp_ge dX5_passBeats_38 (tgt := 51) rfl (fun _ => ?_) (fun h38 => absurd (Int32.le_refl _) h38)
      refine r_aload_n dX5_passBeats_51 (i := 0) rfl rfl ?_
      refine r_getI dX5_passBeats_52 f_5_40 rfl rfl (lv0 (by first | assumption | decide | omega)) ?_
      refine r_iload_n dX5_passBeats_55 (i := 2) rfl rfl ?_
      refine r_isub dX5_passBeats_56 ?_
      exact e_i dX5_passBeats_57 rfl (by first | rfl | exact bi_nar _) (by first | rfl | simp [bi, *]) rfl
    | succ k ih =>
      intro r hr
      have h := ih (r + 1) (by omega)
      rw [nI_succ] at h
      refine r_iload_n dX5_passBeats_36 (i := 3) rfl rfl ?_
      refine r_iload_n dX5_passBeats_37 (i := 1) rfl rfl ?_
      refine r_icmp_ge dX5_passBeats_38 (tgt := 51) rfl (fun h38 => absurd h38 (nI_ge (by omega) (by omega))) (fun _ => ?_)
      refine r_aload_n dX5_passBeats_41 (i := 0) rfl rfl ?_
      refine sX5_passBeats_42 (Nat.le_refl _) (Nat.le_refl _) rfl (lv0 (by first | assumption | decide | omega)) (Nat.le_of_ble_eq_true rfl) (tX5_passOneBeat ht hn (hN1 r) (PBs_WT hW r)) ?_
      refine r_inc1 dX5_passBeats_45 rfl (Nat.le_of_ble_eq_true rfl) rfl ?_
      refine r_goto dX5_passBeats_48 (tgt := 36) rfl ?_
      exact h
  unfold Ci
  refine r_iload_n dX5_passBeats_0 (i := 1) rfl rfl ?_
  refine r_iconst dX5_passBeats_1 (v := 1) rfl ?_
  refine r_icmp_lt dX5_passBeats_2 (tgt := 11) rfl (fun h2 => absurd h2 (a1)) (fun _ => ?_)
  refine r_iload_n dX5_passBeats_5 (i := 1) rfl rfl ?_
  refine r_bipush dX5_passBeats_6 (v := 99) rfl ?_
  refine r_icmp_le dX5_passBeats_8 (tgt := 14) rfl (fun _ => ?_) (fun h8 => absurd (a2) h8)
  refine r_aload_n dX5_passBeats_14 (i := 0) rfl rfl ?_
  refine r_getI dX5_passBeats_15 f_5_37 rfl rfl (lv0 (by first | assumption | decide | omega)) ?_
  refine r_iload_n dX5_passBeats_18 (i := 1) rfl rfl ?_
  refine r_iadd dX5_passBeats_19 ?_
  refine r_sipush dX5_passBeats_20 (v := 9999) rfl ?_
  refine r_icmp_le dX5_passBeats_23 (tgt := 29) rfl (fun _ => ?_) (fun h23 => absurd (a3) h23)
  refine r_aload_n dX5_passBeats_29 (i := 0) rfl rfl ?_
  refine r_getI dX5_passBeats_30 f_5_40 rfl rfl (lv0 (by first | assumption | decide | omega)) ?_
  refine r_istore_n dX5_passBeats_33 (i := 2) rfl (Nat.le_of_ble_eq_true rfl) rfl rfl ?_
  refine r_iconst dX5_passBeats_34 (v := 0) rfl ?_
  refine r_istore_n dX5_passBeats_35 (i := 3) rfl (Nat.le_of_ble_eq_true rfl) rfl rfl ?_
  exact key b 0 (by omega)
end
section
theorem jr_nI {a d : Nat} (ha : a < 2 ^ 31) (h0 : 0 < d) (hd : d < 2 ^ 31) : jrem (nI a) (nI d) = nI (a % d) := pk_rem ha h0 hd
/-- the row that the next change's state goes to -/
def hrow (o z : Nat) : Nat := (o + z) % 7
theorem hrow_lt {o z : Nat} : hrow o z < 7 := Nat.mod_lt _ (by decide)
/-- the history's numbers -/
def HN (hp : HPt) (o z : Nat) : Prop := o < 7 ∧ z ≤ 6 ∧ hp (8, 0, 0, 0) 1 = nI o ∧ hp (8, 0, 0, 0) 2 = nI z
theorem tX1_draft {g : Gh} {o z : Nat} {hp : HPt} (hH : HN hp o z) (hW : WT hp) : Cv g mX1_draft [vR (8, 0, 0, 0), vR (0, 0, 0, 0)] hp (CPS hp (hrow o z + 1) 0) := by
  obtain ⟨h1, h2, h3, h4⟩ := hH
  have hr := hrow_lt (o := o) (z := z)
  have e : jrem (hp (8, 0, 0, 0) 1 + hp (8, 0, 0, 0) 2) 7 = nI (hrow o z) := by
    rw [h3, h4, nI_add]
    exact jr_nI (by omega) (by decide) (by decide)
  unfold Cv
  refine r_aload_n dX1_draft_0 (i := 0) rfl rfl ?_
  refine r_getR dX1_draft_1 f_1_11 rfl rfl rfl lv8 ?_
  refine r_aload_n dX1_draft_4 (i := 0) rfl rfl ?_
  refine r_getI dX1_draft_5 f_1_18 rfl rfl lv8 ?_
  refine r_aload_n dX1_draft_8 (i := 0) rfl rfl ?_
  refine r_getI dX1_draft_9 f_1_22 rfl rfl lv8 ?_
  refine r_iadd dX1_draft_12 ?_
  refine r_bipush dX1_draft_13 (v := 7) rfl ?_
  refine r_irem dX1_draft_15 (by decide) ?_
  refine n_aald dX1_draft_16 rfl lv9 (k := hrow o z) e hr rfl ?_
  refine r_aload_n dX1_draft_17 (i := 1) rfl rfl ?_
  refine sX1_draft_18 (Nat.le_refl _) (Nat.le_refl _) rfl (lv0 (by first | assumption | decide | omega)) (Nat.le_of_ble_eq_true rfl) (tX5_copyState (by omega) (by decide) (by omega) hW) ?_
  exact e_v dX1_draft_21 rfl (by first | rfl | simp [hset])
def recH (hp : HPt) (o z : Nat) : HPt := if z < 6 then hset hp (8, 0, 0, 0) 2 (nI (z + 1)) else hset hp (8, 0, 0, 0) 1 (nI ((o + 1) % 7))
theorem tX1_recordDraft {g : Gh} {o z : Nat} {hp : HPt} (hH : HN hp o z) : Cv g mX1_recordDraft [vR (8, 0, 0, 0)] hp (recH hp o z) := by
  obtain ⟨h1, h2, h3, h4⟩ := hH
  unfold Cv
  by_cases hz : z < 6
  · refine r_aload_n dX1_recordDraft_0 (i := 0) rfl rfl ?_
    refine r_getI dX1_recordDraft_1 f_1_22 rfl rfl lv8 ?_
    refine r_bipush dX1_recordDraft_4 (v := 6) rfl ?_
    refine r_icmp_ge dX1_recordDraft_6 (tgt := 22) rfl (fun h6 => absurd h6 ((by rw [h4]; exact nI_ge (b := 6) hz (by decide)))) (fun _ => ?_)
    refine r_aload_n dX1_recordDraft_9 (i := 0) rfl rfl ?_
    refine r_dup dX1_recordDraft_10 rfl ?_
    refine r_getI dX1_recordDraft_11 f_1_22 rfl rfl lv8 ?_
    refine r_iconst dX1_recordDraft_14 (v := 1) rfl ?_
    refine r_iadd dX1_recordDraft_15 ?_
    refine r_putI dX1_recordDraft_16 f_1_22 rfl rfl lv8 ⟨rfl, rfl⟩ ?_
    refine r_goto dX1_recordDraft_19 (tgt := 35) rfl ?_
    exact e_v dX1_recordDraft_35 rfl (by rw [h4, nI_1]; simp [recH, hz])
  · have e : jrem (hp (8, 0, 0, 0) 1 + 1) 7 = nI ((o + 1) % 7) := by
      rw [h3, nI_1]
      exact jr_nI (by omega) (by decide) (by decide)
    refine r_aload_n dX1_recordDraft_0 (i := 0) rfl rfl ?_
    refine r_getI dX1_recordDraft_1 f_1_22 rfl rfl lv8 ?_
    refine r_bipush dX1_recordDraft_4 (v := 6) rfl ?_
    refine r_icmp_ge dX1_recordDraft_6 (tgt := 22) rfl (fun _ => ?_) (fun h6 => absurd ((by rw [h4]; exact nI_le (a := 6) (by omega) (by omega))) h6)
    refine r_aload_n dX1_recordDraft_22 (i := 0) rfl rfl ?_
    refine r_aload_n dX1_recordDraft_23 (i := 0) rfl rfl ?_
    refine r_getI dX1_recordDraft_24 f_1_18 rfl rfl lv8 ?_
    refine r_iconst dX1_recordDraft_27 (v := 1) rfl ?_
    refine r_iadd dX1_recordDraft_28 ?_
    refine r_bipush dX1_recordDraft_29 (v := 7) rfl ?_
    refine r_irem dX1_recordDraft_31 (by decide) ?_
    refine r_putI dX1_recordDraft_32 f_1_18 rfl rfl lv8 ⟨rfl, rfl⟩ ?_
    exact e_v dX1_recordDraft_35 rfl (by rw [e]; simp [recH, hz])
theorem tX1_takesBack_e {g : Gh} {o : Nat} {hp : HPt} (hH : HN hp o 0) : Ci g mX1_takesBack [vR (8, 0, 0, 0), vR (0, 0, 0, 0)] hp 0 hp := by
  obtain ⟨k1, k2, k3, k4⟩ := hH
  unfold Ci
  refine r_aload_n dX1_takesBack_0 (i := 0) rfl rfl ?_
  refine r_getI dX1_takesBack_1 f_1_22 rfl rfl lv8 ?_
  refine r_if_ne dX1_takesBack_4 (tgt := 9) rfl (fun h4 => absurd (k4) h4) (fun _ => ?_)
  refine r_iconst dX1_takesBack_7 (v := 0) rfl ?_
  exact e_i dX1_takesBack_8 rfl (by first | rfl | exact bi_nar _) (by first | rfl | simp [bi, *]) rfl
theorem tX1_takesBack {g : Gh} {o z : Nat} {hp : HPt} (hH : HN hp o (z + 1)) (hW : WT hp) : Ci g mX1_takesBack [vR (8, 0, 0, 0), vR (0, 0, 0, 0)] hp 1 (CPS (hset hp (8, 0, 0, 0) 2 (nI z)) 0 (hrow o z + 1)) := by
  obtain ⟨k1, k2, k3, k4⟩ := hH
  have hr := hrow_lt (o := o) (z := z)
  have e : jrem (hset hp (8, 0, 0, 0) 2 (nI z) (8, 0, 0, 0) 1 + hset hp (8, 0, 0, 0) 2 (nI z) (8, 0, 0, 0) 2) 7 = nI (hrow o z) := by
    rw [hs_i (by decide), hs_eq, k3, nI_add]
    exact jr_nI (by omega) (by decide) (by decide)
  unfold Ci
  refine r_aload_n dX1_takesBack_0 (i := 0) rfl rfl ?_
  refine r_getI dX1_takesBack_1 f_1_22 rfl rfl lv8 ?_
  refine r_if_ne dX1_takesBack_4 (tgt := 9) rfl (fun _ => ?_) (fun h4 => absurd h4 ((by rw [k4]; exact nI_ne0 (by omega) (by omega))))
  refine r_aload_n dX1_takesBack_9 (i := 0) rfl rfl ?_
  refine r_dup dX1_takesBack_10 rfl ?_
  refine r_getI dX1_takesBack_11 f_1_22 rfl rfl lv8 ?_
  refine r_iconst dX1_takesBack_14 (v := 1) rfl ?_
  refine r_isub dX1_takesBack_15 ?_
  refine r_putI dX1_takesBack_16 f_1_22 rfl rfl lv8 ⟨rfl, rfl⟩ ?_
  refine V.eqH (hp2 := hset hp (8, 0, 0, 0) 2 (nI z)) (by rw [k4, nI_succ]; congr 1; exact Int32.add_sub_cancel _ _) ?_
  refine r_aload_n dX1_takesBack_19 (i := 1) rfl rfl ?_
  refine r_aload_n dX1_takesBack_20 (i := 0) rfl rfl ?_
  refine r_getR dX1_takesBack_21 f_1_11 rfl rfl rfl lv8 ?_
  refine r_aload_n dX1_takesBack_24 (i := 0) rfl rfl ?_
  refine r_getI dX1_takesBack_25 f_1_18 rfl rfl lv8 ?_
  refine r_aload_n dX1_takesBack_28 (i := 0) rfl rfl ?_
  refine r_getI dX1_takesBack_29 f_1_22 rfl rfl lv8 ?_
  refine r_iadd dX1_takesBack_32 ?_
  refine r_bipush dX1_takesBack_33 (v := 7) rfl ?_
  refine r_irem dX1_takesBack_35 (by decide) ?_
  refine n_aald dX1_takesBack_36 rfl lv9 (k := hrow o z) e hr rfl ?_
  refine sX1_takesBack_37 (Nat.le_refl _) (Nat.le_refl _) rfl (lv0 (by first | assumption | decide | omega)) (Nat.le_of_ble_eq_true rfl) (tX5_copyState (by decide) (by omega) (by omega) (hW.set (okv_free rfl rfl))) ?_
  refine r_iconst dX1_takesBack_40 (v := 1) rfl ?_
  exact e_i dX1_takesBack_41 rfl (by first | rfl | exact bi_nar _) (by first | rfl | simp [bi, *]) rfl
theorem tX6_recorded_e {g : Gh} {a : Int32} {hp : HPt} (ha : a < 0) : Ci g mX6_recorded [vR (15, 0, 0, 0), vI a] hp a hp := by
  unfold Ci
  refine r_iload_n dX6_recorded_0 (i := 1) rfl rfl ?_
  refine r_if_lt dX6_recorded_1 (tgt := 11) rfl (fun _ => ?_) (fun h1 => absurd (ha) h1)
  refine r_iload_n dX6_recorded_11 (i := 1) rfl rfl ?_
  exact e_i dX6_recorded_12 rfl (by first | rfl | exact bi_nar _) (by first | rfl | simp [bi, *]) rfl
theorem tX6_recorded {g : Gh} {a : Int32} {o z : Nat} {hp : HPt} (ha : ¬ a < 0) (hH : HN hp o z) : Ci g mX6_recorded [vR (15, 0, 0, 0), vI a] hp a (recH hp o z) := by
  unfold Ci
  refine r_iload_n dX6_recorded_0 (i := 1) rfl rfl ?_
  refine r_if_lt dX6_recorded_1 (tgt := 11) rfl (fun h1 => absurd h1 (ha)) (fun _ => ?_)
  refine r_aload_n dX6_recorded_4 (i := 0) rfl rfl ?_
  refine r_getR dX6_recorded_5 f_6_19 rfl rfl rfl lv15 ?_
  refine sX6_recorded_8 (Nat.le_refl _) (Nat.le_refl _) rfl lv8 (Nat.le_of_ble_eq_true rfl) (tX1_recordDraft hH) ?_
  refine r_iload_n dX6_recorded_11 (i := 1) rfl rfl ?_
  exact e_i dX6_recorded_12 rfl (by first | rfl | exact bi_nar _) (by first | rfl | simp [bi, *]) rfl
/-- what a change leaves: its own end, recorded if it is no error -/
def recA (hp : HPt) (o z : Nat) (a : Int32) : HPt := if a < 0 then hp else recH hp o z
theorem tX6_rec {g : Gh} {a : Int32} {o z : Nat} {hp : HPt} (hH : HN hp o z) : Ci g mX6_recorded [vR (15, 0, 0, 0), vI a] hp a (recA hp o z a) := by
  unfold recA
  split
  next h => exact tX6_recorded_e h
  next h => exact tX6_recorded h hH
section CH
variable {g : Gh} {o z : Nat} {a a1 a2 a3 a4 : Int32} {hp h1 : HPt} (hH : HN hp o z) (hW : WT hp) (hH1 : HN h1 o z)
theorem tX6_set (C : Ci g mX5_changeSetting [vR (0, 0, 0, 0), vI a1, vI a2] (CPS hp (hrow o z + 1) 0) a h1) (hH : HN hp o z) (hW : WT hp) (hH1 : HN h1 o z) : Ci g mX6_set [vR (15, 0, 0, 0), vI a1, vI a2] hp a (recA h1 o z a) := by
  unfold Ci
  refine r_aload_n dX6_set_0 (i := 0) rfl rfl ?_
  refine r_getR dX6_set_1 f_6_19 rfl rfl rfl lv15 ?_
  refine r_aload_n dX6_set_4 (i := 0) rfl rfl ?_
  refine r_getR dX6_set_5 f_6_12 rfl rfl rfl lv15 ?_
  refine sX6_set_8 (Nat.le_refl _) (Nat.le_refl _) rfl lv8 (Nat.le_of_ble_eq_true rfl) (tX1_draft hH hW) ?_
  refine r_aload_n dX6_set_11 (i := 0) rfl rfl ?_
  refine r_aload_n dX6_set_12 (i := 0) rfl rfl ?_
  refine r_getR dX6_set_13 f_6_12 rfl rfl rfl lv15 ?_
  refine r_iload_n dX6_set_16 (i := 1) rfl rfl ?_
  refine r_iload_n dX6_set_17 (i := 2) rfl rfl ?_
  refine sX6_set_18 (Nat.le_refl _) (Nat.le_refl _) rfl (lv0 (by first | assumption | decide | omega)) (Nat.le_of_ble_eq_true rfl) (C) ?_
  refine sX6_set_21 (Nat.le_refl _) (Nat.le_refl _) rfl lv15 (Nat.le_of_ble_eq_true rfl) (tX6_rec hH1) ?_
  exact e_i dX6_set_24 rfl (by first | rfl | exact bi_nar _) (by first | rfl | simp [bi, *]) rfl
theorem tX6_seed (C : Ci g mX5_changeX [vR (0, 0, 0, 0), vI a1] (CPS hp (hrow o z + 1) 0) a h1) (hH : HN hp o z) (hW : WT hp) (hH1 : HN h1 o z) : Ci g mX6_seed [vR (15, 0, 0, 0), vI a1] hp a (recA h1 o z a) := by
  unfold Ci
  refine r_aload_n dX6_seed_0 (i := 0) rfl rfl ?_
  refine r_getR dX6_seed_1 f_6_19 rfl rfl rfl lv15 ?_
  refine r_aload_n dX6_seed_4 (i := 0) rfl rfl ?_
  refine r_getR dX6_seed_5 f_6_12 rfl rfl rfl lv15 ?_
  refine sX6_seed_8 (Nat.le_refl _) (Nat.le_refl _) rfl lv8 (Nat.le_of_ble_eq_true rfl) (tX1_draft hH hW) ?_
  refine r_aload_n dX6_seed_11 (i := 0) rfl rfl ?_
  refine r_aload_n dX6_seed_12 (i := 0) rfl rfl ?_
  refine r_getR dX6_seed_13 f_6_12 rfl rfl rfl lv15 ?_
  refine r_iload_n dX6_seed_16 (i := 1) rfl rfl ?_
  refine sX6_seed_17 (Nat.le_refl _) (Nat.le_refl _) rfl (lv0 (by first | assumption | decide | omega)) (Nat.le_of_ble_eq_true rfl) (C) ?_
  refine sX6_seed_20 (Nat.le_refl _) (Nat.le_refl _) rfl lv15 (Nat.le_of_ble_eq_true rfl) (tX6_rec hH1) ?_
  exact e_i dX6_seed_23 rfl (by first | rfl | exact bi_nar _) (by first | rfl | simp [bi, *]) rfl
theorem tX6_keep (C : Ci g mX5_adm [vR (0, 0, 0, 0), vI a1] (CPS hp (hrow o z + 1) 0) a h1) (hH : HN hp o z) (hW : WT hp) (hH1 : HN h1 o z) : Ci g mX6_keep [vR (15, 0, 0, 0), vI a1] hp a (recA h1 o z a) := by
  unfold Ci
  refine r_aload_n dX6_keep_0 (i := 0) rfl rfl ?_
  refine r_getR dX6_keep_1 f_6_19 rfl rfl rfl lv15 ?_
  refine r_aload_n dX6_keep_4 (i := 0) rfl rfl ?_
  refine r_getR dX6_keep_5 f_6_12 rfl rfl rfl lv15 ?_
  refine sX6_keep_8 (Nat.le_refl _) (Nat.le_refl _) rfl lv8 (Nat.le_of_ble_eq_true rfl) (tX1_draft hH hW) ?_
  refine r_aload_n dX6_keep_11 (i := 0) rfl rfl ?_
  refine r_aload_n dX6_keep_12 (i := 0) rfl rfl ?_
  refine r_getR dX6_keep_13 f_6_12 rfl rfl rfl lv15 ?_
  refine r_iload_n dX6_keep_16 (i := 1) rfl rfl ?_
  refine sX6_keep_17 (Nat.le_refl _) (Nat.le_refl _) rfl (lv0 (by first | assumption | decide | omega)) (Nat.le_of_ble_eq_true rfl) (C) ?_
  refine sX6_keep_20 (Nat.le_refl _) (Nat.le_refl _) rfl lv15 (Nat.le_of_ble_eq_true rfl) (tX6_rec hH1) ?_
  exact e_i dX6_keep_23 rfl (by first | rfl | exact bi_nar _) (by first | rfl | simp [bi, *]) rfl
theorem tX6_refresh (C : Ci g mX5_renew [vR (0, 0, 0, 0), vI a1] (CPS hp (hrow o z + 1) 0) a h1) (hH : HN hp o z) (hW : WT hp) (hH1 : HN h1 o z) : Ci g mX6_refresh [vR (15, 0, 0, 0), vI a1] hp a (recA h1 o z a) := by
  unfold Ci
  refine r_aload_n dX6_refresh_0 (i := 0) rfl rfl ?_
  refine r_getR dX6_refresh_1 f_6_19 rfl rfl rfl lv15 ?_
  refine r_aload_n dX6_refresh_4 (i := 0) rfl rfl ?_
  refine r_getR dX6_refresh_5 f_6_12 rfl rfl rfl lv15 ?_
  refine sX6_refresh_8 (Nat.le_refl _) (Nat.le_refl _) rfl lv8 (Nat.le_of_ble_eq_true rfl) (tX1_draft hH hW) ?_
  refine r_aload_n dX6_refresh_11 (i := 0) rfl rfl ?_
  refine r_aload_n dX6_refresh_12 (i := 0) rfl rfl ?_
  refine r_getR dX6_refresh_13 f_6_12 rfl rfl rfl lv15 ?_
  refine r_iload_n dX6_refresh_16 (i := 1) rfl rfl ?_
  refine sX6_refresh_17 (Nat.le_refl _) (Nat.le_refl _) rfl (lv0 (by first | assumption | decide | omega)) (Nat.le_of_ble_eq_true rfl) (C) ?_
  refine sX6_refresh_20 (Nat.le_refl _) (Nat.le_refl _) rfl lv15 (Nat.le_of_ble_eq_true rfl) (tX6_rec hH1) ?_
  exact e_i dX6_refresh_23 rfl (by first | rfl | exact bi_nar _) (by first | rfl | simp [bi, *]) rfl
theorem tX6_burn (C : Ci g mX5_burnOldVersions [vR (0, 0, 0, 0), vI a1] (CPS hp (hrow o z + 1) 0) a h1) (hH : HN hp o z) (hW : WT hp) (hH1 : HN h1 o z) : Ci g mX6_burn [vR (15, 0, 0, 0), vI a1] hp a (recA h1 o z a) := by
  unfold Ci
  refine r_aload_n dX6_burn_0 (i := 0) rfl rfl ?_
  refine r_getR dX6_burn_1 f_6_19 rfl rfl rfl lv15 ?_
  refine r_aload_n dX6_burn_4 (i := 0) rfl rfl ?_
  refine r_getR dX6_burn_5 f_6_12 rfl rfl rfl lv15 ?_
  refine sX6_burn_8 (Nat.le_refl _) (Nat.le_refl _) rfl lv8 (Nat.le_of_ble_eq_true rfl) (tX1_draft hH hW) ?_
  refine r_aload_n dX6_burn_11 (i := 0) rfl rfl ?_
  refine r_aload_n dX6_burn_12 (i := 0) rfl rfl ?_
  refine r_getR dX6_burn_13 f_6_12 rfl rfl rfl lv15 ?_
  refine r_iload_n dX6_burn_16 (i := 1) rfl rfl ?_
  refine sX6_burn_17 (Nat.le_refl _) (Nat.le_refl _) rfl (lv0 (by first | assumption | decide | omega)) (Nat.le_of_ble_eq_true rfl) (C) ?_
  refine sX6_burn_20 (Nat.le_refl _) (Nat.le_refl _) rfl lv15 (Nat.le_of_ble_eq_true rfl) (tX6_rec hH1) ?_
  exact e_i dX6_burn_23 rfl (by first | rfl | exact bi_nar _) (by first | rfl | simp [bi, *]) rfl
theorem tX6_sleep (C : Ci g mX5_turnSleep [vR (0, 0, 0, 0), vI a1] (CPS hp (hrow o z + 1) 0) a h1) (hH : HN hp o z) (hW : WT hp) (hH1 : HN h1 o z) : Ci g mX6_sleep [vR (15, 0, 0, 0), vI a1] hp a (recA h1 o z a) := by
  unfold Ci
  refine r_aload_n dX6_sleep_0 (i := 0) rfl rfl ?_
  refine r_getR dX6_sleep_1 f_6_19 rfl rfl rfl lv15 ?_
  refine r_aload_n dX6_sleep_4 (i := 0) rfl rfl ?_
  refine r_getR dX6_sleep_5 f_6_12 rfl rfl rfl lv15 ?_
  refine sX6_sleep_8 (Nat.le_refl _) (Nat.le_refl _) rfl lv8 (Nat.le_of_ble_eq_true rfl) (tX1_draft hH hW) ?_
  refine r_aload_n dX6_sleep_11 (i := 0) rfl rfl ?_
  refine r_aload_n dX6_sleep_12 (i := 0) rfl rfl ?_
  refine r_getR dX6_sleep_13 f_6_12 rfl rfl rfl lv15 ?_
  refine r_iload_n dX6_sleep_16 (i := 1) rfl rfl ?_
  refine sX6_sleep_17 (Nat.le_refl _) (Nat.le_refl _) rfl (lv0 (by first | assumption | decide | omega)) (Nat.le_of_ble_eq_true rfl) (C) ?_
  refine sX6_sleep_20 (Nat.le_refl _) (Nat.le_refl _) rfl lv15 (Nat.le_of_ble_eq_true rfl) (tX6_rec hH1) ?_
  exact e_i dX6_sleep_23 rfl (by first | rfl | exact bi_nar _) (by first | rfl | simp [bi, *]) rfl
theorem tX6_lie (C : Ci g mX5_takeUpLie [vR (0, 0, 0, 0), vI a1, vI a2, vI a3, vI a4] (CPS hp (hrow o z + 1) 0) a h1) (hH : HN hp o z) (hW : WT hp) (hH1 : HN h1 o z) : Ci g mX6_lie [vR (15, 0, 0, 0), vI a1, vI a2, vI a3, vI a4] hp a (recA h1 o z a) := by
  unfold Ci
  refine r_aload_n dX6_lie_0 (i := 0) rfl rfl ?_
  refine r_getR dX6_lie_1 f_6_19 rfl rfl rfl lv15 ?_
  refine r_aload_n dX6_lie_4 (i := 0) rfl rfl ?_
  refine r_getR dX6_lie_5 f_6_12 rfl rfl rfl lv15 ?_
  refine sX6_lie_8 (Nat.le_refl _) (Nat.le_refl _) rfl lv8 (Nat.le_of_ble_eq_true rfl) (tX1_draft hH hW) ?_
  refine r_aload_n dX6_lie_11 (i := 0) rfl rfl ?_
  refine r_aload_n dX6_lie_12 (i := 0) rfl rfl ?_
  refine r_getR dX6_lie_13 f_6_12 rfl rfl rfl lv15 ?_
  refine r_iload_n dX6_lie_16 (i := 1) rfl rfl ?_
  refine r_iload_n dX6_lie_17 (i := 2) rfl rfl ?_
  refine r_iload_n dX6_lie_18 (i := 3) rfl rfl ?_
  refine r_iload dX6_lie_19 rfl ?_
  refine sX6_lie_21 (Nat.le_refl _) (Nat.le_refl _) rfl (lv0 (by first | assumption | decide | omega)) (Nat.le_of_ble_eq_true rfl) (C) ?_
  refine sX6_lie_24 (Nat.le_refl _) (Nat.le_refl _) rfl lv15 (Nat.le_of_ble_eq_true rfl) (tX6_rec hH1) ?_
  exact e_i dX6_lie_27 rfl (by first | rfl | exact bi_nar _) (by first | rfl | simp [bi, *]) rfl
theorem tX6_merge (C : Ci g mX5_mergeParts [vR (0, 0, 0, 0), vI a1] (CPS hp (hrow o z + 1) 0) a h1) (hH : HN hp o z) (hW : WT hp) (hH1 : HN h1 o z) : Ci g mX6_merge [vR (15, 0, 0, 0), vI a1] hp a (recA h1 o z a) := by
  unfold Ci
  refine r_aload_n dX6_merge_0 (i := 0) rfl rfl ?_
  refine r_getR dX6_merge_1 f_6_19 rfl rfl rfl lv15 ?_
  refine r_aload_n dX6_merge_4 (i := 0) rfl rfl ?_
  refine r_getR dX6_merge_5 f_6_12 rfl rfl rfl lv15 ?_
  refine sX6_merge_8 (Nat.le_refl _) (Nat.le_refl _) rfl lv8 (Nat.le_of_ble_eq_true rfl) (tX1_draft hH hW) ?_
  refine r_aload_n dX6_merge_11 (i := 0) rfl rfl ?_
  refine r_aload_n dX6_merge_12 (i := 0) rfl rfl ?_
  refine r_getR dX6_merge_13 f_6_12 rfl rfl rfl lv15 ?_
  refine r_iload_n dX6_merge_16 (i := 1) rfl rfl ?_
  refine sX6_merge_17 (Nat.le_refl _) (Nat.le_refl _) rfl (lv0 (by first | assumption | decide | omega)) (Nat.le_of_ble_eq_true rfl) (C) ?_
  refine sX6_merge_20 (Nat.le_refl _) (Nat.le_refl _) rfl lv15 (Nat.le_of_ble_eq_true rfl) (tX6_rec hH1) ?_
  exact e_i dX6_merge_23 rfl (by first | rfl | exact bi_nar _) (by first | rfl | simp [bi, *]) rfl
theorem tX6_steal (C : Ci g mX5_givePartToThief [vR (0, 0, 0, 0), vI a1, vI a2, vI a3] (CPS hp (hrow o z + 1) 0) a h1) (hH : HN hp o z) (hW : WT hp) (hH1 : HN h1 o z) : Ci g mX6_steal [vR (15, 0, 0, 0), vI a1, vI a2, vI a3] hp a (recA h1 o z a) := by
  unfold Ci
  refine r_aload_n dX6_steal_0 (i := 0) rfl rfl ?_
  refine r_getR dX6_steal_1 f_6_19 rfl rfl rfl lv15 ?_
  refine r_aload_n dX6_steal_4 (i := 0) rfl rfl ?_
  refine r_getR dX6_steal_5 f_6_12 rfl rfl rfl lv15 ?_
  refine sX6_steal_8 (Nat.le_refl _) (Nat.le_refl _) rfl lv8 (Nat.le_of_ble_eq_true rfl) (tX1_draft hH hW) ?_
  refine r_aload_n dX6_steal_11 (i := 0) rfl rfl ?_
  refine r_aload_n dX6_steal_12 (i := 0) rfl rfl ?_
  refine r_getR dX6_steal_13 f_6_12 rfl rfl rfl lv15 ?_
  refine r_iload_n dX6_steal_16 (i := 1) rfl rfl ?_
  refine r_iload_n dX6_steal_17 (i := 2) rfl rfl ?_
  refine r_iload_n dX6_steal_18 (i := 3) rfl rfl ?_
  refine sX6_steal_19 (Nat.le_refl _) (Nat.le_refl _) rfl (lv0 (by first | assumption | decide | omega)) (Nat.le_of_ble_eq_true rfl) (C) ?_
  refine sX6_steal_22 (Nat.le_refl _) (Nat.le_refl _) rfl lv15 (Nat.le_of_ble_eq_true rfl) (tX6_rec hH1) ?_
  exact e_i dX6_steal_25 rfl (by first | rfl | exact bi_nar _) (by first | rfl | simp [bi, *]) rfl
theorem tX6_pass (C : Ci g mX5_passBeats [vR (0, 0, 0, 0), vI a1] (CPS hp (hrow o z + 1) 0) a h1) (hH : HN hp o z) (hW : WT hp) (hH1 : HN h1 o z) : Ci g mX6_pass [vR (15, 0, 0, 0), vI a1] hp a (recA h1 o z a) := by
  unfold Ci
  refine r_aload_n dX6_pass_0 (i := 0) rfl rfl ?_
  refine r_getR dX6_pass_1 f_6_19 rfl rfl rfl lv15 ?_
  refine r_aload_n dX6_pass_4 (i := 0) rfl rfl ?_
  refine r_getR dX6_pass_5 f_6_12 rfl rfl rfl lv15 ?_
  refine sX6_pass_8 (Nat.le_refl _) (Nat.le_refl _) rfl lv8 (Nat.le_of_ble_eq_true rfl) (tX1_draft hH hW) ?_
  refine r_aload_n dX6_pass_11 (i := 0) rfl rfl ?_
  refine r_aload_n dX6_pass_12 (i := 0) rfl rfl ?_
  refine r_getR dX6_pass_13 f_6_12 rfl rfl rfl lv15 ?_
  refine r_iload_n dX6_pass_16 (i := 1) rfl rfl ?_
  refine sX6_pass_17 (Nat.le_refl _) (Nat.le_refl _) rfl (lv0 (by first | assumption | decide | omega)) (Nat.le_of_ble_eq_true rfl) (C) ?_
  refine sX6_pass_20 (Nat.le_refl _) (Nat.le_refl _) rfl lv15 (Nat.le_of_ble_eq_true rfl) (tX6_rec hH1) ?_
  exact e_i dX6_pass_23 rfl (by first | rfl | exact bi_nar _) (by first | rfl | simp [bi, *]) rfl
theorem tX6_of (C : Ci g mX5_figureOfHalf [vR (0, 0, 0, 0), vI a1, vI a2, vI a3] hp a h1) : Ci g mX6_of [vR (15, 0, 0, 0), vI a1, vI a2, vI a3] hp a h1 := by
  unfold Ci
  refine r_aload_n dX6_of_0 (i := 0) rfl rfl ?_
  refine r_getR dX6_of_1 f_6_12 rfl rfl rfl lv15 ?_
  refine r_iload_n dX6_of_4 (i := 1) rfl rfl ?_
  refine r_iload_n dX6_of_5 (i := 2) rfl rfl ?_
  refine r_iload_n dX6_of_6 (i := 3) rfl rfl ?_
  refine sX6_of_7 (Nat.le_refl _) (Nat.le_refl _) rfl (lv0 (by first | assumption | decide | omega)) (Nat.le_of_ble_eq_true rfl) (C) ?_
  exact e_i dX6_of_10 rfl (by first | rfl | exact bi_nar _) (by first | rfl | simp [bi, *]) rfl
theorem tX6_ofSecret (C : Ci g mX5_figureOfSecret [vR (0, 0, 0, 0), vI a1, vI a2] hp a h1) : Ci g mX6_ofSecret [vR (15, 0, 0, 0), vI a1, vI a2] hp a h1 := by
  unfold Ci
  refine r_aload_n dX6_ofSecret_0 (i := 0) rfl rfl ?_
  refine r_getR dX6_ofSecret_1 f_6_12 rfl rfl rfl lv15 ?_
  refine r_iload_n dX6_ofSecret_4 (i := 1) rfl rfl ?_
  refine r_iload_n dX6_ofSecret_5 (i := 2) rfl rfl ?_
  refine sX6_ofSecret_6 (Nat.le_refl _) (Nat.le_refl _) rfl (lv0 (by first | assumption | decide | omega)) (Nat.le_of_ble_eq_true rfl) (C) ?_
  exact e_i dX6_ofSecret_9 rfl (by first | rfl | exact bi_nar _) (by first | rfl | simp [bi, *]) rfl
theorem tX6_old (C : Ci g mX5_figureOfOldVersion [vR (0, 0, 0, 0), vI a1, vI a2, vI a3] hp a h1) : Ci g mX6_old [vR (15, 0, 0, 0), vI a1, vI a2, vI a3] hp a h1 := by
  unfold Ci
  refine r_aload_n dX6_old_0 (i := 0) rfl rfl ?_
  refine r_getR dX6_old_1 f_6_12 rfl rfl rfl lv15 ?_
  refine r_iload_n dX6_old_4 (i := 1) rfl rfl ?_
  refine r_iload_n dX6_old_5 (i := 2) rfl rfl ?_
  refine r_iload_n dX6_old_6 (i := 3) rfl rfl ?_
  refine sX6_old_7 (Nat.le_refl _) (Nat.le_refl _) rfl (lv0 (by first | assumption | decide | omega)) (Nat.le_of_ble_eq_true rfl) (C) ?_
  exact e_i dX6_old_10 rfl (by first | rfl | exact bi_nar _) (by first | rfl | simp [bi, *]) rfl
theorem tX6_otherwise (C : Ci g mX5_otherPartFor [vR (0, 0, 0, 0), vI a1, vI a2, vI a3] hp a h1) : Ci g mX6_otherwise [vR (15, 0, 0, 0), vI a1, vI a2, vI a3] hp a h1 := by
  unfold Ci
  refine r_aload_n dX6_otherwise_0 (i := 0) rfl rfl ?_
  refine r_getR dX6_otherwise_1 f_6_12 rfl rfl rfl lv15 ?_
  refine r_iload_n dX6_otherwise_4 (i := 1) rfl rfl ?_
  refine r_iload_n dX6_otherwise_5 (i := 2) rfl rfl ?_
  refine r_iload_n dX6_otherwise_6 (i := 3) rfl rfl ?_
  refine sX6_otherwise_7 (Nat.le_refl _) (Nat.le_refl _) rfl (lv0 (by first | assumption | decide | omega)) (Nat.le_of_ble_eq_true rfl) (C) ?_
  exact e_i dX6_otherwise_10 rfl (by first | rfl | exact bi_nar _) (by first | rfl | simp [bi, *]) rfl
theorem tX6_passing (C : Ci g mX5_tagOffsetThatPasses [vR (0, 0, 0, 0), vI a1, vI a2, vI a3] hp a h1) : Ci g mX6_passing [vR (15, 0, 0, 0), vI a1, vI a2, vI a3] hp a h1 := by
  unfold Ci
  refine r_aload_n dX6_passing_0 (i := 0) rfl rfl ?_
  refine r_getR dX6_passing_1 f_6_12 rfl rfl rfl lv15 ?_
  refine r_iload_n dX6_passing_4 (i := 1) rfl rfl ?_
  refine r_iload_n dX6_passing_5 (i := 2) rfl rfl ?_
  refine r_iload_n dX6_passing_6 (i := 3) rfl rfl ?_
  refine sX6_passing_7 (Nat.le_refl _) (Nat.le_refl _) rfl (lv0 (by first | assumption | decide | omega)) (Nat.le_of_ble_eq_true rfl) (C) ?_
  exact e_i dX6_passing_10 rfl (by first | rfl | exact bi_nar _) (by first | rfl | simp [bi, *]) rfl
theorem tX6_passes (C : Ci g mX5_offsetsThatPass [vR (0, 0, 0, 0), vI a1, vI a2, vI a3] hp a h1) : Ci g mX6_passes [vR (15, 0, 0, 0), vI a1, vI a2, vI a3] hp a h1 := by
  unfold Ci
  refine r_aload_n dX6_passes_0 (i := 0) rfl rfl ?_
  refine r_getR dX6_passes_1 f_6_12 rfl rfl rfl lv15 ?_
  refine r_iload_n dX6_passes_4 (i := 1) rfl rfl ?_
  refine r_iload_n dX6_passes_5 (i := 2) rfl rfl ?_
  refine r_iload_n dX6_passes_6 (i := 3) rfl rfl ?_
  refine sX6_passes_7 (Nat.le_refl _) (Nat.le_refl _) rfl (lv0 (by first | assumption | decide | omega)) (Nat.le_of_ble_eq_true rfl) (C) ?_
  exact e_i dX6_passes_10 rfl (by first | rfl | exact bi_nar _) (by first | rfl | simp [bi, *]) rfl
theorem tX6_needed (C : Ci g mX5_partsNeeded [vR (0, 0, 0, 0), vI a1] hp a h1) : Ci g mX6_needed [vR (15, 0, 0, 0), vI a1] hp a h1 := by
  unfold Ci
  refine r_aload_n dX6_needed_0 (i := 0) rfl rfl ?_
  refine r_getR dX6_needed_1 f_6_12 rfl rfl rfl lv15 ?_
  refine r_iload_n dX6_needed_4 (i := 1) rfl rfl ?_
  refine sX6_needed_5 (Nat.le_refl _) (Nat.le_refl _) rfl (lv0 (by first | assumption | decide | omega)) (Nat.le_of_ble_eq_true rfl) (C) ?_
  exact e_i dX6_needed_8 rfl (by first | rfl | exact bi_nar _) (by first | rfl | simp [bi, *]) rfl
theorem tX6_atRisk (C : Ci g mX5_versionsAtRisk [vR (0, 0, 0, 0), vI a1] hp a h1) : Ci g mX6_atRisk [vR (15, 0, 0, 0), vI a1] hp a h1 := by
  unfold Ci
  refine r_aload_n dX6_atRisk_0 (i := 0) rfl rfl ?_
  refine r_getR dX6_atRisk_1 f_6_12 rfl rfl rfl lv15 ?_
  refine r_iload_n dX6_atRisk_4 (i := 1) rfl rfl ?_
  refine sX6_atRisk_5 (Nat.le_refl _) (Nat.le_refl _) rfl (lv0 (by first | assumption | decide | omega)) (Nat.le_of_ble_eq_true rfl) (C) ?_
  exact e_i dX6_atRisk_8 rfl (by first | rfl | exact bi_nar _) (by first | rfl | simp [bi, *]) rfl
theorem tX6_ifMerged (C : Ci g mX5_answerOfMerger [vR (0, 0, 0, 0), vI a1] hp a h1) : Ci g mX6_ifMerged [vR (15, 0, 0, 0), vI a1] hp a h1 := by
  unfold Ci
  refine r_aload_n dX6_ifMerged_0 (i := 0) rfl rfl ?_
  refine r_getR dX6_ifMerged_1 f_6_12 rfl rfl rfl lv15 ?_
  refine r_iload_n dX6_ifMerged_4 (i := 1) rfl rfl ?_
  refine sX6_ifMerged_5 (Nat.le_refl _) (Nat.le_refl _) rfl (lv0 (by first | assumption | decide | omega)) (Nat.le_of_ble_eq_true rfl) (C) ?_
  exact e_i dX6_ifMerged_8 rfl (by first | rfl | exact bi_nar _) (by first | rfl | simp [bi, *]) rfl
theorem tX6_count_p {w : Int32} (hw : w = 14) : Ci g mX6_count [vR (15, 0, 0, 0), vI w] hp (hp (12, 0, 0, 0) 1) hp := by
  subst hw
  unfold Ci
  refine r_iload_n dX6_count_0 (i := 1) rfl rfl ?_
  refine r_bipush dX6_count_1 (v := 14) rfl ?_
  refine r_icmp_ne dX6_count_3 (tgt := 14) rfl (fun h3 => absurd (rfl) h3) (fun _ => ?_)
  refine r_aload_n dX6_count_6 (i := 0) rfl rfl ?_
  refine r_getR dX6_count_7 f_6_34 rfl rfl rfl lv15 ?_
  refine r_getI dX6_count_10 f_6_97 rfl rfl lv12 ?_
  exact e_i dX6_count_13 rfl (by first | rfl | exact bi_nar _) (by first | rfl | simp [bi, *]) rfl
theorem tX6_count_u {w : Int32} (hw : w = 15) : Ci g mX6_count [vR (15, 0, 0, 0), vI w] hp (hp (8, 0, 0, 0) 2) hp := by
  subst hw
  unfold Ci
  refine r_iload_n dX6_count_0 (i := 1) rfl rfl ?_
  refine r_bipush dX6_count_1 (v := 14) rfl ?_
  refine r_icmp_ne dX6_count_3 (tgt := 14) rfl (fun _ => ?_) (fun h3 => absurd h3 ((by decide)))
  refine r_iload_n dX6_count_14 (i := 1) rfl rfl ?_
  refine r_bipush dX6_count_15 (v := 15) rfl ?_
  refine r_icmp_ne dX6_count_17 (tgt := 28) rfl (fun h17 => absurd (rfl) h17) (fun _ => ?_)
  refine r_aload_n dX6_count_20 (i := 0) rfl rfl ?_
  refine r_getR dX6_count_21 f_6_19 rfl rfl rfl lv15 ?_
  refine r_getI dX6_count_24 f_6_101 rfl rfl lv8 ?_
  exact e_i dX6_count_27 rfl (by first | rfl | exact bi_nar _) (by first | rfl | simp [bi, *]) rfl
theorem tX6_count {w : Int32} (h14 : ¬ w = 14) (h15 : ¬ w = 15) (C : Ci g mX5_figure [vR (0, 0, 0, 0), vI w] hp a h1) : Ci g mX6_count [vR (15, 0, 0, 0), vI w] hp a h1 := by
  unfold Ci
  refine r_iload_n dX6_count_0 (i := 1) rfl rfl ?_
  refine r_bipush dX6_count_1 (v := 14) rfl ?_
  refine r_icmp_ne dX6_count_3 (tgt := 14) rfl (fun _ => ?_) (fun h3 => absurd h3 (h14))
  refine r_iload_n dX6_count_14 (i := 1) rfl rfl ?_
  refine r_bipush dX6_count_15 (v := 15) rfl ?_
  refine r_icmp_ne dX6_count_17 (tgt := 28) rfl (fun _ => ?_) (fun h17 => absurd h17 (h15))
  refine r_aload_n dX6_count_28 (i := 0) rfl rfl ?_
  refine r_getR dX6_count_29 f_6_12 rfl rfl rfl lv15 ?_
  refine r_iload_n dX6_count_32 (i := 1) rfl rfl ?_
  refine sX6_count_33 (Nat.le_refl _) (Nat.le_refl _) rfl (lv0 (by first | assumption | decide | omega)) (Nat.le_of_ble_eq_true rfl) (C) ?_
  exact e_i dX6_count_36 rfl (by first | rfl | exact bi_nar _) (by first | rfl | simp [bi, *]) rfl
theorem tX6_undo_e (hH : HN hp o 0) : Ci g mX6_undo [vR (15, 0, 0, 0)] hp (-5) hp := by
  unfold Ci
  refine r_aload_n dX6_undo_0 (i := 0) rfl rfl ?_
  refine r_getR dX6_undo_1 f_6_19 rfl rfl rfl lv15 ?_
  refine r_aload_n dX6_undo_4 (i := 0) rfl rfl ?_
  refine r_getR dX6_undo_5 f_6_12 rfl rfl rfl lv15 ?_
  refine sX6_undo_8 (Nat.le_refl _) (Nat.le_refl _) rfl lv8 (Nat.le_of_ble_eq_true rfl) (tX1_takesBack_e hH) ?_
  refine r_if_eq dX6_undo_11 (tgt := 24) rfl (fun _ => ?_) (fun h11 => absurd (rfl) h11)
  refine r_bipush dX6_undo_24 (v := (-5)) rfl ?_
  exact e_i dX6_undo_26 rfl (by first | rfl | exact bi_nar _) (by first | rfl | simp [bi, *]) rfl
theorem tX6_undo (hH : HN hp o (z + 1)) (hW : WT hp) : Ci g mX6_undo [vR (15, 0, 0, 0)] hp (nI z) (CPS (hset hp (8, 0, 0, 0) 2 (nI z)) 0 (hrow o z + 1)) := by
  unfold Ci
  refine r_aload_n dX6_undo_0 (i := 0) rfl rfl ?_
  refine r_getR dX6_undo_1 f_6_19 rfl rfl rfl lv15 ?_
  refine r_aload_n dX6_undo_4 (i := 0) rfl rfl ?_
  refine r_getR dX6_undo_5 f_6_12 rfl rfl rfl lv15 ?_
  refine sX6_undo_8 (Nat.le_refl _) (Nat.le_refl _) rfl lv8 (Nat.le_of_ble_eq_true rfl) (tX1_takesBack hH hW) ?_
  refine r_if_eq dX6_undo_11 (tgt := 24) rfl (fun h11 => absurd h11 ((by decide))) (fun _ => ?_)
  refine r_aload_n dX6_undo_14 (i := 0) rfl rfl ?_
  refine r_getR dX6_undo_15 f_6_19 rfl rfl rfl lv15 ?_
  refine r_getI dX6_undo_18 f_6_101 rfl rfl lv8 ?_
  refine r_goto dX6_undo_21 (tgt := 26) rfl ?_
  exact e_i dX6_undo_26 rfl (by first | rfl | exact bi_nar _) (by rw [CPS_off (Or.inr (by decide)), hs_eq]) rfl
theorem fSt_nI {b : Nat} (hb : b < 2) : fSt (nI b) = true := by
  match b, hb with
  | 0, _ => decide
  | 1, _ => decide
def rsH (hp : HPt) (o z b : Nat) : HPt := CPS (CPS hp (hrow o z + 1) 0) 0 (b + 8)
end CH
end
section
theorem zz_end : True := trivial
end
