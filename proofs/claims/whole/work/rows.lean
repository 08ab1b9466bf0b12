section
-- ===== PART A: goes FIRST, ahead of the names: the tables' words, and 'selects' of the private methods out of them =====
/-- a private method of a class that the tables say can be made, by its rows of tables_1 -/
def lw_okq (q : MethodName × Nat) : Prop := (q.1.cls ≠ "java/lang/invoke/MethodHandle" ∧ q.1.cls ≠ "java/lang/invoke/VarHandle") ∧ Cond.instantiable q.1.cls q.2 ∈ tables_1 ∧ Cond.privateMethod q.1 ∈ tables_1 ∧ Cond.instanceMethod q.1 ∈ tables_1
theorem lw_p0 : lw_okq (⟨"SumDoor", "finding", "(I)I"⟩, 8) := ⟨⟨by decide +kernel, by decide +kernel⟩, List.mem_of_getElem? (i := 15) (by decide +kernel), List.mem_of_getElem? (i := 210) (by decide +kernel), List.mem_of_getElem? (i := 211) (by decide +kernel)⟩
theorem lw_p1 : lw_okq (⟨"SumDoor$Tape", "add", "(I)V"⟩, 6) := ⟨⟨by decide +kernel, by decide +kernel⟩, List.mem_of_getElem? (i := 23) (by decide +kernel), List.mem_of_getElem? (i := 215) (by decide +kernel), List.mem_of_getElem? (i := 216) (by decide +kernel)⟩
theorem lw_p2 : lw_okq (⟨"SumDoor$Tape", "fault", "()I"⟩, 6) := ⟨⟨by decide +kernel, by decide +kernel⟩, List.mem_of_getElem? (i := 23) (by decide +kernel), List.mem_of_getElem? (i := 232) (by decide +kernel), List.mem_of_getElem? (i := 233) (by decide +kernel)⟩
theorem lw_p3 : lw_okq (⟨"SumDoor$Tape", "beginsOperand", "(I)Z"⟩, 6) := ⟨⟨by decide +kernel, by decide +kernel⟩, List.mem_of_getElem? (i := 23) (by decide +kernel), List.mem_of_getElem? (i := 236) (by decide +kernel), List.mem_of_getElem? (i := 237) (by decide +kernel)⟩
theorem lw_p4 : lw_okq (⟨"SumDoor$Tape", "followsOperand", "(I)Z"⟩, 6) := ⟨⟨by decide +kernel, by decide +kernel⟩, List.mem_of_getElem? (i := 23) (by decide +kernel), List.mem_of_getElem? (i := 243) (by decide +kernel), List.mem_of_getElem? (i := 244) (by decide +kernel)⟩
theorem lw_p5 : lw_okq (⟨"SumDoor$Side", "takeSign", "(I)V"⟩, 4) := ⟨⟨by decide +kernel, by decide +kernel⟩, List.mem_of_getElem? (i := 258) (by decide +kernel), List.mem_of_getElem? (i := 268) (by decide +kernel), List.mem_of_getElem? (i := 269) (by decide +kernel)⟩
theorem lw_p6 : lw_okq (⟨"SumDoor$Side", "addStep", "(I)V"⟩, 4) := ⟨⟨by decide +kernel, by decide +kernel⟩, List.mem_of_getElem? (i := 258) (by decide +kernel), List.mem_of_getElem? (i := 272) (by decide +kernel), List.mem_of_getElem? (i := 273) (by decide +kernel)⟩
theorem lw_p7 : lw_okq (⟨"SumDoor$Side", "push", "(I)V"⟩, 4) := ⟨⟨by decide +kernel, by decide +kernel⟩, List.mem_of_getElem? (i := 258) (by decide +kernel), List.mem_of_getElem? (i := 276) (by decide +kernel), List.mem_of_getElem? (i := 277) (by decide +kernel)⟩
theorem lw_p8 : lw_okq (⟨"SumDoor$Side", "takeWaiting", "(I)V"⟩, 4) := ⟨⟨by decide +kernel, by decide +kernel⟩, List.mem_of_getElem? (i := 258) (by decide +kernel), List.mem_of_getElem? (i := 280) (by decide +kernel), List.mem_of_getElem? (i := 281) (by decide +kernel)⟩
theorem lw_p9 : lw_okq (⟨"SumDoor$Side", "lengthenNumber", "(I)V"⟩, 4) := ⟨⟨by decide +kernel, by decide +kernel⟩, List.mem_of_getElem? (i := 258) (by decide +kernel), List.mem_of_getElem? (i := 287) (by decide +kernel), List.mem_of_getElem? (i := 288) (by decide +kernel)⟩
theorem lw_p10 : lw_okq (⟨"SumDoor$Side", "worth", "(I)I"⟩, 4) := ⟨⟨by decide +kernel, by decide +kernel⟩, List.mem_of_getElem? (i := 258) (by decide +kernel), List.mem_of_getElem? (i := 304) (by decide +kernel), List.mem_of_getElem? (i := 305) (by decide +kernel)⟩
theorem lw_p11 : lw_okq (⟨"SumDoor$Sums", "add", "(LSumDoor$Text;II)I"⟩, 4) := ⟨⟨by decide +kernel, by decide +kernel⟩, List.mem_of_getElem? (i := 58) (by decide +kernel), List.mem_of_getElem? (i := 332) (by decide +kernel), List.mem_of_getElem? (i := 333) (by decide +kernel)⟩
theorem lw_p12 : lw_okq (⟨"SumDoor", "isSum", "(I)Z"⟩, 8) := ⟨⟨by decide +kernel, by decide +kernel⟩, List.mem_of_getElem? (i := 15) (by decide +kernel), List.mem_of_getElem? (i := 340) (by decide +kernel), List.mem_of_getElem? (i := 341) (by decide +kernel)⟩
theorem lw_p13 : lw_okq (⟨"SumDoor$Sums", "has", "(I)Z"⟩, 4) := ⟨⟨by decide +kernel, by decide +kernel⟩, List.mem_of_getElem? (i := 58) (by decide +kernel), List.mem_of_getElem? (i := 344) (by decide +kernel), List.mem_of_getElem? (i := 345) (by decide +kernel)⟩
theorem lw_p14 : lw_okq (⟨"SumDoor$Sums", "hardOf", "(I)I"⟩, 4) := ⟨⟨by decide +kernel, by decide +kernel⟩, List.mem_of_getElem? (i := 58) (by decide +kernel), List.mem_of_getElem? (i := 348) (by decide +kernel), List.mem_of_getElem? (i := 349) (by decide +kernel)⟩
theorem lw_p15 : lw_okq (⟨"SumDoor$Sums", "solversOf", "(II)I"⟩, 4) := ⟨⟨by decide +kernel, by decide +kernel⟩, List.mem_of_getElem? (i := 58) (by decide +kernel), List.mem_of_getElem? (i := 356) (by decide +kernel), List.mem_of_getElem? (i := 357) (by decide +kernel)⟩
def lw_privs_1 : List (MethodName × Nat) := [(⟨"SumDoor", "finding", "(I)I"⟩, 8), (⟨"SumDoor$Tape", "add", "(I)V"⟩, 6), (⟨"SumDoor$Tape", "fault", "()I"⟩, 6), (⟨"SumDoor$Tape", "beginsOperand", "(I)Z"⟩, 6), (⟨"SumDoor$Tape", "followsOperand", "(I)Z"⟩, 6), (⟨"SumDoor$Side", "takeSign", "(I)V"⟩, 4), (⟨"SumDoor$Side", "addStep", "(I)V"⟩, 4), (⟨"SumDoor$Side", "push", "(I)V"⟩, 4), (⟨"SumDoor$Side", "takeWaiting", "(I)V"⟩, 4), (⟨"SumDoor$Side", "lengthenNumber", "(I)V"⟩, 4), (⟨"SumDoor$Side", "worth", "(I)I"⟩, 4), (⟨"SumDoor$Sums", "add", "(LSumDoor$Text;II)I"⟩, 4), (⟨"SumDoor", "isSum", "(I)Z"⟩, 8), (⟨"SumDoor$Sums", "has", "(I)Z"⟩, 4), (⟨"SumDoor$Sums", "hardOf", "(I)I"⟩, 4), (⟨"SumDoor$Sums", "solversOf", "(II)I"⟩, 4)]
theorem lw_r1 : ∀ q ∈ lw_privs_1, lw_okq q := List.forall_mem_cons.mpr ⟨lw_p0, List.forall_mem_cons.mpr ⟨lw_p1, List.forall_mem_cons.mpr ⟨lw_p2, List.forall_mem_cons.mpr ⟨lw_p3, List.forall_mem_cons.mpr ⟨lw_p4, List.forall_mem_cons.mpr ⟨lw_p5, List.forall_mem_cons.mpr ⟨lw_p6, List.forall_mem_cons.mpr ⟨lw_p7, List.forall_mem_cons.mpr ⟨lw_p8, List.forall_mem_cons.mpr ⟨lw_p9, List.forall_mem_cons.mpr ⟨lw_p10, List.forall_mem_cons.mpr ⟨lw_p11, List.forall_mem_cons.mpr ⟨lw_p12, List.forall_mem_cons.mpr ⟨lw_p13, List.forall_mem_cons.mpr ⟨lw_p14, List.forall_mem_cons.mpr ⟨lw_p15, fun _ h => absurd h List.not_mem_nil⟩⟩⟩⟩⟩⟩⟩⟩⟩⟩⟩⟩⟩⟩⟩⟩
theorem lw_p16 : lw_okq (⟨"SumDoor$Sums", "isSolvedWith", "(III)Z"⟩, 4) := ⟨⟨by decide +kernel, by decide +kernel⟩, List.mem_of_getElem? (i := 58) (by decide +kernel), List.mem_of_getElem? (i := 360) (by decide +kernel), List.mem_of_getElem? (i := 361) (by decide +kernel)⟩
theorem lw_p17 : lw_okq (⟨"SumDoor$Sums", "sideOf", "(III)I"⟩, 4) := ⟨⟨by decide +kernel, by decide +kernel⟩, List.mem_of_getElem? (i := 58) (by decide +kernel), List.mem_of_getElem? (i := 379) (by decide +kernel), List.mem_of_getElem? (i := 380) (by decide +kernel)⟩
theorem lw_p18 : lw_okq (⟨"SumDoor$Sums", "isSolvedBy", "(II)Z"⟩, 4) := ⟨⟨by decide +kernel, by decide +kernel⟩, List.mem_of_getElem? (i := 58) (by decide +kernel), List.mem_of_getElem? (i := 391) (by decide +kernel), List.mem_of_getElem? (i := 392) (by decide +kernel)⟩
theorem lw_p19 : lw_okq (⟨"SumDoor$Gaol", "row", "(I)[I"⟩, 13) := ⟨⟨by decide +kernel, by decide +kernel⟩, List.mem_of_getElem? (i := 82) (by decide +kernel), List.mem_of_getElem? (i := 419) (by decide +kernel), List.mem_of_getElem? (i := 420) (by decide +kernel)⟩
theorem lw_p20 : lw_okq (⟨"SumDoor$Gaol", "beginDay", "(I)V"⟩, 13) := ⟨⟨by decide +kernel, by decide +kernel⟩, List.mem_of_getElem? (i := 82) (by decide +kernel), List.mem_of_getElem? (i := 431) (by decide +kernel), List.mem_of_getElem? (i := 432) (by decide +kernel)⟩
theorem lw_p21 : lw_okq (⟨"SumDoor$World", "draw", "()I"⟩, 4) := ⟨⟨by decide +kernel, by decide +kernel⟩, List.mem_of_getElem? (i := 52) (by decide +kernel), List.mem_of_getElem? (i := 443) (by decide +kernel), List.mem_of_getElem? (i := 444) (by decide +kernel)⟩
theorem lw_p22 : lw_okq (⟨"SumDoor$Gaol", "give", "(II)V"⟩, 13) := ⟨⟨by decide +kernel, by decide +kernel⟩, List.mem_of_getElem? (i := 82) (by decide +kernel), List.mem_of_getElem? (i := 448) (by decide +kernel), List.mem_of_getElem? (i := 449) (by decide +kernel)⟩
theorem lw_p23 : lw_okq (⟨"SumDoor$Gaol", "allChalk", "()I"⟩, 13) := ⟨⟨by decide +kernel, by decide +kernel⟩, List.mem_of_getElem? (i := 82) (by decide +kernel), List.mem_of_getElem? (i := 456) (by decide +kernel), List.mem_of_getElem? (i := 457) (by decide +kernel)⟩
theorem lw_p24 : lw_okq (⟨"SumDoor$Gaol", "teach", "(II)V"⟩, 13) := ⟨⟨by decide +kernel, by decide +kernel⟩, List.mem_of_getElem? (i := 82) (by decide +kernel), List.mem_of_getElem? (i := 465) (by decide +kernel), List.mem_of_getElem? (i := 466) (by decide +kernel)⟩
theorem lw_p25 : lw_okq (⟨"SumDoor$Gaol", "outSet", "()I"⟩, 13) := ⟨⟨by decide +kernel, by decide +kernel⟩, List.mem_of_getElem? (i := 82) (by decide +kernel), List.mem_of_getElem? (i := 474) (by decide +kernel), List.mem_of_getElem? (i := 475) (by decide +kernel)⟩
theorem lw_p26 : lw_okq (⟨"SumDoor$Gaol", "goOn", "(LSumDoor$Sums;I)V"⟩, 13) := ⟨⟨by decide +kernel, by decide +kernel⟩, List.mem_of_getElem? (i := 82) (by decide +kernel), List.mem_of_getElem? (i := 487) (by decide +kernel), List.mem_of_getElem? (i := 488) (by decide +kernel)⟩
theorem lw_p27 : lw_okq (⟨"SumDoor$Gaol", "answerSet", "()I"⟩, 13) := ⟨⟨by decide +kernel, by decide +kernel⟩, List.mem_of_getElem? (i := 82) (by decide +kernel), List.mem_of_getElem? (i := 493) (by decide +kernel), List.mem_of_getElem? (i := 494) (by decide +kernel)⟩
theorem lw_p28 : lw_okq (⟨"SumDoor$Gaol", "workOn", "(ILSumDoor$Sums;I)V"⟩, 13) := ⟨⟨by decide +kernel, by decide +kernel⟩, List.mem_of_getElem? (i := 82) (by decide +kernel), List.mem_of_getElem? (i := 498) (by decide +kernel), List.mem_of_getElem? (i := 499) (by decide +kernel)⟩
theorem lw_p29 : lw_okq (⟨"SumDoor$Gaol", "seeks", "(I)Z"⟩, 13) := ⟨⟨by decide +kernel, by decide +kernel⟩, List.mem_of_getElem? (i := 82) (by decide +kernel), List.mem_of_getElem? (i := 502) (by decide +kernel), List.mem_of_getElem? (i := 503) (by decide +kernel)⟩
theorem lw_p30 : lw_okq (⟨"SumDoor$Gaol", "buy", "(I)V"⟩, 13) := ⟨⟨by decide +kernel, by decide +kernel⟩, List.mem_of_getElem? (i := 82) (by decide +kernel), List.mem_of_getElem? (i := 507) (by decide +kernel), List.mem_of_getElem? (i := 508) (by decide +kernel)⟩
theorem lw_p31 : lw_okq (⟨"SumDoor$Gaol", "cheapest", "()I"⟩, 13) := ⟨⟨by decide +kernel, by decide +kernel⟩, List.mem_of_getElem? (i := 82) (by decide +kernel), List.mem_of_getElem? (i := 511) (by decide +kernel), List.mem_of_getElem? (i := 512) (by decide +kernel)⟩
def lw_privs_2 : List (MethodName × Nat) := [(⟨"SumDoor$Sums", "isSolvedWith", "(III)Z"⟩, 4), (⟨"SumDoor$Sums", "sideOf", "(III)I"⟩, 4), (⟨"SumDoor$Sums", "isSolvedBy", "(II)Z"⟩, 4), (⟨"SumDoor$Gaol", "row", "(I)[I"⟩, 13), (⟨"SumDoor$Gaol", "beginDay", "(I)V"⟩, 13), (⟨"SumDoor$World", "draw", "()I"⟩, 4), (⟨"SumDoor$Gaol", "give", "(II)V"⟩, 13), (⟨"SumDoor$Gaol", "allChalk", "()I"⟩, 13), (⟨"SumDoor$Gaol", "teach", "(II)V"⟩, 13), (⟨"SumDoor$Gaol", "outSet", "()I"⟩, 13), (⟨"SumDoor$Gaol", "goOn", "(LSumDoor$Sums;I)V"⟩, 13), (⟨"SumDoor$Gaol", "answerSet", "()I"⟩, 13), (⟨"SumDoor$Gaol", "workOn", "(ILSumDoor$Sums;I)V"⟩, 13), (⟨"SumDoor$Gaol", "seeks", "(I)Z"⟩, 13), (⟨"SumDoor$Gaol", "buy", "(I)V"⟩, 13), (⟨"SumDoor$Gaol", "cheapest", "()I"⟩, 13)]
theorem lw_r2 : ∀ q ∈ lw_privs_2, lw_okq q := List.forall_mem_cons.mpr ⟨lw_p16, List.forall_mem_cons.mpr ⟨lw_p17, List.forall_mem_cons.mpr ⟨lw_p18, List.forall_mem_cons.mpr ⟨lw_p19, List.forall_mem_cons.mpr ⟨lw_p20, List.forall_mem_cons.mpr ⟨lw_p21, List.forall_mem_cons.mpr ⟨lw_p22, List.forall_mem_cons.mpr ⟨lw_p23, List.forall_mem_cons.mpr ⟨lw_p24, List.forall_mem_cons.mpr ⟨lw_p25, List.forall_mem_cons.mpr ⟨lw_p26, List.forall_mem_cons.mpr ⟨lw_p27, List.forall_mem_cons.mpr ⟨lw_p28, List.forall_mem_cons.mpr ⟨lw_p29, List.forall_mem_cons.mpr ⟨lw_p30, List.forall_mem_cons.mpr ⟨lw_p31, fun _ h => absurd h List.not_mem_nil⟩⟩⟩⟩⟩⟩⟩⟩⟩⟩⟩⟩⟩⟩⟩⟩
theorem lw_p32 : lw_okq (⟨"SumDoor$Gaol", "sells", "(I)Z"⟩, 13) := ⟨⟨by decide +kernel, by decide +kernel⟩, List.mem_of_getElem? (i := 82) (by decide +kernel), List.mem_of_getElem? (i := 515) (by decide +kernel), List.mem_of_getElem? (i := 516) (by decide +kernel)⟩
theorem lw_p33 : lw_okq (⟨"SumDoor$Gaol", "readLips", "(II)V"⟩, 13) := ⟨⟨by decide +kernel, by decide +kernel⟩, List.mem_of_getElem? (i := 82) (by decide +kernel), List.mem_of_getElem? (i := 520) (by decide +kernel), List.mem_of_getElem? (i := 521) (by decide +kernel)⟩
theorem lw_p34 : lw_okq (⟨"SumDoor$Gaol", "firstIn", "(II)I"⟩, 13) := ⟨⟨by decide +kernel, by decide +kernel⟩, List.mem_of_getElem? (i := 82) (by decide +kernel), List.mem_of_getElem? (i := 524) (by decide +kernel), List.mem_of_getElem? (i := 525) (by decide +kernel)⟩
theorem lw_p35 : lw_okq (⟨"SumDoor$Gaol", "goOut", "(I)V"⟩, 13) := ⟨⟨by decide +kernel, by decide +kernel⟩, List.mem_of_getElem? (i := 82) (by decide +kernel), List.mem_of_getElem? (i := 528) (by decide +kernel), List.mem_of_getElem? (i := 529) (by decide +kernel)⟩
theorem lw_p36 : lw_okq (⟨"SumDoor$Gaol", "become", "(LSumDoor$Gaol;)V"⟩, 13) := ⟨⟨by decide +kernel, by decide +kernel⟩, List.mem_of_getElem? (i := 82) (by decide +kernel), List.mem_of_getElem? (i := 544) (by decide +kernel), List.mem_of_getElem? (i := 545) (by decide +kernel)⟩
theorem lw_p37 : lw_okq (⟨"SumDoor", "letOut", "(II)I"⟩, 8) := ⟨⟨by decide +kernel, by decide +kernel⟩, List.mem_of_getElem? (i := 15) (by decide +kernel), List.mem_of_getElem? (i := 561) (by decide +kernel), List.mem_of_getElem? (i := 562) (by decide +kernel)⟩
theorem lw_p38 : lw_okq (⟨"SumDoor", "tryDay", "(I)V"⟩, 8) := ⟨⟨by decide +kernel, by decide +kernel⟩, List.mem_of_getElem? (i := 15) (by decide +kernel), List.mem_of_getElem? (i := 565) (by decide +kernel), List.mem_of_getElem? (i := 566) (by decide +kernel)⟩
theorem lw_p39 : lw_okq (⟨"SumDoor$Gaol", "maySet", "()I"⟩, 13) := ⟨⟨by decide +kernel, by decide +kernel⟩, List.mem_of_getElem? (i := 82) (by decide +kernel), List.mem_of_getElem? (i := 573) (by decide +kernel), List.mem_of_getElem? (i := 574) (by decide +kernel)⟩
theorem lw_p40 : lw_okq (⟨"SumDoor", "letByAny", "(I)I"⟩, 8) := ⟨⟨by decide +kernel, by decide +kernel⟩, List.mem_of_getElem? (i := 15) (by decide +kernel), List.mem_of_getElem? (i := 585) (by decide +kernel), List.mem_of_getElem? (i := 586) (by decide +kernel)⟩
theorem lw_p41 : lw_okq (⟨"SumDoor", "keepsIn", "(II)Z"⟩, 8) := ⟨⟨by decide +kernel, by decide +kernel⟩, List.mem_of_getElem? (i := 15) (by decide +kernel), List.mem_of_getElem? (i := 598) (by decide +kernel), List.mem_of_getElem? (i := 599) (by decide +kernel)⟩
theorem lw_p42 : lw_okq (⟨"SumDoor", "answersAlone", "(III)Z"⟩, 8) := ⟨⟨by decide +kernel, by decide +kernel⟩, List.mem_of_getElem? (i := 15) (by decide +kernel), List.mem_of_getElem? (i := 606) (by decide +kernel), List.mem_of_getElem? (i := 607) (by decide +kernel)⟩
theorem lw_p43 : lw_okq (⟨"SumDoor", "isSheet", "(I)Z"⟩, 8) := ⟨⟨by decide +kernel, by decide +kernel⟩, List.mem_of_getElem? (i := 15) (by decide +kernel), List.mem_of_getElem? (i := 633) (by decide +kernel), List.mem_of_getElem? (i := 634) (by decide +kernel)⟩
theorem lw_p44 : lw_okq (⟨"SumDoor$Sheet", "begin", "(II)V"⟩, 3) := ⟨⟨by decide +kernel, by decide +kernel⟩, List.mem_of_getElem? (i := 158) (by decide +kernel), List.mem_of_getElem? (i := 638) (by decide +kernel), List.mem_of_getElem? (i := 639) (by decide +kernel)⟩
theorem lw_p45 : lw_okq (⟨"SumDoor$Sheet", "isMissing", "()Z"⟩, 3) := ⟨⟨by decide +kernel, by decide +kernel⟩, List.mem_of_getElem? (i := 158) (by decide +kernel), List.mem_of_getElem? (i := 647) (by decide +kernel), List.mem_of_getElem? (i := 648) (by decide +kernel)⟩
theorem lw_p46 : lw_okq (⟨"SumDoor$Sheet", "put", "(II)V"⟩, 3) := ⟨⟨by decide +kernel, by decide +kernel⟩, List.mem_of_getElem? (i := 158) (by decide +kernel), List.mem_of_getElem? (i := 651) (by decide +kernel), List.mem_of_getElem? (i := 652) (by decide +kernel)⟩
theorem lw_p47 : lw_okq (⟨"SumDoor$Sheet", "cut", "(I)I"⟩, 3) := ⟨⟨by decide +kernel, by decide +kernel⟩, List.mem_of_getElem? (i := 158) (by decide +kernel), List.mem_of_getElem? (i := 655) (by decide +kernel), List.mem_of_getElem? (i := 656) (by decide +kernel)⟩
def lw_privs_3 : List (MethodName × Nat) := [(⟨"SumDoor$Gaol", "sells", "(I)Z"⟩, 13), (⟨"SumDoor$Gaol", "readLips", "(II)V"⟩, 13), (⟨"SumDoor$Gaol", "firstIn", "(II)I"⟩, 13), (⟨"SumDoor$Gaol", "goOut", "(I)V"⟩, 13), (⟨"SumDoor$Gaol", "become", "(LSumDoor$Gaol;)V"⟩, 13), (⟨"SumDoor", "letOut", "(II)I"⟩, 8), (⟨"SumDoor", "tryDay", "(I)V"⟩, 8), (⟨"SumDoor$Gaol", "maySet", "()I"⟩, 13), (⟨"SumDoor", "letByAny", "(I)I"⟩, 8), (⟨"SumDoor", "keepsIn", "(II)Z"⟩, 8), (⟨"SumDoor", "answersAlone", "(III)Z"⟩, 8), (⟨"SumDoor", "isSheet", "(I)Z"⟩, 8), (⟨"SumDoor$Sheet", "begin", "(II)V"⟩, 3), (⟨"SumDoor$Sheet", "isMissing", "()Z"⟩, 3), (⟨"SumDoor$Sheet", "put", "(II)V"⟩, 3), (⟨"SumDoor$Sheet", "cut", "(I)I"⟩, 3)]
theorem lw_r3 : ∀ q ∈ lw_privs_3, lw_okq q := List.forall_mem_cons.mpr ⟨lw_p32, List.forall_mem_cons.mpr ⟨lw_p33, List.forall_mem_cons.mpr ⟨lw_p34, List.forall_mem_cons.mpr ⟨lw_p35, List.forall_mem_cons.mpr ⟨lw_p36, List.forall_mem_cons.mpr ⟨lw_p37, List.forall_mem_cons.mpr ⟨lw_p38, List.forall_mem_cons.mpr ⟨lw_p39, List.forall_mem_cons.mpr ⟨lw_p40, List.forall_mem_cons.mpr ⟨lw_p41, List.forall_mem_cons.mpr ⟨lw_p42, List.forall_mem_cons.mpr ⟨lw_p43, List.forall_mem_cons.mpr ⟨lw_p44, List.forall_mem_cons.mpr ⟨lw_p45, List.forall_mem_cons.mpr ⟨lw_p46, List.forall_mem_cons.mpr ⟨lw_p47, fun _ h => absurd h List.not_mem_nil⟩⟩⟩⟩⟩⟩⟩⟩⟩⟩⟩⟩⟩⟩⟩⟩
theorem lw_p48 : lw_okq (⟨"SumDoor$Sheet", "hasRun", "(II)Z"⟩, 3) := ⟨⟨by decide +kernel, by decide +kernel⟩, List.mem_of_getElem? (i := 158) (by decide +kernel), List.mem_of_getElem? (i := 663) (by decide +kernel), List.mem_of_getElem? (i := 664) (by decide +kernel)⟩
theorem lw_p49 : lw_okq (⟨"SumDoor$World", "become", "(LSumDoor$World;)V"⟩, 4) := ⟨⟨by decide +kernel, by decide +kernel⟩, List.mem_of_getElem? (i := 52) (by decide +kernel), List.mem_of_getElem? (i := 680) (by decide +kernel), List.mem_of_getElem? (i := 681) (by decide +kernel)⟩
theorem lw_p50 : lw_okq (⟨"SumDoor$Sums", "become", "(LSumDoor$Sums;)V"⟩, 4) := ⟨⟨by decide +kernel, by decide +kernel⟩, List.mem_of_getElem? (i := 58) (by decide +kernel), List.mem_of_getElem? (i := 684) (by decide +kernel), List.mem_of_getElem? (i := 685) (by decide +kernel)⟩
theorem lw_p51 : lw_okq (⟨"SumDoorModel", "finds", "(I)I"⟩, 23) := ⟨⟨by decide +kernel, by decide +kernel⟩, List.mem_of_getElem? (i := 706) (by decide +kernel), List.mem_of_getElem? (i := 794) (by decide +kernel), List.mem_of_getElem? (i := 795) (by decide +kernel)⟩
theorem lw_p52 : lw_okq (⟨"SumDoorModel", "fault", "()I"⟩, 23) := ⟨⟨by decide +kernel, by decide +kernel⟩, List.mem_of_getElem? (i := 706) (by decide +kernel), List.mem_of_getElem? (i := 809) (by decide +kernel), List.mem_of_getElem? (i := 810) (by decide +kernel)⟩
theorem lw_p53 : lw_okq (⟨"SumDoorModel", "goesOn", "(I)Z"⟩, 23) := ⟨⟨by decide +kernel, by decide +kernel⟩, List.mem_of_getElem? (i := 706) (by decide +kernel), List.mem_of_getElem? (i := 813) (by decide +kernel), List.mem_of_getElem? (i := 814) (by decide +kernel)⟩
theorem lw_p54 : lw_okq (⟨"SumDoorModel", "begins", "(IZ)Z"⟩, 23) := ⟨⟨by decide +kernel, by decide +kernel⟩, List.mem_of_getElem? (i := 706) (by decide +kernel), List.mem_of_getElem? (i := 819) (by decide +kernel), List.mem_of_getElem? (i := 820) (by decide +kernel)⟩
theorem lw_p55 : lw_okq (⟨"SumDoorModel", "does", "(I)V"⟩, 23) := ⟨⟨by decide +kernel, by decide +kernel⟩, List.mem_of_getElem? (i := 706) (by decide +kernel), List.mem_of_getElem? (i := 829) (by decide +kernel), List.mem_of_getElem? (i := 830) (by decide +kernel)⟩
theorem lw_p56 : lw_okq (⟨"SumDoorModel", "signs", "()I"⟩, 23) := ⟨⟨by decide +kernel, by decide +kernel⟩, List.mem_of_getElem? (i := 706) (by decide +kernel), List.mem_of_getElem? (i := 833) (by decide +kernel), List.mem_of_getElem? (i := 834) (by decide +kernel)⟩
theorem lw_p57 : lw_okq (⟨"SumDoorModel", "isSum", "(I)Z"⟩, 23) := ⟨⟨by decide +kernel, by decide +kernel⟩, List.mem_of_getElem? (i := 706) (by decide +kernel), List.mem_of_getElem? (i := 841) (by decide +kernel), List.mem_of_getElem? (i := 842) (by decide +kernel)⟩
theorem lw_p58 : lw_okq (⟨"SumDoorModel", "its", "(II)I"⟩, 23) := ⟨⟨by decide +kernel, by decide +kernel⟩, List.mem_of_getElem? (i := 706) (by decide +kernel), List.mem_of_getElem? (i := 846) (by decide +kernel), List.mem_of_getElem? (i := 847) (by decide +kernel)⟩
theorem lw_p59 : lw_okq (⟨"SumDoorModel", "hard", "(I)I"⟩, 23) := ⟨⟨by decide +kernel, by decide +kernel⟩, List.mem_of_getElem? (i := 706) (by decide +kernel), List.mem_of_getElem? (i := 850) (by decide +kernel), List.mem_of_getElem? (i := 851) (by decide +kernel)⟩
theorem lw_p60 : lw_okq (⟨"SumDoorModel", "solvers", "(I)I"⟩, 23) := ⟨⟨by decide +kernel, by decide +kernel⟩, List.mem_of_getElem? (i := 706) (by decide +kernel), List.mem_of_getElem? (i := 854) (by decide +kernel), List.mem_of_getElem? (i := 855) (by decide +kernel)⟩
theorem lw_p61 : lw_okq (⟨"SumDoorModel", "isSolved", "(II)Z"⟩, 23) := ⟨⟨by decide +kernel, by decide +kernel⟩, List.mem_of_getElem? (i := 706) (by decide +kernel), List.mem_of_getElem? (i := 858) (by decide +kernel), List.mem_of_getElem? (i := 859) (by decide +kernel)⟩
theorem lw_p62 : lw_okq (⟨"SumDoorModel", "sideOf", "(III)I"⟩, 23) := ⟨⟨by decide +kernel, by decide +kernel⟩, List.mem_of_getElem? (i := 706) (by decide +kernel), List.mem_of_getElem? (i := 862) (by decide +kernel), List.mem_of_getElem? (i := 863) (by decide +kernel)⟩
theorem lw_p63 : lw_okq (⟨"SumDoorModel", "newDay", "()V"⟩, 23) := ⟨⟨by decide +kernel, by decide +kernel⟩, List.mem_of_getElem? (i := 706) (by decide +kernel), List.mem_of_getElem? (i := 919) (by decide +kernel), List.mem_of_getElem? (i := 920) (by decide +kernel)⟩
def lw_privs_4 : List (MethodName × Nat) := [(⟨"SumDoor$Sheet", "hasRun", "(II)Z"⟩, 3), (⟨"SumDoor$World", "become", "(LSumDoor$World;)V"⟩, 4), (⟨"SumDoor$Sums", "become", "(LSumDoor$Sums;)V"⟩, 4), (⟨"SumDoorModel", "finds", "(I)I"⟩, 23), (⟨"SumDoorModel", "fault", "()I"⟩, 23), (⟨"SumDoorModel", "goesOn", "(I)Z"⟩, 23), (⟨"SumDoorModel", "begins", "(IZ)Z"⟩, 23), (⟨"SumDoorModel", "does", "(I)V"⟩, 23), (⟨"SumDoorModel", "signs", "()I"⟩, 23), (⟨"SumDoorModel", "isSum", "(I)Z"⟩, 23), (⟨"SumDoorModel", "its", "(II)I"⟩, 23), (⟨"SumDoorModel", "hard", "(I)I"⟩, 23), (⟨"SumDoorModel", "solvers", "(I)I"⟩, 23), (⟨"SumDoorModel", "isSolved", "(II)Z"⟩, 23), (⟨"SumDoorModel", "sideOf", "(III)I"⟩, 23), (⟨"SumDoorModel", "newDay", "()V"⟩, 23)]
theorem lw_r4 : ∀ q ∈ lw_privs_4, lw_okq q := List.forall_mem_cons.mpr ⟨lw_p48, List.forall_mem_cons.mpr ⟨lw_p49, List.forall_mem_cons.mpr ⟨lw_p50, List.forall_mem_cons.mpr ⟨lw_p51, List.forall_mem_cons.mpr ⟨lw_p52, List.forall_mem_cons.mpr ⟨lw_p53, List.forall_mem_cons.mpr ⟨lw_p54, List.forall_mem_cons.mpr ⟨lw_p55, List.forall_mem_cons.mpr ⟨lw_p56, List.forall_mem_cons.mpr ⟨lw_p57, List.forall_mem_cons.mpr ⟨lw_p58, List.forall_mem_cons.mpr ⟨lw_p59, List.forall_mem_cons.mpr ⟨lw_p60, List.forall_mem_cons.mpr ⟨lw_p61, List.forall_mem_cons.mpr ⟨lw_p62, List.forall_mem_cons.mpr ⟨lw_p63, fun _ h => absurd h List.not_mem_nil⟩⟩⟩⟩⟩⟩⟩⟩⟩⟩⟩⟩⟩⟩⟩⟩
theorem lw_p64 : lw_okq (⟨"SumDoorModel", "next", "()I"⟩, 23) := ⟨⟨by decide +kernel, by decide +kernel⟩, List.mem_of_getElem? (i := 706) (by decide +kernel), List.mem_of_getElem? (i := 932) (by decide +kernel), List.mem_of_getElem? (i := 933) (by decide +kernel)⟩
theorem lw_p65 : lw_okq (⟨"SumDoorModel", "chalks", "()I"⟩, 23) := ⟨⟨by decide +kernel, by decide +kernel⟩, List.mem_of_getElem? (i := 706) (by decide +kernel), List.mem_of_getElem? (i := 937) (by decide +kernel), List.mem_of_getElem? (i := 938) (by decide +kernel)⟩
theorem lw_p66 : lw_okq (⟨"SumDoorModel", "outs", "()I"⟩, 23) := ⟨⟨by decide +kernel, by decide +kernel⟩, List.mem_of_getElem? (i := 706) (by decide +kernel), List.mem_of_getElem? (i := 951) (by decide +kernel), List.mem_of_getElem? (i := 952) (by decide +kernel)⟩
theorem lw_p67 : lw_okq (⟨"SumDoorModel", "minutesGo", "(I)V"⟩, 23) := ⟨⟨by decide +kernel, by decide +kernel⟩, List.mem_of_getElem? (i := 706) (by decide +kernel), List.mem_of_getElem? (i := 958) (by decide +kernel), List.mem_of_getElem? (i := 959) (by decide +kernel)⟩
theorem lw_p68 : lw_okq (⟨"SumDoorModel", "minute", "()V"⟩, 23) := ⟨⟨by decide +kernel, by decide +kernel⟩, List.mem_of_getElem? (i := 706) (by decide +kernel), List.mem_of_getElem? (i := 962) (by decide +kernel), List.mem_of_getElem? (i := 963) (by decide +kernel)⟩
theorem lw_p69 : lw_okq (⟨"SumDoorModel", "isOpen", "(I)Z"⟩, 23) := ⟨⟨by decide +kernel, by decide +kernel⟩, List.mem_of_getElem? (i := 706) (by decide +kernel), List.mem_of_getElem? (i := 966) (by decide +kernel), List.mem_of_getElem? (i := 967) (by decide +kernel)⟩
theorem lw_p70 : lw_okq (⟨"SumDoorModel", "works", "(I)V"⟩, 23) := ⟨⟨by decide +kernel, by decide +kernel⟩, List.mem_of_getElem? (i := 706) (by decide +kernel), List.mem_of_getElem? (i := 970) (by decide +kernel), List.mem_of_getElem? (i := 971) (by decide +kernel)⟩
theorem lw_p71 : lw_okq (⟨"SumDoorModel", "buys", "(I)V"⟩, 23) := ⟨⟨by decide +kernel, by decide +kernel⟩, List.mem_of_getElem? (i := 706) (by decide +kernel), List.mem_of_getElem? (i := 974) (by decide +kernel), List.mem_of_getElem? (i := 975) (by decide +kernel)⟩
theorem lw_p72 : lw_okq (⟨"SumDoorModel", "reads", "(I)V"⟩, 23) := ⟨⟨by decide +kernel, by decide +kernel⟩, List.mem_of_getElem? (i := 706) (by decide +kernel), List.mem_of_getElem? (i := 978) (by decide +kernel), List.mem_of_getElem? (i := 979) (by decide +kernel)⟩
theorem lw_p73 : lw_okq (⟨"SumDoorModel", "puts", "()V"⟩, 23) := ⟨⟨by decide +kernel, by decide +kernel⟩, List.mem_of_getElem? (i := 706) (by decide +kernel), List.mem_of_getElem? (i := 996) (by decide +kernel), List.mem_of_getElem? (i := 997) (by decide +kernel)⟩
theorem lw_p74 : lw_okq (⟨"SumDoorModel", "putsBack", "()V"⟩, 23) := ⟨⟨by decide +kernel, by decide +kernel⟩, List.mem_of_getElem? (i := 706) (by decide +kernel), List.mem_of_getElem? (i := 1000) (by decide +kernel), List.mem_of_getElem? (i := 1001) (by decide +kernel)⟩
theorem lw_p75 : lw_okq (⟨"SumDoorModel", "letsOut", "(II)I"⟩, 23) := ⟨⟨by decide +kernel, by decide +kernel⟩, List.mem_of_getElem? (i := 706) (by decide +kernel), List.mem_of_getElem? (i := 1012) (by decide +kernel), List.mem_of_getElem? (i := 1013) (by decide +kernel)⟩
theorem lw_p76 : lw_okq (⟨"SumDoorModel", "wrongsOf", "(II)I"⟩, 23) := ⟨⟨by decide +kernel, by decide +kernel⟩, List.mem_of_getElem? (i := 706) (by decide +kernel), List.mem_of_getElem? (i := 1020) (by decide +kernel), List.mem_of_getElem? (i := 1021) (by decide +kernel)⟩
theorem lw_p77 : lw_okq (⟨"SumDoorModel", "maySet", "()I"⟩, 23) := ⟨⟨by decide +kernel, by decide +kernel⟩, List.mem_of_getElem? (i := 706) (by decide +kernel), List.mem_of_getElem? (i := 1024) (by decide +kernel), List.mem_of_getElem? (i := 1025) (by decide +kernel)⟩
theorem lw_p78 : lw_okq (⟨"SumDoorModel", "wrong", "(I)I"⟩, 23) := ⟨⟨by decide +kernel, by decide +kernel⟩, List.mem_of_getElem? (i := 706) (by decide +kernel), List.mem_of_getElem? (i := 1078) (by decide +kernel), List.mem_of_getElem? (i := 1079) (by decide +kernel)⟩
def lw_privs_5 : List (MethodName × Nat) := [(⟨"SumDoorModel", "next", "()I"⟩, 23), (⟨"SumDoorModel", "chalks", "()I"⟩, 23), (⟨"SumDoorModel", "outs", "()I"⟩, 23), (⟨"SumDoorModel", "minutesGo", "(I)V"⟩, 23), (⟨"SumDoorModel", "minute", "()V"⟩, 23), (⟨"SumDoorModel", "isOpen", "(I)Z"⟩, 23), (⟨"SumDoorModel", "works", "(I)V"⟩, 23), (⟨"SumDoorModel", "buys", "(I)V"⟩, 23), (⟨"SumDoorModel", "reads", "(I)V"⟩, 23), (⟨"SumDoorModel", "puts", "()V"⟩, 23), (⟨"SumDoorModel", "putsBack", "()V"⟩, 23), (⟨"SumDoorModel", "letsOut", "(II)I"⟩, 23), (⟨"SumDoorModel", "wrongsOf", "(II)I"⟩, 23), (⟨"SumDoorModel", "maySet", "()I"⟩, 23), (⟨"SumDoorModel", "wrong", "(I)I"⟩, 23)]
theorem lw_r5 : ∀ q ∈ lw_privs_5, lw_okq q := List.forall_mem_cons.mpr ⟨lw_p64, List.forall_mem_cons.mpr ⟨lw_p65, List.forall_mem_cons.mpr ⟨lw_p66, List.forall_mem_cons.mpr ⟨lw_p67, List.forall_mem_cons.mpr ⟨lw_p68, List.forall_mem_cons.mpr ⟨lw_p69, List.forall_mem_cons.mpr ⟨lw_p70, List.forall_mem_cons.mpr ⟨lw_p71, List.forall_mem_cons.mpr ⟨lw_p72, List.forall_mem_cons.mpr ⟨lw_p73, List.forall_mem_cons.mpr ⟨lw_p74, List.forall_mem_cons.mpr ⟨lw_p75, List.forall_mem_cons.mpr ⟨lw_p76, List.forall_mem_cons.mpr ⟨lw_p77, List.forall_mem_cons.mpr ⟨lw_p78, fun _ h => absurd h List.not_mem_nil⟩⟩⟩⟩⟩⟩⟩⟩⟩⟩⟩⟩⟩⟩⟩
def lw_privs : List (MethodName × Nat) := lw_privs_1 ++ (lw_privs_2 ++ (lw_privs_3 ++ (lw_privs_4 ++ (lw_privs_5))))
def lw_tbl : List Cond := k2_sels lw_privs ++ tables_1
theorem lw_privs_ok : ∀ q ∈ lw_privs, lw_okq q := by
  show ∀ q ∈ lw_privs_1 ++ (lw_privs_2 ++ (lw_privs_3 ++ (lw_privs_4 ++ (lw_privs_5)))), lw_okq q
  exact List.forall_mem_append.mpr ⟨lw_r1, List.forall_mem_append.mpr ⟨lw_r2, List.forall_mem_append.mpr ⟨lw_r3, List.forall_mem_append.mpr ⟨lw_r4, lw_r5⟩⟩⟩⟩
-- ===== end of PART A; then your names; then what follows =====
end
section
def RX0 : String := "SumDoor$Gaol"
def TX0 : u_T := fun k => match k with
  | 0 => ("SumDoor$Gaol", "skill", "[I", true)
  | 1 => ("SumDoor$Gaol", "chalk", "[I", true)
  | 2 => ("SumDoor$Gaol", "price", "[I", true)
  | 3 => ("SumDoor$Gaol", "cell", "[I", true)
  | 4 => ("SumDoor$Gaol", "may", "[I", true)
  | 5 => ("SumDoor$Gaol", "number", "[I", true)
  | 6 => ("SumDoor$Gaol", "answer", "[I", true)
  | 7 => ("SumDoor$Gaol", "work", "[I", true)
  | 8 => ("SumDoor$Gaol", "isOut", "[I", true)
  | 9 => ("SumDoor$Gaol", "theSum", "I", false)
  | 10 => ("SumDoor$Gaol", "rich", "I", false)
  | 11 => ("SumDoor$Gaol", "minute", "I", false)
  | _ => ("SumDoor$Gaol", "isMoved", "Z", false)
def tyX0 : Nat → FieldType := fun k => match k with
  | 0 => .array .int
  | 1 => .array .int
  | 2 => .array .int
  | 3 => .array .int
  | 4 => .array .int
  | 5 => .array .int
  | 6 => .array .int
  | 7 => .array .int
  | 8 => .array .int
  | 9 => .int
  | 10 => .int
  | 11 => .int
  | _ => .boolean
theorem nmX0 : ∀ a, a < 13 → ∀ b, b < 13 → a ≠ b → (TX0 a).2.1 ≠ (TX0 b).2.1 := by decide +kernel
theorem tyX0_ok : ∀ k, k < 13 → parseFieldDescriptor (TX0 k).2.2.1 = some (tyX0 k) := by decide +kernel
def RX1 : String := "SumDoor$Sheet"
def TX1 : u_T := fun k => match k with
  | 0 => ("SumDoor$Sheet", "numbers", "[I", true)
  | 1 => ("SumDoor$Sheet", "bits", "I", false)
  | _ => ("SumDoor$Sheet", "length", "I", false)
def tyX1 : Nat → FieldType := fun k => match k with
  | 0 => .array .int
  | 1 => .int
  | _ => .int
theorem nmX1 : ∀ a, a < 3 → ∀ b, b < 3 → a ≠ b → (TX1 a).2.1 ≠ (TX1 b).2.1 := by decide +kernel
theorem tyX1_ok : ∀ k, k < 3 → parseFieldDescriptor (TX1 k).2.2.1 = some (tyX1 k) := by decide +kernel
def RX2 : String := "SumDoor$Side"
def TX2 : u_T := fun k => match k with
  | 0 => ("SumDoor$Side", "steps", "[I", true)
  | 1 => ("SumDoor$Side", "length", "I", false)
  | 2 => ("SumDoor$Side", "pile", "[I", true)
  | _ => ("SumDoor$Side", "height", "I", false)
def tyX2 : Nat → FieldType := fun k => match k with
  | 0 => .array .int
  | 1 => .int
  | 2 => .array .int
  | _ => .int
theorem nmX2 : ∀ a, a < 4 → ∀ b, b < 4 → a ≠ b → (TX2 a).2.1 ≠ (TX2 b).2.1 := by decide +kernel
theorem tyX2_ok : ∀ k, k < 4 → parseFieldDescriptor (TX2 k).2.2.1 = some (tyX2 k) := by decide +kernel
def RX3 : String := "SumDoor$Sums"
def TX3 : u_T := fun k => match k with
  | 0 => ("SumDoor$Sums", "texts", "[LSumDoor$Text;", true)
  | 1 => ("SumDoor$Sums", "kinds", "[I", true)
  | 2 => ("SumDoor$Sums", "ms", "[I", true)
  | _ => ("SumDoor$Sums", "size", "I", false)
def tyX3 : Nat → FieldType := fun k => match k with
  | 0 => .array (.object "SumDoor$Text")
  | 1 => .array .int
  | 2 => .array .int
  | _ => .int
theorem nmX3 : ∀ a, a < 4 → ∀ b, b < 4 → a ≠ b → (TX3 a).2.1 ≠ (TX3 b).2.1 := by decide +kernel
theorem tyX3_ok : ∀ k, k < 4 → parseFieldDescriptor (TX3 k).2.2.1 = some (tyX3 k) := by decide +kernel
def RX4 : String := "SumDoor$Tape"
def TX4 : u_T := fun k => match k with
  | 0 => ("SumDoor$Tape", "bytes", "[I", true)
  | 1 => ("SumDoor$Tape", "length", "I", false)
  | 2 => ("SumDoor$Tape", "wantsOperand", "Z", false)
  | 3 => ("SumDoor$Tape", "digits", "I", false)
  | 4 => ("SumDoor$Tape", "open", "I", false)
  | _ => ("SumDoor$Tape", "isParted", "Z", false)
def tyX4 : Nat → FieldType := fun k => match k with
  | 0 => .array .int
  | 1 => .int
  | 2 => .boolean
  | 3 => .int
  | 4 => .int
  | _ => .boolean
theorem nmX4 : ∀ a, a < 6 → ∀ b, b < 6 → a ≠ b → (TX4 a).2.1 ≠ (TX4 b).2.1 := by decide +kernel
theorem tyX4_ok : ∀ k, k < 6 → parseFieldDescriptor (TX4 k).2.2.1 = some (tyX4 k) := by decide +kernel
def RX5 : String := "SumDoor$Text"
def TX5 : u_T := fun k => match k with
  | 0 => ("SumDoor$Text", "left", "LSumDoor$Side;", true)
  | 1 => ("SumDoor$Text", "right", "LSumDoor$Side;", true)
  | 2 => ("SumDoor$Text", "lefts", "[I", true)
  | 3 => ("SumDoor$Text", "rights", "[I", true)
  | _ => ("SumDoor$Text", "marks", "I", true)
def tyX5 : Nat → FieldType := fun k => match k with
  | 0 => .object "SumDoor$Side"
  | 1 => .object "SumDoor$Side"
  | 2 => .array .int
  | 3 => .array .int
  | _ => .int
theorem nmX5 : ∀ a, a < 5 → ∀ b, b < 5 → a ≠ b → (TX5 a).2.1 ≠ (TX5 b).2.1 := by decide +kernel
theorem tyX5_ok : ∀ k, k < 5 → parseFieldDescriptor (TX5 k).2.2.1 = some (tyX5 k) := by decide +kernel
def RX6 : String := "SumDoor$World"
def TX6 : u_T := fun k => match k with
  | 0 => ("SumDoor$World", "sums", "LSumDoor$Sums;", true)
  | 1 => ("SumDoor$World", "gaol", "LSumDoor$Gaol;", true)
  | 2 => ("SumDoor$World", "spots", "[I", true)
  | _ => ("SumDoor$World", "z", "I", false)
def tyX6 : Nat → FieldType := fun k => match k with
  | 0 => .object "SumDoor$Sums"
  | 1 => .object "SumDoor$Gaol"
  | 2 => .array .int
  | _ => .int
theorem nmX6 : ∀ a, a < 4 → ∀ b, b < 4 → a ≠ b → (TX6 a).2.1 ≠ (TX6 b).2.1 := by decide +kernel
theorem tyX6_ok : ∀ k, k < 4 → parseFieldDescriptor (TX6 k).2.2.1 = some (tyX6 k) := by decide +kernel
def RX7 : String := "SumDoor"
def TX7 : u_T := fun k => match k with
  | 0 => ("SumDoor", "tape", "LSumDoor$Tape;", true)
  | 1 => ("SumDoor", "now", "LSumDoor$World;", true)
  | 2 => ("SumDoor", "kept", "LSumDoor$World;", true)
  | 3 => ("SumDoor", "trial", "LSumDoor$Gaol;", true)
  | 4 => ("SumDoor", "sheets", "[LSumDoor$Sheet;", true)
  | 5 => ("SumDoor", "letsBySum", "[I", true)
  | 6 => ("SumDoor", "told", "[I", true)
  | _ => ("SumDoor", "isKept", "Z", false)
def tyX7 : Nat → FieldType := fun k => match k with
  | 0 => .object "SumDoor$Tape"
  | 1 => .object "SumDoor$World"
  | 2 => .object "SumDoor$World"
  | 3 => .object "SumDoor$Gaol"
  | 4 => .array (.object "SumDoor$Sheet")
  | 5 => .array .int
  | 6 => .array .int
  | _ => .boolean
theorem nmX7 : ∀ a, a < 8 → ∀ b, b < 8 → a ≠ b → (TX7 a).2.1 ≠ (TX7 b).2.1 := by decide +kernel
theorem tyX7_ok : ∀ k, k < 8 → parseFieldDescriptor (TX7 k).2.2.1 = some (tyX7 k) := by decide +kernel
def RX8 : String := "SumDoorModel"
def TX8 : u_T := fun k => match k with
  | 0 => ("SumDoorModel", "s", "[I", true)
  | 1 => ("SumDoorModel", "keptS", "[I", true)
  | 2 => ("SumDoorModel", "other", "[I", true)
  | 3 => ("SumDoorModel", "statuses", "[I", true)
  | 4 => ("SumDoorModel", "isKept", "Z", false)
  | 5 => ("SumDoorModel", "tape", "[I", true)
  | 6 => ("SumDoorModel", "put", "[I", true)
  | 7 => ("SumDoorModel", "done", "[I", true)
  | 8 => ("SumDoorModel", "taped", "I", false)
  | 9 => ("SumDoorModel", "putMany", "I", false)
  | 10 => ("SumDoorModel", "doneMany", "I", false)
  | 11 => ("SumDoorModel", "open", "I", false)
  | 12 => ("SumDoorModel", "sides", "I", false)
  | 13 => ("SumDoorModel", "digits", "I", false)
  | 14 => ("SumDoorModel", "firstLength", "I", false)
  | 15 => ("SumDoorModel", "isWanted", "Z", false)
  | 16 => ("SumDoorModel", "stack", "[I", true)
  | 17 => ("SumDoorModel", "shown", "[I", true)
  | 18 => ("SumDoorModel", "letSets", "[I", true)
  | 19 => ("SumDoorModel", "bitsOf", "[I", true)
  | 20 => ("SumDoorModel", "sizeOf", "[I", true)
  | 21 => ("SumDoorModel", "number", "[I", true)
  | _ => ("SumDoorModel", "moved", "[I", true)
def tyX8 : Nat → FieldType := fun k => match k with
  | 0 => .array .int
  | 1 => .array .int
  | 2 => .array .int
  | 3 => .array .int
  | 4 => .boolean
  | 5 => .array .int
  | 6 => .array .int
  | 7 => .array .int
  | 8 => .int
  | 9 => .int
  | 10 => .int
  | 11 => .int
  | 12 => .int
  | 13 => .int
  | 14 => .int
  | 15 => .boolean
  | 16 => .array .int
  | 17 => .array .int
  | 18 => .array .int
  | 19 => .array .int
  | 20 => .array .int
  | 21 => .array .int
  | _ => .array .int
theorem nmX8 : ∀ a, a < 23 → ∀ b, b < 23 → a ≠ b → (TX8 a).2.1 ≠ (TX8 b).2.1 := by decide +kernel
theorem tyX8_ok : ∀ k, k < 23 → parseFieldDescriptor (TX8 k).2.2.1 = some (tyX8 k) := by decide +kernel
abbrev sd_cl : List vw_C := [(RX0, TX0, 13), (RX1, TX1, 3), (RX2, TX2, 4), (RX3, TX3, 4), (RX4, TX4, 6), (RX5, TX5, 5), (RX6, TX6, 4), (RX7, TX7, 8), (RX8, TX8, 23)]
/-- kinds of the fields: 0 int, 1 boolean, 2 a reference -/
def sd_fk : List (List Nat) := [[2, 2, 2, 2, 2, 2, 2, 2, 2, 0, 0, 0, 1], [2, 0, 0], [2, 0, 2, 0], [2, 2, 2, 0], [2, 0, 1, 0, 0, 1], [2, 2, 2, 2, 0], [2, 2, 2, 0], [2, 2, 2, 2, 2, 2, 2, 1], [2, 2, 2, 2, 1, 2, 2, 2, 0, 0, 0, 0, 0, 0, 0, 1, 2, 2, 2, 2, 2, 2, 2]]
/-- final fields -/
def sd_ff : List (List Bool) := [[true, true, true, true, true, true, true, true, true, false, false, false, false], [true, false, false], [true, false, true, false], [true, true, true, false], [true, false, false, false, false, false], [true, true, true, true, true], [true, true, true, false], [true, true, true, true, true, true, true, false], [true, true, true, true, false, true, true, true, false, false, false, false, false, false, false, false, true, true, true, true, true, true, true]]
def sd_own : List String := ["SumDoor$Gaol", "SumDoor$Sheet", "SumDoor$Side", "SumDoor$Sums", "SumDoor$Tape", "SumDoor$Text", "SumDoor$World", "SumDoor", "SumDoorModel", "SumDoorLaw", "java/lang/Integer", "java/lang/Math", "java/util/Arrays"]
def sd_ft : List (List (Nat × Nat × Nat × Bool)) := [[(9, 0, 0, false), (15, 0, 1, false), (18, 0, 2, false), (21, 0, 3, false), (24, 0, 4, false), (27, 0, 5, false), (30, 0, 6, false), (33, 0, 7, false), (36, 0, 8, false), (39, 0, 9, false), (43, 0, 10, false), (46, 0, 11, false), (49, 0, 12, false)],
  [(9, 1, 0, false), (15, 1, 1, false), (19, 1, 2, false)],
  [(9, 2, 0, false), (15, 2, 1, false), (19, 2, 2, false), (22, 2, 3, false)],
  [(11, 3, 0, false), (17, 3, 1, false), (21, 3, 2, false), (24, 3, 3, false), (32, 5, 4, true), (39, 5, 0, true), (49, 5, 1, true), (56, 5, 2, true), (59, 5, 3, true)],
  [(9, 4, 0, false), (15, 4, 1, false), (19, 4, 2, false), (23, 4, 3, false), (26, 4, 4, false), (29, 4, 5, false)],
  [(9, 5, 2, false), (15, 5, 3, false), (18, 4, 1, true), (24, 4, 0, true), (34, 5, 4, false), (42, 5, 0, false), (46, 5, 1, false)],
  [(12, 6, 0, false), (21, 6, 1, false), (25, 6, 2, false), (29, 6, 3, false)],
  [(10, 7, 0, false), (19, 7, 1, false), (23, 7, 2, false), (29, 7, 3, false), (35, 7, 4, false), (39, 7, 5, false), (43, 7, 6, false), (46, 7, 7, false), (60, 4, 1, true), (73, 6, 0, true), (77, 3, 3, true), (97, 3, 1, true), (100, 3, 2, true), (135, 6, 1, true), (142, 0, 9, true), (148, 0, 10, true), (161, 0, 0, true), (168, 0, 11, true), (190, 0, 8, true), (216, 6, 3, true), (222, 6, 2, true), (237, 1, 2, true), (245, 1, 1, true), (251, 1, 0, true), (269, 0, 6, true)],
  [(7, 8, 0, false), (13, 8, 1, false), (16, 8, 2, false), (19, 8, 3, false), (22, 8, 5, false), (25, 8, 6, false), (28, 8, 7, false), (31, 8, 16, false), (34, 8, 17, false), (37, 8, 18, false), (40, 8, 19, false), (43, 8, 20, false), (46, 8, 21, false), (49, 8, 22, false), (72, 8, 8, false), (77, 8, 9, false), (83, 8, 10, false), (90, 8, 13, false), (93, 8, 15, false), (108, 8, 11, false), (111, 8, 12, false), (114, 8, 14, false), (245, 8, 4, false)],
  [],
  [],
  [],
  []]
def sd_ct : List (List (Nat × Nat × Nat × Nat × Nat)) := [[(3, 6, 0, 0, 0), (53, 0, 12, 0, 2), (59, 1, 0, 1, 1), (63, 7, 0, 0, 0), (69, 0, 0, 7, 2), (73, 3, 7, 46, 1), (77, 0, 11, 1, 2), (83, 0, 11, 0, 2), (86, 4, 3, 4, 1), (92, 4, 3, 1, 1), (95, 1, 0, 6, 0), (99, 1, 0, 4, 0), (102, 1, 0, 14, 3), (106, 1, 0, 15, 1), (110, 1, 0, 17, 2), (114, 1, 0, 19, 1), (117, 1, 0, 12, 1), (120, 4, 3, 6, 2), (124, 1, 0, 16, 0), (127, 1, 0, 9, 2), (130, 1, 0, 13, 1), (133, 1, 0, 18, 2)],
  [(3, 6, 0, 0, 0), (22, 0, 12, 0, 2), (28, 1, 1, 4, 1)],
  [(3, 6, 0, 0, 0), (25, 0, 11, 0, 2), (31, 3, 4, 5, 1), (37, 1, 2, 1, 1), (41, 1, 2, 5, 1), (44, 1, 2, 4, 1), (47, 1, 2, 2, 1), (50, 1, 2, 6, 1), (53, 0, 2, 3, 1), (57, 0, 2, 8, 3)],
  [(3, 6, 0, 0, 0), (28, 1, 3, 1, 1), (35, 3, 7, 50, 2), (43, 4, 2, 7, 1), (52, 1, 3, 8, 3), (62, 0, 3, 9, 2), (65, 3, 7, 43, 3)],
  [(3, 6, 0, 0, 0), (32, 1, 4, 3, 1), (36, 1, 4, 4, 1), (39, 0, 4, 5, 1), (42, 0, 4, 6, 1)],
  [(3, 6, 0, 0, 0), (27, 3, 4, 5, 1), (31, 3, 4, 6, 1), (39, 5, 2, 0, 3), (49, 4, 2, 7, 1)],
  [(3, 6, 0, 0, 0), (11, 5, 3, 0, 0), (20, 5, 0, 0, 0), (33, 0, 12, 0, 2), (39, 4, 3, 3, 1), (43, 4, 0, 2, 1), (46, 7, 0, 0, 0)],
  [(1, 6, 0, 0, 0), (9, 5, 4, 0, 0), (18, 5, 6, 0, 0), (28, 5, 0, 0, 0), (50, 5, 1, 0, 0), (51, 0, 7, 43, 3), (56, 1, 7, 42, 1), (65, 4, 4, 1, 1), (69, 0, 7, 44, 1), (82, 4, 4, 2, 0), (88, 5, 5, 0, 1), (91, 4, 3, 2, 3), (94, 1, 7, 48, 1), (103, 4, 3, 4, 1), (106, 4, 3, 7, 2), (110, 0, 7, 51, 3), (114, 4, 3, 5, 3), (118, 0, 7, 45, 1), (121, 4, 3, 6, 2), (126, 0, 7, 46, 1), (138, 4, 0, 1, 1), (145, 4, 0, 3, 1), (151, 4, 6, 2, 0), (154, 4, 0, 9, 2), (158, 4, 0, 8, 0), (165, 4, 0, 10, 2), (171, 4, 0, 4, 0), (174, 0, 10, 0, 1), (179, 4, 0, 11, 2), (183, 4, 0, 2, 1), (187, 4, 0, 6, 0), (193, 1, 7, 53, 2), (196, 4, 0, 5, 0), (199, 1, 7, 54, 1), (202, 1, 7, 52, 1), (205, 0, 11, 1, 2), (210, 1, 7, 55, 2), (213, 1, 7, 56, 3), (219, 0, 7, 47, 1), (226, 0, 7, 50, 2), (230, 1, 7, 49, 1), (234, 4, 1, 2, 2), (238, 4, 1, 1, 0), (242, 4, 1, 3, 2), (248, 4, 1, 5, 2), (254, 7, 0, 0, 0), (260, 4, 6, 1, 1), (266, 4, 3, 1, 1), (272, 4, 0, 14, 3)],
  [(1, 6, 0, 0, 0), (52, 0, 8, 3, 2), (57, 0, 8, 1, 3), (68, 1, 8, 2, 1), (80, 0, 8, 14, 1), (97, 1, 8, 17, 2), (101, 0, 8, 13, 1), (104, 1, 8, 15, 1), (117, 1, 8, 16, 1), (123, 1, 8, 18, 0), (127, 1, 8, 19, 0), (130, 1, 8, 7, 2), (133, 0, 8, 21, 3), (137, 1, 8, 22, 3), (140, 1, 8, 23, 2), (144, 1, 8, 4, 1), (149, 1, 8, 24, 1), (152, 1, 8, 25, 1), (155, 0, 8, 6, 1), (163, 0, 8, 5, 1), (166, 0, 8, 33, 2), (171, 1, 8, 36, 0), (176, 1, 8, 10, 0), (179, 1, 8, 39, 0), (183, 1, 8, 43, 1), (186, 1, 8, 42, 1), (189, 1, 8, 44, 1), (192, 1, 8, 45, 1), (195, 1, 8, 46, 0), (200, 1, 8, 48, 0), (203, 0, 8, 9, 1), (206, 1, 8, 47, 1), (213, 1, 8, 52, 0), (216, 1, 8, 53, 0), (219, 1, 8, 56, 2), (222, 1, 8, 58, 0), (225, 1, 8, 59, 2), (228, 0, 8, 8, 2), (235, 0, 8, 69, 1), (239, 1, 8, 72, 1), (242, 0, 8, 71, 2)],
  [(9, 2, 7, 0, 0), (12, 2, 8, 0, 0), (13, 1, 7, 1, 2), (17, 1, 8, 11, 2), (18, 1, 7, 2, 0), (22, 1, 8, 12, 0), (23, 1, 7, 3, 2), (26, 1, 8, 20, 2), (27, 1, 7, 4, 2), (30, 1, 8, 26, 2), (31, 1, 7, 5, 3), (35, 1, 8, 27, 3), (36, 1, 7, 6, 3), (39, 1, 8, 28, 3), (40, 1, 7, 7, 2), (43, 1, 8, 29, 2), (44, 1, 7, 8, 2), (47, 1, 8, 30, 2), (48, 1, 7, 9, 2), (51, 1, 8, 31, 2), (52, 1, 7, 10, 1), (56, 1, 8, 32, 1), (57, 1, 7, 11, 3), (60, 1, 8, 34, 3), (61, 1, 7, 12, 2), (64, 1, 8, 35, 2), (65, 1, 7, 13, 1), (68, 1, 8, 37, 1), (69, 1, 7, 14, 1), (72, 1, 8, 38, 1), (73, 1, 7, 15, 1), (76, 1, 8, 40, 1), (77, 1, 7, 16, 2), (80, 1, 8, 41, 2), (81, 1, 7, 17, 1), (84, 1, 8, 49, 1), (85, 1, 7, 18, 0), (88, 1, 8, 50, 0), (89, 1, 7, 19, 0), (92, 1, 8, 51, 0), (93, 1, 7, 20, 2), (96, 1, 8, 54, 2), (97, 1, 7, 21, 1), (100, 1, 8, 55, 1), (101, 1, 7, 22, 2), (104, 1, 8, 57, 2), (105, 1, 7, 23, 1), (108, 1, 8, 60, 1), (109, 1, 7, 24, 2), (112, 1, 8, 61, 2), (113, 1, 7, 25, 1), (116, 1, 8, 62, 1), (117, 1, 7, 26, 3), (120, 1, 8, 63, 3), (121, 1, 7, 27, 1), (124, 1, 8, 64, 1), (125, 1, 7, 28, 2), (128, 1, 8, 65, 2), (129, 1, 7, 29, 1), (132, 1, 8, 66, 1), (133, 1, 7, 30, 2), (136, 1, 8, 67, 2), (137, 1, 7, 31, 2), (140, 1, 8, 68, 2), (141, 1, 7, 32, 3), (144, 1, 8, 70, 3), (145, 1, 7, 33, 3), (148, 1, 8, 73, 3), (149, 1, 7, 34, 5), (153, 1, 8, 74, 5), (154, 1, 7, 35, 1), (157, 1, 8, 75, 1), (158, 1, 7, 36, 2), (161, 1, 8, 76, 2), (162, 1, 7, 37, 0), (165, 1, 8, 77, 0), (166, 1, 7, 38, 0), (169, 1, 8, 78, 0), (170, 1, 7, 39, 0), (173, 1, 8, 79, 0), (174, 1, 7, 40, 1), (177, 1, 8, 80, 1), (178, 1, 7, 41, 1), (181, 1, 8, 81, 1)],
  [],
  [],
  []]
def sd_kt : List (List (Nat × Int32)) := [[],
  [],
  [],
  [],
  [],
  [],
  [(52, (1103515245))],
  [(55, (-1000001)), (64, (-1000002)), (125, (-1000004)), (164, (-1000005)), (225, (-1000006)), (229, (-1000003)), (233, (-1000007))],
  [(56, (-1000001)), (65, (1103515245)), (76, (-1000002)), (158, (-1000004)), (182, (-1000005)), (233, (-1000006)), (234, (-1000003)), (238, (-1000007))],
  [],
  [(265, (1431655765)), (266, (858993459)), (267, (252645135))],
  [],
  []]
def sd_lt : List (List (Nat × Int64)) := [[],
  [],
  [],
  [],
  [],
  [],
  [],
  [],
  [(61, (9)), (63, (99)), (66, (4)), (86, (48)), (88, (57)), (121, (6)), (147, (3)), (159, (999)), (161, (19)), (169, (8)), (174, (10)), (198, (100)), (209, (200)), (211, (2)), (231, (480)), (248, (-1))],
  [],
  [],
  [],
  []]
def sd_nt : List (List (Nat × Nat)) := [[],
  [],
  [],
  [(9, 5)],
  [],
  [(37, 2)],
  [(9, 3), (18, 0)],
  [(7, 4), (16, 6), (26, 0), (33, 1), (86, 5)],
  [],
  [(7, 7), (10, 8)],
  [],
  [],
  []]
def sd_st : List (List (Nat × Nat)) := [[],
  [],
  [],
  [],
  [],
  [],
  [],
  [(129, 1), (132, 2), (263, 0)],
  [],
  [],
  [],
  [],
  []]
end
section
abbrev MD : Type := MethodName × ByteArray × Nat × Option FieldType × List (Nat × Instr × Nat)
/-- SumDoor$Gaol.<init>()V -/
def pg_0_0 : List (Nat × Instr × Nat) := [(0, .aload_n 0, 1), (1, .invokespecial 3, 3), (4, .aload_n 0, 1), (5, .bipush 10, 2), (7, .newarray .int, 2), (9, .putfield 9, 3), (12, .aload_n 0, 1), (13, .bipush 10, 2), (15, .newarray .int, 2), (17, .putfield 15, 3), (20, .aload_n 0, 1), (21, .bipush 10, 2), (23, .newarray .int, 2), (25, .putfield 18, 3), (28, .aload_n 0, 1), (29, .bipush 10, 2), (31, .newarray .int, 2), (33, .putfield 21, 3), (36, .aload_n 0, 1), (37, .bipush 10, 2), (39, .newarray .int, 2), (41, .putfield 24, 3), (44, .aload_n 0, 1), (45, .bipush 10, 2), (47, .newarray .int, 2), (49, .putfield 27, 3), (52, .aload_n 0, 1), (53, .bipush 10, 2), (55, .newarray .int, 2), (57, .putfield 30, 3), (60, .aload_n 0, 1), (61, .bipush 10, 2), (63, .newarray .int, 2), (65, .putfield 33, 3), (68, .aload_n 0, 1), (69, .bipush 10, 2), (71, .newarray .int, 2), (73, .putfield 36, 3), (76, .aload_n 0, 1), (77, .iconst (-1), 1), (78, .putfield 39, 3), (81, .aload_n 0, 1), (82, .sipush 999, 3), (85, .putfield 43, 3), (88, .aload_n 0, 1), (89, .iconst 0, 1), (90, .putfield 46, 3), (93, .aload_n 0, 1), (94, .iconst 0, 1), (95, .putfield 49, 3), (98, .aload_n 0, 1), (99, .getfield 9, 3), (102, .iconst 3, 1), (103, .invokestatic 53, 3), (106, .aload_n 0, 1), (107, .getfield 15, 3), (110, .bipush 50, 2), (112, .invokestatic 53, 3), (115, .aload_n 0, 1), (116, .getfield 18, 3), (119, .bipush 10, 2), (121, .invokestatic 53, 3), (124, .aload_n 0, 1), (125, .getfield 24, 3), (128, .iconst 1, 1), (129, .invokestatic 53, 3), (132, .aload_n 0, 1), (133, .getfield 30, 3), (136, .iconst (-1), 1), (137, .invokestatic 53, 3), (140, .iconst 0, 1), (141, .istore_n 1, 1), (142, .iload_n 1, 1), (143, .bipush 10, 2), (145, .if_icmp .ge 16, 3), (148, .aload_n 0, 1), (149, .getfield 21, 3), (152, .iload_n 1, 1), (153, .iload_n 1, 1), (154, .iastore, 1), (155, .iinc 1 1, 3), (158, .goto (-16), 3), (161, .return_, 1)]
/-- SumDoor$Gaol.row(I)[I -/
def pg_0_1 : List (Nat × Instr × Nat) := [(0, .iload_n 1, 1), (1, .tableswitch 87 0 7 #[47, 52, 57, 62, 67, 72, 77, 82], 47), (48, .aload_n 0, 1), (49, .getfield 9, 3), (52, .areturn, 1), (53, .aload_n 0, 1), (54, .getfield 15, 3), (57, .areturn, 1), (58, .aload_n 0, 1), (59, .getfield 18, 3), (62, .areturn, 1), (63, .aload_n 0, 1), (64, .getfield 21, 3), (67, .areturn, 1), (68, .aload_n 0, 1), (69, .getfield 24, 3), (72, .areturn, 1), (73, .aload_n 0, 1), (74, .getfield 27, 3), (77, .areturn, 1), (78, .aload_n 0, 1), (79, .getfield 30, 3), (82, .areturn, 1), (83, .aload_n 0, 1), (84, .getfield 33, 3), (87, .areturn, 1), (88, .aload_n 0, 1), (89, .getfield 36, 3), (92, .areturn, 1)]
/-- SumDoor$Gaol.become(LSumDoor$Gaol;)V -/
def pg_0_2 : List (Nat × Instr × Nat) := [(0, .iconst 0, 1), (1, .istore_n 2, 1), (2, .iload_n 2, 1), (3, .bipush 9, 2), (5, .if_icmp .ge 26, 3), (8, .aload_n 1, 1), (9, .iload_n 2, 1), (10, .invokevirtual 59, 3), (13, .iconst 0, 1), (14, .aload_n 0, 1), (15, .iload_n 2, 1), (16, .invokevirtual 59, 3), (19, .iconst 0, 1), (20, .bipush 10, 2), (22, .invokestatic 63, 3), (25, .iinc 2 1, 3), (28, .goto (-26), 3), (31, .aload_n 0, 1), (32, .aload_n 1, 1), (33, .getfield 39, 3), (36, .putfield 39, 3), (39, .aload_n 0, 1), (40, .aload_n 1, 1), (41, .getfield 43, 3), (44, .putfield 43, 3), (47, .aload_n 0, 1), (48, .aload_n 1, 1), (49, .getfield 46, 3), (52, .putfield 46, 3), (55, .return_, 1)]
/-- SumDoor$Gaol.beginDay(I)V -/
def pg_0_3 : List (Nat × Instr × Nat) := [(0, .aload_n 0, 1), (1, .iload_n 1, 1), (2, .putfield 39, 3), (5, .aload_n 0, 1), (6, .iconst 0, 1), (7, .putfield 46, 3), (10, .aload_n 0, 1), (11, .getfield 27, 3), (14, .iconst 0, 1), (15, .invokestatic 53, 3), (18, .aload_n 0, 1), (19, .getfield 33, 3), (22, .iconst 0, 1), (23, .invokestatic 53, 3), (26, .aload_n 0, 1), (27, .getfield 30, 3), (30, .iconst (-1), 1), (31, .invokestatic 53, 3), (34, .aload_n 0, 1), (35, .getfield 36, 3), (38, .iconst 0, 1), (39, .invokestatic 53, 3), (42, .return_, 1)]
/-- SumDoor$Gaol.outSet()I -/
def pg_0_4 : List (Nat × Instr × Nat) := [(0, .aload_n 0, 1), (1, .getfield 36, 3), (4, .iconst 1, 1), (5, .invokestatic 69, 3), (8, .ireturn, 1)]
/-- SumDoor$Gaol.maySet()I -/
def pg_0_5 : List (Nat × Instr × Nat) := [(0, .aload_n 0, 1), (1, .getfield 24, 3), (4, .iconst 1, 1), (5, .invokestatic 69, 3), (8, .ireturn, 1)]
/-- SumDoor$Gaol.answerSet()I -/
def pg_0_6 : List (Nat × Instr × Nat) := [(0, .aload_n 0, 1), (1, .getfield 30, 3), (4, .iconst 0, 1), (5, .invokestatic 69, 3), (8, .ireturn, 1)]
/-- SumDoor$Gaol.setOf([II)I -/
def pg_0_7 : List (Nat × Instr × Nat) := [(0, .iconst 0, 1), (1, .istore_n 2, 1), (2, .iconst 0, 1), (3, .istore_n 3, 1), (4, .iload_n 3, 1), (5, .aload_n 0, 1), (6, .arraylength, 1), (7, .if_icmp .ge 22, 3), (10, .aload_n 0, 1), (11, .iload_n 3, 1), (12, .iaload, 1), (13, .iload_n 1, 1), (14, .if_icmp .lt 9, 3), (17, .iload_n 2, 1), (18, .iconst 1, 1), (19, .iload_n 3, 1), (20, .ishl, 1), (21, .ior, 1), (22, .istore_n 2, 1), (23, .iinc 3 1, 3), (26, .goto (-22), 3), (29, .iload_n 2, 1), (30, .ireturn, 1)]
/-- SumDoor$Gaol.allChalk()I -/
def pg_0_8 : List (Nat × Instr × Nat) := [(0, .iconst 0, 1), (1, .istore_n 1, 1), (2, .iconst 0, 1), (3, .istore_n 2, 1), (4, .iload_n 2, 1), (5, .bipush 10, 2), (7, .if_icmp .ge 18, 3), (10, .iload_n 1, 1), (11, .aload_n 0, 1), (12, .getfield 15, 3), (15, .iload_n 2, 1), (16, .iaload, 1), (17, .iadd, 1), (18, .istore_n 1, 1), (19, .iinc 2 1, 3), (22, .goto (-18), 3), (25, .iload_n 1, 1), (26, .ireturn, 1)]
/-- SumDoor$Gaol.give(II)V -/
def pg_0_9 : List (Nat × Instr × Nat) := [(0, .iload_n 1, 1), (1, .invokestatic 73, 3), (4, .ifCond .eq 23, 3), (7, .aload_n 0, 1), (8, .getfield 15, 3), (11, .iload_n 1, 1), (12, .sipush 999, 3), (15, .aload_n 0, 1), (16, .getfield 15, 3), (19, .iload_n 1, 1), (20, .iaload, 1), (21, .iload_n 2, 1), (22, .iadd, 1), (23, .invokestatic 77, 3), (26, .iastore, 1), (27, .return_, 1)]
/-- SumDoor$Gaol.teach(II)V -/
def pg_0_10 : List (Nat × Instr × Nat) := [(0, .iload_n 1, 1), (1, .invokestatic 73, 3), (4, .ifCond .eq 38, 3), (7, .iload_n 2, 1), (8, .invokestatic 73, 3), (11, .ifCond .eq 31, 3), (14, .aload_n 0, 1), (15, .getfield 9, 3), (18, .iload_n 1, 1), (19, .dup2, 1), (20, .iaload, 1), (21, .iconst 1, 1), (22, .iadd, 1), (23, .iastore, 1), (24, .aload_n 0, 1), (25, .getfield 15, 3), (28, .iload_n 2, 1), (29, .iconst 0, 1), (30, .aload_n 0, 1), (31, .getfield 15, 3), (34, .iload_n 2, 1), (35, .iaload, 1), (36, .iconst 2, 1), (37, .isub, 1), (38, .invokestatic 83, 3), (41, .iastore, 1), (42, .return_, 1)]
/-- SumDoor$Gaol.goOn(LSumDoor$Sums;I)V -/
def pg_0_11 : List (Nat × Instr × Nat) := [(0, .aload_n 1, 1), (1, .aload_n 0, 1), (2, .getfield 39, 3), (5, .invokevirtual 86, 3), (8, .istore_n 3, 1), (9, .aload_n 0, 1), (10, .aload_n 1, 1), (11, .aload_n 0, 1), (12, .getfield 39, 3), (15, .invokevirtual 92, 3), (18, .putfield 49, 3), (21, .iconst 0, 1), (22, .istore 4, 2), (24, .iload 4, 2), (26, .iload_n 2, 1), (27, .if_icmp .ge 154, 3), (30, .aload_n 0, 1), (31, .getfield 49, 3), (34, .ifCond .eq 147, 3), (37, .aload_n 0, 1), (38, .iconst 0, 1), (39, .putfield 49, 3), (42, .aload_n 0, 1), (43, .invokevirtual 95, 3), (46, .aload_n 0, 1), (47, .invokevirtual 99, 3), (50, .iconst (-1), 1), (51, .ixor, 1), (52, .iand, 1), (53, .istore 5, 2), (55, .iconst 0, 1), (56, .istore 6, 2), (58, .iload 6, 2), (60, .bipush 10, 2), (62, .if_icmp .ge 17, 3), (65, .aload_n 0, 1), (66, .iload 6, 2), (68, .aload_n 1, 1), (69, .iload_n 3, 1), (70, .invokevirtual 102, 3), (73, .iinc 6 1, 3), (76, .goto (-18), 3), (79, .aload_n 0, 1), (80, .invokevirtual 95, 3), (83, .aload_n 0, 1), (84, .invokevirtual 99, 3), (87, .iconst (-1), 1), (88, .ixor, 1), (89, .iand, 1), (90, .istore 6, 2), (92, .iconst 0, 1), (93, .istore 7, 2), (95, .iload 7, 2), (97, .bipush 10, 2), (99, .if_icmp .ge 20, 3), (102, .iload 6, 2), (104, .ifCond .eq 15, 3), (107, .aload_n 0, 1), (108, .iload 7, 2), (110, .invokevirtual 106, 3), (113, .iinc 7 1, 3), (116, .goto (-21), 3), (119, .iconst 0, 1), (120, .istore 7, 2), (122, .iload 7, 2), (124, .bipush 10, 2), (126, .if_icmp .ge 22, 3), (129, .iload 5, 2), (131, .ifCond .eq 17, 3), (134, .aload_n 0, 1), (135, .iload 7, 2), (137, .iload 5, 2), (139, .invokevirtual 110, 3), (142, .iinc 7 1, 3), (145, .goto (-23), 3), (148, .iconst 0, 1), (149, .istore 7, 2), (151, .iload 7, 2), (153, .bipush 10, 2), (155, .if_icmp .ge 20, 3), (158, .iload 6, 2), (160, .ifCond .eq 15, 3), (163, .aload_n 0, 1), (164, .iload 7, 2), (166, .invokevirtual 114, 3), (169, .iinc 7 1, 3), (172, .goto (-21), 3), (175, .iinc 4 1, 3), (178, .goto (-154), 3), (181, .aload_n 0, 1), (182, .dup, 1), (183, .getfield 46, 3), (186, .iload_n 2, 1), (187, .iadd, 1), (188, .putfield 46, 3), (191, .return_, 1)]
/-- SumDoor$Gaol.seeks(I)Z -/
def pg_0_12 : List (Nat × Instr × Nat) := [(0, .iload_n 1, 1), (1, .ifCond .lt 31, 3), (4, .iload_n 1, 1), (5, .bipush 10, 2), (7, .if_icmp .ge 25, 3), (10, .aload_n 0, 1), (11, .getfield 36, 3), (14, .iload_n 1, 1), (15, .iaload, 1), (16, .ifCond .ne 16, 3), (19, .aload_n 0, 1), (20, .getfield 30, 3), (23, .iload_n 1, 1), (24, .iaload, 1), (25, .ifCond .ge 7, 3), (28, .iconst 1, 1), (29, .goto 4, 3), (32, .iconst 0, 1), (33, .ireturn, 1)]
/-- SumDoor$Gaol.sells(I)Z -/
def pg_0_13 : List (Nat × Instr × Nat) := [(0, .iload_n 1, 1), (1, .ifCond .lt 31, 3), (4, .iload_n 1, 1), (5, .bipush 10, 2), (7, .if_icmp .ge 25, 3), (10, .aload_n 0, 1), (11, .getfield 36, 3), (14, .iload_n 1, 1), (15, .iaload, 1), (16, .ifCond .ne 16, 3), (19, .aload_n 0, 1), (20, .getfield 30, 3), (23, .iload_n 1, 1), (24, .iaload, 1), (25, .ifCond .lt 7, 3), (28, .iconst 1, 1), (29, .goto 4, 3), (32, .iconst 0, 1), (33, .ireturn, 1)]
/-- SumDoor$Gaol.workOn(ILSumDoor$Sums;I)V -/
def pg_0_14 : List (Nat × Instr × Nat) := [(0, .aload_n 0, 1), (1, .iload_n 1, 1), (2, .invokevirtual 117, 3), (5, .ifCond .eq 16, 3), (8, .aload_n 0, 1), (9, .getfield 15, 3), (12, .iload_n 1, 1), (13, .iaload, 1), (14, .ifCond .eq 7, 3), (17, .iload_n 3, 1), (18, .ifCond .gt 4, 3), (21, .return_, 1), (22, .aload_n 0, 1), (23, .iconst 1, 1), (24, .putfield 49, 3), (27, .aload_n 0, 1), (28, .getfield 15, 3), (31, .iload_n 1, 1), (32, .dup2, 1), (33, .iaload, 1), (34, .iconst 1, 1), (35, .isub, 1), (36, .iastore, 1), (37, .aload_n 0, 1), (38, .getfield 33, 3), (41, .iload_n 1, 1), (42, .dup2, 1), (43, .iaload, 1), (44, .aload_n 0, 1), (45, .getfield 9, 3), (48, .iload_n 1, 1), (49, .iaload, 1), (50, .iadd, 1), (51, .iastore, 1), (52, .iconst 0, 1), (53, .istore 4, 2), (55, .iload 4, 2), (57, .sipush 1000, 3), (60, .if_icmp .ge 99, 3), (63, .aload_n 0, 1), (64, .getfield 33, 3), (67, .iload_n 1, 1), (68, .iaload, 1), (69, .iload_n 3, 1), (70, .if_icmp .lt 89, 3), (73, .aload_n 0, 1), (74, .getfield 30, 3), (77, .iload_n 1, 1), (78, .iaload, 1), (79, .ifCond .ge 80, 3), (82, .aload_n 0, 1), (83, .getfield 33, 3), (86, .iload_n 1, 1), (87, .dup2, 1), (88, .iaload, 1), (89, .iload_n 3, 1), (90, .isub, 1), (91, .iastore, 1), (92, .aload_n 2, 1), (93, .aload_n 0, 1), (94, .getfield 39, 3), (97, .aload_n 0, 1), (98, .getfield 27, 3), (101, .iload_n 1, 1), (102, .iaload, 1), (103, .invokevirtual 120, 3), (106, .ifCond .eq 18, 3), (109, .aload_n 0, 1), (110, .getfield 30, 3), (113, .iload_n 1, 1), (114, .aload_n 0, 1), (115, .getfield 27, 3), (118, .iload_n 1, 1), (119, .iaload, 1), (120, .iastore, 1), (121, .goto 32, 3), (124, .aload_n 0, 1), (125, .getfield 27, 3), (128, .iload_n 1, 1), (129, .aload_n 0, 1), (130, .getfield 27, 3), (133, .iload_n 1, 1), (134, .iaload, 1), (135, .bipush 99, 2), (137, .if_icmp .lt 7, 3), (140, .iconst 0, 1), (141, .goto 11, 3), (144, .aload_n 0, 1), (145, .getfield 27, 3), (148, .iload_n 1, 1), (149, .iaload, 1), (150, .iconst 1, 1), (151, .iadd, 1), (152, .iastore, 1), (153, .iinc 4 1, 3), (156, .goto (-101), 3), (159, .return_, 1)]
/-- SumDoor$Gaol.buy(I)V -/
def pg_0_15 : List (Nat × Instr × Nat) := [(0, .aload_n 0, 1), (1, .iload_n 1, 1), (2, .invokevirtual 117, 3), (5, .ifCond .ne 4, 3), (8, .return_, 1), (9, .aload_n 0, 1), (10, .invokevirtual 124, 3), (13, .istore_n 2, 1), (14, .iload_n 2, 1), (15, .ifCond .lt 18, 3), (18, .aload_n 0, 1), (19, .getfield 15, 3), (22, .iload_n 1, 1), (23, .iaload, 1), (24, .aload_n 0, 1), (25, .getfield 18, 3), (28, .iload_n 2, 1), (29, .iaload, 1), (30, .if_icmp .ge 4, 3), (33, .return_, 1), (34, .aload_n 0, 1), (35, .iconst 1, 1), (36, .putfield 49, 3), (39, .aload_n 0, 1), (40, .getfield 15, 3), (43, .iload_n 1, 1), (44, .dup2, 1), (45, .iaload, 1), (46, .aload_n 0, 1), (47, .getfield 18, 3), (50, .iload_n 2, 1), (51, .iaload, 1), (52, .isub, 1), (53, .iastore, 1), (54, .aload_n 0, 1), (55, .iload_n 2, 1), (56, .aload_n 0, 1), (57, .getfield 18, 3), (60, .iload_n 2, 1), (61, .iaload, 1), (62, .invokevirtual 127, 3), (65, .aload_n 0, 1), (66, .getfield 30, 3), (69, .iload_n 1, 1), (70, .aload_n 0, 1), (71, .getfield 30, 3), (74, .iload_n 2, 1), (75, .iaload, 1), (76, .iastore, 1), (77, .return_, 1)]
/-- SumDoor$Gaol.cheapest()I -/
def pg_0_16 : List (Nat × Instr × Nat) := [(0, .iconst (-1), 1), (1, .istore_n 1, 1), (2, .iconst 0, 1), (3, .istore_n 2, 1), (4, .iload_n 2, 1), (5, .bipush 10, 2), (7, .if_icmp .ge 38, 3), (10, .aload_n 0, 1), (11, .iload_n 2, 1), (12, .invokevirtual 130, 3), (15, .ifCond .eq 24, 3), (18, .iload_n 1, 1), (19, .ifCond .lt 18, 3), (22, .aload_n 0, 1), (23, .getfield 18, 3), (26, .iload_n 2, 1), (27, .iaload, 1), (28, .aload_n 0, 1), (29, .getfield 18, 3), (32, .iload_n 1, 1), (33, .iaload, 1), (34, .if_icmp .ge 5, 3), (37, .iload_n 2, 1), (38, .istore_n 1, 1), (39, .iinc 2 1, 3), (42, .goto (-38), 3), (45, .iload_n 1, 1), (46, .ireturn, 1)]
/-- SumDoor$Gaol.readLips(II)V -/
def pg_0_17 : List (Nat × Instr × Nat) := [(0, .aload_n 0, 1), (1, .iload_n 1, 1), (2, .invokevirtual 117, 3), (5, .ifCond .ne 4, 3), (8, .return_, 1), (9, .aload_n 0, 1), (10, .aload_n 0, 1), (11, .getfield 21, 3), (14, .iload_n 1, 1), (15, .iaload, 1), (16, .iconst 1, 1), (17, .isub, 1), (18, .iload_n 2, 1), (19, .invokevirtual 133, 3), (22, .istore_n 3, 1), (23, .iload_n 3, 1), (24, .ifCond .ge 17, 3), (27, .aload_n 0, 1), (28, .aload_n 0, 1), (29, .getfield 21, 3), (32, .iload_n 1, 1), (33, .iaload, 1), (34, .iconst 1, 1), (35, .iadd, 1), (36, .iload_n 2, 1), (37, .invokevirtual 133, 3), (40, .istore_n 3, 1), (41, .iload_n 3, 1), (42, .ifCond .lt 20, 3), (45, .aload_n 0, 1), (46, .iconst 1, 1), (47, .putfield 49, 3), (50, .aload_n 0, 1), (51, .getfield 30, 3), (54, .iload_n 1, 1), (55, .aload_n 0, 1), (56, .getfield 30, 3), (59, .iload_n 3, 1), (60, .iaload, 1), (61, .iastore, 1), (62, .return_, 1)]
/-- SumDoor$Gaol.firstIn(II)I -/
def pg_0_18 : List (Nat × Instr × Nat) := [(0, .iconst 0, 1), (1, .istore_n 3, 1), (2, .iload_n 3, 1), (3, .bipush 10, 2), (5, .if_icmp .ge 30, 3), (8, .aload_n 0, 1), (9, .getfield 21, 3), (12, .iload_n 3, 1), (13, .iaload, 1), (14, .iload_n 1, 1), (15, .if_icmp .ne 14, 3), (18, .iload_n 2, 1), (19, .iload_n 3, 1), (20, .ishr, 1), (21, .iconst 1, 1), (22, .iand, 1), (23, .iconst 1, 1), (24, .if_icmp .ne 5, 3), (27, .iload_n 3, 1), (28, .ireturn, 1), (29, .iinc 3 1, 3), (32, .goto (-30), 3), (35, .iconst (-1), 1), (36, .ireturn, 1)]
/-- SumDoor$Gaol.goOut(I)V -/
def pg_0_19 : List (Nat × Instr × Nat) := [(0, .aload_n 0, 1), (1, .iload_n 1, 1), (2, .invokevirtual 130, 3), (5, .ifCond .eq 28, 3), (8, .aload_n 0, 1), (9, .getfield 15, 3), (12, .iload_n 1, 1), (13, .iaload, 1), (14, .aload_n 0, 1), (15, .getfield 43, 3), (18, .if_icmp .gt 15, 3), (21, .aload_n 0, 1), (22, .iconst 1, 1), (23, .putfield 49, 3), (26, .aload_n 0, 1), (27, .getfield 36, 3), (30, .iload_n 1, 1), (31, .iconst 1, 1), (32, .iastore, 1), (33, .return_, 1)]
/-- SumDoor$Sheet.<init>()V -/
def pg_1_0 : List (Nat × Instr × Nat) := [(0, .aload_n 0, 1), (1, .invokespecial 3, 3), (4, .aload_n 0, 1), (5, .bipush 40, 2), (7, .newarray .int, 2), (9, .putfield 9, 3), (12, .aload_n 0, 1), (13, .iconst 0, 1), (14, .putfield 15, 3), (17, .aload_n 0, 1), (18, .iconst 0, 1), (19, .putfield 19, 3), (22, .return_, 1)]
/-- SumDoor$Sheet.isMissing()Z -/
def pg_1_1 : List (Nat × Instr × Nat) := [(0, .aload_n 0, 1), (1, .getfield 15, 3), (4, .ifCond .ne 7, 3), (7, .iconst 1, 1), (8, .goto 4, 3), (11, .iconst 0, 1), (12, .ireturn, 1)]
/-- SumDoor$Sheet.begin(II)V -/
def pg_1_2 : List (Nat × Instr × Nat) := [(0, .aload_n 0, 1), (1, .iload_n 1, 1), (2, .putfield 15, 3), (5, .aload_n 0, 1), (6, .iload_n 2, 1), (7, .putfield 19, 3), (10, .aload_n 0, 1), (11, .getfield 9, 3), (14, .iconst 0, 1), (15, .invokestatic 22, 3), (18, .return_, 1)]
/-- SumDoor$Sheet.put(II)V -/
def pg_1_3 : List (Nat × Instr × Nat) := [(0, .iload_n 1, 1), (1, .ifCond .lt 31, 3), (4, .iload_n 1, 1), (5, .aload_n 0, 1), (6, .getfield 19, 3), (9, .if_icmp .ge 23, 3), (12, .iload_n 1, 1), (13, .aload_n 0, 1), (14, .getfield 9, 3), (17, .arraylength, 1), (18, .if_icmp .ge 14, 3), (21, .aload_n 0, 1), (22, .getfield 9, 3), (25, .iload_n 1, 1), (26, .aload_n 0, 1), (27, .iload_n 2, 1), (28, .invokevirtual 28, 3), (31, .iastore, 1), (32, .return_, 1)]
/-- SumDoor$Sheet.cut(I)I -/
def pg_1_4 : List (Nat × Instr × Nat) := [(0, .aload_n 0, 1), (1, .getfield 15, 3), (4, .bipush 8, 2), (6, .if_icmp .ne 6, 3), (9, .iload_n 1, 1), (10, .i2b, 1), (11, .ireturn, 1), (12, .aload_n 0, 1), (13, .getfield 15, 3), (16, .bipush 16, 2), (18, .if_icmp .ne 8, 3), (21, .iload_n 1, 1), (22, .i2s, 1), (23, .goto 4, 3), (26, .iload_n 1, 1), (27, .ireturn, 1)]
/-- SumDoor$Sheet.hasRun(II)Z -/
def pg_1_5 : List (Nat × Instr × Nat) := [(0, .iload_n 1, 1), (1, .ifCond .lt 29, 3), (4, .iload_n 2, 1), (5, .ifCond .lt 25, 3), (8, .iload_n 1, 1), (9, .aload_n 0, 1), (10, .getfield 19, 3), (13, .if_icmp .gt 17, 3), (16, .iload_n 2, 1), (17, .aload_n 0, 1), (18, .getfield 19, 3), (21, .iload_n 1, 1), (22, .isub, 1), (23, .if_icmp .gt 7, 3), (26, .iconst 1, 1), (27, .goto 4, 3), (30, .iconst 0, 1), (31, .ireturn, 1)]
/-- SumDoor$Side.<init>([III)V -/
def pg_2_0 : List (Nat × Instr × Nat) := [(0, .aload_n 0, 1), (1, .invokespecial 3, 3), (4, .aload_n 0, 1), (5, .bipush 40, 2), (7, .newarray .int, 2), (9, .putfield 9, 3), (12, .aload_n 0, 1), (13, .iconst 0, 1), (14, .putfield 15, 3), (17, .aload_n 0, 1), (18, .bipush 40, 2), (20, .newarray .int, 2), (22, .putfield 19, 3), (25, .aload_n 0, 1), (26, .iconst 0, 1), (27, .putfield 22, 3), (30, .iconst 0, 1), (31, .istore 4, 2), (33, .iconst 0, 1), (34, .iload_n 2, 1), (35, .invokestatic 25, 3), (38, .istore 5, 2), (40, .iload 5, 2), (42, .iload_n 3, 1), (43, .if_icmp .ge 72, 3), (46, .iload 5, 2), (48, .aload_n 1, 1), (49, .arraylength, 1), (50, .if_icmp .ge 65, 3), (53, .aload_n 1, 1), (54, .iload 5, 2), (56, .iaload, 1), (57, .istore 6, 2), (59, .iload 6, 2), (61, .invokestatic 31, 3), (64, .ifCond .ne 12, 3), (67, .aload_n 0, 1), (68, .iload 6, 2), (70, .invokevirtual 37, 3), (73, .goto 29, 3), (76, .iload 4, 2), (78, .ifCond .eq 15, 3), (81, .aload_n 0, 1), (82, .iload 6, 2), (84, .bipush 48, 2), (86, .isub, 1), (87, .invokevirtual 41, 3), (90, .goto 12, 3), (93, .aload_n 0, 1), (94, .iload 6, 2), (96, .bipush 48, 2), (98, .isub, 1), (99, .invokevirtual 44, 3), (102, .iload 6, 2), (104, .invokestatic 31, 3), (107, .istore 4, 2), (109, .iinc 5 1, 3), (112, .goto (-72), 3), (115, .aload_n 0, 1), (116, .iconst 1, 1), (117, .invokevirtual 47, 3), (120, .return_, 1)]
/-- SumDoor$Side.takeSign(I)V -/
def pg_2_1 : List (Nat × Instr × Nat) := [(0, .iload_n 1, 1), (1, .bipush 120, 2), (3, .if_icmp .ne 12, 3), (6, .aload_n 0, 1), (7, .iload_n 1, 1), (8, .ineg, 1), (9, .invokevirtual 44, 3), (12, .goto 58, 3), (15, .iload_n 1, 1), (16, .bipush 40, 2), (18, .if_icmp .ne 11, 3), (21, .aload_n 0, 1), (22, .iload_n 1, 1), (23, .invokevirtual 50, 3), (26, .goto 44, 3), (29, .iload_n 1, 1), (30, .bipush 41, 2), (32, .if_icmp .ne 25, 3), (35, .aload_n 0, 1), (36, .iconst 1, 1), (37, .invokevirtual 47, 3), (40, .aload_n 0, 1), (41, .iconst 0, 1), (42, .aload_n 0, 1), (43, .getfield 22, 3), (46, .iconst 1, 1), (47, .isub, 1), (48, .invokestatic 25, 3), (51, .putfield 22, 3), (54, .goto 16, 3), (57, .aload_n 0, 1), (58, .iload_n 1, 1), (59, .invokestatic 53, 3), (62, .invokevirtual 47, 3), (65, .aload_n 0, 1), (66, .iload_n 1, 1), (67, .invokevirtual 50, 3), (70, .return_, 1)]
/-- SumDoor$Side.takeWaiting(I)V -/
def pg_2_2 : List (Nat × Instr × Nat) := [(0, .aload_n 0, 1), (1, .getfield 22, 3), (4, .ifCond .le 60, 3), (7, .aload_n 0, 1), (8, .getfield 22, 3), (11, .aload_n 0, 1), (12, .getfield 19, 3), (15, .arraylength, 1), (16, .if_icmp .gt 48, 3), (19, .aload_n 0, 1), (20, .getfield 19, 3), (23, .aload_n 0, 1), (24, .getfield 22, 3), (27, .iconst 1, 1), (28, .isub, 1), (29, .iaload, 1), (30, .invokestatic 53, 3), (33, .iload_n 1, 1), (34, .if_icmp .lt 30, 3), (37, .aload_n 0, 1), (38, .dup, 1), (39, .getfield 22, 3), (42, .iconst 1, 1), (43, .isub, 1), (44, .putfield 22, 3), (47, .aload_n 0, 1), (48, .aload_n 0, 1), (49, .getfield 19, 3), (52, .aload_n 0, 1), (53, .getfield 22, 3), (56, .iaload, 1), (57, .ineg, 1), (58, .invokevirtual 44, 3), (61, .goto (-61), 3), (64, .return_, 1)]
/-- SumDoor$Side.rank(I)I -/
def pg_2_3 : List (Nat × Instr × Nat) := [(0, .iload_n 0, 1), (1, .bipush 40, 2), (3, .if_icmp .ne 5, 3), (6, .iconst 0, 1), (7, .ireturn, 1), (8, .iload_n 0, 1), (9, .bipush 43, 2), (11, .if_icmp .eq 9, 3), (14, .iload_n 0, 1), (15, .bipush 45, 2), (17, .if_icmp .ne 7, 3), (20, .iconst 1, 1), (21, .goto 4, 3), (24, .iconst 2, 1), (25, .ireturn, 1)]
/-- SumDoor$Side.addStep(I)V -/
def pg_2_4 : List (Nat × Instr × Nat) := [(0, .aload_n 0, 1), (1, .getfield 15, 3), (4, .ifCond .lt 35, 3), (7, .aload_n 0, 1), (8, .getfield 15, 3), (11, .aload_n 0, 1), (12, .getfield 9, 3), (15, .arraylength, 1), (16, .if_icmp .ge 23, 3), (19, .aload_n 0, 1), (20, .getfield 9, 3), (23, .aload_n 0, 1), (24, .getfield 15, 3), (27, .iload_n 1, 1), (28, .iastore, 1), (29, .aload_n 0, 1), (30, .dup, 1), (31, .getfield 15, 3), (34, .iconst 1, 1), (35, .iadd, 1), (36, .putfield 15, 3), (39, .return_, 1)]
/-- SumDoor$Side.lengthenNumber(I)V -/
def pg_2_5 : List (Nat × Instr × Nat) := [(0, .aload_n 0, 1), (1, .getfield 15, 3), (4, .ifCond .le 42, 3), (7, .aload_n 0, 1), (8, .getfield 15, 3), (11, .aload_n 0, 1), (12, .getfield 9, 3), (15, .arraylength, 1), (16, .if_icmp .gt 30, 3), (19, .aload_n 0, 1), (20, .getfield 9, 3), (23, .aload_n 0, 1), (24, .getfield 15, 3), (27, .iconst 1, 1), (28, .isub, 1), (29, .aload_n 0, 1), (30, .getfield 9, 3), (33, .aload_n 0, 1), (34, .getfield 15, 3), (37, .iconst 1, 1), (38, .isub, 1), (39, .iaload, 1), (40, .bipush 10, 2), (42, .imul, 1), (43, .iload_n 1, 1), (44, .iadd, 1), (45, .iastore, 1), (46, .return_, 1)]
/-- SumDoor$Side.push(I)V -/
def pg_2_6 : List (Nat × Instr × Nat) := [(0, .aload_n 0, 1), (1, .getfield 22, 3), (4, .ifCond .lt 35, 3), (7, .aload_n 0, 1), (8, .getfield 22, 3), (11, .aload_n 0, 1), (12, .getfield 19, 3), (15, .arraylength, 1), (16, .if_icmp .ge 23, 3), (19, .aload_n 0, 1), (20, .getfield 19, 3), (23, .aload_n 0, 1), (24, .getfield 22, 3), (27, .iload_n 1, 1), (28, .iastore, 1), (29, .aload_n 0, 1), (30, .dup, 1), (31, .getfield 22, 3), (34, .iconst 1, 1), (35, .iadd, 1), (36, .putfield 22, 3), (39, .return_, 1)]
/-- SumDoor$Side.worth(I)I -/
def pg_2_7 : List (Nat × Instr × Nat) := [(0, .aload_n 0, 1), (1, .iconst 0, 1), (2, .putfield 22, 3), (5, .iconst 0, 1), (6, .istore_n 2, 1), (7, .iload_n 2, 1), (8, .aload_n 0, 1), (9, .getfield 15, 3), (12, .if_icmp .ge 117, 3), (15, .iload_n 2, 1), (16, .aload_n 0, 1), (17, .getfield 9, 3), (20, .arraylength, 1), (21, .if_icmp .ge 108, 3), (24, .aload_n 0, 1), (25, .getfield 9, 3), (28, .iload_n 2, 1), (29, .iaload, 1), (30, .istore_n 3, 1), (31, .iload_n 3, 1), (32, .ifCond .lt 11, 3), (35, .aload_n 0, 1), (36, .iload_n 3, 1), (37, .invokevirtual 50, 3), (40, .goto 83, 3), (43, .iload_n 3, 1), (44, .bipush (-120), 2), (46, .if_icmp .ne 11, 3), (49, .aload_n 0, 1), (50, .iload_n 1, 1), (51, .invokevirtual 50, 3), (54, .goto 69, 3), (57, .aload_n 0, 1), (58, .getfield 22, 3), (61, .iconst 2, 1), (62, .if_icmp .lt 61, 3), (65, .aload_n 0, 1), (66, .getfield 22, 3), (69, .aload_n 0, 1), (70, .getfield 19, 3), (73, .arraylength, 1), (74, .if_icmp .gt 49, 3), (77, .aload_n 0, 1), (78, .dup, 1), (79, .getfield 22, 3), (82, .iconst 1, 1), (83, .isub, 1), (84, .putfield 22, 3), (87, .aload_n 0, 1), (88, .getfield 19, 3), (91, .aload_n 0, 1), (92, .getfield 22, 3), (95, .iconst 1, 1), (96, .isub, 1), (97, .iload_n 3, 1), (98, .ineg, 1), (99, .aload_n 0, 1), (100, .getfield 19, 3), (103, .aload_n 0, 1), (104, .getfield 22, 3), (107, .iconst 1, 1), (108, .isub, 1), (109, .iaload, 1), (110, .aload_n 0, 1), (111, .getfield 19, 3), (114, .aload_n 0, 1), (115, .getfield 22, 3), (118, .iaload, 1), (119, .invokestatic 57, 3), (122, .iastore, 1), (123, .iinc 2 1, 3), (126, .goto (-119), 3), (129, .aload_n 0, 1), (130, .getfield 19, 3), (133, .iconst 0, 1), (134, .iaload, 1), (135, .ireturn, 1)]
/-- SumDoor$Side.joined(III)I -/
def pg_2_8 : List (Nat × Instr × Nat) := [(0, .iload_n 0, 1), (1, .tableswitch 63 42 47 #[47, 39, 63, 43, 63, 51], 39), (40, .iload_n 1, 1), (41, .iload_n 2, 1), (42, .iadd, 1), (43, .ireturn, 1), (44, .iload_n 1, 1), (45, .iload_n 2, 1), (46, .isub, 1), (47, .ireturn, 1), (48, .iload_n 1, 1), (49, .iload_n 2, 1), (50, .imul, 1), (51, .ireturn, 1), (52, .iload_n 2, 1), (53, .ifCond .ne 7, 3), (56, .iconst 0, 1), (57, .goto 6, 3), (60, .iload_n 1, 1), (61, .iload_n 2, 1), (62, .idiv, 1), (63, .ireturn, 1), (64, .iload_n 2, 1), (65, .ifCond .ne 7, 3), (68, .iconst 0, 1), (69, .goto 6, 3), (72, .iload_n 1, 1), (73, .iload_n 2, 1), (74, .irem, 1), (75, .ireturn, 1)]
/-- SumDoor$Sums.<init>()V -/
def pg_3_0 : List (Nat × Instr × Nat) := [(0, .aload_n 0, 1), (1, .invokespecial 3, 3), (4, .aload_n 0, 1), (5, .bipush 8, 2), (7, .anewarray 9, 3), (10, .putfield 11, 3), (13, .aload_n 0, 1), (14, .bipush 8, 2), (16, .newarray .int, 2), (18, .putfield 17, 3), (21, .aload_n 0, 1), (22, .bipush 8, 2), (24, .newarray .int, 2), (26, .putfield 21, 3), (29, .aload_n 0, 1), (30, .iconst 0, 1), (31, .putfield 24, 3), (34, .return_, 1)]
/-- SumDoor$Sums.has(I)Z -/
def pg_3_1 : List (Nat × Instr × Nat) := [(0, .iload_n 1, 1), (1, .ifCond .lt 33, 3), (4, .iload_n 1, 1), (5, .aload_n 0, 1), (6, .getfield 24, 3), (9, .if_icmp .ge 25, 3), (12, .iload_n 1, 1), (13, .aload_n 0, 1), (14, .getfield 11, 3), (17, .arraylength, 1), (18, .if_icmp .ge 16, 3), (21, .aload_n 0, 1), (22, .getfield 11, 3), (25, .iload_n 1, 1), (26, .aaload, 1), (27, .ifnull 7, 3), (30, .iconst 1, 1), (31, .goto 4, 3), (34, .iconst 0, 1), (35, .ireturn, 1)]
/-- SumDoor$Sums.add(LSumDoor$Text;II)I -/
def pg_3_2 : List (Nat × Instr × Nat) := [(0, .aload_n 0, 1), (1, .getfield 24, 3), (4, .istore 4, 2), (6, .iload 4, 2), (8, .ifCond .lt 45, 3), (11, .iload 4, 2), (13, .aload_n 0, 1), (14, .getfield 11, 3), (17, .arraylength, 1), (18, .if_icmp .ge 35, 3), (21, .aload_n 0, 1), (22, .getfield 11, 3), (25, .iload 4, 2), (27, .aload_n 1, 1), (28, .aastore, 1), (29, .aload_n 0, 1), (30, .getfield 17, 3), (33, .iload 4, 2), (35, .iload_n 2, 1), (36, .iastore, 1), (37, .aload_n 0, 1), (38, .getfield 21, 3), (41, .iload 4, 2), (43, .iload_n 3, 1), (44, .iastore, 1), (45, .aload_n 0, 1), (46, .iload 4, 2), (48, .iconst 1, 1), (49, .iadd, 1), (50, .putfield 24, 3), (53, .iload 4, 2), (55, .ireturn, 1)]
/-- SumDoor$Sums.become(LSumDoor$Sums;)V -/
def pg_3_3 : List (Nat × Instr × Nat) := [(0, .iconst 0, 1), (1, .istore_n 2, 1), (2, .iload_n 2, 1), (3, .aload_n 0, 1), (4, .getfield 11, 3), (7, .arraylength, 1), (8, .if_icmp .ge 45, 3), (11, .aload_n 0, 1), (12, .getfield 11, 3), (15, .iload_n 2, 1), (16, .aload_n 1, 1), (17, .getfield 11, 3), (20, .iload_n 2, 1), (21, .aaload, 1), (22, .aastore, 1), (23, .aload_n 0, 1), (24, .getfield 17, 3), (27, .iload_n 2, 1), (28, .aload_n 1, 1), (29, .getfield 17, 3), (32, .iload_n 2, 1), (33, .iaload, 1), (34, .iastore, 1), (35, .aload_n 0, 1), (36, .getfield 21, 3), (39, .iload_n 2, 1), (40, .aload_n 1, 1), (41, .getfield 21, 3), (44, .iload_n 2, 1), (45, .iaload, 1), (46, .iastore, 1), (47, .iinc 2 1, 3), (50, .goto (-48), 3), (53, .aload_n 0, 1), (54, .aload_n 1, 1), (55, .getfield 24, 3), (58, .putfield 24, 3), (61, .return_, 1)]
/-- SumDoor$Sums.hardOf(I)I -/
def pg_3_4 : List (Nat × Instr × Nat) := [(0, .aload_n 0, 1), (1, .iload_n 1, 1), (2, .invokevirtual 28, 3), (5, .ifCond .ne 5, 3), (8, .iconst 0, 1), (9, .ireturn, 1), (10, .aload_n 0, 1), (11, .getfield 11, 3), (14, .iload_n 1, 1), (15, .aaload, 1), (16, .getfield 32, 3), (19, .istore_n 2, 1), (20, .aload_n 0, 1), (21, .getfield 17, 3), (24, .iload_n 1, 1), (25, .iaload, 1), (26, .iconst 1, 1), (27, .invokestatic 35, 3), (30, .ifCond .eq 9, 3), (33, .iload_n 2, 1), (34, .iload_n 2, 1), (35, .iconst 2, 1), (36, .idiv, 1), (37, .iadd, 1), (38, .ireturn, 1), (39, .aload_n 0, 1), (40, .getfield 17, 3), (43, .iload_n 1, 1), (44, .iaload, 1), (45, .iconst 3, 1), (46, .if_icmp .ne 9, 3), (49, .iload_n 2, 1), (50, .iconst 5, 1), (51, .iadd, 1), (52, .goto 4, 3), (55, .iload_n 2, 1), (56, .ireturn, 1)]
/-- SumDoor$Sums.sideOf(III)I -/
def pg_3_5 : List (Nat × Instr × Nat) := [(0, .aload_n 0, 1), (1, .iload_n 1, 1), (2, .invokevirtual 28, 3), (5, .ifCond .ne 5, 3), (8, .iconst 0, 1), (9, .ireturn, 1), (10, .iload_n 2, 1), (11, .ifCond .ne 19, 3), (14, .aload_n 0, 1), (15, .getfield 11, 3), (18, .iload_n 1, 1), (19, .aaload, 1), (20, .getfield 39, 3), (23, .iload_n 3, 1), (24, .invokevirtual 43, 3), (27, .goto 16, 3), (30, .aload_n 0, 1), (31, .getfield 11, 3), (34, .iload_n 1, 1), (35, .aaload, 1), (36, .getfield 49, 3), (39, .iload_n 3, 1), (40, .invokevirtual 43, 3), (43, .ireturn, 1)]
/-- SumDoor$Sums.isSolvedBy(II)Z -/
def pg_3_6 : List (Nat × Instr × Nat) := [(0, .aload_n 0, 1), (1, .iload_n 1, 1), (2, .invokevirtual 28, 3), (5, .ifCond .eq 22, 3), (8, .aload_n 0, 1), (9, .iload_n 1, 1), (10, .iload_n 2, 1), (11, .aload_n 0, 1), (12, .getfield 21, 3), (15, .iload_n 1, 1), (16, .iaload, 1), (17, .invokevirtual 52, 3), (20, .ifCond .eq 7, 3), (23, .iconst 1, 1), (24, .goto 4, 3), (27, .iconst 0, 1), (28, .ireturn, 1)]
/-- SumDoor$Sums.solversOf(II)I -/
def pg_3_7 : List (Nat × Instr × Nat) := [(0, .iconst 0, 1), (1, .istore_n 3, 1), (2, .iconst 0, 1), (3, .istore 4, 2), (5, .iload 4, 2), (7, .bipush 100, 2), (9, .if_icmp .ge 23, 3), (12, .aload_n 0, 1), (13, .iload_n 1, 1), (14, .iload 4, 2), (16, .iload_n 2, 1), (17, .invokevirtual 52, 3), (20, .ifCond .eq 6, 3), (23, .iinc 3 1, 3), (26, .iinc 4 1, 3), (29, .goto (-24), 3), (32, .iload_n 3, 1), (33, .ireturn, 1)]
/-- SumDoor$Sums.isSolvedWith(III)Z -/
def pg_3_8 : List (Nat × Instr × Nat) := [(0, .aload_n 0, 1), (1, .iload_n 1, 1), (2, .invokevirtual 28, 3), (5, .ifCond .eq 13, 3), (8, .iload_n 2, 1), (9, .ifCond .lt 9, 3), (12, .iload_n 2, 1), (13, .bipush 100, 2), (15, .if_icmp .lt 5, 3), (18, .iconst 0, 1), (19, .ireturn, 1), (20, .aload_n 0, 1), (21, .getfield 11, 3), (24, .iload_n 1, 1), (25, .aaload, 1), (26, .getfield 56, 3), (29, .iload_n 2, 1), (30, .iaload, 1), (31, .istore 4, 2), (33, .aload_n 0, 1), (34, .getfield 11, 3), (37, .iload_n 1, 1), (38, .aaload, 1), (39, .getfield 59, 3), (42, .iload_n 2, 1), (43, .iaload, 1), (44, .istore 5, 2), (46, .aload_n 0, 1), (47, .getfield 17, 3), (50, .iload_n 1, 1), (51, .iaload, 1), (52, .tableswitch 126 1 6 #[40, 53, 63, 88, 101, 114], 40), (92, .iload 4, 2), (94, .iload 5, 2), (96, .if_icmp .ge 7, 3), (99, .iconst 1, 1), (100, .goto 4, 3), (103, .iconst 0, 1), (104, .ireturn, 1), (105, .iload 4, 2), (107, .iload 5, 2), (109, .isub, 1), (110, .iload_n 3, 1), (111, .invokestatic 62, 3), (114, .ireturn, 1), (115, .iload 4, 2), (117, .iload 5, 2), (119, .isub, 1), (120, .iload_n 3, 1), (121, .invokestatic 62, 3), (124, .ifCond .eq 14, 3), (127, .iload_n 2, 1), (128, .iconst 2, 1), (129, .irem, 1), (130, .iconst 1, 1), (131, .if_icmp .ne 7, 3), (134, .iconst 1, 1), (135, .goto 4, 3), (138, .iconst 0, 1), (139, .ireturn, 1), (140, .iload 4, 2), (142, .iload 5, 2), (144, .if_icmp .eq 7, 3), (147, .iconst 1, 1), (148, .goto 4, 3), (151, .iconst 0, 1), (152, .ireturn, 1), (153, .iload 4, 2), (155, .iload 5, 2), (157, .if_icmp .le 7, 3), (160, .iconst 1, 1), (161, .goto 4, 3), (164, .iconst 0, 1), (165, .ireturn, 1), (166, .iload 4, 2), (168, .iload 5, 2), (170, .isub, 1), (171, .iload_n 3, 1), (172, .ineg, 1), (173, .iload_n 3, 1), (174, .invokestatic 65, 3), (177, .ireturn, 1), (178, .iload 4, 2), (180, .iload 5, 2), (182, .if_icmp .ne 7, 3), (185, .iconst 1, 1), (186, .goto 4, 3), (189, .iconst 0, 1), (190, .ireturn, 1)]
/-- SumDoor$Sums.isMultiple(II)Z -/
def pg_3_9 : List (Nat × Instr × Nat) := [(0, .iload_n 1, 1), (1, .ifCond .eq 13, 3), (4, .iload_n 0, 1), (5, .iload_n 1, 1), (6, .irem, 1), (7, .ifCond .ne 7, 3), (10, .iconst 1, 1), (11, .goto 4, 3), (14, .iconst 0, 1), (15, .ireturn, 1)]
/-- SumDoor$Tape.<init>()V -/
def pg_4_0 : List (Nat × Instr × Nat) := [(0, .aload_n 0, 1), (1, .invokespecial 3, 3), (4, .aload_n 0, 1), (5, .bipush 40, 2), (7, .newarray .int, 2), (9, .putfield 9, 3), (12, .aload_n 0, 1), (13, .iconst 0, 1), (14, .putfield 15, 3), (17, .return_, 1)]
/-- SumDoor$Tape.add(I)V -/
def pg_4_1 : List (Nat × Instr × Nat) := [(0, .aload_n 0, 1), (1, .getfield 15, 3), (4, .ifCond .lt 35, 3), (7, .aload_n 0, 1), (8, .getfield 15, 3), (11, .aload_n 0, 1), (12, .getfield 9, 3), (15, .arraylength, 1), (16, .if_icmp .ge 23, 3), (19, .aload_n 0, 1), (20, .getfield 9, 3), (23, .aload_n 0, 1), (24, .getfield 15, 3), (27, .iload_n 1, 1), (28, .iastore, 1), (29, .aload_n 0, 1), (30, .dup, 1), (31, .getfield 15, 3), (34, .iconst 1, 1), (35, .iadd, 1), (36, .putfield 15, 3), (39, .return_, 1)]
/-- SumDoor$Tape.fault()I -/
def pg_4_2 : List (Nat × Instr × Nat) := [(0, .aload_n 0, 1), (1, .iconst 1, 1), (2, .putfield 19, 3), (5, .aload_n 0, 1), (6, .iconst 0, 1), (7, .putfield 23, 3), (10, .aload_n 0, 1), (11, .iconst 0, 1), (12, .putfield 26, 3), (15, .aload_n 0, 1), (16, .iconst 0, 1), (17, .putfield 29, 3), (20, .iconst 0, 1), (21, .istore_n 1, 1), (22, .iload_n 1, 1), (23, .aload_n 0, 1), (24, .getfield 15, 3), (27, .if_icmp .ge 53, 3), (30, .iload_n 1, 1), (31, .aload_n 0, 1), (32, .getfield 9, 3), (35, .arraylength, 1), (36, .if_icmp .ge 44, 3), (39, .aload_n 0, 1), (40, .getfield 9, 3), (43, .iload_n 1, 1), (44, .iaload, 1), (45, .istore_n 2, 1), (46, .aload_n 0, 1), (47, .getfield 19, 3), (50, .ifCond .eq 14, 3), (53, .aload_n 0, 1), (54, .iload_n 2, 1), (55, .invokevirtual 32, 3), (58, .ifCond .eq 14, 3), (61, .goto 13, 3), (64, .aload_n 0, 1), (65, .iload_n 2, 1), (66, .invokevirtual 36, 3), (69, .ifCond .ne 5, 3), (72, .iload_n 1, 1), (73, .ireturn, 1), (74, .iinc 1 1, 3), (77, .goto (-55), 3), (80, .aload_n 0, 1), (81, .getfield 19, 3), (84, .ifCond .ne 17, 3), (87, .aload_n 0, 1), (88, .getfield 26, 3), (91, .ifCond .gt 10, 3), (94, .aload_n 0, 1), (95, .getfield 29, 3), (98, .ifCond .ne 10, 3), (101, .aload_n 0, 1), (102, .getfield 15, 3), (105, .goto 4, 3), (108, .iconst (-1), 1), (109, .ireturn, 1)]
/-- SumDoor$Tape.beginsOperand(I)Z -/
def pg_4_3 : List (Nat × Instr × Nat) := [(0, .iload_n 1, 1), (1, .bipush 40, 2), (3, .if_icmp .ne 27, 3), (6, .aload_n 0, 1), (7, .dup, 1), (8, .getfield 26, 3), (11, .iconst 1, 1), (12, .iadd, 1), (13, .putfield 26, 3), (16, .aload_n 0, 1), (17, .getfield 26, 3), (20, .iconst 4, 1), (21, .if_icmp .gt 7, 3), (24, .iconst 1, 1), (25, .goto 4, 3), (28, .iconst 0, 1), (29, .ireturn, 1), (30, .aload_n 0, 1), (31, .iload_n 1, 1), (32, .invokestatic 39, 3), (35, .ifCond .eq 7, 3), (38, .iconst 1, 1), (39, .goto 4, 3), (42, .iconst 0, 1), (43, .putfield 23, 3), (46, .aload_n 0, 1), (47, .iconst 0, 1), (48, .putfield 19, 3), (51, .iload_n 1, 1), (52, .bipush 120, 2), (54, .if_icmp .eq 10, 3), (57, .iload_n 1, 1), (58, .invokestatic 39, 3), (61, .ifCond .eq 7, 3), (64, .iconst 1, 1), (65, .goto 4, 3), (68, .iconst 0, 1), (69, .ireturn, 1)]
/-- SumDoor$Tape.followsOperand(I)Z -/
def pg_4_4 : List (Nat × Instr × Nat) := [(0, .iload_n 1, 1), (1, .invokestatic 39, 3), (4, .ifCond .eq 35, 3), (7, .aload_n 0, 1), (8, .dup, 1), (9, .getfield 23, 3), (12, .iconst 1, 1), (13, .iadd, 1), (14, .putfield 23, 3), (17, .aload_n 0, 1), (18, .getfield 23, 3), (21, .iconst 1, 1), (22, .if_icmp .le 15, 3), (25, .aload_n 0, 1), (26, .getfield 23, 3), (29, .iconst 3, 1), (30, .if_icmp .gt 7, 3), (33, .iconst 1, 1), (34, .goto 4, 3), (37, .iconst 0, 1), (38, .ireturn, 1), (39, .aload_n 0, 1), (40, .iconst 0, 1), (41, .putfield 23, 3), (44, .iload_n 1, 1), (45, .bipush 41, 2), (47, .if_icmp .ne 26, 3), (50, .aload_n 0, 1), (51, .dup, 1), (52, .getfield 26, 3), (55, .iconst 1, 1), (56, .isub, 1), (57, .putfield 26, 3), (60, .aload_n 0, 1), (61, .getfield 26, 3), (64, .ifCond .lt 7, 3), (67, .iconst 1, 1), (68, .goto 4, 3), (71, .iconst 0, 1), (72, .ireturn, 1), (73, .aload_n 0, 1), (74, .iconst 1, 1), (75, .putfield 19, 3), (78, .iload_n 1, 1), (79, .bipush 61, 2), (81, .if_icmp .ne 38, 3), (84, .aload_n 0, 1), (85, .getfield 29, 3), (88, .ifCond .ne 7, 3), (91, .iconst 1, 1), (92, .goto 4, 3), (95, .iconst 0, 1), (96, .istore_n 2, 1), (97, .aload_n 0, 1), (98, .iconst 1, 1), (99, .putfield 29, 3), (102, .iload_n 2, 1), (103, .ifCond .eq 14, 3), (106, .aload_n 0, 1), (107, .getfield 26, 3), (110, .ifCond .ne 7, 3), (113, .iconst 1, 1), (114, .goto 4, 3), (117, .iconst 0, 1), (118, .ireturn, 1), (119, .iload_n 1, 1), (120, .invokestatic 42, 3), (123, .ireturn, 1)]
/-- SumDoor$Tape.isDigit(I)Z -/
def pg_4_5 : List (Nat × Instr × Nat) := [(0, .iload_n 0, 1), (1, .bipush 48, 2), (3, .if_icmp .lt 13, 3), (6, .iload_n 0, 1), (7, .bipush 57, 2), (9, .if_icmp .gt 7, 3), (12, .iconst 1, 1), (13, .goto 4, 3), (16, .iconst 0, 1), (17, .ireturn, 1)]
/-- SumDoor$Tape.isOperator(I)Z -/
def pg_4_6 : List (Nat × Instr × Nat) := [(0, .iload_n 0, 1), (1, .bipush 43, 2), (3, .if_icmp .eq 27, 3), (6, .iload_n 0, 1), (7, .bipush 45, 2), (9, .if_icmp .eq 21, 3), (12, .iload_n 0, 1), (13, .bipush 42, 2), (15, .if_icmp .eq 15, 3), (18, .iload_n 0, 1), (19, .bipush 47, 2), (21, .if_icmp .eq 9, 3), (24, .iload_n 0, 1), (25, .bipush 37, 2), (27, .if_icmp .ne 7, 3), (30, .iconst 1, 1), (31, .goto 4, 3), (34, .iconst 0, 1), (35, .ireturn, 1)]
/-- SumDoor$Text.<init>(LSumDoor$Tape;)V -/
def pg_5_0 : List (Nat × Instr × Nat) := [(0, .aload_n 0, 1), (1, .invokespecial 3, 3), (4, .aload_n 0, 1), (5, .bipush 100, 2), (7, .newarray .int, 2), (9, .putfield 9, 3), (12, .aload_n 0, 1), (13, .bipush 100, 2), (15, .newarray .int, 2), (17, .putfield 15, 3), (20, .iconst 0, 1), (21, .istore_n 2, 1), (22, .iconst 0, 1), (23, .istore_n 3, 1), (24, .iconst 0, 1), (25, .istore 4, 2), (27, .iload 4, 2), (29, .aload_n 1, 1), (30, .getfield 18, 3), (33, .if_icmp .ge 64, 3), (36, .iload 4, 2), (38, .aload_n 1, 1), (39, .getfield 24, 3), (42, .arraylength, 1), (43, .if_icmp .ge 54, 3), (46, .aload_n 1, 1), (47, .getfield 24, 3), (50, .iload 4, 2), (52, .iaload, 1), (53, .istore 5, 2), (55, .iload 5, 2), (57, .bipush 61, 2), (59, .if_icmp .ne 6, 3), (62, .iload 4, 2), (64, .istore_n 2, 1), (65, .iload 5, 2), (67, .bipush 120, 2), (69, .if_icmp .eq 19, 3), (72, .iload 5, 2), (74, .invokestatic 27, 3), (77, .ifCond .ne 11, 3), (80, .iload 5, 2), (82, .invokestatic 31, 3), (85, .ifCond .eq 6, 3), (88, .iinc 3 1, 3), (91, .iinc 4 1, 3), (94, .goto (-67), 3), (97, .aload_n 0, 1), (98, .iload_n 3, 1), (99, .putfield 34, 3), (102, .aload_n 0, 1), (103, .new 37, 3), (106, .dup, 1), (107, .aload_n 1, 1), (108, .getfield 24, 3), (111, .iconst 0, 1), (112, .iload_n 2, 1), (113, .invokespecial 39, 3), (116, .putfield 42, 3), (119, .aload_n 0, 1), (120, .new 37, 3), (123, .dup, 1), (124, .aload_n 1, 1), (125, .getfield 24, 3), (128, .iload_n 2, 1), (129, .iconst 1, 1), (130, .iadd, 1), (131, .aload_n 1, 1), (132, .getfield 18, 3), (135, .invokespecial 39, 3), (138, .putfield 46, 3), (141, .iconst 0, 1), (142, .istore 4, 2), (144, .iload 4, 2), (146, .bipush 100, 2), (148, .if_icmp .ge 41, 3), (151, .aload_n 0, 1), (152, .getfield 9, 3), (155, .iload 4, 2), (157, .aload_n 0, 1), (158, .getfield 42, 3), (161, .iload 4, 2), (163, .invokevirtual 49, 3), (166, .iastore, 1), (167, .aload_n 0, 1), (168, .getfield 15, 3), (171, .iload 4, 2), (173, .aload_n 0, 1), (174, .getfield 46, 3), (177, .iload 4, 2), (179, .invokevirtual 49, 3), (182, .iastore, 1), (183, .iinc 4 1, 3), (186, .goto (-42), 3), (189, .return_, 1)]
/-- SumDoor$World.<init>()V -/
def pg_6_0 : List (Nat × Instr × Nat) := [(0, .aload_n 0, 1), (1, .invokespecial 3, 3), (4, .aload_n 0, 1), (5, .new 9, 3), (8, .dup, 1), (9, .invokespecial 11, 3), (12, .putfield 12, 3), (15, .aload_n 0, 1), (16, .new 18, 3), (19, .dup, 1), (20, .invokespecial 20, 3), (23, .putfield 21, 3), (26, .aload_n 0, 1), (27, .bipush 10, 2), (29, .newarray .int, 2), (31, .putfield 25, 3), (34, .aload_n 0, 1), (35, .iconst 1, 1), (36, .putfield 29, 3), (39, .aload_n 0, 1), (40, .getfield 25, 3), (43, .iconst (-1), 1), (44, .invokestatic 33, 3), (47, .return_, 1)]
/-- SumDoor$World.become(LSumDoor$World;)V -/
def pg_6_1 : List (Nat × Instr × Nat) := [(0, .aload_n 0, 1), (1, .getfield 12, 3), (4, .aload_n 1, 1), (5, .getfield 12, 3), (8, .invokevirtual 39, 3), (11, .aload_n 0, 1), (12, .getfield 21, 3), (15, .aload_n 1, 1), (16, .getfield 21, 3), (19, .invokevirtual 43, 3), (22, .aload_n 1, 1), (23, .getfield 25, 3), (26, .iconst 0, 1), (27, .aload_n 0, 1), (28, .getfield 25, 3), (31, .iconst 0, 1), (32, .bipush 10, 2), (34, .invokestatic 46, 3), (37, .aload_n 0, 1), (38, .aload_n 1, 1), (39, .getfield 29, 3), (42, .putfield 29, 3), (45, .return_, 1)]
/-- SumDoor$World.draw()I -/
def pg_6_2 : List (Nat × Instr × Nat) := [(0, .aload_n 0, 1), (1, .aload_n 0, 1), (2, .getfield 29, 3), (5, .ldc 52, 2), (7, .imul, 1), (8, .sipush 12345, 3), (11, .iadd, 1), (12, .putfield 29, 3), (15, .aload_n 0, 1), (16, .getfield 29, 3), (19, .bipush 8, 2), (21, .iushr, 1), (22, .ireturn, 1)]
/-- SumDoor.<init>()V -/
def pg_7_0 : List (Nat × Instr × Nat) := [(0, .aload_n 0, 1), (1, .invokespecial 1, 3), (4, .aload_n 0, 1), (5, .new 7, 3), (8, .dup, 1), (9, .invokespecial 9, 3), (12, .putfield 10, 3), (15, .aload_n 0, 1), (16, .new 16, 3), (19, .dup, 1), (20, .invokespecial 18, 3), (23, .putfield 19, 3), (26, .aload_n 0, 1), (27, .new 16, 3), (30, .dup, 1), (31, .invokespecial 18, 3), (34, .putfield 23, 3), (37, .aload_n 0, 1), (38, .new 26, 3), (41, .dup, 1), (42, .invokespecial 28, 3), (45, .putfield 29, 3), (48, .aload_n 0, 1), (49, .iconst 4, 1), (50, .anewarray 33, 3), (53, .putfield 35, 3), (56, .aload_n 0, 1), (57, .bipush 8, 2), (59, .newarray .int, 2), (61, .putfield 39, 3), (64, .aload_n 0, 1), (65, .bipush 7, 2), (67, .newarray .int, 2), (69, .putfield 43, 3), (72, .aload_n 0, 1), (73, .iconst 0, 1), (74, .putfield 46, 3), (77, .iconst 0, 1), (78, .istore_n 1, 1), (79, .iload_n 1, 1), (80, .aload_n 0, 1), (81, .getfield 35, 3), (84, .arraylength, 1), (85, .if_icmp .ge 22, 3), (88, .aload_n 0, 1), (89, .getfield 35, 3), (92, .iload_n 1, 1), (93, .new 33, 3), (96, .dup, 1), (97, .invokespecial 50, 3), (100, .aastore, 1), (101, .iinc 1 1, 3), (104, .goto (-25), 3), (107, .return_, 1)]
/-- SumDoor.feed(II)I -/
def pg_7_1 : List (Nat × Instr × Nat) := [(0, .iload_n 2, 1), (1, .iconst 1, 1), (2, .iconst 4, 1), (3, .invokestatic 51, 3), (6, .ifCond .ne 10, 3), (9, .aload_n 0, 1), (10, .ldc 55, 2), (12, .invokevirtual 56, 3), (15, .ireturn, 1), (16, .aload_n 0, 1), (17, .getfield 10, 3), (20, .getfield 60, 3), (23, .iload_n 2, 1), (24, .iadd, 1), (25, .bipush 40, 2), (27, .if_icmp .le 10, 3), (30, .aload_n 0, 1), (31, .ldc 64, 2), (33, .invokevirtual 56, 3), (36, .ireturn, 1), (37, .iload_n 2, 1), (38, .iconst 1, 1), (39, .isub, 1), (40, .istore_n 3, 1), (41, .iload_n 3, 1), (42, .ifCond .lt 26, 3), (45, .aload_n 0, 1), (46, .getfield 10, 3), (49, .iload_n 1, 1), (50, .bipush 8, 2), (52, .iload_n 3, 1), (53, .imul, 1), (54, .iushr, 1), (55, .sipush 255, 3), (58, .iand, 1), (59, .invokevirtual 65, 3), (62, .iinc 3 (-1), 3), (65, .goto (-24), 3), (68, .aload_n 0, 1), (69, .getfield 10, 3), (72, .getfield 60, 3), (75, .ireturn, 1)]
/-- SumDoor.wipe()I -/
def pg_7_2 : List (Nat × Instr × Nat) := [(0, .aload_n 0, 1), (1, .getfield 10, 3), (4, .getfield 60, 3), (7, .istore_n 1, 1), (8, .aload_n 0, 1), (9, .getfield 10, 3), (12, .iconst 0, 1), (13, .putfield 60, 3), (16, .iload_n 1, 1), (17, .ireturn, 1)]
/-- SumDoor.sum(II)I -/
def pg_7_3 : List (Nat × Instr × Nat) := [(0, .iload_n 1, 1), (1, .invokestatic 69, 3), (4, .ifCond .eq 13, 3), (7, .iload_n 2, 1), (8, .iconst 1, 1), (9, .bipush 99, 2), (11, .invokestatic 51, 3), (14, .ifCond .ne 10, 3), (17, .aload_n 0, 1), (18, .ldc 55, 2), (20, .invokevirtual 56, 3), (23, .ireturn, 1), (24, .aload_n 0, 1), (25, .getfield 19, 3), (28, .getfield 73, 3), (31, .getfield 77, 3), (34, .bipush 8, 2), (36, .if_icmp .lt 10, 3), (39, .aload_n 0, 1), (40, .ldc 64, 2), (42, .invokevirtual 56, 3), (45, .ireturn, 1), (46, .aload_n 0, 1), (47, .getfield 10, 3), (50, .invokevirtual 82, 3), (53, .istore_n 3, 1), (54, .bipush (-10), 2), (56, .iload_n 3, 1), (57, .isub, 1), (58, .istore 4, 2), (60, .iload_n 3, 1), (61, .ifCond .ge 28, 3), (64, .aload_n 0, 1), (65, .getfield 19, 3), (68, .getfield 73, 3), (71, .new 86, 3), (74, .dup, 1), (75, .aload_n 0, 1), (76, .getfield 10, 3), (79, .invokespecial 88, 3), (82, .iload_n 1, 1), (83, .iload_n 2, 1), (84, .invokevirtual 91, 3), (87, .istore 4, 2), (89, .aload_n 0, 1), (90, .getfield 10, 3), (93, .iconst 0, 1), (94, .putfield 60, 3), (97, .iload 4, 2), (99, .ireturn, 1)]
/-- SumDoor.sumOf(II)I -/
def pg_7_4 : List (Nat × Instr × Nat) := [(0, .aload_n 0, 1), (1, .iload_n 1, 1), (2, .invokevirtual 94, 3), (5, .ifCond .ne 10, 3), (8, .aload_n 0, 1), (9, .ldc 55, 2), (11, .invokevirtual 56, 3), (14, .ireturn, 1), (15, .iload_n 2, 1), (16, .tableswitch 94 0 3 #[32, 45, 58, 70], 32), (48, .aload_n 0, 1), (49, .getfield 19, 3), (52, .getfield 73, 3), (55, .getfield 97, 3), (58, .iload_n 1, 1), (59, .iaload, 1), (60, .ireturn, 1), (61, .aload_n 0, 1), (62, .getfield 19, 3), (65, .getfield 73, 3), (68, .getfield 100, 3), (71, .iload_n 1, 1), (72, .iaload, 1), (73, .ireturn, 1), (74, .aload_n 0, 1), (75, .getfield 19, 3), (78, .getfield 73, 3), (81, .iload_n 1, 1), (82, .invokevirtual 103, 3), (85, .ireturn, 1), (86, .aload_n 0, 1), (87, .getfield 19, 3), (90, .getfield 73, 3), (93, .iload_n 1, 1), (94, .aload_n 0, 1), (95, .getfield 19, 3), (98, .getfield 73, 3), (101, .getfield 100, 3), (104, .iload_n 1, 1), (105, .iaload, 1), (106, .invokevirtual 106, 3), (109, .ireturn, 1), (110, .aload_n 0, 1), (111, .ldc 55, 2), (113, .invokevirtual 56, 3), (116, .ireturn, 1)]
/-- SumDoor.change(III)I -/
def pg_7_5 : List (Nat × Instr × Nat) := [(0, .aload_n 0, 1), (1, .iload_n 1, 1), (2, .invokevirtual 94, 3), (5, .ifCond .ne 10, 3), (8, .aload_n 0, 1), (9, .ldc 55, 2), (11, .invokevirtual 56, 3), (14, .ireturn, 1), (15, .iload_n 2, 1), (16, .ifCond .ne 26, 3), (19, .iload_n 3, 1), (20, .invokestatic 69, 3), (23, .ifCond .eq 19, 3), (26, .aload_n 0, 1), (27, .getfield 19, 3), (30, .getfield 73, 3), (33, .getfield 97, 3), (36, .iload_n 1, 1), (37, .iload_n 3, 1), (38, .invokestatic 110, 3), (41, .ireturn, 1), (42, .iload_n 2, 1), (43, .iconst 1, 1), (44, .if_icmp .ne 29, 3), (47, .iload_n 3, 1), (48, .iconst 1, 1), (49, .bipush 99, 2), (51, .invokestatic 51, 3), (54, .ifCond .eq 19, 3), (57, .aload_n 0, 1), (58, .getfield 19, 3), (61, .getfield 73, 3), (64, .getfield 100, 3), (67, .iload_n 1, 1), (68, .iload_n 3, 1), (69, .invokestatic 110, 3), (72, .ireturn, 1), (73, .aload_n 0, 1), (74, .ldc 55, 2), (76, .invokevirtual 56, 3), (79, .ireturn, 1)]
/-- SumDoor.side(III)I -/
def pg_7_6 : List (Nat × Instr × Nat) := [(0, .aload_n 0, 1), (1, .iload_n 1, 1), (2, .invokevirtual 94, 3), (5, .ifCond .eq 12, 3), (8, .iload_n 2, 1), (9, .iconst 0, 1), (10, .iconst 1, 1), (11, .invokestatic 51, 3), (14, .ifCond .ne 10, 3), (17, .aload_n 0, 1), (18, .ldc 55, 2), (20, .invokevirtual 56, 3), (23, .ireturn, 1), (24, .aload_n 0, 1), (25, .getfield 19, 3), (28, .getfield 73, 3), (31, .iload_n 1, 1), (32, .iload_n 2, 1), (33, .iload_n 3, 1), (34, .invokevirtual 114, 3), (37, .ireturn, 1)]
/-- SumDoor.solves(II)I -/
def pg_7_7 : List (Nat × Instr × Nat) := [(0, .aload_n 0, 1), (1, .iload_n 1, 1), (2, .invokevirtual 94, 3), (5, .ifCond .eq 10, 3), (8, .iload_n 2, 1), (9, .invokestatic 118, 3), (12, .ifCond .ne 10, 3), (15, .aload_n 0, 1), (16, .ldc 55, 2), (18, .invokevirtual 56, 3), (21, .ireturn, 1), (22, .aload_n 0, 1), (23, .getfield 19, 3), (26, .getfield 73, 3), (29, .iload_n 1, 1), (30, .iload_n 2, 1), (31, .invokevirtual 121, 3), (34, .ifCond .eq 7, 3), (37, .iconst 1, 1), (38, .goto 4, 3), (41, .iconst 0, 1), (42, .ireturn, 1)]
/-- SumDoor.solution(II)I -/
def pg_7_8 : List (Nat × Instr × Nat) := [(0, .aload_n 0, 1), (1, .iload_n 1, 1), (2, .invokevirtual 94, 3), (5, .ifCond .eq 10, 3), (8, .iload_n 2, 1), (9, .invokestatic 118, 3), (12, .ifCond .ne 10, 3), (15, .aload_n 0, 1), (16, .ldc 55, 2), (18, .invokevirtual 56, 3), (21, .ireturn, 1), (22, .iconst 0, 1), (23, .istore_n 3, 1), (24, .iconst 0, 1), (25, .istore 4, 2), (27, .iload 4, 2), (29, .bipush 100, 2), (31, .if_icmp .ge 36, 3), (34, .aload_n 0, 1), (35, .getfield 19, 3), (38, .getfield 73, 3), (41, .iload_n 1, 1), (42, .iload 4, 2), (44, .invokevirtual 121, 3), (47, .ifCond .eq 14, 3), (50, .iload_n 3, 1), (51, .iload_n 2, 1), (52, .if_icmp .ne 6, 3), (55, .iload 4, 2), (57, .ireturn, 1), (58, .iinc 3 1, 3), (61, .iinc 4 1, 3), (64, .goto (-37), 3), (67, .aload_n 0, 1), (68, .ldc 125, 2), (70, .invokevirtual 56, 3), (73, .ireturn, 1)]
/-- SumDoor.both(II)I -/
def pg_7_9 : List (Nat × Instr × Nat) := [(0, .aload_n 0, 1), (1, .iload_n 1, 1), (2, .invokevirtual 94, 3), (5, .ifCond .eq 11, 3), (8, .aload_n 0, 1), (9, .iload_n 2, 1), (10, .invokevirtual 94, 3), (13, .ifCond .ne 10, 3), (16, .aload_n 0, 1), (17, .ldc 55, 2), (19, .invokevirtual 56, 3), (22, .ireturn, 1), (23, .iconst 0, 1), (24, .istore_n 3, 1), (25, .iconst 0, 1), (26, .istore 4, 2), (28, .iload 4, 2), (30, .bipush 100, 2), (32, .if_icmp .ge 44, 3), (35, .aload_n 0, 1), (36, .getfield 19, 3), (39, .getfield 73, 3), (42, .iload_n 1, 1), (43, .iload 4, 2), (45, .invokevirtual 121, 3), (48, .ifCond .eq 22, 3), (51, .aload_n 0, 1), (52, .getfield 19, 3), (55, .getfield 73, 3), (58, .iload_n 2, 1), (59, .iload 4, 2), (61, .invokevirtual 121, 3), (64, .ifCond .eq 6, 3), (67, .iinc 3 1, 3), (70, .iinc 4 1, 3), (73, .goto (-45), 3), (76, .iload_n 3, 1), (77, .ireturn, 1)]
/-- SumDoor.strict(I)I -/
def pg_7_10 : List (Nat × Instr × Nat) := [(0, .aload_n 0, 1), (1, .iload_n 1, 1), (2, .invokevirtual 94, 3), (5, .ifCond .ne 10, 3), (8, .aload_n 0, 1), (9, .ldc 55, 2), (11, .invokevirtual 56, 3), (14, .ireturn, 1), (15, .iconst 0, 1), (16, .istore_n 2, 1), (17, .bipush 101, 2), (19, .istore_n 3, 1), (20, .iconst 1, 1), (21, .istore 4, 2), (23, .iload 4, 2), (25, .bipush 99, 2), (27, .if_icmp .gt 41, 3), (30, .aload_n 0, 1), (31, .getfield 19, 3), (34, .getfield 73, 3), (37, .iload_n 1, 1), (38, .iload 4, 2), (40, .invokevirtual 106, 3), (43, .istore 5, 2), (45, .iload 5, 2), (47, .ifCond .le 15, 3), (50, .iload 5, 2), (52, .iload_n 3, 1), (53, .if_icmp .ge 9, 3), (56, .iload 4, 2), (58, .istore_n 2, 1), (59, .iload 5, 2), (61, .istore_n 3, 1), (62, .iinc 4 1, 3), (65, .goto (-42), 3), (68, .iload_n 2, 1), (69, .ifCond .le 7, 3), (72, .iload_n 2, 1), (73, .goto 9, 3), (76, .aload_n 0, 1), (77, .ldc 125, 2), (79, .invokevirtual 56, 3), (82, .ireturn, 1)]
/-- SumDoor.prisoner(III)I -/
def pg_7_11 : List (Nat × Instr × Nat) := [(0, .iload_n 1, 1), (1, .invokestatic 126, 3), (4, .ifCond .eq 34, 3), (7, .iload_n 2, 1), (8, .iconst 0, 1), (9, .getstatic 129, 3), (12, .arraylength, 1), (13, .iconst 1, 1), (14, .isub, 1), (15, .invokestatic 51, 3), (18, .ifCond .eq 20, 3), (21, .iload_n 3, 1), (22, .getstatic 129, 3), (25, .iload_n 2, 1), (26, .iaload, 1), (27, .getstatic 132, 3), (30, .iload_n 2, 1), (31, .iaload, 1), (32, .invokestatic 51, 3), (35, .ifCond .ne 10, 3), (38, .aload_n 0, 1), (39, .ldc 55, 2), (41, .invokevirtual 56, 3), (44, .ireturn, 1), (45, .aload_n 0, 1), (46, .getfield 19, 3), (49, .getfield 135, 3), (52, .iload_n 2, 1), (53, .invokevirtual 138, 3), (56, .iload_n 1, 1), (57, .iload_n 3, 1), (58, .invokestatic 110, 3), (61, .ireturn, 1)]
/-- SumDoor.of(II)I -/
def pg_7_12 : List (Nat × Instr × Nat) := [(0, .iload_n 1, 1), (1, .invokestatic 126, 3), (4, .ifCond .eq 13, 3), (7, .iload_n 2, 1), (8, .iconst 0, 1), (9, .bipush 8, 2), (11, .invokestatic 51, 3), (14, .ifCond .ne 10, 3), (17, .aload_n 0, 1), (18, .ldc 55, 2), (20, .invokevirtual 56, 3), (23, .ireturn, 1), (24, .aload_n 0, 1), (25, .getfield 19, 3), (28, .getfield 135, 3), (31, .iload_n 2, 1), (32, .invokevirtual 138, 3), (35, .iload_n 1, 1), (36, .iaload, 1), (37, .ireturn, 1)]
/-- SumDoor.set(I)I -/
def pg_7_13 : List (Nat × Instr × Nat) := [(0, .iload_n 1, 1), (1, .iconst (-1), 1), (2, .if_icmp .eq 18, 3), (5, .aload_n 0, 1), (6, .iload_n 1, 1), (7, .invokevirtual 94, 3), (10, .ifCond .ne 10, 3), (13, .aload_n 0, 1), (14, .ldc 55, 2), (16, .invokevirtual 56, 3), (19, .ireturn, 1), (20, .aload_n 0, 1), (21, .getfield 19, 3), (24, .getfield 135, 3), (27, .getfield 142, 3), (30, .istore_n 2, 1), (31, .aload_n 0, 1), (32, .getfield 19, 3), (35, .getfield 135, 3), (38, .iload_n 1, 1), (39, .invokevirtual 145, 3), (42, .iload_n 2, 1), (43, .ireturn, 1)]
/-- SumDoor.rich(I)I -/
def pg_7_14 : List (Nat × Instr × Nat) := [(0, .iload_n 1, 1), (1, .iconst 0, 1), (2, .sipush 999, 3), (5, .invokestatic 51, 3), (8, .ifCond .ne 10, 3), (11, .aload_n 0, 1), (12, .ldc 55, 2), (14, .invokevirtual 56, 3), (17, .ireturn, 1), (18, .aload_n 0, 1), (19, .getfield 19, 3), (22, .getfield 135, 3), (25, .getfield 148, 3), (28, .istore_n 2, 1), (29, .aload_n 0, 1), (30, .getfield 19, 3), (33, .getfield 135, 3), (36, .iload_n 1, 1), (37, .putfield 148, 3), (40, .iload_n 2, 1), (41, .ireturn, 1)]
/-- SumDoor.alms(I)I -/
def pg_7_15 : List (Nat × Instr × Nat) := [(0, .iload_n 1, 1), (1, .iconst 1, 1), (2, .bipush 10, 2), (4, .invokestatic 51, 3), (7, .ifCond .ne 10, 3), (10, .aload_n 0, 1), (11, .ldc 55, 2), (13, .invokevirtual 56, 3), (16, .ireturn, 1), (17, .iconst 0, 1), (18, .istore_n 2, 1), (19, .iload_n 2, 1), (20, .iload_n 1, 1), (21, .if_icmp .ge 30, 3), (24, .aload_n 0, 1), (25, .getfield 19, 3), (28, .getfield 135, 3), (31, .aload_n 0, 1), (32, .getfield 19, 3), (35, .invokevirtual 151, 3), (38, .bipush 10, 2), (40, .irem, 1), (41, .iconst 1, 1), (42, .invokevirtual 154, 3), (45, .iinc 2 1, 3), (48, .goto (-29), 3), (51, .aload_n 0, 1), (52, .getfield 19, 3), (55, .getfield 135, 3), (58, .invokevirtual 158, 3), (61, .ireturn, 1)]
/-- SumDoor.school(II)I -/
def pg_7_16 : List (Nat × Instr × Nat) := [(0, .iload_n 1, 1), (1, .invokestatic 126, 3), (4, .ifCond .eq 15, 3), (7, .iload_n 2, 1), (8, .invokestatic 126, 3), (11, .ifCond .eq 8, 3), (14, .iload_n 1, 1), (15, .iload_n 2, 1), (16, .if_icmp .ne 10, 3), (19, .aload_n 0, 1), (20, .ldc 55, 2), (22, .invokevirtual 56, 3), (25, .ireturn, 1), (26, .aload_n 0, 1), (27, .getfield 19, 3), (30, .getfield 135, 3), (33, .getfield 161, 3), (36, .astore_n 3, 1), (37, .aload_n 3, 1), (38, .iload_n 1, 1), (39, .iaload, 1), (40, .aload_n 3, 1), (41, .iload_n 2, 1), (42, .iaload, 1), (43, .if_icmp .ne 10, 3), (46, .aload_n 0, 1), (47, .ldc 164, 2), (49, .invokevirtual 56, 3), (52, .ireturn, 1), (53, .aload_n 3, 1), (54, .iload_n 1, 1), (55, .iaload, 1), (56, .aload_n 3, 1), (57, .iload_n 2, 1), (58, .iaload, 1), (59, .if_icmp .ge 18, 3), (62, .aload_n 0, 1), (63, .getfield 19, 3), (66, .getfield 135, 3), (69, .iload_n 1, 1), (70, .iload_n 2, 1), (71, .invokevirtual 165, 3), (74, .goto 15, 3), (77, .aload_n 0, 1), (78, .getfield 19, 3), (81, .getfield 135, 3), (84, .iload_n 2, 1), (85, .iload_n 1, 1), (86, .invokevirtual 165, 3), (89, .aload_n 3, 1), (90, .iload_n 1, 1), (91, .iaload, 1), (92, .ireturn, 1)]
/-- SumDoor.minutes(I)I -/
def pg_7_17 : List (Nat × Instr × Nat) := [(0, .iload_n 1, 1), (1, .iconst 1, 1), (2, .bipush 100, 2), (4, .invokestatic 51, 3), (7, .ifCond .ne 10, 3), (10, .aload_n 0, 1), (11, .ldc 55, 2), (13, .invokevirtual 56, 3), (16, .ireturn, 1), (17, .aload_n 0, 1), (18, .getfield 19, 3), (21, .getfield 135, 3), (24, .getfield 168, 3), (27, .iload_n 1, 1), (28, .iadd, 1), (29, .sipush 480, 3), (32, .if_icmp .le 10, 3), (35, .aload_n 0, 1), (36, .ldc 164, 2), (38, .invokevirtual 56, 3), (41, .ireturn, 1), (42, .aload_n 0, 1), (43, .getfield 19, 3), (46, .getfield 135, 3), (49, .invokevirtual 171, 3), (52, .invokestatic 174, 3), (55, .istore_n 2, 1), (56, .aload_n 0, 1), (57, .getfield 19, 3), (60, .getfield 135, 3), (63, .aload_n 0, 1), (64, .getfield 19, 3), (67, .getfield 73, 3), (70, .iload_n 1, 1), (71, .invokevirtual 179, 3), (74, .aload_n 0, 1), (75, .getfield 19, 3), (78, .getfield 135, 3), (81, .invokevirtual 171, 3), (84, .invokestatic 174, 3), (87, .iload_n 2, 1), (88, .isub, 1), (89, .ireturn, 1)]
/-- SumDoor.out()I -/
def pg_7_18 : List (Nat × Instr × Nat) := [(0, .aload_n 0, 1), (1, .getfield 19, 3), (4, .getfield 135, 3), (7, .invokevirtual 171, 3), (10, .ireturn, 1)]
/-- SumDoor.day()I -/
def pg_7_19 : List (Nat × Instr × Nat) := [(0, .aload_n 0, 1), (1, .getfield 19, 3), (4, .getfield 135, 3), (7, .invokevirtual 171, 3), (10, .invokestatic 174, 3), (13, .istore_n 1, 1), (14, .aload_n 0, 1), (15, .getfield 19, 3), (18, .getfield 135, 3), (21, .aload_n 0, 1), (22, .getfield 19, 3), (25, .getfield 135, 3), (28, .getfield 142, 3), (31, .invokevirtual 145, 3), (34, .iload_n 1, 1), (35, .ireturn, 1)]
/-- SumDoor.ahead(II)I -/
def pg_7_20 : List (Nat × Instr × Nat) := [(0, .iload_n 1, 1), (1, .iconst 0, 1), (2, .sipush 200, 3), (5, .invokestatic 51, 3), (8, .ifCond .eq 12, 3), (11, .iload_n 2, 1), (12, .iconst 0, 1), (13, .iconst 2, 1), (14, .invokestatic 51, 3), (17, .ifCond .ne 10, 3), (20, .aload_n 0, 1), (21, .ldc 55, 2), (23, .invokevirtual 56, 3), (26, .ireturn, 1), (27, .aload_n 0, 1), (28, .getfield 19, 3), (31, .getfield 135, 3), (34, .getfield 168, 3), (37, .iload_n 1, 1), (38, .iadd, 1), (39, .sipush 480, 3), (42, .if_icmp .le 10, 3), (45, .aload_n 0, 1), (46, .ldc 164, 2), (48, .invokevirtual 56, 3), (51, .ireturn, 1), (52, .aload_n 0, 1), (53, .getfield 29, 3), (56, .aload_n 0, 1), (57, .getfield 19, 3), (60, .getfield 135, 3), (63, .invokevirtual 183, 3), (66, .aload_n 0, 1), (67, .getfield 29, 3), (70, .aload_n 0, 1), (71, .getfield 19, 3), (74, .getfield 73, 3), (77, .iload_n 1, 1), (78, .invokevirtual 179, 3), (81, .iload_n 2, 1), (82, .ifCond .ne 11, 3), (85, .aload_n 0, 1), (86, .getfield 29, 3), (89, .invokevirtual 171, 3), (92, .ireturn, 1), (93, .iload_n 2, 1), (94, .iconst 1, 1), (95, .if_icmp .ne 13, 3), (98, .aload_n 0, 1), (99, .getfield 29, 3), (102, .invokevirtual 187, 3), (105, .goto 10, 3), (108, .aload_n 0, 1), (109, .getfield 29, 3), (112, .invokevirtual 158, 3), (115, .ireturn, 1)]
/-- SumDoor.when(I)I -/
def pg_7_21 : List (Nat × Instr × Nat) := [(0, .iload_n 1, 1), (1, .invokestatic 126, 3), (4, .ifCond .ne 10, 3), (7, .aload_n 0, 1), (8, .ldc 55, 2), (10, .invokevirtual 56, 3), (13, .ireturn, 1), (14, .aload_n 0, 1), (15, .getfield 19, 3), (18, .getfield 135, 3), (21, .getfield 190, 3), (24, .iload_n 1, 1), (25, .iaload, 1), (26, .ifCond .ne 19, 3), (29, .aload_n 0, 1), (30, .getfield 19, 3), (33, .getfield 135, 3), (36, .getfield 168, 3), (39, .sipush 280, 3), (42, .if_icmp .le 10, 3), (45, .aload_n 0, 1), (46, .ldc 164, 2), (48, .invokevirtual 56, 3), (51, .ireturn, 1), (52, .aload_n 0, 1), (53, .getfield 29, 3), (56, .aload_n 0, 1), (57, .getfield 19, 3), (60, .getfield 135, 3), (63, .invokevirtual 183, 3), (66, .iconst 1, 1), (67, .istore_n 2, 1), (68, .iload_n 2, 1), (69, .sipush 200, 3), (72, .if_icmp .gt 38, 3), (75, .aload_n 0, 1), (76, .getfield 29, 3), (79, .aload_n 0, 1), (80, .getfield 19, 3), (83, .getfield 73, 3), (86, .iconst 1, 1), (87, .invokevirtual 179, 3), (90, .aload_n 0, 1), (91, .getfield 29, 3), (94, .getfield 190, 3), (97, .iload_n 1, 1), (98, .iaload, 1), (99, .ifCond .eq 5, 3), (102, .iload_n 2, 1), (103, .ireturn, 1), (104, .iinc 2 1, 3), (107, .goto (-39), 3), (110, .aload_n 0, 1), (111, .ldc 125, 2), (113, .invokevirtual 56, 3), (116, .ireturn, 1)]
/-- SumDoor.lets(II)I -/
def pg_7_22 : List (Nat × Instr × Nat) := [(0, .aload_n 0, 1), (1, .iload_n 1, 1), (2, .invokevirtual 94, 3), (5, .ifCond .eq 14, 3), (8, .iload_n 2, 1), (9, .iconst 1, 1), (10, .sipush 200, 3), (13, .invokestatic 51, 3), (16, .ifCond .ne 10, 3), (19, .aload_n 0, 1), (20, .ldc 55, 2), (22, .invokevirtual 56, 3), (25, .ireturn, 1), (26, .aload_n 0, 1), (27, .iload_n 1, 1), (28, .iload_n 2, 1), (29, .invokevirtual 193, 3), (32, .ireturn, 1)]
/-- SumDoor.choose(I)I -/
def pg_7_23 : List (Nat × Instr × Nat) := [(0, .iload_n 1, 1), (1, .iconst 1, 1), (2, .sipush 200, 3), (5, .invokestatic 51, 3), (8, .ifCond .ne 10, 3), (11, .aload_n 0, 1), (12, .ldc 55, 2), (14, .invokevirtual 56, 3), (17, .ireturn, 1), (18, .iconst (-1), 1), (19, .istore_n 2, 1), (20, .bipush 11, 2), (22, .istore_n 3, 1), (23, .iconst 0, 1), (24, .istore 4, 2), (26, .iload 4, 2), (28, .aload_n 0, 1), (29, .getfield 19, 3), (32, .getfield 73, 3), (35, .getfield 77, 3), (38, .if_icmp .ge 44, 3), (41, .aload_n 0, 1), (42, .iload 4, 2), (44, .iload_n 1, 1), (45, .invokevirtual 193, 3), (48, .aload_n 0, 1), (49, .getfield 19, 3), (52, .getfield 135, 3), (55, .invokevirtual 196, 3), (58, .ixor, 1), (59, .invokestatic 174, 3), (62, .istore 5, 2), (64, .iload 5, 2), (66, .iload_n 3, 1), (67, .if_icmp .ge 9, 3), (70, .iload 4, 2), (72, .istore_n 2, 1), (73, .iload 5, 2), (75, .istore_n 3, 1), (76, .iinc 4 1, 3), (79, .goto (-53), 3), (82, .iload_n 2, 1), (83, .ifCond .lt 7, 3), (86, .iload_n 2, 1), (87, .goto 9, 3), (90, .aload_n 0, 1), (91, .ldc 125, 2), (93, .invokevirtual 56, 3), (96, .ireturn, 1)]
/-- SumDoor.wrongs(II)I -/
def pg_7_24 : List (Nat × Instr × Nat) := [(0, .aload_n 0, 1), (1, .iload_n 1, 1), (2, .invokevirtual 94, 3), (5, .ifCond .eq 14, 3), (8, .iload_n 2, 1), (9, .iconst 1, 1), (10, .sipush 200, 3), (13, .invokestatic 51, 3), (16, .ifCond .ne 10, 3), (19, .aload_n 0, 1), (20, .ldc 55, 2), (22, .invokevirtual 56, 3), (25, .ireturn, 1), (26, .aload_n 0, 1), (27, .iload_n 1, 1), (28, .iload_n 2, 1), (29, .invokevirtual 193, 3), (32, .aload_n 0, 1), (33, .getfield 19, 3), (36, .getfield 135, 3), (39, .invokevirtual 196, 3), (42, .ixor, 1), (43, .invokestatic 174, 3), (46, .ireturn, 1)]
/-- SumDoor.fewest(I)I -/
def pg_7_25 : List (Nat × Instr × Nat) := [(0, .iload_n 1, 1), (1, .iconst 1, 1), (2, .bipush 100, 2), (4, .invokestatic 51, 3), (7, .ifCond .ne 10, 3), (10, .aload_n 0, 1), (11, .ldc 55, 2), (13, .invokevirtual 56, 3), (16, .ireturn, 1), (17, .iconst 0, 1), (18, .istore_n 2, 1), (19, .iload_n 2, 1), (20, .aload_n 0, 1), (21, .getfield 19, 3), (24, .getfield 73, 3), (27, .getfield 77, 3), (30, .if_icmp .ge 30, 3), (33, .iload_n 2, 1), (34, .aload_n 0, 1), (35, .getfield 39, 3), (38, .arraylength, 1), (39, .if_icmp .ge 21, 3), (42, .aload_n 0, 1), (43, .getfield 39, 3), (46, .iload_n 2, 1), (47, .aload_n 0, 1), (48, .iload_n 2, 1), (49, .iload_n 1, 1), (50, .invokevirtual 193, 3), (53, .iastore, 1), (54, .iinc 2 1, 3), (57, .goto (-38), 3), (60, .iconst (-1), 1), (61, .istore_n 2, 1), (62, .iconst 0, 1), (63, .istore_n 3, 1), (64, .iload_n 3, 1), (65, .iconst 1, 1), (66, .aload_n 0, 1), (67, .getfield 19, 3), (70, .getfield 73, 3), (73, .getfield 77, 3), (76, .ishl, 1), (77, .if_icmp .ge 56, 3), (80, .iload_n 2, 1), (81, .ifCond .lt 14, 3), (84, .iload_n 3, 1), (85, .invokestatic 174, 3), (88, .iload_n 2, 1), (89, .invokestatic 174, 3), (92, .if_icmp .ge 7, 3), (95, .iconst 1, 1), (96, .goto 4, 3), (99, .iconst 0, 1), (100, .istore 4, 2), (102, .iload 4, 2), (104, .ifCond .eq 23, 3), (107, .aload_n 0, 1), (108, .iload_n 3, 1), (109, .invokevirtual 199, 3), (112, .aload_n 0, 1), (113, .getfield 19, 3), (116, .getfield 135, 3), (119, .invokevirtual 196, 3), (122, .if_icmp .ne 5, 3), (125, .iload_n 3, 1), (126, .istore_n 2, 1), (127, .iinc 3 1, 3), (130, .goto (-66), 3), (133, .iload_n 2, 1), (134, .ifCond .lt 7, 3), (137, .iload_n 2, 1), (138, .goto 9, 3), (141, .aload_n 0, 1), (142, .ldc 125, 2), (144, .invokevirtual 56, 3), (147, .ireturn, 1)]
/-- SumDoor.skillFor(III)I -/
def pg_7_26 : List (Nat × Instr × Nat) := [(0, .iload_n 1, 1), (1, .invokestatic 126, 3), (4, .ifCond .eq 22, 3), (7, .aload_n 0, 1), (8, .iload_n 2, 1), (9, .invokevirtual 94, 3), (12, .ifCond .eq 14, 3), (15, .iload_n 3, 1), (16, .iconst 1, 1), (17, .sipush 200, 3), (20, .invokestatic 51, 3), (23, .ifCond .ne 10, 3), (26, .aload_n 0, 1), (27, .ldc 55, 2), (29, .invokevirtual 56, 3), (32, .ireturn, 1), (33, .iconst 1, 1), (34, .istore 4, 2), (36, .iload 4, 2), (38, .bipush 9, 2), (40, .if_icmp .gt 55, 3), (43, .aload_n 0, 1), (44, .iload_n 2, 1), (45, .invokevirtual 202, 3), (48, .aload_n 0, 1), (49, .getfield 29, 3), (52, .getfield 161, 3), (55, .iload_n 1, 1), (56, .iload 4, 2), (58, .iastore, 1), (59, .aload_n 0, 1), (60, .getfield 29, 3), (63, .aload_n 0, 1), (64, .getfield 19, 3), (67, .getfield 73, 3), (70, .iload_n 3, 1), (71, .invokevirtual 179, 3), (74, .aload_n 0, 1), (75, .getfield 29, 3), (78, .getfield 190, 3), (81, .iload_n 1, 1), (82, .iaload, 1), (83, .ifCond .eq 6, 3), (86, .iload 4, 2), (88, .ireturn, 1), (89, .iinc 4 1, 3), (92, .goto (-56), 3), (95, .aload_n 0, 1), (96, .ldc 125, 2), (98, .invokevirtual 56, 3), (101, .ireturn, 1)]
/-- SumDoor.richFor(I)I -/
def pg_7_27 : List (Nat × Instr × Nat) := [(0, .iload_n 1, 1), (1, .iconst 1, 1), (2, .bipush 100, 2), (4, .invokestatic 51, 3), (7, .ifCond .ne 10, 3), (10, .aload_n 0, 1), (11, .ldc 55, 2), (13, .invokevirtual 56, 3), (16, .ireturn, 1), (17, .aload_n 0, 1), (18, .getfield 19, 3), (21, .getfield 135, 3), (24, .getfield 142, 3), (27, .ifCond .ge 10, 3), (30, .aload_n 0, 1), (31, .ldc 164, 2), (33, .invokevirtual 56, 3), (36, .ireturn, 1), (37, .bipush 10, 2), (39, .istore_n 2, 1), (40, .iload_n 2, 1), (41, .ifCond .lt 31, 3), (44, .sipush 999, 3), (47, .iload_n 2, 1), (48, .bipush 100, 2), (50, .imul, 1), (51, .invokestatic 205, 3), (54, .istore_n 3, 1), (55, .aload_n 0, 1), (56, .iload_n 3, 1), (57, .iload_n 1, 1), (58, .invokevirtual 210, 3), (61, .ifCond .eq 5, 3), (64, .iload_n 3, 1), (65, .ireturn, 1), (66, .iinc 2 (-1), 3), (69, .goto (-29), 3), (72, .aload_n 0, 1), (73, .ldc 125, 2), (75, .invokevirtual 56, 3), (78, .ireturn, 1)]
/-- SumDoor.could(II)I -/
def pg_7_28 : List (Nat × Instr × Nat) := [(0, .iload_n 1, 1), (1, .invokestatic 126, 3), (4, .ifCond .eq 14, 3), (7, .iload_n 2, 1), (8, .iconst 1, 1), (9, .sipush 480, 3), (12, .invokestatic 51, 3), (15, .ifCond .ne 10, 3), (18, .aload_n 0, 1), (19, .ldc 55, 2), (21, .invokevirtual 56, 3), (24, .ireturn, 1), (25, .iconst 0, 1), (26, .istore_n 3, 1), (27, .iconst 0, 1), (28, .istore 4, 2), (30, .iload 4, 2), (32, .aload_n 0, 1), (33, .getfield 19, 3), (36, .getfield 73, 3), (39, .getfield 77, 3), (42, .if_icmp .ge 27, 3), (45, .aload_n 0, 1), (46, .iload_n 1, 1), (47, .iload 4, 2), (49, .iload_n 2, 1), (50, .invokevirtual 213, 3), (53, .ifCond .eq 10, 3), (56, .iload_n 3, 1), (57, .iconst 1, 1), (58, .iload 4, 2), (60, .ishl, 1), (61, .ior, 1), (62, .istore_n 3, 1), (63, .iinc 4 1, 3), (66, .goto (-36), 3), (69, .iload_n 3, 1), (70, .ireturn, 1)]
/-- SumDoor.seed(I)I -/
def pg_7_29 : List (Nat × Instr × Nat) := [(0, .aload_n 0, 1), (1, .getfield 19, 3), (4, .getfield 216, 3), (7, .istore_n 2, 1), (8, .aload_n 0, 1), (9, .getfield 19, 3), (12, .iload_n 1, 1), (13, .putfield 216, 3), (16, .iload_n 2, 1), (17, .ireturn, 1)]
/-- SumDoor.hold(II)I -/
def pg_7_30 : List (Nat × Instr × Nat) := [(0, .iload_n 1, 1), (1, .invokestatic 219, 3), (4, .ifCond .eq 16, 3), (7, .iload_n 2, 1), (8, .iconst (-1), 1), (9, .if_icmp .eq 18, 3), (12, .aload_n 0, 1), (13, .iload_n 2, 1), (14, .invokevirtual 94, 3), (17, .ifCond .ne 10, 3), (20, .aload_n 0, 1), (21, .ldc 55, 2), (23, .invokevirtual 56, 3), (26, .ireturn, 1), (27, .aload_n 0, 1), (28, .getfield 19, 3), (31, .getfield 222, 3), (34, .iload_n 1, 1), (35, .iload_n 2, 1), (36, .iastore, 1), (37, .iconst 1, 1), (38, .ireturn, 1)]
/-- SumDoor.as(II)I -/
def pg_7_31 : List (Nat × Instr × Nat) := [(0, .iload_n 1, 1), (1, .invokestatic 219, 3), (4, .ifCond .eq 10, 3), (7, .iload_n 2, 1), (8, .invokestatic 69, 3), (11, .ifCond .ne 10, 3), (14, .aload_n 0, 1), (15, .ldc 55, 2), (17, .invokevirtual 56, 3), (20, .ireturn, 1), (21, .aload_n 0, 1), (22, .getfield 19, 3), (25, .getfield 222, 3), (28, .iload_n 1, 1), (29, .iaload, 1), (30, .istore_n 3, 1), (31, .aload_n 0, 1), (32, .iload_n 3, 1), (33, .invokevirtual 94, 3), (36, .ifCond .ne 10, 3), (39, .aload_n 0, 1), (40, .ldc 225, 2), (42, .invokevirtual 56, 3), (45, .ireturn, 1), (46, .aload_n 0, 1), (47, .getfield 19, 3), (50, .getfield 73, 3), (53, .getfield 97, 3), (56, .iload_n 3, 1), (57, .iaload, 1), (58, .iload_n 2, 1), (59, .invokestatic 226, 3), (62, .ifCond .eq 7, 3), (65, .iload_n 3, 1), (66, .goto 9, 3), (69, .aload_n 0, 1), (70, .ldc 229, 2), (72, .invokevirtual 56, 3), (75, .ireturn, 1)]
/-- SumDoor.sheet(III)I -/
def pg_7_32 : List (Nat × Instr × Nat) := [(0, .aload_n 0, 1), (1, .iload_n 1, 1), (2, .invokevirtual 230, 3), (5, .ifCond .eq 25, 3), (8, .iload_n 2, 1), (9, .ifCond .eq 28, 3), (12, .iload_n 2, 1), (13, .bipush 8, 2), (15, .if_icmp .eq 22, 3), (18, .iload_n 2, 1), (19, .bipush 16, 2), (21, .if_icmp .eq 16, 3), (24, .iload_n 2, 1), (25, .bipush 32, 2), (27, .if_icmp .eq 10, 3), (30, .aload_n 0, 1), (31, .ldc 55, 2), (33, .invokevirtual 56, 3), (36, .ireturn, 1), (37, .iload_n 3, 1), (38, .ifCond .ge 10, 3), (41, .aload_n 0, 1), (42, .ldc 233, 2), (44, .invokevirtual 56, 3), (47, .ireturn, 1), (48, .iload_n 3, 1), (49, .bipush 40, 2), (51, .if_icmp .le 10, 3), (54, .aload_n 0, 1), (55, .ldc 55, 2), (57, .invokevirtual 56, 3), (60, .ireturn, 1), (61, .aload_n 0, 1), (62, .getfield 35, 3), (65, .iload_n 1, 1), (66, .aaload, 1), (67, .iload_n 2, 1), (68, .iload_n 2, 1), (69, .ifCond .ne 7, 3), (72, .iconst 0, 1), (73, .goto 4, 3), (76, .iload_n 3, 1), (77, .invokevirtual 234, 3), (80, .aload_n 0, 1), (81, .getfield 35, 3), (84, .iload_n 1, 1), (85, .aaload, 1), (86, .getfield 237, 3), (89, .ireturn, 1)]
/-- SumDoor.write(III)I -/
def pg_7_33 : List (Nat × Instr × Nat) := [(0, .aload_n 0, 1), (1, .iload_n 1, 1), (2, .invokevirtual 230, 3), (5, .ifCond .ne 10, 3), (8, .aload_n 0, 1), (9, .ldc 55, 2), (11, .invokevirtual 56, 3), (14, .ireturn, 1), (15, .aload_n 0, 1), (16, .getfield 35, 3), (19, .iload_n 1, 1), (20, .aaload, 1), (21, .astore 4, 2), (23, .aload 4, 2), (25, .invokevirtual 238, 3), (28, .ifCond .eq 10, 3), (31, .aload_n 0, 1), (32, .ldc 225, 2), (34, .invokevirtual 56, 3), (37, .ireturn, 1), (38, .iload_n 2, 1), (39, .iconst 0, 1), (40, .aload 4, 2), (42, .getfield 237, 3), (45, .iconst 1, 1), (46, .isub, 1), (47, .invokestatic 51, 3), (50, .ifCond .ne 10, 3), (53, .aload_n 0, 1), (54, .ldc 55, 2), (56, .invokevirtual 56, 3), (59, .ireturn, 1), (60, .aload 4, 2), (62, .iload_n 2, 1), (63, .iload_n 3, 1), (64, .invokevirtual 242, 3), (67, .iconst 1, 1), (68, .ireturn, 1)]
/-- SumDoor.copy(IIIII)I -/
def pg_7_34 : List (Nat × Instr × Nat) := [(0, .aload_n 0, 1), (1, .iload_n 1, 1), (2, .invokevirtual 230, 3), (5, .ifCond .eq 11, 3), (8, .aload_n 0, 1), (9, .iload_n 3, 1), (10, .invokevirtual 230, 3), (13, .ifCond .ne 10, 3), (16, .aload_n 0, 1), (17, .ldc 55, 2), (19, .invokevirtual 56, 3), (22, .ireturn, 1), (23, .aload_n 0, 1), (24, .getfield 35, 3), (27, .iload_n 1, 1), (28, .aaload, 1), (29, .astore 6, 2), (31, .aload_n 0, 1), (32, .getfield 35, 3), (35, .iload_n 3, 1), (36, .aaload, 1), (37, .astore 7, 2), (39, .aload 6, 2), (41, .invokevirtual 238, 3), (44, .ifCond .ne 11, 3), (47, .aload 7, 2), (49, .invokevirtual 238, 3), (52, .ifCond .eq 10, 3), (55, .aload_n 0, 1), (56, .ldc 225, 2), (58, .invokevirtual 56, 3), (61, .ireturn, 1), (62, .aload 6, 2), (64, .getfield 245, 3), (67, .aload 7, 2), (69, .getfield 245, 3), (72, .if_icmp .eq 10, 3), (75, .aload_n 0, 1), (76, .ldc 229, 2), (78, .invokevirtual 56, 3), (81, .ireturn, 1), (82, .aload 6, 2), (84, .iload_n 2, 1), (85, .iload 5, 2), (87, .invokevirtual 248, 3), (90, .ifCond .eq 15, 3), (93, .aload 7, 2), (95, .iload 4, 2), (97, .iload 5, 2), (99, .invokevirtual 248, 3), (102, .ifCond .ne 10, 3), (105, .aload_n 0, 1), (106, .ldc 55, 2), (108, .invokevirtual 56, 3), (111, .ireturn, 1), (112, .aload 6, 2), (114, .getfield 251, 3), (117, .iload_n 2, 1), (118, .aload 7, 2), (120, .getfield 251, 3), (123, .iload 4, 2), (125, .iload 5, 2), (127, .invokestatic 254, 3), (130, .iload 5, 2), (132, .ireturn, 1)]
/-- SumDoor.load(I)I -/
def pg_7_35 : List (Nat × Instr × Nat) := [(0, .aload_n 0, 1), (1, .iload_n 1, 1), (2, .invokevirtual 230, 3), (5, .ifCond .ne 10, 3), (8, .aload_n 0, 1), (9, .ldc 55, 2), (11, .invokevirtual 56, 3), (14, .ireturn, 1), (15, .aload_n 0, 1), (16, .getfield 35, 3), (19, .iload_n 1, 1), (20, .aaload, 1), (21, .astore_n 2, 1), (22, .aload_n 2, 1), (23, .invokevirtual 238, 3), (26, .ifCond .eq 10, 3), (29, .aload_n 0, 1), (30, .ldc 225, 2), (32, .invokevirtual 56, 3), (35, .ireturn, 1), (36, .iconst 0, 1), (37, .istore_n 3, 1), (38, .iload_n 3, 1), (39, .bipush 10, 2), (41, .if_icmp .ge 50, 3), (44, .iload_n 3, 1), (45, .aload_n 2, 1), (46, .getfield 237, 3), (49, .if_icmp .ge 42, 3), (52, .aload_n 2, 1), (53, .getfield 251, 3), (56, .iload_n 3, 1), (57, .iaload, 1), (58, .iconst 1, 1), (59, .bipush 9, 2), (61, .invokestatic 51, 3), (64, .ifCond .eq 27, 3), (67, .aload_n 0, 1), (68, .getfield 19, 3), (71, .getfield 135, 3), (74, .getfield 161, 3), (77, .iload_n 3, 1), (78, .aload_n 2, 1), (79, .getfield 251, 3), (82, .iload_n 3, 1), (83, .iaload, 1), (84, .iastore, 1), (85, .iinc 3 1, 3), (88, .goto (-50), 3), (91, .iload_n 3, 1), (92, .ireturn, 1)]
/-- SumDoor.judge(II)I -/
def pg_7_36 : List (Nat × Instr × Nat) := [(0, .aload_n 0, 1), (1, .iload_n 1, 1), (2, .invokevirtual 230, 3), (5, .ifCond .ne 10, 3), (8, .aload_n 0, 1), (9, .ldc 55, 2), (11, .invokevirtual 56, 3), (14, .ireturn, 1), (15, .aload_n 0, 1), (16, .getfield 35, 3), (19, .iload_n 1, 1), (20, .aaload, 1), (21, .astore_n 3, 1), (22, .aload_n 3, 1), (23, .invokevirtual 238, 3), (26, .ifCond .eq 10, 3), (29, .aload_n 0, 1), (30, .ldc 225, 2), (32, .invokevirtual 56, 3), (35, .ireturn, 1), (36, .aload_n 0, 1), (37, .iload_n 2, 1), (38, .invokevirtual 94, 3), (41, .ifCond .ne 10, 3), (44, .aload_n 0, 1), (45, .ldc 55, 2), (47, .invokevirtual 56, 3), (50, .ireturn, 1), (51, .iconst 0, 1), (52, .istore 4, 2), (54, .iconst 0, 1), (55, .istore 5, 2), (57, .iload 5, 2), (59, .bipush 100, 2), (61, .if_icmp .ge 54, 3), (64, .aload_n 0, 1), (65, .getfield 19, 3), (68, .getfield 73, 3), (71, .iload_n 2, 1), (72, .iload 5, 2), (74, .invokevirtual 121, 3), (77, .ifCond .eq 32, 3), (80, .iload 4, 2), (82, .aload_n 3, 1), (83, .getfield 237, 3), (86, .if_icmp .ge 15, 3), (89, .aload_n 3, 1), (90, .getfield 251, 3), (93, .iload 4, 2), (95, .iaload, 1), (96, .iload 5, 2), (98, .if_icmp .eq 8, 3), (101, .iconst 1, 1), (102, .iload 4, 2), (104, .iadd, 1), (105, .ireturn, 1), (106, .iinc 4 1, 3), (109, .iinc 5 1, 3), (112, .goto (-55), 3), (115, .iload 4, 2), (117, .aload_n 3, 1), (118, .getfield 237, 3), (121, .if_icmp .ne 7, 3), (124, .iconst 0, 1), (125, .goto 7, 3), (128, .iconst 1, 1), (129, .iload 4, 2), (131, .iadd, 1), (132, .ireturn, 1)]
/-- SumDoor.image()I -/
def pg_7_37 : List (Nat × Instr × Nat) := [(0, .aload_n 0, 1), (1, .getfield 23, 3), (4, .aload_n 0, 1), (5, .getfield 19, 3), (8, .invokevirtual 260, 3), (11, .aload_n 0, 1), (12, .iconst 1, 1), (13, .putfield 46, 3), (16, .iconst 1, 1), (17, .ireturn, 1)]
/-- SumDoor.undo()I -/
def pg_7_38 : List (Nat × Instr × Nat) := [(0, .aload_n 0, 1), (1, .getfield 46, 3), (4, .ifCond .ne 10, 3), (7, .aload_n 0, 1), (8, .ldc 125, 2), (10, .invokevirtual 56, 3), (13, .ireturn, 1), (14, .aload_n 0, 1), (15, .getfield 19, 3), (18, .aload_n 0, 1), (19, .getfield 23, 3), (22, .invokevirtual 260, 3), (25, .aload_n 0, 1), (26, .getfield 19, 3), (29, .getfield 135, 3), (32, .getfield 168, 3), (35, .ireturn, 1)]
/-- SumDoor.tear()I -/
def pg_7_39 : List (Nat × Instr × Nat) := [(0, .aload_n 0, 1), (1, .getfield 46, 3), (4, .ifCond .eq 7, 3), (7, .iconst 1, 1), (8, .goto 4, 3), (11, .iconst 0, 1), (12, .istore_n 1, 1), (13, .aload_n 0, 1), (14, .iconst 0, 1), (15, .putfield 46, 3), (18, .iload_n 1, 1), (19, .ireturn, 1)]
/-- SumDoor.count(I)I -/
def pg_7_40 : List (Nat × Instr × Nat) := [(0, .iload_n 1, 1), (1, .tableswitch 132 0 7 #[47, 58, 69, 80, 91, 102, 110, 118], 47), (48, .aload_n 0, 1), (49, .getfield 19, 3), (52, .getfield 73, 3), (55, .getfield 77, 3), (58, .ireturn, 1), (59, .aload_n 0, 1), (60, .getfield 19, 3), (63, .getfield 135, 3), (66, .getfield 142, 3), (69, .ireturn, 1), (70, .aload_n 0, 1), (71, .getfield 19, 3), (74, .getfield 135, 3), (77, .getfield 168, 3), (80, .ireturn, 1), (81, .aload_n 0, 1), (82, .getfield 19, 3), (85, .getfield 135, 3), (88, .getfield 148, 3), (91, .ireturn, 1), (92, .aload_n 0, 1), (93, .getfield 19, 3), (96, .getfield 135, 3), (99, .invokevirtual 158, 3), (102, .ireturn, 1), (103, .aload_n 0, 1), (104, .getfield 10, 3), (107, .getfield 60, 3), (110, .ireturn, 1), (111, .aload_n 0, 1), (112, .getfield 19, 3), (115, .getfield 216, 3), (118, .ireturn, 1), (119, .aload_n 0, 1), (120, .getfield 19, 3), (123, .getfield 135, 3), (126, .invokevirtual 171, 3), (129, .invokestatic 174, 3), (132, .ireturn, 1), (133, .aload_n 0, 1), (134, .ldc 55, 2), (136, .invokevirtual 56, 3), (139, .ireturn, 1)]
/-- SumDoor.status(I)I -/
def pg_7_41 : List (Nat × Instr × Nat) := [(0, .iload_n 1, 1), (1, .iconst (-1), 1), (2, .bipush 6, 2), (4, .invokestatic 51, 3), (7, .ifCond .ne 10, 3), (10, .aload_n 0, 1), (11, .ldc 55, 2), (13, .invokevirtual 56, 3), (16, .ireturn, 1), (17, .iload_n 1, 1), (18, .ifCond .lt 10, 3), (21, .aload_n 0, 1), (22, .getfield 43, 3), (25, .iload_n 1, 1), (26, .iaload, 1), (27, .ireturn, 1), (28, .iconst 0, 1), (29, .istore_n 2, 1), (30, .iconst 0, 1), (31, .istore_n 3, 1), (32, .iload_n 3, 1), (33, .aload_n 0, 1), (34, .getfield 43, 3), (37, .arraylength, 1), (38, .if_icmp .ge 18, 3), (41, .iload_n 2, 1), (42, .aload_n 0, 1), (43, .getfield 43, 3), (46, .iload_n 3, 1), (47, .iaload, 1), (48, .iadd, 1), (49, .istore_n 2, 1), (50, .iinc 3 1, 3), (53, .goto (-21), 3), (56, .iload_n 2, 1), (57, .ireturn, 1)]
/-- SumDoor.finding(I)I -/
def pg_7_42 : List (Nat × Instr × Nat) := [(0, .ldc 55, 2), (2, .iload_n 1, 1), (3, .isub, 1), (4, .istore_n 2, 1), (5, .iload_n 2, 1), (6, .ifCond .lt 22, 3), (9, .iload_n 2, 1), (10, .aload_n 0, 1), (11, .getfield 43, 3), (14, .arraylength, 1), (15, .if_icmp .ge 13, 3), (18, .aload_n 0, 1), (19, .getfield 43, 3), (22, .iload_n 2, 1), (23, .dup2, 1), (24, .iaload, 1), (25, .iconst 1, 1), (26, .iadd, 1), (27, .iastore, 1), (28, .iload_n 1, 1), (29, .ireturn, 1)]
/-- SumDoor.isWithin(III)Z -/
def pg_7_43 : List (Nat × Instr × Nat) := [(0, .iload_n 0, 1), (1, .iload_n 1, 1), (2, .if_icmp .lt 12, 3), (5, .iload_n 0, 1), (6, .iload_n 2, 1), (7, .if_icmp .gt 7, 3), (10, .iconst 1, 1), (11, .goto 4, 3), (14, .iconst 0, 1), (15, .ireturn, 1)]
/-- SumDoor.isKind(I)Z -/
def pg_7_44 : List (Nat × Instr × Nat) := [(0, .iload_n 0, 1), (1, .iconst 0, 1), (2, .getstatic 263, 3), (5, .arraylength, 1), (6, .iconst 1, 1), (7, .isub, 1), (8, .invokestatic 51, 3), (11, .ireturn, 1)]
/-- SumDoor.isNumber(I)Z -/
def pg_7_45 : List (Nat × Instr × Nat) := [(0, .iload_n 0, 1), (1, .iconst 0, 1), (2, .bipush 99, 2), (4, .invokestatic 51, 3), (7, .ireturn, 1)]
/-- SumDoor.isPrisoner(I)Z -/
def pg_7_46 : List (Nat × Instr × Nat) := [(0, .iload_n 0, 1), (1, .iconst 0, 1), (2, .bipush 9, 2), (4, .invokestatic 51, 3), (7, .ireturn, 1)]
/-- SumDoor.isSpot(I)Z -/
def pg_7_47 : List (Nat × Instr × Nat) := [(0, .iload_n 0, 1), (1, .iconst 0, 1), (2, .bipush 9, 2), (4, .invokestatic 51, 3), (7, .ireturn, 1)]
/-- SumDoor.isSum(I)Z -/
def pg_7_48 : List (Nat × Instr × Nat) := [(0, .aload_n 0, 1), (1, .getfield 19, 3), (4, .getfield 73, 3), (7, .iload_n 1, 1), (8, .invokevirtual 266, 3), (11, .ireturn, 1)]
/-- SumDoor.isSheet(I)Z -/
def pg_7_49 : List (Nat × Instr × Nat) := [(0, .iload_n 1, 1), (1, .iconst 0, 1), (2, .iconst 3, 1), (3, .invokestatic 51, 3), (6, .ifCond .eq 16, 3), (9, .aload_n 0, 1), (10, .getfield 35, 3), (13, .iload_n 1, 1), (14, .aaload, 1), (15, .ifnull 7, 3), (18, .iconst 1, 1), (19, .goto 4, 3), (22, .iconst 0, 1), (23, .ireturn, 1)]
/-- SumDoor.isUnder(II)Z -/
def pg_7_50 : List (Nat × Instr × Nat) := [(0, .iload_n 0, 1), (1, .istore_n 2, 1), (2, .iconst 0, 1), (3, .istore_n 3, 1), (4, .iload_n 3, 1), (5, .getstatic 263, 3), (8, .arraylength, 1), (9, .if_icmp .ge 34, 3), (12, .iload_n 2, 1), (13, .ifCond .lt 30, 3), (16, .iload_n 2, 1), (17, .getstatic 263, 3), (20, .arraylength, 1), (21, .if_icmp .ge 22, 3), (24, .iload_n 2, 1), (25, .iload_n 1, 1), (26, .if_icmp .ne 5, 3), (29, .iconst 1, 1), (30, .ireturn, 1), (31, .getstatic 263, 3), (34, .iload_n 2, 1), (35, .iaload, 1), (36, .istore_n 2, 1), (37, .iinc 3 1, 3), (40, .goto (-36), 3), (43, .iconst 0, 1), (44, .ireturn, 1)]
/-- SumDoor.replace([III)I -/
def pg_7_51 : List (Nat × Instr × Nat) := [(0, .iload_n 1, 1), (1, .iconst 0, 1), (2, .aload_n 0, 1), (3, .arraylength, 1), (4, .iconst 1, 1), (5, .isub, 1), (6, .invokestatic 51, 3), (9, .ifCond .ne 5, 3), (12, .iconst 0, 1), (13, .ireturn, 1), (14, .aload_n 0, 1), (15, .iload_n 1, 1), (16, .iaload, 1), (17, .istore_n 3, 1), (18, .aload_n 0, 1), (19, .iload_n 1, 1), (20, .iload_n 2, 1), (21, .iastore, 1), (22, .iload_n 3, 1), (23, .ireturn, 1)]
/-- SumDoor.tryDay(I)V -/
def pg_7_52 : List (Nat × Instr × Nat) := [(0, .aload_n 0, 1), (1, .getfield 29, 3), (4, .aload_n 0, 1), (5, .getfield 19, 3), (8, .getfield 135, 3), (11, .invokevirtual 183, 3), (14, .aload_n 0, 1), (15, .getfield 29, 3), (18, .iload_n 1, 1), (19, .invokevirtual 145, 3), (22, .return_, 1)]
/-- SumDoor.letOut(II)I -/
def pg_7_53 : List (Nat × Instr × Nat) := [(0, .aload_n 0, 1), (1, .iload_n 1, 1), (2, .invokevirtual 202, 3), (5, .aload_n 0, 1), (6, .getfield 29, 3), (9, .aload_n 0, 1), (10, .getfield 19, 3), (13, .getfield 73, 3), (16, .iload_n 2, 1), (17, .invokevirtual 179, 3), (20, .aload_n 0, 1), (21, .getfield 29, 3), (24, .invokevirtual 171, 3), (27, .ireturn, 1)]
/-- SumDoor.letByAny(I)I -/
def pg_7_54 : List (Nat × Instr × Nat) := [(0, .iconst 0, 1), (1, .istore_n 2, 1), (2, .iconst 0, 1), (3, .istore_n 3, 1), (4, .iload_n 3, 1), (5, .aload_n 0, 1), (6, .getfield 39, 3), (9, .arraylength, 1), (10, .if_icmp .ge 27, 3), (13, .iload_n 1, 1), (14, .iload_n 3, 1), (15, .ishr, 1), (16, .iconst 1, 1), (17, .iand, 1), (18, .iconst 1, 1), (19, .if_icmp .ne 12, 3), (22, .iload_n 2, 1), (23, .aload_n 0, 1), (24, .getfield 39, 3), (27, .iload_n 3, 1), (28, .iaload, 1), (29, .ior, 1), (30, .istore_n 2, 1), (31, .iinc 3 1, 3), (34, .goto (-30), 3), (37, .iload_n 2, 1), (38, .ireturn, 1)]
/-- SumDoor.keepsIn(II)Z -/
def pg_7_55 : List (Nat × Instr × Nat) := [(0, .aload_n 0, 1), (1, .aload_n 0, 1), (2, .getfield 19, 3), (5, .getfield 135, 3), (8, .getfield 142, 3), (11, .invokevirtual 202, 3), (14, .aload_n 0, 1), (15, .getfield 29, 3), (18, .iload_n 1, 1), (19, .putfield 148, 3), (22, .aload_n 0, 1), (23, .getfield 29, 3), (26, .aload_n 0, 1), (27, .getfield 19, 3), (30, .getfield 73, 3), (33, .iload_n 2, 1), (34, .invokevirtual 179, 3), (37, .aload_n 0, 1), (38, .getfield 29, 3), (41, .invokevirtual 171, 3), (44, .aload_n 0, 1), (45, .getfield 19, 3), (48, .getfield 135, 3), (51, .invokevirtual 196, 3), (54, .iconst (-1), 1), (55, .ixor, 1), (56, .iand, 1), (57, .ifCond .ne 7, 3), (60, .iconst 1, 1), (61, .goto 4, 3), (64, .iconst 0, 1), (65, .ireturn, 1)]
/-- SumDoor.answersAlone(III)Z -/
def pg_7_56 : List (Nat × Instr × Nat) := [(0, .aload_n 0, 1), (1, .iload_n 2, 1), (2, .invokevirtual 202, 3), (5, .aload_n 0, 1), (6, .getfield 19, 3), (9, .getfield 73, 3), (12, .iload_n 2, 1), (13, .invokevirtual 103, 3), (16, .istore 4, 2), (18, .iconst 0, 1), (19, .istore 5, 2), (21, .iload 5, 2), (23, .iload_n 3, 1), (24, .if_icmp .ge 38, 3), (27, .aload_n 0, 1), (28, .getfield 29, 3), (31, .getfield 269, 3), (34, .iload_n 1, 1), (35, .iaload, 1), (36, .ifCond .ge 26, 3), (39, .aload_n 0, 1), (40, .getfield 29, 3), (43, .iload_n 1, 1), (44, .aload_n 0, 1), (45, .getfield 19, 3), (48, .getfield 73, 3), (51, .iload 4, 2), (53, .invokevirtual 272, 3), (56, .iinc 5 1, 3), (59, .goto (-38), 3), (62, .aload_n 0, 1), (63, .getfield 29, 3), (66, .getfield 269, 3), (69, .iload_n 1, 1), (70, .iaload, 1), (71, .ifCond .lt 7, 3), (74, .iconst 1, 1), (75, .goto 4, 3), (78, .iconst 0, 1), (79, .ireturn, 1)]
/-- SumDoorModel.<init>()V -/
def pg_8_0 : List (Nat × Instr × Nat) := [(0, .aload_n 0, 1), (1, .invokespecial 1, 3), (4, .aload_n 0, 1), (5, .sipush 465, 3), (8, .newarray .int, 2), (10, .putfield 7, 3), (13, .aload_n 0, 1), (14, .sipush 465, 3), (17, .newarray .int, 2), (19, .putfield 13, 3), (22, .aload_n 0, 1), (23, .sipush 465, 3), (26, .newarray .int, 2), (28, .putfield 16, 3), (31, .aload_n 0, 1), (32, .bipush 7, 2), (34, .newarray .int, 2), (36, .putfield 19, 3), (39, .aload_n 0, 1), (40, .bipush 40, 2), (42, .newarray .int, 2), (44, .putfield 22, 3), (47, .aload_n 0, 1), (48, .bipush 40, 2), (50, .newarray .int, 2), (52, .putfield 25, 3), (55, .aload_n 0, 1), (56, .bipush 40, 2), (58, .newarray .int, 2), (60, .putfield 28, 3), (63, .aload_n 0, 1), (64, .bipush 40, 2), (66, .newarray .int, 2), (68, .putfield 31, 3), (71, .aload_n 0, 1), (72, .bipush 10, 2), (74, .newarray .int, 2), (76, .putfield 34, 3), (79, .aload_n 0, 1), (80, .bipush 8, 2), (82, .newarray .int, 2), (84, .putfield 37, 3), (87, .aload_n 0, 1), (88, .iconst 4, 1), (89, .newarray .int, 2), (91, .putfield 40, 3), (94, .aload_n 0, 1), (95, .iconst 4, 1), (96, .newarray .int, 2), (98, .putfield 43, 3), (101, .aload_n 0, 1), (102, .sipush 160, 3), (105, .newarray .int, 2), (107, .putfield 46, 3), (110, .aload_n 0, 1), (111, .bipush 40, 2), (113, .newarray .int, 2), (115, .putfield 49, 3), (118, .aload_n 0, 1), (119, .getfield 7, 3), (122, .iconst 1, 1), (123, .iconst (-1), 1), (124, .iastore, 1), (125, .aload_n 0, 1), (126, .getfield 7, 3), (129, .iconst 3, 1), (130, .sipush 999, 3), (133, .iastore, 1), (134, .aload_n 0, 1), (135, .getfield 7, 3), (138, .iconst 4, 1), (139, .iconst 1, 1), (140, .iastore, 1), (141, .iconst 0, 1), (142, .istore_n 1, 1), (143, .iload_n 1, 1), (144, .bipush 10, 2), (146, .if_icmp .ge 88, 3), (149, .aload_n 0, 1), (150, .getfield 7, 3), (153, .iload_n 1, 1), (154, .iconst 0, 1), (155, .invokestatic 52, 3), (158, .iconst 3, 1), (159, .iastore, 1), (160, .aload_n 0, 1), (161, .getfield 7, 3), (164, .iload_n 1, 1), (165, .iconst 1, 1), (166, .invokestatic 52, 3), (169, .bipush 50, 2), (171, .iastore, 1), (172, .aload_n 0, 1), (173, .getfield 7, 3), (176, .iload_n 1, 1), (177, .iconst 2, 1), (178, .invokestatic 52, 3), (181, .bipush 10, 2), (183, .iastore, 1), (184, .aload_n 0, 1), (185, .getfield 7, 3), (188, .iload_n 1, 1), (189, .iconst 3, 1), (190, .invokestatic 52, 3), (193, .iload_n 1, 1), (194, .iastore, 1), (195, .aload_n 0, 1), (196, .getfield 7, 3), (199, .iload_n 1, 1), (200, .iconst 4, 1), (201, .invokestatic 52, 3), (204, .iconst 1, 1), (205, .iastore, 1), (206, .aload_n 0, 1), (207, .getfield 7, 3), (210, .iload_n 1, 1), (211, .bipush 6, 2), (213, .invokestatic 52, 3), (216, .iconst (-1), 1), (217, .iastore, 1), (218, .aload_n 0, 1), (219, .getfield 7, 3), (222, .bipush 95, 2), (224, .iload_n 1, 1), (225, .iadd, 1), (226, .iconst (-1), 1), (227, .iastore, 1), (228, .iinc 1 1, 3), (231, .goto (-88), 3), (234, .return_, 1)]
/-- SumDoorModel.in(JJJ)Z -/
def pg_8_1 : List (Nat × Instr × Nat) := [(0, .lload_n 0, 1), (1, .lload_n 2, 1), (2, .lcmp, 1), (3, .ifCond .lt 14, 3), (6, .lload_n 0, 1), (7, .lload 4, 2), (9, .lcmp, 1), (10, .ifCond .gt 7, 3), (13, .iconst 1, 1), (14, .goto 4, 3), (17, .iconst 0, 1), (18, .ireturn, 1)]
/-- SumDoorModel.finds(I)I -/
def pg_8_2 : List (Nat × Instr × Nat) := [(0, .aload_n 0, 1), (1, .getfield 19, 3), (4, .ldc 56, 2), (6, .iload_n 1, 1), (7, .isub, 1), (8, .dup2, 1), (9, .iaload, 1), (10, .iconst 1, 1), (11, .iadd, 1), (12, .iastore, 1), (13, .iload_n 1, 1), (14, .ireturn, 1)]
/-- SumDoorModel.at(II)I -/
def pg_8_3 : List (Nat × Instr × Nat) := [(0, .iconst 5, 1), (1, .bipush 9, 2), (3, .iload_n 0, 1), (4, .imul, 1), (5, .iadd, 1), (6, .iload_n 1, 1), (7, .iadd, 1), (8, .ireturn, 1)]
/-- SumDoorModel.isSum(I)Z -/
def pg_8_4 : List (Nat × Instr × Nat) := [(0, .iload_n 1, 1), (1, .i2l, 1), (2, .lconst 0, 1), (3, .aload_n 0, 1), (4, .getfield 7, 3), (7, .iconst 0, 1), (8, .iaload, 1), (9, .iconst 1, 1), (10, .isub, 1), (11, .i2l, 1), (12, .invokestatic 57, 3), (15, .ireturn, 1)]
/-- SumDoorModel.isMan(I)Z -/
def pg_8_5 : List (Nat × Instr × Nat) := [(0, .iload_n 0, 1), (1, .i2l, 1), (2, .lconst 0, 1), (3, .ldc2_w 61, 3), (6, .invokestatic 57, 3), (9, .ireturn, 1)]
/-- SumDoorModel.isNumber(I)Z -/
def pg_8_6 : List (Nat × Instr × Nat) := [(0, .iload_n 0, 1), (1, .i2l, 1), (2, .lconst 0, 1), (3, .ldc2_w 63, 3), (6, .invokestatic 57, 3), (9, .ireturn, 1)]
/-- SumDoorModel.its(II)I -/
def pg_8_7 : List (Nat × Instr × Nat) := [(0, .aload_n 0, 1), (1, .getfield 7, 3), (4, .bipush 105, 2), (6, .bipush 45, 2), (8, .iload_n 1, 1), (9, .imul, 1), (10, .iadd, 1), (11, .iload_n 2, 1), (12, .iadd, 1), (13, .iaload, 1), (14, .ireturn, 1)]
/-- SumDoorModel.has(II)Z -/
def pg_8_8 : List (Nat × Instr × Nat) := [(0, .iload_n 0, 1), (1, .iload_n 1, 1), (2, .ishr, 1), (3, .iconst 1, 1), (4, .iand, 1), (5, .iconst 1, 1), (6, .if_icmp .ne 7, 3), (9, .iconst 1, 1), (10, .goto 4, 3), (13, .iconst 0, 1), (14, .ireturn, 1)]
/-- SumDoorModel.ones(I)I -/
def pg_8_9 : List (Nat × Instr × Nat) := [(0, .iconst 0, 1), (1, .istore_n 1, 1), (2, .iload_n 0, 1), (3, .istore_n 2, 1), (4, .iload_n 2, 1), (5, .ifCond .eq 15, 3), (8, .iinc 1 1, 3), (11, .iload_n 2, 1), (12, .iload_n 2, 1), (13, .iconst 1, 1), (14, .isub, 1), (15, .iand, 1), (16, .istore_n 2, 1), (17, .goto (-13), 3), (20, .iload_n 1, 1), (21, .ireturn, 1)]
/-- SumDoorModel.next()I -/
def pg_8_10 : List (Nat × Instr × Nat) := [(0, .aload_n 0, 1), (1, .getfield 7, 3), (4, .iconst 4, 1), (5, .aload_n 0, 1), (6, .getfield 7, 3), (9, .iconst 4, 1), (10, .iaload, 1), (11, .ldc 65, 2), (13, .imul, 1), (14, .sipush 12345, 3), (17, .iadd, 1), (18, .iastore, 1), (19, .aload_n 0, 1), (20, .getfield 7, 3), (23, .iconst 4, 1), (24, .iaload, 1), (25, .bipush 8, 2), (27, .iushr, 1), (28, .ireturn, 1)]
/-- SumDoorModel.feed(II)I -/
def pg_8_11 : List (Nat × Instr × Nat) := [(0, .iload_n 2, 1), (1, .i2l, 1), (2, .lconst 1, 1), (3, .ldc2_w 66, 3), (6, .invokestatic 57, 3), (9, .ifCond .ne 10, 3), (12, .aload_n 0, 1), (13, .ldc 56, 2), (15, .invokevirtual 68, 3), (18, .ireturn, 1), (19, .aload_n 0, 1), (20, .getfield 72, 3), (23, .iload_n 2, 1), (24, .iadd, 1), (25, .bipush 40, 2), (27, .if_icmp .le 10, 3), (30, .aload_n 0, 1), (31, .ldc 76, 2), (33, .invokevirtual 68, 3), (36, .ireturn, 1), (37, .iload_n 2, 1), (38, .iconst 1, 1), (39, .isub, 1), (40, .istore_n 3, 1), (41, .iload_n 3, 1), (42, .ifCond .lt 38, 3), (45, .aload_n 0, 1), (46, .getfield 22, 3), (49, .aload_n 0, 1), (50, .getfield 72, 3), (53, .iload_n 1, 1), (54, .bipush 8, 2), (56, .iload_n 3, 1), (57, .imul, 1), (58, .ishr, 1), (59, .sipush 255, 3), (62, .iand, 1), (63, .iastore, 1), (64, .aload_n 0, 1), (65, .dup, 1), (66, .getfield 72, 3), (69, .iconst 1, 1), (70, .iadd, 1), (71, .putfield 72, 3), (74, .iinc 3 (-1), 3), (77, .goto (-36), 3), (80, .aload_n 0, 1), (81, .getfield 72, 3), (84, .ireturn, 1)]
/-- SumDoorModel.wipe()I -/
def pg_8_12 : List (Nat × Instr × Nat) := [(0, .aload_n 0, 1), (1, .getfield 72, 3), (4, .istore_n 1, 1), (5, .aload_n 0, 1), (6, .iconst 0, 1), (7, .putfield 72, 3), (10, .iload_n 1, 1), (11, .ireturn, 1)]
/-- SumDoorModel.signOf(I)I -/
def pg_8_13 : List (Nat × Instr × Nat) := [(0, .iload_n 0, 1), (1, .bipush 43, 2), (3, .if_icmp .ne 8, 3), (6, .bipush (-2), 2), (8, .goto 48, 3), (11, .iload_n 0, 1), (12, .bipush 45, 2), (14, .if_icmp .ne 8, 3), (17, .bipush (-3), 2), (19, .goto 37, 3), (22, .iload_n 0, 1), (23, .bipush 42, 2), (25, .if_icmp .ne 8, 3), (28, .bipush (-4), 2), (30, .goto 26, 3), (33, .iload_n 0, 1), (34, .bipush 47, 2), (36, .if_icmp .ne 8, 3), (39, .bipush (-5), 2), (41, .goto 15, 3), (44, .iload_n 0, 1), (45, .bipush 37, 2), (47, .if_icmp .ne 8, 3), (50, .bipush (-6), 2), (52, .goto 4, 3), (55, .iconst 0, 1), (56, .ireturn, 1)]
/-- SumDoorModel.holds(I)I -/
def pg_8_14 : List (Nat × Instr × Nat) := [(0, .iload_n 0, 1), (1, .bipush (-7), 2), (3, .if_icmp .ne 7, 3), (6, .iconst 0, 1), (7, .goto 20, 3), (10, .iload_n 0, 1), (11, .bipush (-2), 2), (13, .if_icmp .eq 9, 3), (16, .iload_n 0, 1), (17, .bipush (-3), 2), (19, .if_icmp .ne 7, 3), (22, .iconst 1, 1), (23, .goto 4, 3), (26, .iconst 2, 1), (27, .ireturn, 1)]
/-- SumDoorModel.does(I)V -/
def pg_8_15 : List (Nat × Instr × Nat) := [(0, .aload_n 0, 1), (1, .getfield 77, 3), (4, .ifCond .le 78, 3), (7, .aload_n 0, 1), (8, .getfield 25, 3), (11, .aload_n 0, 1), (12, .getfield 77, 3), (15, .iconst 1, 1), (16, .isub, 1), (17, .iaload, 1), (18, .bipush (-7), 2), (20, .if_icmp .eq 62, 3), (23, .aload_n 0, 1), (24, .getfield 25, 3), (27, .aload_n 0, 1), (28, .getfield 77, 3), (31, .iconst 1, 1), (32, .isub, 1), (33, .iaload, 1), (34, .invokestatic 80, 3), (37, .iload_n 1, 1), (38, .if_icmp .lt 44, 3), (41, .aload_n 0, 1), (42, .dup, 1), (43, .getfield 77, 3), (46, .iconst 1, 1), (47, .isub, 1), (48, .putfield 77, 3), (51, .aload_n 0, 1), (52, .getfield 28, 3), (55, .aload_n 0, 1), (56, .getfield 83, 3), (59, .aload_n 0, 1), (60, .getfield 25, 3), (63, .aload_n 0, 1), (64, .getfield 77, 3), (67, .iaload, 1), (68, .iastore, 1), (69, .aload_n 0, 1), (70, .dup, 1), (71, .getfield 83, 3), (74, .iconst 1, 1), (75, .iadd, 1), (76, .putfield 83, 3), (79, .goto (-79), 3), (82, .return_, 1)]
/-- SumDoorModel.goesOn(I)Z -/
def pg_8_16 : List (Nat × Instr × Nat) := [(0, .iload_n 1, 1), (1, .i2l, 1), (2, .ldc2_w 86, 3), (5, .ldc2_w 88, 3), (8, .invokestatic 57, 3), (11, .istore_n 2, 1), (12, .iload_n 2, 1), (13, .ifCond .eq 60, 3), (16, .aload_n 0, 1), (17, .getfield 90, 3), (20, .ifCond .le 53, 3), (23, .aload_n 0, 1), (24, .getfield 90, 3), (27, .iconst 3, 1), (28, .if_icmp .ge 45, 3), (31, .aload_n 0, 1), (32, .getfield 28, 3), (35, .aload_n 0, 1), (36, .getfield 83, 3), (39, .iconst 1, 1), (40, .isub, 1), (41, .bipush 10, 2), (43, .aload_n 0, 1), (44, .getfield 28, 3), (47, .aload_n 0, 1), (48, .getfield 83, 3), (51, .iconst 1, 1), (52, .isub, 1), (53, .iaload, 1), (54, .imul, 1), (55, .iload_n 1, 1), (56, .iadd, 1), (57, .bipush 48, 2), (59, .isub, 1), (60, .iastore, 1), (61, .aload_n 0, 1), (62, .dup, 1), (63, .getfield 90, 3), (66, .iconst 1, 1), (67, .iadd, 1), (68, .putfield 90, 3), (71, .iconst 1, 1), (72, .ireturn, 1), (73, .aload_n 0, 1), (74, .getfield 93, 3), (77, .ifCond .eq 10, 3), (80, .aload_n 0, 1), (81, .iload_n 1, 1), (82, .iload_n 2, 1), (83, .invokevirtual 97, 3), (86, .ireturn, 1), (87, .aload_n 0, 1), (88, .iconst 0, 1), (89, .putfield 90, 3), (92, .iload_n 1, 1), (93, .invokestatic 101, 3), (96, .istore_n 3, 1), (97, .iload_n 3, 1), (98, .ifCond .eq 38, 3), (101, .aload_n 0, 1), (102, .iload_n 3, 1), (103, .invokestatic 80, 3), (106, .invokevirtual 104, 3), (109, .aload_n 0, 1), (110, .getfield 25, 3), (113, .aload_n 0, 1), (114, .getfield 77, 3), (117, .iload_n 3, 1), (118, .iastore, 1), (119, .aload_n 0, 1), (120, .dup, 1), (121, .getfield 77, 3), (124, .iconst 1, 1), (125, .iadd, 1), (126, .putfield 77, 3), (129, .aload_n 0, 1), (130, .iconst 1, 1), (131, .putfield 93, 3), (134, .iconst 1, 1), (135, .ireturn, 1), (136, .iload_n 1, 1), (137, .bipush 41, 2), (139, .if_icmp .ne 37, 3), (142, .aload_n 0, 1), (143, .getfield 108, 3), (146, .ifCond .le 30, 3), (149, .aload_n 0, 1), (150, .iconst 1, 1), (151, .invokevirtual 104, 3), (154, .aload_n 0, 1), (155, .dup, 1), (156, .getfield 77, 3), (159, .iconst 1, 1), (160, .isub, 1), (161, .putfield 77, 3), (164, .aload_n 0, 1), (165, .dup, 1), (166, .getfield 108, 3), (169, .iconst 1, 1), (170, .isub, 1), (171, .putfield 108, 3), (174, .iconst 1, 1), (175, .ireturn, 1), (176, .iload_n 1, 1), (177, .bipush 61, 2), (179, .if_icmp .ne 42, 3), (182, .aload_n 0, 1), (183, .getfield 108, 3), (186, .ifCond .ne 35, 3), (189, .aload_n 0, 1), (190, .getfield 111, 3), (193, .ifCond .ne 28, 3), (196, .aload_n 0, 1), (197, .iconst 1, 1), (198, .invokevirtual 104, 3), (201, .aload_n 0, 1), (202, .aload_n 0, 1), (203, .getfield 83, 3), (206, .putfield 114, 3), (209, .aload_n 0, 1), (210, .iconst 1, 1), (211, .putfield 111, 3), (214, .aload_n 0, 1), (215, .iconst 1, 1), (216, .putfield 93, 3), (219, .iconst 1, 1), (220, .ireturn, 1), (221, .iconst 0, 1), (222, .ireturn, 1)]
/-- SumDoorModel.begins(IZ)Z -/
def pg_8_17 : List (Nat × Instr × Nat) := [(0, .iload_n 2, 1), (1, .ifCond .ne 9, 3), (4, .iload_n 1, 1), (5, .bipush 120, 2), (7, .if_icmp .ne 54, 3), (10, .aload_n 0, 1), (11, .getfield 28, 3), (14, .aload_n 0, 1), (15, .getfield 83, 3), (18, .iload_n 2, 1), (19, .ifCond .eq 10, 3), (22, .iload_n 1, 1), (23, .bipush 48, 2), (25, .isub, 1), (26, .goto 4, 3), (29, .iconst (-1), 1), (30, .iastore, 1), (31, .aload_n 0, 1), (32, .dup, 1), (33, .getfield 83, 3), (36, .iconst 1, 1), (37, .iadd, 1), (38, .putfield 83, 3), (41, .aload_n 0, 1), (42, .iload_n 2, 1), (43, .ifCond .eq 7, 3), (46, .iconst 1, 1), (47, .goto 4, 3), (50, .iconst 0, 1), (51, .putfield 90, 3), (54, .aload_n 0, 1), (55, .iconst 0, 1), (56, .putfield 93, 3), (59, .iconst 1, 1), (60, .ireturn, 1), (61, .iload_n 1, 1), (62, .bipush 40, 2), (64, .if_icmp .ne 44, 3), (67, .aload_n 0, 1), (68, .getfield 108, 3), (71, .iconst 4, 1), (72, .if_icmp .ge 36, 3), (75, .aload_n 0, 1), (76, .getfield 25, 3), (79, .aload_n 0, 1), (80, .getfield 77, 3), (83, .bipush (-7), 2), (85, .iastore, 1), (86, .aload_n 0, 1), (87, .dup, 1), (88, .getfield 77, 3), (91, .iconst 1, 1), (92, .iadd, 1), (93, .putfield 77, 3), (96, .aload_n 0, 1), (97, .dup, 1), (98, .getfield 108, 3), (101, .iconst 1, 1), (102, .iadd, 1), (103, .putfield 108, 3), (106, .iconst 1, 1), (107, .ireturn, 1), (108, .iconst 0, 1), (109, .ireturn, 1)]
/-- SumDoorModel.fault()I -/
def pg_8_18 : List (Nat × Instr × Nat) := [(0, .aload_n 0, 1), (1, .iconst 0, 1), (2, .putfield 77, 3), (5, .aload_n 0, 1), (6, .iconst 0, 1), (7, .putfield 83, 3), (10, .aload_n 0, 1), (11, .iconst 0, 1), (12, .putfield 108, 3), (15, .aload_n 0, 1), (16, .iconst 0, 1), (17, .putfield 111, 3), (20, .aload_n 0, 1), (21, .iconst 0, 1), (22, .putfield 90, 3), (25, .aload_n 0, 1), (26, .iconst 1, 1), (27, .putfield 93, 3), (30, .iconst 0, 1), (31, .istore_n 1, 1), (32, .iload_n 1, 1), (33, .aload_n 0, 1), (34, .getfield 72, 3), (37, .if_icmp .ge 24, 3), (40, .aload_n 0, 1), (41, .aload_n 0, 1), (42, .getfield 22, 3), (45, .iload_n 1, 1), (46, .iaload, 1), (47, .invokevirtual 117, 3), (50, .ifCond .ne 5, 3), (53, .iload_n 1, 1), (54, .ireturn, 1), (55, .iinc 1 1, 3), (58, .goto (-26), 3), (61, .aload_n 0, 1), (62, .iconst 1, 1), (63, .invokevirtual 104, 3), (66, .aload_n 0, 1), (67, .getfield 93, 3), (70, .ifCond .ne 17, 3), (73, .aload_n 0, 1), (74, .getfield 108, 3), (77, .ifCond .gt 10, 3), (80, .aload_n 0, 1), (81, .getfield 111, 3), (84, .ifCond .ne 10, 3), (87, .aload_n 0, 1), (88, .getfield 72, 3), (91, .goto 4, 3), (94, .iconst (-1), 1), (95, .ireturn, 1)]
/-- SumDoorModel.signs()I -/
def pg_8_19 : List (Nat × Instr × Nat) := [(0, .iconst 0, 1), (1, .istore_n 1, 1), (2, .iconst 0, 1), (3, .istore_n 2, 1), (4, .iload_n 2, 1), (5, .aload_n 0, 1), (6, .getfield 72, 3), (9, .if_icmp .ge 59, 3), (12, .iload_n 1, 1), (13, .aload_n 0, 1), (14, .getfield 22, 3), (17, .iload_n 2, 1), (18, .iaload, 1), (19, .i2l, 1), (20, .ldc2_w 86, 3), (23, .ldc2_w 88, 3), (26, .invokestatic 57, 3), (29, .ifCond .ne 26, 3), (32, .aload_n 0, 1), (33, .getfield 22, 3), (36, .iload_n 2, 1), (37, .iaload, 1), (38, .bipush 120, 2), (40, .if_icmp .eq 15, 3), (43, .aload_n 0, 1), (44, .getfield 22, 3), (47, .iload_n 2, 1), (48, .iaload, 1), (49, .invokestatic 101, 3), (52, .ifCond .eq 7, 3), (55, .iconst 1, 1), (56, .goto 4, 3), (59, .iconst 0, 1), (60, .iadd, 1), (61, .istore_n 1, 1), (62, .iinc 2 1, 3), (65, .goto (-61), 3), (68, .iload_n 1, 1), (69, .ireturn, 1)]
/-- SumDoorModel.sum(II)I -/
def pg_8_20 : List (Nat × Instr × Nat) := [(0, .iload_n 1, 1), (1, .i2l, 1), (2, .lconst 0, 1), (3, .ldc2_w 121, 3), (6, .invokestatic 57, 3), (9, .ifCond .eq 15, 3), (12, .iload_n 2, 1), (13, .i2l, 1), (14, .lconst 1, 1), (15, .ldc2_w 63, 3), (18, .invokestatic 57, 3), (21, .ifCond .ne 10, 3), (24, .aload_n 0, 1), (25, .ldc 56, 2), (27, .invokevirtual 68, 3), (30, .ireturn, 1), (31, .aload_n 0, 1), (32, .getfield 7, 3), (35, .iconst 0, 1), (36, .iaload, 1), (37, .bipush 8, 2), (39, .if_icmp .ne 10, 3), (42, .aload_n 0, 1), (43, .ldc 76, 2), (45, .invokevirtual 68, 3), (48, .ireturn, 1), (49, .aload_n 0, 1), (50, .invokevirtual 123, 3), (53, .istore_n 3, 1), (54, .aload_n 0, 1), (55, .invokevirtual 127, 3), (58, .istore 4, 2), (60, .aload_n 0, 1), (61, .iconst 0, 1), (62, .putfield 72, 3), (65, .iload_n 3, 1), (66, .ifCond .lt 8, 3), (69, .bipush (-10), 2), (71, .iload_n 3, 1), (72, .isub, 1), (73, .ireturn, 1), (74, .bipush 105, 2), (76, .bipush 45, 2), (78, .aload_n 0, 1), (79, .getfield 7, 3), (82, .iconst 0, 1), (83, .iaload, 1), (84, .imul, 1), (85, .iadd, 1), (86, .istore 5, 2), (88, .aload_n 0, 1), (89, .getfield 7, 3), (92, .iload 5, 2), (94, .iload_n 1, 1), (95, .iastore, 1), (96, .aload_n 0, 1), (97, .getfield 7, 3), (100, .iload 5, 2), (102, .iconst 1, 1), (103, .iadd, 1), (104, .iload_n 2, 1), (105, .iastore, 1), (106, .aload_n 0, 1), (107, .getfield 7, 3), (110, .iload 5, 2), (112, .iconst 2, 1), (113, .iadd, 1), (114, .iload 4, 2), (116, .iastore, 1), (117, .aload_n 0, 1), (118, .getfield 7, 3), (121, .iload 5, 2), (123, .iconst 3, 1), (124, .iadd, 1), (125, .aload_n 0, 1), (126, .getfield 114, 3), (129, .iastore, 1), (130, .aload_n 0, 1), (131, .getfield 7, 3), (134, .iload 5, 2), (136, .iconst 4, 1), (137, .iadd, 1), (138, .aload_n 0, 1), (139, .getfield 83, 3), (142, .aload_n 0, 1), (143, .getfield 114, 3), (146, .isub, 1), (147, .iastore, 1), (148, .iconst 0, 1), (149, .istore 6, 2), (151, .iload 6, 2), (153, .aload_n 0, 1), (154, .getfield 83, 3), (157, .if_icmp .ge 28, 3), (160, .aload_n 0, 1), (161, .getfield 7, 3), (164, .iload 5, 2), (166, .iconst 5, 1), (167, .iadd, 1), (168, .iload 6, 2), (170, .iadd, 1), (171, .aload_n 0, 1), (172, .getfield 28, 3), (175, .iload 6, 2), (177, .iaload, 1), (178, .iastore, 1), (179, .iinc 6 1, 3), (182, .goto (-31), 3), (185, .aload_n 0, 1), (186, .getfield 7, 3), (189, .iconst 0, 1), (190, .dup2, 1), (191, .iaload, 1), (192, .iconst 1, 1), (193, .iadd, 1), (194, .iastore, 1), (195, .aload_n 0, 1), (196, .getfield 7, 3), (199, .iconst 0, 1), (200, .iaload, 1), (201, .iconst 1, 1), (202, .isub, 1), (203, .ireturn, 1)]
/-- SumDoorModel.worked(III)I -/
def pg_8_21 : List (Nat × Instr × Nat) := [(0, .iload_n 0, 1), (1, .tableswitch 55 (-5) (-2) #[43, 39, 35, 31], 31), (32, .iload_n 1, 1), (33, .iload_n 2, 1), (34, .iadd, 1), (35, .ireturn, 1), (36, .iload_n 1, 1), (37, .iload_n 2, 1), (38, .isub, 1), (39, .ireturn, 1), (40, .iload_n 1, 1), (41, .iload_n 2, 1), (42, .imul, 1), (43, .ireturn, 1), (44, .iload_n 2, 1), (45, .ifCond .ne 7, 3), (48, .iconst 0, 1), (49, .goto 6, 3), (52, .iload_n 1, 1), (53, .iload_n 2, 1), (54, .idiv, 1), (55, .ireturn, 1), (56, .iload_n 2, 1), (57, .ifCond .ne 7, 3), (60, .iconst 0, 1), (61, .goto 6, 3), (64, .iload_n 1, 1), (65, .iload_n 2, 1), (66, .irem, 1), (67, .ireturn, 1)]
/-- SumDoorModel.sideOf(III)I -/
def pg_8_22 : List (Nat × Instr × Nat) := [(0, .bipush 105, 2), (2, .bipush 45, 2), (4, .iload_n 1, 1), (5, .imul, 1), (6, .iadd, 1), (7, .iconst 5, 1), (8, .iadd, 1), (9, .iload_n 2, 1), (10, .ifCond .ne 7, 3), (13, .iconst 0, 1), (14, .goto 9, 3), (17, .aload_n 0, 1), (18, .iload_n 1, 1), (19, .iconst 3, 1), (20, .invokevirtual 130, 3), (23, .iadd, 1), (24, .istore 4, 2), (26, .iconst 0, 1), (27, .istore 5, 2), (29, .iconst 0, 1), (30, .istore 6, 2), (32, .iload 6, 2), (34, .aload_n 0, 1), (35, .iload_n 1, 1), (36, .iconst 3, 1), (37, .iload_n 2, 1), (38, .iadd, 1), (39, .invokevirtual 130, 3), (42, .if_icmp .ge 85, 3), (45, .aload_n 0, 1), (46, .getfield 7, 3), (49, .iload 4, 2), (51, .iload 6, 2), (53, .iadd, 1), (54, .iaload, 1), (55, .istore 7, 2), (57, .iload 7, 2), (59, .iconst (-1), 1), (60, .if_icmp .lt 28, 3), (63, .aload_n 0, 1), (64, .getfield 31, 3), (67, .iload 5, 2), (69, .iload 7, 2), (71, .iconst (-1), 1), (72, .if_icmp .ne 7, 3), (75, .iload_n 3, 1), (76, .goto 5, 3), (79, .iload 7, 2), (81, .iastore, 1), (82, .iinc 5 1, 3), (85, .goto 36, 3), (88, .iinc 5 (-1), 3), (91, .aload_n 0, 1), (92, .getfield 31, 3), (95, .iload 5, 2), (97, .iconst 1, 1), (98, .isub, 1), (99, .iload 7, 2), (101, .aload_n 0, 1), (102, .getfield 31, 3), (105, .iload 5, 2), (107, .iconst 1, 1), (108, .isub, 1), (109, .iaload, 1), (110, .aload_n 0, 1), (111, .getfield 31, 3), (114, .iload 5, 2), (116, .iaload, 1), (117, .invokestatic 133, 3), (120, .iastore, 1), (121, .iinc 6 1, 3), (124, .goto (-92), 3), (127, .aload_n 0, 1), (128, .getfield 31, 3), (131, .iconst 0, 1), (132, .iaload, 1), (133, .ireturn, 1)]
/-- SumDoorModel.isSolved(II)Z -/
def pg_8_23 : List (Nat × Instr × Nat) := [(0, .aload_n 0, 1), (1, .iload_n 1, 1), (2, .iconst 0, 1), (3, .iload_n 2, 1), (4, .invokevirtual 137, 3), (7, .istore_n 3, 1), (8, .aload_n 0, 1), (9, .iload_n 1, 1), (10, .iconst 1, 1), (11, .iload_n 2, 1), (12, .invokevirtual 137, 3), (15, .istore 4, 2), (17, .aload_n 0, 1), (18, .iload_n 1, 1), (19, .iconst 1, 1), (20, .invokevirtual 130, 3), (23, .istore 5, 2), (25, .aload_n 0, 1), (26, .iload_n 1, 1), (27, .iconst 0, 1), (28, .invokevirtual 130, 3), (31, .tableswitch 129 1 6 #[37, 49, 65, 88, 100, 112], 37), (68, .iload_n 3, 1), (69, .iload 4, 2), (71, .if_icmp .ge 7, 3), (74, .iconst 1, 1), (75, .goto 4, 3), (78, .iconst 0, 1), (79, .ireturn, 1), (80, .iload_n 3, 1), (81, .iload 4, 2), (83, .isub, 1), (84, .iload 5, 2), (86, .irem, 1), (87, .ifCond .ne 7, 3), (90, .iconst 1, 1), (91, .goto 4, 3), (94, .iconst 0, 1), (95, .ireturn, 1), (96, .iload_n 3, 1), (97, .iload 4, 2), (99, .isub, 1), (100, .iload 5, 2), (102, .irem, 1), (103, .ifCond .ne 14, 3), (106, .iload_n 2, 1), (107, .iconst 2, 1), (108, .irem, 1), (109, .iconst 1, 1), (110, .if_icmp .ne 7, 3), (113, .iconst 1, 1), (114, .goto 4, 3), (117, .iconst 0, 1), (118, .ireturn, 1), (119, .iload_n 3, 1), (120, .iload 4, 2), (122, .if_icmp .eq 7, 3), (125, .iconst 1, 1), (126, .goto 4, 3), (129, .iconst 0, 1), (130, .ireturn, 1), (131, .iload_n 3, 1), (132, .iload 4, 2), (134, .if_icmp .le 7, 3), (137, .iconst 1, 1), (138, .goto 4, 3), (141, .iconst 0, 1), (142, .ireturn, 1), (143, .iload_n 3, 1), (144, .iload 4, 2), (146, .isub, 1), (147, .i2l, 1), (148, .iconst 0, 1), (149, .iload 5, 2), (151, .isub, 1), (152, .i2l, 1), (153, .iload 5, 2), (155, .i2l, 1), (156, .invokestatic 57, 3), (159, .ireturn, 1), (160, .iload_n 3, 1), (161, .iload 4, 2), (163, .if_icmp .ne 7, 3), (166, .iconst 1, 1), (167, .goto 4, 3), (170, .iconst 0, 1), (171, .ireturn, 1)]
/-- SumDoorModel.hard(I)I -/
def pg_8_24 : List (Nat × Instr × Nat) := [(0, .aload_n 0, 1), (1, .iload_n 1, 1), (2, .iconst 2, 1), (3, .invokevirtual 130, 3), (6, .istore_n 2, 1), (7, .aload_n 0, 1), (8, .iload_n 1, 1), (9, .iconst 0, 1), (10, .invokevirtual 130, 3), (13, .istore_n 3, 1), (14, .iload_n 3, 1), (15, .iconst 1, 1), (16, .if_icmp .eq 8, 3), (19, .iload_n 3, 1), (20, .iconst 5, 1), (21, .if_icmp .ne 11, 3), (24, .iload_n 2, 1), (25, .iload_n 2, 1), (26, .iconst 2, 1), (27, .idiv, 1), (28, .iadd, 1), (29, .goto 15, 3), (32, .iload_n 3, 1), (33, .iconst 3, 1), (34, .if_icmp .ne 9, 3), (37, .iload_n 2, 1), (38, .iconst 5, 1), (39, .iadd, 1), (40, .goto 4, 3), (43, .iload_n 2, 1), (44, .ireturn, 1)]
/-- SumDoorModel.solvers(I)I -/
def pg_8_25 : List (Nat × Instr × Nat) := [(0, .iconst 0, 1), (1, .istore_n 2, 1), (2, .iconst 0, 1), (3, .istore_n 3, 1), (4, .iload_n 3, 1), (5, .bipush 100, 2), (7, .if_icmp .ge 26, 3), (10, .iload_n 2, 1), (11, .aload_n 0, 1), (12, .iload_n 1, 1), (13, .iload_n 3, 1), (14, .invokevirtual 140, 3), (17, .ifCond .eq 7, 3), (20, .iconst 1, 1), (21, .goto 4, 3), (24, .iconst 0, 1), (25, .iadd, 1), (26, .istore_n 2, 1), (27, .iinc 3 1, 3), (30, .goto (-26), 3), (33, .iload_n 2, 1), (34, .ireturn, 1)]
/-- SumDoorModel.sumOf(II)I -/
def pg_8_26 : List (Nat × Instr × Nat) := [(0, .aload_n 0, 1), (1, .iload_n 1, 1), (2, .invokevirtual 144, 3), (5, .ifCond .eq 15, 3), (8, .iload_n 2, 1), (9, .i2l, 1), (10, .lconst 0, 1), (11, .ldc2_w 147, 3), (14, .invokestatic 57, 3), (17, .ifCond .ne 10, 3), (20, .aload_n 0, 1), (21, .ldc 56, 2), (23, .invokevirtual 68, 3), (26, .ireturn, 1), (27, .iload_n 2, 1), (28, .iconst 2, 1), (29, .if_icmp .ge 12, 3), (32, .aload_n 0, 1), (33, .iload_n 1, 1), (34, .iload_n 2, 1), (35, .invokevirtual 130, 3), (38, .goto 21, 3), (41, .iload_n 2, 1), (42, .iconst 2, 1), (43, .if_icmp .ne 11, 3), (46, .aload_n 0, 1), (47, .iload_n 1, 1), (48, .invokevirtual 149, 3), (51, .goto 8, 3), (54, .aload_n 0, 1), (55, .iload_n 1, 1), (56, .invokevirtual 152, 3), (59, .ireturn, 1)]
/-- SumDoorModel.change(III)I -/
def pg_8_27 : List (Nat × Instr × Nat) := [(0, .aload_n 0, 1), (1, .iload_n 1, 1), (2, .invokevirtual 144, 3), (5, .ifCond .eq 36, 3), (8, .iload_n 2, 1), (9, .i2l, 1), (10, .lconst 0, 1), (11, .lconst 1, 1), (12, .invokestatic 57, 3), (15, .ifCond .eq 26, 3), (18, .iload_n 3, 1), (19, .i2l, 1), (20, .iload_n 2, 1), (21, .i2l, 1), (22, .iload_n 2, 1), (23, .ifCond .ne 9, 3), (26, .ldc2_w 121, 3), (29, .goto 6, 3), (32, .ldc2_w 63, 3), (35, .invokestatic 57, 3), (38, .ifCond .ne 10, 3), (41, .aload_n 0, 1), (42, .ldc 56, 2), (44, .invokevirtual 68, 3), (47, .ireturn, 1), (48, .aload_n 0, 1), (49, .iload_n 1, 1), (50, .iload_n 2, 1), (51, .invokevirtual 130, 3), (54, .istore 4, 2), (56, .aload_n 0, 1), (57, .getfield 7, 3), (60, .bipush 105, 2), (62, .bipush 45, 2), (64, .iload_n 1, 1), (65, .imul, 1), (66, .iadd, 1), (67, .iload_n 2, 1), (68, .iadd, 1), (69, .iload_n 3, 1), (70, .iastore, 1), (71, .iload 4, 2), (73, .ireturn, 1)]
/-- SumDoorModel.side(III)I -/
def pg_8_28 : List (Nat × Instr × Nat) := [(0, .aload_n 0, 1), (1, .iload_n 1, 1), (2, .invokevirtual 144, 3), (5, .ifCond .eq 23, 3), (8, .iload_n 2, 1), (9, .i2l, 1), (10, .lconst 0, 1), (11, .lconst 1, 1), (12, .invokestatic 57, 3), (15, .ifCond .eq 13, 3), (18, .aload_n 0, 1), (19, .iload_n 1, 1), (20, .iload_n 2, 1), (21, .iload_n 3, 1), (22, .invokevirtual 137, 3), (25, .goto 9, 3), (28, .aload_n 0, 1), (29, .ldc 56, 2), (31, .invokevirtual 68, 3), (34, .ireturn, 1)]
/-- SumDoorModel.solves(II)I -/
def pg_8_29 : List (Nat × Instr × Nat) := [(0, .aload_n 0, 1), (1, .iload_n 1, 1), (2, .invokevirtual 144, 3), (5, .ifCond .eq 27, 3), (8, .iload_n 2, 1), (9, .invokestatic 155, 3), (12, .ifCond .eq 20, 3), (15, .aload_n 0, 1), (16, .iload_n 1, 1), (17, .iload_n 2, 1), (18, .invokevirtual 140, 3), (21, .ifCond .eq 7, 3), (24, .iconst 1, 1), (25, .goto 13, 3), (28, .iconst 0, 1), (29, .goto 9, 3), (32, .aload_n 0, 1), (33, .ldc 56, 2), (35, .invokevirtual 68, 3), (38, .ireturn, 1)]
/-- SumDoorModel.solution(II)I -/
def pg_8_30 : List (Nat × Instr × Nat) := [(0, .aload_n 0, 1), (1, .iload_n 1, 1), (2, .invokevirtual 144, 3), (5, .ifCond .eq 10, 3), (8, .iload_n 2, 1), (9, .invokestatic 155, 3), (12, .ifCond .ne 10, 3), (15, .aload_n 0, 1), (16, .ldc 56, 2), (18, .invokevirtual 68, 3), (21, .ireturn, 1), (22, .iconst 0, 1), (23, .istore_n 3, 1), (24, .iconst 0, 1), (25, .istore 4, 2), (27, .iload 4, 2), (29, .bipush 100, 2), (31, .if_icmp .ge 30, 3), (34, .aload_n 0, 1), (35, .iload_n 1, 1), (36, .iload 4, 2), (38, .invokevirtual 140, 3), (41, .ifCond .eq 14, 3), (44, .iload_n 3, 1), (45, .iload_n 2, 1), (46, .if_icmp .ne 6, 3), (49, .iload 4, 2), (51, .ireturn, 1), (52, .iinc 3 1, 3), (55, .iinc 4 1, 3), (58, .goto (-31), 3), (61, .aload_n 0, 1), (62, .ldc 158, 2), (64, .invokevirtual 68, 3), (67, .ireturn, 1)]
/-- SumDoorModel.both(II)I -/
def pg_8_31 : List (Nat × Instr × Nat) := [(0, .aload_n 0, 1), (1, .iload_n 1, 1), (2, .invokevirtual 144, 3), (5, .ifCond .eq 11, 3), (8, .aload_n 0, 1), (9, .iload_n 2, 1), (10, .invokevirtual 144, 3), (13, .ifCond .ne 10, 3), (16, .aload_n 0, 1), (17, .ldc 56, 2), (19, .invokevirtual 68, 3), (22, .ireturn, 1), (23, .iconst 0, 1), (24, .istore_n 3, 1), (25, .iconst 0, 1), (26, .istore 4, 2), (28, .iload 4, 2), (30, .bipush 100, 2), (32, .if_icmp .ge 37, 3), (35, .iload_n 3, 1), (36, .aload_n 0, 1), (37, .iload_n 1, 1), (38, .iload 4, 2), (40, .invokevirtual 140, 3), (43, .ifCond .eq 17, 3), (46, .aload_n 0, 1), (47, .iload_n 2, 1), (48, .iload 4, 2), (50, .invokevirtual 140, 3), (53, .ifCond .eq 7, 3), (56, .iconst 1, 1), (57, .goto 4, 3), (60, .iconst 0, 1), (61, .iadd, 1), (62, .istore_n 3, 1), (63, .iinc 4 1, 3), (66, .goto (-38), 3), (69, .iload_n 3, 1), (70, .ireturn, 1)]
/-- SumDoorModel.strict(I)I -/
def pg_8_32 : List (Nat × Instr × Nat) := [(0, .aload_n 0, 1), (1, .iload_n 1, 1), (2, .invokevirtual 144, 3), (5, .ifCond .ne 10, 3), (8, .aload_n 0, 1), (9, .ldc 56, 2), (11, .invokevirtual 68, 3), (14, .ireturn, 1), (15, .aload_n 0, 1), (16, .iload_n 1, 1), (17, .iconst 1, 1), (18, .invokevirtual 130, 3), (21, .istore_n 2, 1), (22, .iconst (-1), 1), (23, .istore_n 3, 1), (24, .iconst 0, 1), (25, .istore 4, 2), (27, .iconst 1, 1), (28, .istore 5, 2), (30, .iload 5, 2), (32, .bipush 100, 2), (34, .if_icmp .ge 55, 3), (37, .aload_n 0, 1), (38, .getfield 7, 3), (41, .bipush 105, 2), (43, .bipush 45, 2), (45, .iload_n 1, 1), (46, .imul, 1), (47, .iadd, 1), (48, .iconst 1, 1), (49, .iadd, 1), (50, .iload 5, 2), (52, .iastore, 1), (53, .aload_n 0, 1), (54, .iload_n 1, 1), (55, .invokevirtual 152, 3), (58, .istore 6, 2), (60, .iload 6, 2), (62, .ifCond .le 21, 3), (65, .iload_n 3, 1), (66, .ifCond .lt 10, 3), (69, .iload 6, 2), (71, .iload 4, 2), (73, .if_icmp .ge 10, 3), (76, .iload 5, 2), (78, .istore_n 3, 1), (79, .iload 6, 2), (81, .istore 4, 2), (83, .iinc 5 1, 3), (86, .goto (-56), 3), (89, .aload_n 0, 1), (90, .getfield 7, 3), (93, .bipush 105, 2), (95, .bipush 45, 2), (97, .iload_n 1, 1), (98, .imul, 1), (99, .iadd, 1), (100, .iconst 1, 1), (101, .iadd, 1), (102, .iload_n 2, 1), (103, .iastore, 1), (104, .iload_n 3, 1), (105, .ifCond .ge 12, 3), (108, .aload_n 0, 1), (109, .ldc 158, 2), (111, .invokevirtual 68, 3), (114, .goto 4, 3), (117, .iload_n 3, 1), (118, .ireturn, 1)]
/-- SumDoorModel.isPart(II)Z -/
def pg_8_33 : List (Nat × Instr × Nat) := [(0, .iload_n 0, 1), (1, .ifCond .ne 15, 3), (4, .iload_n 1, 1), (5, .i2l, 1), (6, .lconst 1, 1), (7, .ldc2_w 61, 3), (10, .invokestatic 57, 3), (13, .goto 74, 3), (16, .iload_n 0, 1), (17, .iconst 1, 1), (18, .if_icmp .ne 15, 3), (21, .iload_n 1, 1), (22, .i2l, 1), (23, .lconst 0, 1), (24, .ldc2_w 159, 3), (27, .invokestatic 57, 3), (30, .goto 57, 3), (33, .iload_n 0, 1), (34, .iconst 2, 1), (35, .if_icmp .ne 15, 3), (38, .iload_n 1, 1), (39, .i2l, 1), (40, .lconst 0, 1), (41, .ldc2_w 63, 3), (44, .invokestatic 57, 3), (47, .goto 40, 3), (50, .iload_n 0, 1), (51, .iconst 3, 1), (52, .if_icmp .ne 15, 3), (55, .iload_n 1, 1), (56, .i2l, 1), (57, .lconst 0, 1), (58, .ldc2_w 161, 3), (61, .invokestatic 57, 3), (64, .goto 23, 3), (67, .iload_n 0, 1), (68, .iconst 4, 1), (69, .if_icmp .ne 17, 3), (72, .iload_n 1, 1), (73, .i2l, 1), (74, .lconst 0, 1), (75, .lconst 1, 1), (76, .invokestatic 57, 3), (79, .ifCond .eq 7, 3), (82, .iconst 1, 1), (83, .goto 4, 3), (86, .iconst 0, 1), (87, .ireturn, 1)]
/-- SumDoorModel.prisoner(III)I -/
def pg_8_34 : List (Nat × Instr × Nat) := [(0, .iload_n 1, 1), (1, .invokestatic 163, 3), (4, .ifCond .eq 23, 3), (7, .iload_n 2, 1), (8, .i2l, 1), (9, .lconst 0, 1), (10, .ldc2_w 66, 3), (13, .invokestatic 57, 3), (16, .ifCond .eq 11, 3), (19, .iload_n 2, 1), (20, .iload_n 3, 1), (21, .invokestatic 166, 3), (24, .ifCond .ne 10, 3), (27, .aload_n 0, 1), (28, .ldc 56, 2), (30, .invokevirtual 68, 3), (33, .ireturn, 1), (34, .aload_n 0, 1), (35, .getfield 7, 3), (38, .iload_n 1, 1), (39, .iload_n 2, 1), (40, .invokestatic 52, 3), (43, .iaload, 1), (44, .istore 4, 2), (46, .aload_n 0, 1), (47, .getfield 7, 3), (50, .iload_n 1, 1), (51, .iload_n 2, 1), (52, .invokestatic 52, 3), (55, .iload_n 3, 1), (56, .iastore, 1), (57, .iload 4, 2), (59, .ireturn, 1)]
/-- SumDoorModel.of(II)I -/
def pg_8_35 : List (Nat × Instr × Nat) := [(0, .iload_n 1, 1), (1, .invokestatic 163, 3), (4, .ifCond .eq 28, 3), (7, .iload_n 2, 1), (8, .i2l, 1), (9, .lconst 0, 1), (10, .ldc2_w 169, 3), (13, .invokestatic 57, 3), (16, .ifCond .eq 16, 3), (19, .aload_n 0, 1), (20, .getfield 7, 3), (23, .iload_n 1, 1), (24, .iload_n 2, 1), (25, .invokestatic 52, 3), (28, .iaload, 1), (29, .goto 9, 3), (32, .aload_n 0, 1), (33, .ldc 56, 2), (35, .invokevirtual 68, 3), (38, .ireturn, 1)]
/-- SumDoorModel.newDay()V -/
def pg_8_36 : List (Nat × Instr × Nat) := [(0, .aload_n 0, 1), (1, .getfield 7, 3), (4, .iconst 2, 1), (5, .iconst 0, 1), (6, .iastore, 1), (7, .iconst 0, 1), (8, .istore_n 1, 1), (9, .iload_n 1, 1), (10, .bipush 10, 2), (12, .if_icmp .ge 56, 3), (15, .aload_n 0, 1), (16, .getfield 7, 3), (19, .iload_n 1, 1), (20, .iconst 5, 1), (21, .invokestatic 52, 3), (24, .iconst 0, 1), (25, .iastore, 1), (26, .aload_n 0, 1), (27, .getfield 7, 3), (30, .iload_n 1, 1), (31, .bipush 7, 2), (33, .invokestatic 52, 3), (36, .iconst 0, 1), (37, .iastore, 1), (38, .aload_n 0, 1), (39, .getfield 7, 3), (42, .iload_n 1, 1), (43, .bipush 6, 2), (45, .invokestatic 52, 3), (48, .iconst (-1), 1), (49, .iastore, 1), (50, .aload_n 0, 1), (51, .getfield 7, 3), (54, .iload_n 1, 1), (55, .bipush 8, 2), (57, .invokestatic 52, 3), (60, .iconst 0, 1), (61, .iastore, 1), (62, .iinc 1 1, 3), (65, .goto (-56), 3), (68, .return_, 1)]
/-- SumDoorModel.set(I)I -/
def pg_8_37 : List (Nat × Instr × Nat) := [(0, .iload_n 1, 1), (1, .iconst (-1), 1), (2, .if_icmp .eq 18, 3), (5, .aload_n 0, 1), (6, .iload_n 1, 1), (7, .invokevirtual 144, 3), (10, .ifCond .ne 10, 3), (13, .aload_n 0, 1), (14, .ldc 56, 2), (16, .invokevirtual 68, 3), (19, .ireturn, 1), (20, .aload_n 0, 1), (21, .getfield 7, 3), (24, .iconst 1, 1), (25, .iaload, 1), (26, .istore_n 2, 1), (27, .aload_n 0, 1), (28, .getfield 7, 3), (31, .iconst 1, 1), (32, .iload_n 1, 1), (33, .iastore, 1), (34, .aload_n 0, 1), (35, .invokevirtual 171, 3), (38, .iload_n 2, 1), (39, .ireturn, 1)]
/-- SumDoorModel.rich(I)I -/
def pg_8_38 : List (Nat × Instr × Nat) := [(0, .iload_n 1, 1), (1, .i2l, 1), (2, .lconst 0, 1), (3, .ldc2_w 159, 3), (6, .invokestatic 57, 3), (9, .ifCond .ne 10, 3), (12, .aload_n 0, 1), (13, .ldc 56, 2), (15, .invokevirtual 68, 3), (18, .ireturn, 1), (19, .aload_n 0, 1), (20, .getfield 7, 3), (23, .iconst 3, 1), (24, .iaload, 1), (25, .istore_n 2, 1), (26, .aload_n 0, 1), (27, .getfield 7, 3), (30, .iconst 3, 1), (31, .iload_n 1, 1), (32, .iastore, 1), (33, .iload_n 2, 1), (34, .ireturn, 1)]
/-- SumDoorModel.chalks()I -/
def pg_8_39 : List (Nat × Instr × Nat) := [(0, .iconst 0, 1), (1, .istore_n 1, 1), (2, .iconst 0, 1), (3, .istore_n 2, 1), (4, .iload_n 2, 1), (5, .bipush 10, 2), (7, .if_icmp .ge 22, 3), (10, .iload_n 1, 1), (11, .aload_n 0, 1), (12, .getfield 7, 3), (15, .iload_n 2, 1), (16, .iconst 1, 1), (17, .invokestatic 52, 3), (20, .iaload, 1), (21, .iadd, 1), (22, .istore_n 1, 1), (23, .iinc 2 1, 3), (26, .goto (-22), 3), (29, .iload_n 1, 1), (30, .ireturn, 1)]
/-- SumDoorModel.alms(I)I -/
def pg_8_40 : List (Nat × Instr × Nat) := [(0, .iload_n 1, 1), (1, .i2l, 1), (2, .lconst 1, 1), (3, .ldc2_w 174, 3), (6, .invokestatic 57, 3), (9, .ifCond .ne 10, 3), (12, .aload_n 0, 1), (13, .ldc 56, 2), (15, .invokevirtual 68, 3), (18, .ireturn, 1), (19, .iconst 0, 1), (20, .istore_n 2, 1), (21, .iload_n 2, 1), (22, .iload_n 1, 1), (23, .if_icmp .ge 51, 3), (26, .aload_n 0, 1), (27, .invokevirtual 176, 3), (30, .bipush 10, 2), (32, .irem, 1), (33, .istore_n 3, 1), (34, .aload_n 0, 1), (35, .getfield 7, 3), (38, .iload_n 3, 1), (39, .iconst 1, 1), (40, .invokestatic 52, 3), (43, .dup2, 1), (44, .iaload, 1), (45, .aload_n 0, 1), (46, .getfield 7, 3), (49, .iload_n 3, 1), (50, .iconst 1, 1), (51, .invokestatic 52, 3), (54, .iaload, 1), (55, .sipush 999, 3), (58, .if_icmp .ge 7, 3), (61, .iconst 1, 1), (62, .goto 4, 3), (65, .iconst 0, 1), (66, .iadd, 1), (67, .iastore, 1), (68, .iinc 2 1, 3), (71, .goto (-50), 3), (74, .aload_n 0, 1), (75, .invokevirtual 179, 3), (78, .ireturn, 1)]
/-- SumDoorModel.school(II)I -/
def pg_8_41 : List (Nat × Instr × Nat) := [(0, .iload_n 1, 1), (1, .invokestatic 163, 3), (4, .ifCond .eq 15, 3), (7, .iload_n 2, 1), (8, .invokestatic 163, 3), (11, .ifCond .eq 8, 3), (14, .iload_n 1, 1), (15, .iload_n 2, 1), (16, .if_icmp .ne 10, 3), (19, .aload_n 0, 1), (20, .ldc 56, 2), (22, .invokevirtual 68, 3), (25, .ireturn, 1), (26, .aload_n 0, 1), (27, .getfield 7, 3), (30, .iload_n 1, 1), (31, .iconst 0, 1), (32, .invokestatic 52, 3), (35, .iaload, 1), (36, .aload_n 0, 1), (37, .getfield 7, 3), (40, .iload_n 2, 1), (41, .iconst 0, 1), (42, .invokestatic 52, 3), (45, .iaload, 1), (46, .if_icmp .ne 10, 3), (49, .aload_n 0, 1), (50, .ldc 182, 2), (52, .invokevirtual 68, 3), (55, .ireturn, 1), (56, .aload_n 0, 1), (57, .getfield 7, 3), (60, .iload_n 1, 1), (61, .iconst 0, 1), (62, .invokestatic 52, 3), (65, .iaload, 1), (66, .aload_n 0, 1), (67, .getfield 7, 3), (70, .iload_n 2, 1), (71, .iconst 0, 1), (72, .invokestatic 52, 3), (75, .iaload, 1), (76, .if_icmp .ge 7, 3), (79, .iload_n 1, 1), (80, .goto 4, 3), (83, .iload_n 2, 1), (84, .istore_n 3, 1), (85, .iload_n 1, 1), (86, .iload_n 2, 1), (87, .iadd, 1), (88, .iload_n 3, 1), (89, .isub, 1), (90, .istore 4, 2), (92, .aload_n 0, 1), (93, .getfield 7, 3), (96, .iload_n 3, 1), (97, .iconst 0, 1), (98, .invokestatic 52, 3), (101, .dup2, 1), (102, .iaload, 1), (103, .iconst 1, 1), (104, .iadd, 1), (105, .iastore, 1), (106, .aload_n 0, 1), (107, .getfield 7, 3), (110, .iload 4, 2), (112, .iconst 1, 1), (113, .invokestatic 52, 3), (116, .aload_n 0, 1), (117, .getfield 7, 3), (120, .iload 4, 2), (122, .iconst 1, 1), (123, .invokestatic 52, 3), (126, .iaload, 1), (127, .iconst 2, 1), (128, .if_icmp .ge 7, 3), (131, .iconst 0, 1), (132, .goto 16, 3), (135, .aload_n 0, 1), (136, .getfield 7, 3), (139, .iload 4, 2), (141, .iconst 1, 1), (142, .invokestatic 52, 3), (145, .iaload, 1), (146, .iconst 2, 1), (147, .isub, 1), (148, .iastore, 1), (149, .aload_n 0, 1), (150, .getfield 7, 3), (153, .iload_n 1, 1), (154, .iconst 0, 1), (155, .invokestatic 52, 3), (158, .iaload, 1), (159, .ireturn, 1)]
/-- SumDoorModel.works(I)V -/
def pg_8_42 : List (Nat × Instr × Nat) := [(0, .aload_n 0, 1), (1, .getfield 7, 3), (4, .iload_n 1, 1), (5, .iconst 1, 1), (6, .invokestatic 52, 3), (9, .iaload, 1), (10, .ifCond .ne 4, 3), (13, .return_, 1), (14, .aload_n 0, 1), (15, .aload_n 0, 1), (16, .getfield 7, 3), (19, .iconst 1, 1), (20, .iaload, 1), (21, .invokevirtual 149, 3), (24, .istore_n 2, 1), (25, .aload_n 0, 1), (26, .getfield 7, 3), (29, .iload_n 1, 1), (30, .iconst 1, 1), (31, .invokestatic 52, 3), (34, .dup2, 1), (35, .iaload, 1), (36, .iconst 1, 1), (37, .isub, 1), (38, .iastore, 1), (39, .aload_n 0, 1), (40, .getfield 7, 3), (43, .iload_n 1, 1), (44, .bipush 7, 2), (46, .invokestatic 52, 3), (49, .dup2, 1), (50, .iaload, 1), (51, .aload_n 0, 1), (52, .getfield 7, 3), (55, .iload_n 1, 1), (56, .iconst 0, 1), (57, .invokestatic 52, 3), (60, .iaload, 1), (61, .iadd, 1), (62, .iastore, 1), (63, .aload_n 0, 1), (64, .getfield 7, 3), (67, .iload_n 1, 1), (68, .bipush 7, 2), (70, .invokestatic 52, 3), (73, .iaload, 1), (74, .iload_n 2, 1), (75, .if_icmp .lt 107, 3), (78, .aload_n 0, 1), (79, .getfield 7, 3), (82, .iload_n 1, 1), (83, .bipush 6, 2), (85, .invokestatic 52, 3), (88, .iaload, 1), (89, .ifCond .ge 93, 3), (92, .aload_n 0, 1), (93, .getfield 7, 3), (96, .iload_n 1, 1), (97, .bipush 7, 2), (99, .invokestatic 52, 3), (102, .dup2, 1), (103, .iaload, 1), (104, .iload_n 2, 1), (105, .isub, 1), (106, .iastore, 1), (107, .aload_n 0, 1), (108, .aload_n 0, 1), (109, .getfield 7, 3), (112, .iconst 1, 1), (113, .iaload, 1), (114, .aload_n 0, 1), (115, .getfield 7, 3), (118, .iload_n 1, 1), (119, .iconst 5, 1), (120, .invokestatic 52, 3), (123, .iaload, 1), (124, .invokevirtual 140, 3), (127, .ifCond .eq 27, 3), (130, .aload_n 0, 1), (131, .getfield 7, 3), (134, .iload_n 1, 1), (135, .bipush 6, 2), (137, .invokestatic 52, 3), (140, .aload_n 0, 1), (141, .getfield 7, 3), (144, .iload_n 1, 1), (145, .iconst 5, 1), (146, .invokestatic 52, 3), (149, .iaload, 1), (150, .iastore, 1), (151, .goto (-88), 3), (154, .aload_n 0, 1), (155, .getfield 7, 3), (158, .iload_n 1, 1), (159, .iconst 5, 1), (160, .invokestatic 52, 3), (163, .aload_n 0, 1), (164, .getfield 7, 3), (167, .iload_n 1, 1), (168, .iconst 5, 1), (169, .invokestatic 52, 3), (172, .iaload, 1), (173, .iconst 1, 1), (174, .iadd, 1), (175, .bipush 100, 2), (177, .irem, 1), (178, .iastore, 1), (179, .goto (-116), 3), (182, .return_, 1)]
/-- SumDoorModel.isOpen(I)Z -/
def pg_8_43 : List (Nat × Instr × Nat) := [(0, .aload_n 0, 1), (1, .getfield 7, 3), (4, .iload_n 1, 1), (5, .bipush 8, 2), (7, .invokestatic 52, 3), (10, .iaload, 1), (11, .ifCond .ne 21, 3), (14, .aload_n 0, 1), (15, .getfield 7, 3), (18, .iload_n 1, 1), (19, .bipush 6, 2), (21, .invokestatic 52, 3), (24, .iaload, 1), (25, .ifCond .ge 7, 3), (28, .iconst 1, 1), (29, .goto 4, 3), (32, .iconst 0, 1), (33, .ireturn, 1)]
/-- SumDoorModel.buys(I)V -/
def pg_8_44 : List (Nat × Instr × Nat) := [(0, .iconst (-1), 1), (1, .istore_n 2, 1), (2, .iconst 0, 1), (3, .istore_n 3, 1), (4, .iload_n 3, 1), (5, .bipush 10, 2), (7, .if_icmp .ge 82, 3), (10, .aload_n 0, 1), (11, .getfield 7, 3), (14, .iload_n 3, 1), (15, .bipush 8, 2), (17, .invokestatic 52, 3), (20, .iaload, 1), (21, .ifCond .ne 21, 3), (24, .aload_n 0, 1), (25, .getfield 7, 3), (28, .iload_n 3, 1), (29, .bipush 6, 2), (31, .invokestatic 52, 3), (34, .iaload, 1), (35, .ifCond .lt 7, 3), (38, .iconst 1, 1), (39, .goto 4, 3), (42, .iconst 0, 1), (43, .istore 4, 2), (45, .iload 4, 2), (47, .ifCond .eq 34, 3), (50, .iload_n 2, 1), (51, .ifCond .lt 26, 3), (54, .aload_n 0, 1), (55, .getfield 7, 3), (58, .iload_n 3, 1), (59, .iconst 2, 1), (60, .invokestatic 52, 3), (63, .iaload, 1), (64, .aload_n 0, 1), (65, .getfield 7, 3), (68, .iload_n 2, 1), (69, .iconst 2, 1), (70, .invokestatic 52, 3), (73, .iaload, 1), (74, .if_icmp .ge 7, 3), (77, .iload_n 3, 1), (78, .goto 4, 3), (81, .iload_n 2, 1), (82, .istore_n 2, 1), (83, .iinc 3 1, 3), (86, .goto (-82), 3), (89, .iload_n 2, 1), (90, .ifCond .lt 119, 3), (93, .aload_n 0, 1), (94, .getfield 7, 3), (97, .iload_n 1, 1), (98, .iconst 1, 1), (99, .invokestatic 52, 3), (102, .iaload, 1), (103, .aload_n 0, 1), (104, .getfield 7, 3), (107, .iload_n 2, 1), (108, .iconst 2, 1), (109, .invokestatic 52, 3), (112, .iaload, 1), (113, .if_icmp .lt 96, 3), (116, .aload_n 0, 1), (117, .getfield 7, 3), (120, .iload_n 2, 1), (121, .iconst 2, 1), (122, .invokestatic 52, 3), (125, .iaload, 1), (126, .istore_n 3, 1), (127, .aload_n 0, 1), (128, .getfield 7, 3), (131, .iload_n 1, 1), (132, .iconst 1, 1), (133, .invokestatic 52, 3), (136, .dup2, 1), (137, .iaload, 1), (138, .iload_n 3, 1), (139, .isub, 1), (140, .iastore, 1), (141, .aload_n 0, 1), (142, .getfield 7, 3), (145, .iload_n 2, 1), (146, .iconst 1, 1), (147, .invokestatic 52, 3), (150, .aload_n 0, 1), (151, .getfield 7, 3), (154, .iload_n 2, 1), (155, .iconst 1, 1), (156, .invokestatic 52, 3), (159, .iaload, 1), (160, .iload_n 3, 1), (161, .iadd, 1), (162, .sipush 999, 3), (165, .if_icmp .le 9, 3), (168, .sipush 999, 3), (171, .goto 15, 3), (174, .aload_n 0, 1), (175, .getfield 7, 3), (178, .iload_n 2, 1), (179, .iconst 1, 1), (180, .invokestatic 52, 3), (183, .iaload, 1), (184, .iload_n 3, 1), (185, .iadd, 1), (186, .iastore, 1), (187, .aload_n 0, 1), (188, .getfield 7, 3), (191, .iload_n 1, 1), (192, .bipush 6, 2), (194, .invokestatic 52, 3), (197, .aload_n 0, 1), (198, .getfield 7, 3), (201, .iload_n 2, 1), (202, .bipush 6, 2), (204, .invokestatic 52, 3), (207, .iaload, 1), (208, .iastore, 1), (209, .return_, 1)]
/-- SumDoorModel.reads(I)V -/
def pg_8_45 : List (Nat × Instr × Nat) := [(0, .iconst (-1), 1), (1, .istore_n 2, 1), (2, .iconst 0, 1), (3, .istore_n 3, 1), (4, .iload_n 3, 1), (5, .bipush 10, 2), (7, .if_icmp .ge 98, 3), (10, .aload_n 0, 1), (11, .getfield 7, 3), (14, .iload_n 3, 1), (15, .iconst 3, 1), (16, .invokestatic 52, 3), (19, .iaload, 1), (20, .aload_n 0, 1), (21, .getfield 7, 3), (24, .iload_n 1, 1), (25, .iconst 3, 1), (26, .invokestatic 52, 3), (29, .iaload, 1), (30, .isub, 1), (31, .istore 4, 2), (33, .aload_n 0, 1), (34, .getfield 34, 3), (37, .iload_n 3, 1), (38, .iaload, 1), (39, .ifCond .lt 19, 3), (42, .iload 4, 2), (44, .iconst 1, 1), (45, .if_icmp .eq 9, 3), (48, .iload 4, 2), (50, .iconst (-1), 1), (51, .if_icmp .ne 7, 3), (54, .iconst 1, 1), (55, .goto 4, 3), (58, .iconst 0, 1), (59, .istore 5, 2), (61, .iload 5, 2), (63, .ifCond .eq 34, 3), (66, .iload_n 2, 1), (67, .ifCond .lt 26, 3), (70, .aload_n 0, 1), (71, .getfield 7, 3), (74, .iload_n 3, 1), (75, .iconst 3, 1), (76, .invokestatic 52, 3), (79, .iaload, 1), (80, .aload_n 0, 1), (81, .getfield 7, 3), (84, .iload_n 2, 1), (85, .iconst 3, 1), (86, .invokestatic 52, 3), (89, .iaload, 1), (90, .if_icmp .ge 7, 3), (93, .iload_n 3, 1), (94, .goto 4, 3), (97, .iload_n 2, 1), (98, .istore_n 2, 1), (99, .iinc 3 1, 3), (102, .goto (-98), 3), (105, .aload_n 0, 1), (106, .getfield 7, 3), (109, .iload_n 1, 1), (110, .bipush 6, 2), (112, .invokestatic 52, 3), (115, .iload_n 2, 1), (116, .ifCond .ge 7, 3), (119, .iconst (-1), 1), (120, .goto 9, 3), (123, .aload_n 0, 1), (124, .getfield 34, 3), (127, .iload_n 2, 1), (128, .iaload, 1), (129, .iastore, 1), (130, .return_, 1)]
/-- SumDoorModel.minute()V -/
def pg_8_46 : List (Nat × Instr × Nat) := [(0, .aload_n 0, 1), (1, .getfield 7, 3), (4, .iconst 2, 1), (5, .dup2, 1), (6, .iaload, 1), (7, .iconst 1, 1), (8, .iadd, 1), (9, .iastore, 1), (10, .aload_n 0, 1), (11, .getfield 7, 3), (14, .iconst 1, 1), (15, .iaload, 1), (16, .ifCond .ge 4, 3), (19, .return_, 1), (20, .iconst 0, 1), (21, .istore_n 1, 1), (22, .iload_n 1, 1), (23, .bipush 10, 2), (25, .if_icmp .ge 44, 3), (28, .aload_n 0, 1), (29, .getfield 34, 3), (32, .iload_n 1, 1), (33, .aload_n 0, 1), (34, .getfield 7, 3), (37, .iload_n 1, 1), (38, .bipush 8, 2), (40, .invokestatic 52, 3), (43, .iaload, 1), (44, .ifCond .ne 17, 3), (47, .aload_n 0, 1), (48, .getfield 7, 3), (51, .iload_n 1, 1), (52, .bipush 6, 2), (54, .invokestatic 52, 3), (57, .iaload, 1), (58, .goto 4, 3), (61, .iconst (-1), 1), (62, .iastore, 1), (63, .iinc 1 1, 3), (66, .goto (-44), 3), (69, .iconst 0, 1), (70, .istore_n 1, 1), (71, .iload_n 1, 1), (72, .bipush 10, 2), (74, .if_icmp .ge 22, 3), (77, .aload_n 0, 1), (78, .iload_n 1, 1), (79, .invokevirtual 183, 3), (82, .ifCond .eq 8, 3), (85, .aload_n 0, 1), (86, .iload_n 1, 1), (87, .invokevirtual 186, 3), (90, .iinc 1 1, 3), (93, .goto (-22), 3), (96, .iconst 0, 1), (97, .istore_n 1, 1), (98, .iload_n 1, 1), (99, .bipush 10, 2), (101, .if_icmp .ge 22, 3), (104, .aload_n 0, 1), (105, .iload_n 1, 1), (106, .invokevirtual 183, 3), (109, .ifCond .eq 8, 3), (112, .aload_n 0, 1), (113, .iload_n 1, 1), (114, .invokevirtual 189, 3), (117, .iinc 1 1, 3), (120, .goto (-22), 3), (123, .iconst 0, 1), (124, .istore_n 1, 1), (125, .iload_n 1, 1), (126, .bipush 10, 2), (128, .if_icmp .ge 22, 3), (131, .aload_n 0, 1), (132, .iload_n 1, 1), (133, .invokevirtual 183, 3), (136, .ifCond .eq 8, 3), (139, .aload_n 0, 1), (140, .iload_n 1, 1), (141, .invokevirtual 192, 3), (144, .iinc 1 1, 3), (147, .goto (-22), 3), (150, .iconst 0, 1), (151, .istore_n 1, 1), (152, .iload_n 1, 1), (153, .bipush 10, 2), (155, .if_icmp .ge 78, 3), (158, .aload_n 0, 1), (159, .getfield 7, 3), (162, .iload_n 1, 1), (163, .bipush 6, 2), (165, .invokestatic 52, 3), (168, .iaload, 1), (169, .ifCond .lt 26, 3), (172, .aload_n 0, 1), (173, .getfield 7, 3), (176, .iload_n 1, 1), (177, .iconst 1, 1), (178, .invokestatic 52, 3), (181, .iaload, 1), (182, .aload_n 0, 1), (183, .getfield 7, 3), (186, .iconst 3, 1), (187, .iaload, 1), (188, .if_icmp .gt 7, 3), (191, .iconst 1, 1), (192, .goto 4, 3), (195, .iconst 0, 1), (196, .istore_n 2, 1), (197, .aload_n 0, 1), (198, .getfield 7, 3), (201, .iload_n 1, 1), (202, .bipush 8, 2), (204, .invokestatic 52, 3), (207, .iload_n 2, 1), (208, .ifCond .eq 7, 3), (211, .iconst 1, 1), (212, .goto 14, 3), (215, .aload_n 0, 1), (216, .getfield 7, 3), (219, .iload_n 1, 1), (220, .bipush 8, 2), (222, .invokestatic 52, 3), (225, .iaload, 1), (226, .iastore, 1), (227, .iinc 1 1, 3), (230, .goto (-78), 3), (233, .return_, 1)]
/-- SumDoorModel.minutesGo(I)V -/
def pg_8_47 : List (Nat × Instr × Nat) := [(0, .iconst 0, 1), (1, .istore_n 2, 1), (2, .iload_n 2, 1), (3, .iload_n 1, 1), (4, .if_icmp .ge 13, 3), (7, .aload_n 0, 1), (8, .invokevirtual 195, 3), (11, .iinc 2 1, 3), (14, .goto (-12), 3), (17, .return_, 1)]
/-- SumDoorModel.outs()I -/
def pg_8_48 : List (Nat × Instr × Nat) := [(0, .iconst 0, 1), (1, .istore_n 1, 1), (2, .iconst 0, 1), (3, .istore_n 2, 1), (4, .iload_n 2, 1), (5, .bipush 10, 2), (7, .if_icmp .ge 34, 3), (10, .iload_n 1, 1), (11, .aload_n 0, 1), (12, .getfield 7, 3), (15, .iload_n 2, 1), (16, .bipush 8, 2), (18, .invokestatic 52, 3), (21, .iaload, 1), (22, .iconst 1, 1), (23, .if_icmp .ne 9, 3), (26, .iconst 1, 1), (27, .iload_n 2, 1), (28, .ishl, 1), (29, .goto 4, 3), (32, .iconst 0, 1), (33, .ior, 1), (34, .istore_n 1, 1), (35, .iinc 2 1, 3), (38, .goto (-34), 3), (41, .iload_n 1, 1), (42, .ireturn, 1)]
/-- SumDoorModel.minutes(I)I -/
def pg_8_49 : List (Nat × Instr × Nat) := [(0, .iload_n 1, 1), (1, .i2l, 1), (2, .lconst 1, 1), (3, .ldc2_w 198, 3), (6, .invokestatic 57, 3), (9, .ifCond .ne 10, 3), (12, .aload_n 0, 1), (13, .ldc 56, 2), (15, .invokevirtual 68, 3), (18, .ireturn, 1), (19, .aload_n 0, 1), (20, .getfield 7, 3), (23, .iconst 2, 1), (24, .iaload, 1), (25, .iload_n 1, 1), (26, .iadd, 1), (27, .sipush 480, 3), (30, .if_icmp .le 10, 3), (33, .aload_n 0, 1), (34, .ldc 182, 2), (36, .invokevirtual 68, 3), (39, .ireturn, 1), (40, .aload_n 0, 1), (41, .invokevirtual 200, 3), (44, .invokestatic 203, 3), (47, .istore_n 2, 1), (48, .aload_n 0, 1), (49, .iload_n 1, 1), (50, .invokevirtual 206, 3), (53, .aload_n 0, 1), (54, .invokevirtual 200, 3), (57, .invokestatic 203, 3), (60, .iload_n 2, 1), (61, .isub, 1), (62, .ireturn, 1)]
/-- SumDoorModel.out()I -/
def pg_8_50 : List (Nat × Instr × Nat) := [(0, .aload_n 0, 1), (1, .invokevirtual 200, 3), (4, .ireturn, 1)]
/-- SumDoorModel.day()I -/
def pg_8_51 : List (Nat × Instr × Nat) := [(0, .aload_n 0, 1), (1, .invokevirtual 200, 3), (4, .invokestatic 203, 3), (7, .istore_n 1, 1), (8, .aload_n 0, 1), (9, .invokevirtual 171, 3), (12, .iload_n 1, 1), (13, .ireturn, 1)]
/-- SumDoorModel.puts()V -/
def pg_8_52 : List (Nat × Instr × Nat) := [(0, .iconst 0, 1), (1, .istore_n 1, 1), (2, .iload_n 1, 1), (3, .sipush 465, 3), (6, .if_icmp .ge 21, 3), (9, .aload_n 0, 1), (10, .getfield 16, 3), (13, .iload_n 1, 1), (14, .aload_n 0, 1), (15, .getfield 7, 3), (18, .iload_n 1, 1), (19, .iaload, 1), (20, .iastore, 1), (21, .iinc 1 1, 3), (24, .goto (-22), 3), (27, .return_, 1)]
/-- SumDoorModel.putsBack()V -/
def pg_8_53 : List (Nat × Instr × Nat) := [(0, .iconst 0, 1), (1, .istore_n 1, 1), (2, .iload_n 1, 1), (3, .sipush 465, 3), (6, .if_icmp .ge 21, 3), (9, .aload_n 0, 1), (10, .getfield 7, 3), (13, .iload_n 1, 1), (14, .aload_n 0, 1), (15, .getfield 16, 3), (18, .iload_n 1, 1), (19, .iaload, 1), (20, .iastore, 1), (21, .iinc 1 1, 3), (24, .goto (-22), 3), (27, .return_, 1)]
/-- SumDoorModel.ahead(II)I -/
def pg_8_54 : List (Nat × Instr × Nat) := [(0, .iload_n 1, 1), (1, .i2l, 1), (2, .lconst 0, 1), (3, .ldc2_w 209, 3), (6, .invokestatic 57, 3), (9, .ifCond .eq 15, 3), (12, .iload_n 2, 1), (13, .i2l, 1), (14, .lconst 0, 1), (15, .ldc2_w 211, 3), (18, .invokestatic 57, 3), (21, .ifCond .ne 10, 3), (24, .aload_n 0, 1), (25, .ldc 56, 2), (27, .invokevirtual 68, 3), (30, .ireturn, 1), (31, .aload_n 0, 1), (32, .getfield 7, 3), (35, .iconst 2, 1), (36, .iaload, 1), (37, .iload_n 1, 1), (38, .iadd, 1), (39, .sipush 480, 3), (42, .if_icmp .le 10, 3), (45, .aload_n 0, 1), (46, .ldc 182, 2), (48, .invokevirtual 68, 3), (51, .ireturn, 1), (52, .aload_n 0, 1), (53, .invokevirtual 213, 3), (56, .aload_n 0, 1), (57, .iload_n 1, 1), (58, .invokevirtual 206, 3), (61, .iconst 0, 1), (62, .istore_n 3, 1), (63, .iconst 0, 1), (64, .istore 4, 2), (66, .iload 4, 2), (68, .bipush 10, 2), (70, .if_icmp .ge 35, 3), (73, .iload_n 3, 1), (74, .aload_n 0, 1), (75, .getfield 7, 3), (78, .iload 4, 2), (80, .bipush 6, 2), (82, .invokestatic 52, 3), (85, .iaload, 1), (86, .ifCond .ge 7, 3), (89, .iconst 0, 1), (90, .goto 7, 3), (93, .iconst 1, 1), (94, .iload 4, 2), (96, .ishl, 1), (97, .ior, 1), (98, .istore_n 3, 1), (99, .iinc 4 1, 3), (102, .goto (-36), 3), (105, .iload_n 2, 1), (106, .ifCond .ne 10, 3), (109, .aload_n 0, 1), (110, .invokevirtual 200, 3), (113, .goto 16, 3), (116, .iload_n 2, 1), (117, .iconst 1, 1), (118, .if_icmp .ne 7, 3), (121, .iload_n 3, 1), (122, .goto 7, 3), (125, .aload_n 0, 1), (126, .invokevirtual 179, 3), (129, .istore 4, 2), (131, .aload_n 0, 1), (132, .invokevirtual 216, 3), (135, .iload 4, 2), (137, .ireturn, 1)]
/-- SumDoorModel.when(I)I -/
def pg_8_55 : List (Nat × Instr × Nat) := [(0, .iload_n 1, 1), (1, .invokestatic 163, 3), (4, .ifCond .ne 10, 3), (7, .aload_n 0, 1), (8, .ldc 56, 2), (10, .invokevirtual 68, 3), (13, .ireturn, 1), (14, .aload_n 0, 1), (15, .getfield 7, 3), (18, .iload_n 1, 1), (19, .bipush 8, 2), (21, .invokestatic 52, 3), (24, .iaload, 1), (25, .iconst 1, 1), (26, .if_icmp .eq 15, 3), (29, .aload_n 0, 1), (30, .getfield 7, 3), (33, .iconst 2, 1), (34, .iaload, 1), (35, .sipush 280, 3), (38, .if_icmp .le 10, 3), (41, .aload_n 0, 1), (42, .ldc 182, 2), (44, .invokevirtual 68, 3), (47, .ireturn, 1), (48, .aload_n 0, 1), (49, .invokevirtual 213, 3), (52, .iconst 0, 1), (53, .istore_n 2, 1), (54, .iload_n 2, 1), (55, .sipush 200, 3), (58, .if_icmp .ge 27, 3), (61, .aload_n 0, 1), (62, .getfield 7, 3), (65, .iload_n 1, 1), (66, .bipush 8, 2), (68, .invokestatic 52, 3), (71, .iaload, 1), (72, .ifCond .ne 13, 3), (75, .aload_n 0, 1), (76, .invokevirtual 195, 3), (79, .iinc 2 1, 3), (82, .goto (-28), 3), (85, .aload_n 0, 1), (86, .getfield 7, 3), (89, .iload_n 1, 1), (90, .bipush 8, 2), (92, .invokestatic 52, 3), (95, .iaload, 1), (96, .iconst 1, 1), (97, .if_icmp .ne 7, 3), (100, .iconst 1, 1), (101, .goto 4, 3), (104, .iconst 0, 1), (105, .istore_n 3, 1), (106, .aload_n 0, 1), (107, .invokevirtual 216, 3), (110, .iload_n 3, 1), (111, .ifCond .eq 7, 3), (114, .iload_n 2, 1), (115, .goto 9, 3), (118, .aload_n 0, 1), (119, .ldc 158, 2), (121, .invokevirtual 68, 3), (124, .ireturn, 1)]
/-- SumDoorModel.letsOut(II)I -/
def pg_8_56 : List (Nat × Instr × Nat) := [(0, .aload_n 0, 1), (1, .invokevirtual 213, 3), (4, .aload_n 0, 1), (5, .getfield 7, 3), (8, .iconst 1, 1), (9, .iload_n 1, 1), (10, .iastore, 1), (11, .aload_n 0, 1), (12, .invokevirtual 171, 3), (15, .aload_n 0, 1), (16, .iload_n 2, 1), (17, .invokevirtual 206, 3), (20, .aload_n 0, 1), (21, .invokevirtual 200, 3), (24, .istore_n 3, 1), (25, .aload_n 0, 1), (26, .invokevirtual 216, 3), (29, .iload_n 3, 1), (30, .ireturn, 1)]
/-- SumDoorModel.lets(II)I -/
def pg_8_57 : List (Nat × Instr × Nat) := [(0, .aload_n 0, 1), (1, .iload_n 1, 1), (2, .invokevirtual 144, 3), (5, .ifCond .eq 24, 3), (8, .iload_n 2, 1), (9, .i2l, 1), (10, .lconst 1, 1), (11, .ldc2_w 209, 3), (14, .invokestatic 57, 3), (17, .ifCond .eq 12, 3), (20, .aload_n 0, 1), (21, .iload_n 1, 1), (22, .iload_n 2, 1), (23, .invokevirtual 219, 3), (26, .goto 9, 3), (29, .aload_n 0, 1), (30, .ldc 56, 2), (32, .invokevirtual 68, 3), (35, .ireturn, 1)]
/-- SumDoorModel.maySet()I -/
def pg_8_58 : List (Nat × Instr × Nat) := [(0, .iconst 0, 1), (1, .istore_n 1, 1), (2, .iconst 0, 1), (3, .istore_n 2, 1), (4, .iload_n 2, 1), (5, .bipush 10, 2), (7, .if_icmp .ge 33, 3), (10, .iload_n 1, 1), (11, .aload_n 0, 1), (12, .getfield 7, 3), (15, .iload_n 2, 1), (16, .iconst 4, 1), (17, .invokestatic 52, 3), (20, .iaload, 1), (21, .iconst 1, 1), (22, .if_icmp .ne 9, 3), (25, .iconst 1, 1), (26, .iload_n 2, 1), (27, .ishl, 1), (28, .goto 4, 3), (31, .iconst 0, 1), (32, .ior, 1), (33, .istore_n 1, 1), (34, .iinc 2 1, 3), (37, .goto (-33), 3), (40, .iload_n 1, 1), (41, .ireturn, 1)]
/-- SumDoorModel.wrongsOf(II)I -/
def pg_8_59 : List (Nat × Instr × Nat) := [(0, .aload_n 0, 1), (1, .iload_n 1, 1), (2, .iload_n 2, 1), (3, .invokevirtual 219, 3), (6, .aload_n 0, 1), (7, .invokevirtual 222, 3), (10, .ixor, 1), (11, .invokestatic 203, 3), (14, .ireturn, 1)]
/-- SumDoorModel.choose(I)I -/
def pg_8_60 : List (Nat × Instr × Nat) := [(0, .iload_n 1, 1), (1, .i2l, 1), (2, .lconst 1, 1), (3, .ldc2_w 209, 3), (6, .invokestatic 57, 3), (9, .ifCond .ne 10, 3), (12, .aload_n 0, 1), (13, .ldc 56, 2), (15, .invokevirtual 68, 3), (18, .ireturn, 1), (19, .iconst (-1), 1), (20, .istore_n 2, 1), (21, .iconst 0, 1), (22, .istore_n 3, 1), (23, .iconst 0, 1), (24, .istore 4, 2), (26, .iload 4, 2), (28, .aload_n 0, 1), (29, .getfield 7, 3), (32, .iconst 0, 1), (33, .iaload, 1), (34, .if_icmp .ge 34, 3), (37, .aload_n 0, 1), (38, .iload 4, 2), (40, .iload_n 1, 1), (41, .invokevirtual 225, 3), (44, .istore 5, 2), (46, .iload_n 2, 1), (47, .ifCond .lt 9, 3), (50, .iload 5, 2), (52, .iload_n 3, 1), (53, .if_icmp .ge 9, 3), (56, .iload 4, 2), (58, .istore_n 2, 1), (59, .iload 5, 2), (61, .istore_n 3, 1), (62, .iinc 4 1, 3), (65, .goto (-39), 3), (68, .iload_n 2, 1), (69, .ifCond .ge 12, 3), (72, .aload_n 0, 1), (73, .ldc 158, 2), (75, .invokevirtual 68, 3), (78, .goto 4, 3), (81, .iload_n 2, 1), (82, .ireturn, 1)]
/-- SumDoorModel.wrongs(II)I -/
def pg_8_61 : List (Nat × Instr × Nat) := [(0, .aload_n 0, 1), (1, .iload_n 1, 1), (2, .invokevirtual 144, 3), (5, .ifCond .eq 24, 3), (8, .iload_n 2, 1), (9, .i2l, 1), (10, .lconst 1, 1), (11, .ldc2_w 209, 3), (14, .invokestatic 57, 3), (17, .ifCond .eq 12, 3), (20, .aload_n 0, 1), (21, .iload_n 1, 1), (22, .iload_n 2, 1), (23, .invokevirtual 225, 3), (26, .goto 9, 3), (29, .aload_n 0, 1), (30, .ldc 56, 2), (32, .invokevirtual 68, 3), (35, .ireturn, 1)]
/-- SumDoorModel.fewest(I)I -/
def pg_8_62 : List (Nat × Instr × Nat) := [(0, .iload_n 1, 1), (1, .i2l, 1), (2, .lconst 1, 1), (3, .ldc2_w 198, 3), (6, .invokestatic 57, 3), (9, .ifCond .ne 10, 3), (12, .aload_n 0, 1), (13, .ldc 56, 2), (15, .invokevirtual 68, 3), (18, .ireturn, 1), (19, .aload_n 0, 1), (20, .invokevirtual 222, 3), (23, .istore_n 2, 1), (24, .iconst 0, 1), (25, .istore_n 3, 1), (26, .iload_n 3, 1), (27, .aload_n 0, 1), (28, .getfield 7, 3), (31, .iconst 0, 1), (32, .iaload, 1), (33, .if_icmp .ge 21, 3), (36, .aload_n 0, 1), (37, .getfield 37, 3), (40, .iload_n 3, 1), (41, .aload_n 0, 1), (42, .iload_n 3, 1), (43, .iload_n 1, 1), (44, .invokevirtual 219, 3), (47, .iastore, 1), (48, .iinc 3 1, 3), (51, .goto (-25), 3), (54, .iconst (-1), 1), (55, .istore_n 3, 1), (56, .iconst 0, 1), (57, .istore 4, 2), (59, .iload 4, 2), (61, .iconst 1, 1), (62, .aload_n 0, 1), (63, .getfield 7, 3), (66, .iconst 0, 1), (67, .iaload, 1), (68, .ishl, 1), (69, .if_icmp .ge 87, 3), (72, .iconst 0, 1), (73, .istore 5, 2), (75, .iconst 0, 1), (76, .istore 6, 2), (78, .iload 6, 2), (80, .aload_n 0, 1), (81, .getfield 7, 3), (84, .iconst 0, 1), (85, .iaload, 1), (86, .if_icmp .ge 35, 3), (89, .iload 5, 2), (91, .iload 4, 2), (93, .iload 6, 2), (95, .invokestatic 228, 3), (98, .ifCond .eq 13, 3), (101, .aload_n 0, 1), (102, .getfield 37, 3), (105, .iload 6, 2), (107, .iaload, 1), (108, .goto 4, 3), (111, .iconst 0, 1), (112, .ior, 1), (113, .istore 5, 2), (115, .iinc 6 1, 3), (118, .goto (-40), 3), (121, .iload 5, 2), (123, .iload_n 2, 1), (124, .if_icmp .ne 24, 3), (127, .iload_n 3, 1), (128, .ifCond .lt 15, 3), (131, .iload 4, 2), (133, .invokestatic 203, 3), (136, .iload_n 3, 1), (137, .invokestatic 203, 3), (140, .if_icmp .ge 8, 3), (143, .iload 4, 2), (145, .goto 4, 3), (148, .iload_n 3, 1), (149, .istore_n 3, 1), (150, .iinc 4 1, 3), (153, .goto (-94), 3), (156, .iload_n 3, 1), (157, .ifCond .ge 12, 3), (160, .aload_n 0, 1), (161, .ldc 158, 2), (163, .invokevirtual 68, 3), (166, .goto 4, 3), (169, .iload_n 3, 1), (170, .ireturn, 1)]
/-- SumDoorModel.skillFor(III)I -/
def pg_8_63 : List (Nat × Instr × Nat) := [(0, .iload_n 1, 1), (1, .invokestatic 163, 3), (4, .ifCond .eq 23, 3), (7, .aload_n 0, 1), (8, .iload_n 2, 1), (9, .invokevirtual 144, 3), (12, .ifCond .eq 15, 3), (15, .iload_n 3, 1), (16, .i2l, 1), (17, .lconst 1, 1), (18, .ldc2_w 209, 3), (21, .invokestatic 57, 3), (24, .ifCond .ne 10, 3), (27, .aload_n 0, 1), (28, .ldc 56, 2), (30, .invokevirtual 68, 3), (33, .ireturn, 1), (34, .aload_n 0, 1), (35, .getfield 7, 3), (38, .iload_n 1, 1), (39, .iconst 0, 1), (40, .invokestatic 52, 3), (43, .iaload, 1), (44, .istore 4, 2), (46, .iconst (-1), 1), (47, .istore 5, 2), (49, .iconst 1, 1), (50, .istore 6, 2), (52, .iload 6, 2), (54, .bipush 10, 2), (56, .if_icmp .ge 47, 3), (59, .iload 5, 2), (61, .ifCond .ge 42, 3), (64, .aload_n 0, 1), (65, .getfield 7, 3), (68, .iload_n 1, 1), (69, .iconst 0, 1), (70, .invokestatic 52, 3), (73, .iload 6, 2), (75, .iastore, 1), (76, .aload_n 0, 1), (77, .iload_n 2, 1), (78, .iload_n 3, 1), (79, .invokevirtual 219, 3), (82, .iload_n 1, 1), (83, .invokestatic 228, 3), (86, .ifCond .eq 8, 3), (89, .iload 6, 2), (91, .goto 4, 3), (94, .iconst (-1), 1), (95, .istore 5, 2), (97, .iinc 6 1, 3), (100, .goto (-48), 3), (103, .aload_n 0, 1), (104, .getfield 7, 3), (107, .iload_n 1, 1), (108, .iconst 0, 1), (109, .invokestatic 52, 3), (112, .iload 4, 2), (114, .iastore, 1), (115, .iload 5, 2), (117, .ifCond .ge 12, 3), (120, .aload_n 0, 1), (121, .ldc 158, 2), (123, .invokevirtual 68, 3), (126, .goto 5, 3), (129, .iload 5, 2), (131, .ireturn, 1)]
/-- SumDoorModel.richFor(I)I -/
def pg_8_64 : List (Nat × Instr × Nat) := [(0, .iload_n 1, 1), (1, .i2l, 1), (2, .lconst 1, 1), (3, .ldc2_w 198, 3), (6, .invokestatic 57, 3), (9, .ifCond .ne 10, 3), (12, .aload_n 0, 1), (13, .ldc 56, 2), (15, .invokevirtual 68, 3), (18, .ireturn, 1), (19, .aload_n 0, 1), (20, .getfield 7, 3), (23, .iconst 1, 1), (24, .iaload, 1), (25, .ifCond .ge 10, 3), (28, .aload_n 0, 1), (29, .ldc 182, 2), (31, .invokevirtual 68, 3), (34, .ireturn, 1), (35, .aload_n 0, 1), (36, .getfield 7, 3), (39, .iconst 3, 1), (40, .iaload, 1), (41, .istore_n 2, 1), (42, .iconst (-1), 1), (43, .istore_n 3, 1), (44, .iconst 0, 1), (45, .istore 4, 2), (47, .iload 4, 2), (49, .bipush 11, 2), (51, .if_icmp .ge 65, 3), (54, .aload_n 0, 1), (55, .getfield 7, 3), (58, .iconst 3, 1), (59, .iload 4, 2), (61, .bipush 10, 2), (63, .if_icmp .ne 9, 3), (66, .sipush 999, 3), (69, .goto 8, 3), (72, .bipush 100, 2), (74, .iload 4, 2), (76, .imul, 1), (77, .iastore, 1), (78, .aload_n 0, 1), (79, .aload_n 0, 1), (80, .getfield 7, 3), (83, .iconst 1, 1), (84, .iaload, 1), (85, .iload_n 1, 1), (86, .invokevirtual 219, 3), (89, .aload_n 0, 1), (90, .invokevirtual 222, 3), (93, .iconst (-1), 1), (94, .ixor, 1), (95, .iand, 1), (96, .ifCond .ne 12, 3), (99, .aload_n 0, 1), (100, .getfield 7, 3), (103, .iconst 3, 1), (104, .iaload, 1), (105, .goto 4, 3), (108, .iload_n 3, 1), (109, .istore_n 3, 1), (110, .iinc 4 1, 3), (113, .goto (-66), 3), (116, .aload_n 0, 1), (117, .getfield 7, 3), (120, .iconst 3, 1), (121, .iload_n 2, 1), (122, .iastore, 1), (123, .iload_n 3, 1), (124, .ifCond .ge 12, 3), (127, .aload_n 0, 1), (128, .ldc 158, 2), (130, .invokevirtual 68, 3), (133, .goto 4, 3), (136, .iload_n 3, 1), (137, .ireturn, 1)]
/-- SumDoorModel.could(II)I -/
def pg_8_65 : List (Nat × Instr × Nat) := [(0, .iload_n 1, 1), (1, .invokestatic 163, 3), (4, .ifCond .eq 15, 3), (7, .iload_n 2, 1), (8, .i2l, 1), (9, .lconst 1, 1), (10, .ldc2_w 231, 3), (13, .invokestatic 57, 3), (16, .ifCond .ne 10, 3), (19, .aload_n 0, 1), (20, .ldc 56, 2), (22, .invokevirtual 68, 3), (25, .ireturn, 1), (26, .iconst 0, 1), (27, .istore_n 3, 1), (28, .iconst 0, 1), (29, .istore 4, 2), (31, .iload 4, 2), (33, .aload_n 0, 1), (34, .getfield 7, 3), (37, .iconst 0, 1), (38, .iaload, 1), (39, .if_icmp .ge 88, 3), (42, .aload_n 0, 1), (43, .invokevirtual 213, 3), (46, .aload_n 0, 1), (47, .getfield 7, 3), (50, .iconst 1, 1), (51, .iload 4, 2), (53, .iastore, 1), (54, .aload_n 0, 1), (55, .invokevirtual 171, 3), (58, .iconst 0, 1), (59, .istore 5, 2), (61, .iload 5, 2), (63, .iload_n 2, 1), (64, .if_icmp .ge 28, 3), (67, .aload_n 0, 1), (68, .getfield 7, 3), (71, .iload_n 1, 1), (72, .bipush 6, 2), (74, .invokestatic 52, 3), (77, .iaload, 1), (78, .ifCond .ge 14, 3), (81, .aload_n 0, 1), (82, .iload_n 1, 1), (83, .invokevirtual 186, 3), (86, .iinc 5 1, 3), (89, .goto (-28), 3), (92, .iload_n 3, 1), (93, .aload_n 0, 1), (94, .getfield 7, 3), (97, .iload_n 1, 1), (98, .bipush 6, 2), (100, .invokestatic 52, 3), (103, .iaload, 1), (104, .ifCond .ge 7, 3), (107, .iconst 0, 1), (108, .goto 7, 3), (111, .iconst 1, 1), (112, .iload 4, 2), (114, .ishl, 1), (115, .ior, 1), (116, .istore_n 3, 1), (117, .aload_n 0, 1), (118, .invokevirtual 216, 3), (121, .iinc 4 1, 3), (124, .goto (-93), 3), (127, .iload_n 3, 1), (128, .ireturn, 1)]
/-- SumDoorModel.seed(I)I -/
def pg_8_66 : List (Nat × Instr × Nat) := [(0, .aload_n 0, 1), (1, .getfield 7, 3), (4, .iconst 4, 1), (5, .iaload, 1), (6, .istore_n 2, 1), (7, .aload_n 0, 1), (8, .getfield 7, 3), (11, .iconst 4, 1), (12, .iload_n 1, 1), (13, .iastore, 1), (14, .iload_n 2, 1), (15, .ireturn, 1)]
/-- SumDoorModel.hold(II)I -/
def pg_8_67 : List (Nat × Instr × Nat) := [(0, .iload_n 1, 1), (1, .i2l, 1), (2, .lconst 0, 1), (3, .ldc2_w 61, 3), (6, .invokestatic 57, 3), (9, .ifCond .eq 16, 3), (12, .iload_n 2, 1), (13, .iconst (-1), 1), (14, .if_icmp .eq 18, 3), (17, .aload_n 0, 1), (18, .iload_n 2, 1), (19, .invokevirtual 144, 3), (22, .ifCond .ne 10, 3), (25, .aload_n 0, 1), (26, .ldc 56, 2), (28, .invokevirtual 68, 3), (31, .ireturn, 1), (32, .aload_n 0, 1), (33, .getfield 7, 3), (36, .bipush 95, 2), (38, .iload_n 1, 1), (39, .iadd, 1), (40, .iload_n 2, 1), (41, .iastore, 1), (42, .iconst 1, 1), (43, .ireturn, 1)]
/-- SumDoorModel.as(II)I -/
def pg_8_68 : List (Nat × Instr × Nat) := [(0, .iload_n 1, 1), (1, .i2l, 1), (2, .lconst 0, 1), (3, .ldc2_w 61, 3), (6, .invokestatic 57, 3), (9, .ifCond .eq 15, 3), (12, .iload_n 2, 1), (13, .i2l, 1), (14, .lconst 0, 1), (15, .ldc2_w 121, 3), (18, .invokestatic 57, 3), (21, .ifCond .ne 10, 3), (24, .aload_n 0, 1), (25, .ldc 56, 2), (27, .invokevirtual 68, 3), (30, .ireturn, 1), (31, .aload_n 0, 1), (32, .getfield 7, 3), (35, .bipush 95, 2), (37, .iload_n 1, 1), (38, .iadd, 1), (39, .iaload, 1), (40, .istore_n 3, 1), (41, .iload_n 3, 1), (42, .ifCond .ge 10, 3), (45, .aload_n 0, 1), (46, .ldc 233, 2), (48, .invokevirtual 68, 3), (51, .ireturn, 1), (52, .aload_n 0, 1), (53, .iload_n 3, 1), (54, .iconst 0, 1), (55, .invokevirtual 130, 3), (58, .istore 4, 2), (60, .iload_n 2, 1), (61, .ifCond .eq 31, 3), (64, .iload 4, 2), (66, .iload_n 2, 1), (67, .if_icmp .eq 25, 3), (70, .iload_n 2, 1), (71, .iconst 1, 1), (72, .if_icmp .ne 9, 3), (75, .iload 4, 2), (77, .iconst 5, 1), (78, .if_icmp .eq 14, 3), (81, .iload_n 2, 1), (82, .iconst 2, 1), (83, .if_icmp .ne 13, 3), (86, .iload 4, 2), (88, .iconst 3, 1), (89, .if_icmp .ne 7, 3), (92, .iconst 1, 1), (93, .goto 4, 3), (96, .iconst 0, 1), (97, .istore 5, 2), (99, .iload 5, 2), (101, .ifCond .eq 7, 3), (104, .iload_n 3, 1), (105, .goto 9, 3), (108, .aload_n 0, 1), (109, .ldc 234, 2), (111, .invokevirtual 68, 3), (114, .ireturn, 1)]
/-- SumDoorModel.isOne(I)Z -/
def pg_8_69 : List (Nat × Instr × Nat) := [(0, .iload_n 0, 1), (1, .i2l, 1), (2, .lconst 0, 1), (3, .ldc2_w 147, 3), (6, .invokestatic 57, 3), (9, .ireturn, 1)]
/-- SumDoorModel.sheet(III)I -/
def pg_8_70 : List (Nat × Instr × Nat) := [(0, .iload_n 1, 1), (1, .invokestatic 235, 3), (4, .ifCond .eq 25, 3), (7, .iload_n 2, 1), (8, .ifCond .eq 28, 3), (11, .iload_n 2, 1), (12, .bipush 8, 2), (14, .if_icmp .eq 22, 3), (17, .iload_n 2, 1), (18, .bipush 16, 2), (20, .if_icmp .eq 16, 3), (23, .iload_n 2, 1), (24, .bipush 32, 2), (26, .if_icmp .eq 10, 3), (29, .aload_n 0, 1), (30, .ldc 56, 2), (32, .invokevirtual 68, 3), (35, .ireturn, 1), (36, .iload_n 3, 1), (37, .ifCond .ge 10, 3), (40, .aload_n 0, 1), (41, .ldc 238, 2), (43, .invokevirtual 68, 3), (46, .ireturn, 1), (47, .iload_n 3, 1), (48, .bipush 40, 2), (50, .if_icmp .le 10, 3), (53, .aload_n 0, 1), (54, .ldc 56, 2), (56, .invokevirtual 68, 3), (59, .ireturn, 1), (60, .aload_n 0, 1), (61, .getfield 40, 3), (64, .iload_n 1, 1), (65, .iload_n 2, 1), (66, .iastore, 1), (67, .aload_n 0, 1), (68, .getfield 43, 3), (71, .iload_n 1, 1), (72, .iload_n 2, 1), (73, .ifCond .ne 7, 3), (76, .iconst 0, 1), (77, .goto 4, 3), (80, .iload_n 3, 1), (81, .iastore, 1), (82, .iconst 0, 1), (83, .istore 4, 2), (85, .iload 4, 2), (87, .bipush 40, 2), (89, .if_icmp .ge 22, 3), (92, .aload_n 0, 1), (93, .getfield 46, 3), (96, .bipush 40, 2), (98, .iload_n 1, 1), (99, .imul, 1), (100, .iload 4, 2), (102, .iadd, 1), (103, .iconst 0, 1), (104, .iastore, 1), (105, .iinc 4 1, 3), (108, .goto (-23), 3), (111, .aload_n 0, 1), (112, .getfield 43, 3), (115, .iload_n 1, 1), (116, .iaload, 1), (117, .ireturn, 1)]
/-- SumDoorModel.narrowed(II)I -/
def pg_8_71 : List (Nat × Instr × Nat) := [(0, .iload_n 0, 1), (1, .bipush 8, 2), (3, .if_icmp .ne 8, 3), (6, .iload_n 1, 1), (7, .i2b, 1), (8, .goto 15, 3), (11, .iload_n 0, 1), (12, .bipush 16, 2), (14, .if_icmp .ne 8, 3), (17, .iload_n 1, 1), (18, .i2s, 1), (19, .goto 4, 3), (22, .iload_n 1, 1), (23, .ireturn, 1)]
/-- SumDoorModel.wrong(I)I -/
def pg_8_72 : List (Nat × Instr × Nat) := [(0, .iload_n 1, 1), (1, .invokestatic 235, 3), (4, .ifCond .ne 8, 3), (7, .ldc 56, 2), (9, .goto 18, 3), (12, .aload_n 0, 1), (13, .getfield 40, 3), (16, .iload_n 1, 1), (17, .iaload, 1), (18, .ifCond .ne 8, 3), (21, .ldc 233, 2), (23, .goto 4, 3), (26, .iconst 0, 1), (27, .ireturn, 1)]
/-- SumDoorModel.write(III)I -/
def pg_8_73 : List (Nat × Instr × Nat) := [(0, .aload_n 0, 1), (1, .iload_n 1, 1), (2, .invokevirtual 239, 3), (5, .istore 4, 2), (7, .iload 4, 2), (9, .ifCond .eq 10, 3), (12, .aload_n 0, 1), (13, .iload 4, 2), (15, .invokevirtual 68, 3), (18, .ireturn, 1), (19, .iload_n 2, 1), (20, .i2l, 1), (21, .lconst 0, 1), (22, .aload_n 0, 1), (23, .getfield 43, 3), (26, .iload_n 1, 1), (27, .iaload, 1), (28, .iconst 1, 1), (29, .isub, 1), (30, .i2l, 1), (31, .invokestatic 57, 3), (34, .ifCond .ne 10, 3), (37, .aload_n 0, 1), (38, .ldc 56, 2), (40, .invokevirtual 68, 3), (43, .ireturn, 1), (44, .aload_n 0, 1), (45, .getfield 46, 3), (48, .bipush 40, 2), (50, .iload_n 1, 1), (51, .imul, 1), (52, .iload_n 2, 1), (53, .iadd, 1), (54, .aload_n 0, 1), (55, .getfield 40, 3), (58, .iload_n 1, 1), (59, .iaload, 1), (60, .iload_n 3, 1), (61, .invokestatic 242, 3), (64, .iastore, 1), (65, .iconst 1, 1), (66, .ireturn, 1)]
/-- SumDoorModel.copy(IIIII)I -/
def pg_8_74 : List (Nat × Instr × Nat) := [(0, .iload_n 1, 1), (1, .invokestatic 235, 3), (4, .ifCond .eq 10, 3), (7, .iload_n 3, 1), (8, .invokestatic 235, 3), (11, .ifCond .ne 10, 3), (14, .aload_n 0, 1), (15, .ldc 56, 2), (17, .invokevirtual 68, 3), (20, .ireturn, 1), (21, .aload_n 0, 1), (22, .getfield 40, 3), (25, .iload_n 1, 1), (26, .iaload, 1), (27, .ifCond .eq 12, 3), (30, .aload_n 0, 1), (31, .getfield 40, 3), (34, .iload_n 3, 1), (35, .iaload, 1), (36, .ifCond .ne 10, 3), (39, .aload_n 0, 1), (40, .ldc 233, 2), (42, .invokevirtual 68, 3), (45, .ireturn, 1), (46, .aload_n 0, 1), (47, .getfield 40, 3), (50, .iload_n 1, 1), (51, .iaload, 1), (52, .aload_n 0, 1), (53, .getfield 40, 3), (56, .iload_n 3, 1), (57, .iaload, 1), (58, .if_icmp .eq 10, 3), (61, .aload_n 0, 1), (62, .ldc 234, 2), (64, .invokevirtual 68, 3), (67, .ireturn, 1), (68, .iload_n 2, 1), (69, .ifCond .lt 40, 3), (72, .iload 4, 2), (74, .ifCond .lt 35, 3), (77, .iload 5, 2), (79, .ifCond .lt 30, 3), (82, .iload 5, 2), (84, .aload_n 0, 1), (85, .getfield 43, 3), (88, .iload_n 1, 1), (89, .iaload, 1), (90, .iload_n 2, 1), (91, .isub, 1), (92, .if_icmp .gt 17, 3), (95, .iload 5, 2), (97, .aload_n 0, 1), (98, .getfield 43, 3), (101, .iload_n 3, 1), (102, .iaload, 1), (103, .iload 4, 2), (105, .isub, 1), (106, .if_icmp .le 10, 3), (109, .aload_n 0, 1), (110, .ldc 56, 2), (112, .invokevirtual 68, 3), (115, .ireturn, 1), (116, .iconst 0, 1), (117, .istore 6, 2), (119, .iload 6, 2), (121, .iload 5, 2), (123, .if_icmp .ge 30, 3), (126, .aload_n 0, 1), (127, .getfield 49, 3), (130, .iload 6, 2), (132, .aload_n 0, 1), (133, .getfield 46, 3), (136, .bipush 40, 2), (138, .iload_n 1, 1), (139, .imul, 1), (140, .iload_n 2, 1), (141, .iadd, 1), (142, .iload 6, 2), (144, .iadd, 1), (145, .iaload, 1), (146, .iastore, 1), (147, .iinc 6 1, 3), (150, .goto (-31), 3), (153, .iconst 0, 1), (154, .istore 6, 2), (156, .iload 6, 2), (158, .iload 5, 2), (160, .if_icmp .ge 31, 3), (163, .aload_n 0, 1), (164, .getfield 46, 3), (167, .bipush 40, 2), (169, .iload_n 3, 1), (170, .imul, 1), (171, .iload 4, 2), (173, .iadd, 1), (174, .iload 6, 2), (176, .iadd, 1), (177, .aload_n 0, 1), (178, .getfield 49, 3), (181, .iload 6, 2), (183, .iaload, 1), (184, .iastore, 1), (185, .iinc 6 1, 3), (188, .goto (-32), 3), (191, .iload 5, 2), (193, .ireturn, 1)]
/-- SumDoorModel.load(I)I -/
def pg_8_75 : List (Nat × Instr × Nat) := [(0, .aload_n 0, 1), (1, .iload_n 1, 1), (2, .invokevirtual 239, 3), (5, .istore_n 2, 1), (6, .iload_n 2, 1), (7, .ifCond .eq 9, 3), (10, .aload_n 0, 1), (11, .iload_n 2, 1), (12, .invokevirtual 68, 3), (15, .ireturn, 1), (16, .iconst 0, 1), (17, .istore_n 3, 1), (18, .iload_n 3, 1), (19, .aload_n 0, 1), (20, .getfield 43, 3), (23, .iload_n 1, 1), (24, .iaload, 1), (25, .if_icmp .ge 58, 3), (28, .iload_n 3, 1), (29, .bipush 10, 2), (31, .if_icmp .ge 52, 3), (34, .aload_n 0, 1), (35, .getfield 46, 3), (38, .bipush 40, 2), (40, .iload_n 1, 1), (41, .imul, 1), (42, .iload_n 3, 1), (43, .iadd, 1), (44, .iaload, 1), (45, .i2l, 1), (46, .lconst 1, 1), (47, .ldc2_w 61, 3), (50, .invokestatic 57, 3), (53, .ifCond .eq 30, 3), (56, .aload_n 0, 1), (57, .getfield 7, 3), (60, .iload_n 3, 1), (61, .iconst 0, 1), (62, .invokestatic 52, 3), (65, .aload_n 0, 1), (66, .getfield 46, 3), (69, .bipush 40, 2), (71, .iload_n 1, 1), (72, .imul, 1), (73, .iload_n 3, 1), (74, .iadd, 1), (75, .iaload, 1), (76, .iastore, 1), (77, .iinc 3 1, 3), (80, .goto (-62), 3), (83, .iload_n 3, 1), (84, .ireturn, 1)]
/-- SumDoorModel.judge(II)I -/
def pg_8_76 : List (Nat × Instr × Nat) := [(0, .aload_n 0, 1), (1, .iload_n 1, 1), (2, .invokevirtual 239, 3), (5, .istore_n 3, 1), (6, .iload_n 3, 1), (7, .ifCond .eq 9, 3), (10, .aload_n 0, 1), (11, .iload_n 3, 1), (12, .invokevirtual 68, 3), (15, .ireturn, 1), (16, .aload_n 0, 1), (17, .iload_n 2, 1), (18, .invokevirtual 144, 3), (21, .ifCond .ne 10, 3), (24, .aload_n 0, 1), (25, .ldc 56, 2), (27, .invokevirtual 68, 3), (30, .ireturn, 1), (31, .iconst 0, 1), (32, .istore 4, 2), (34, .iconst 0, 1), (35, .istore 5, 2), (37, .iload 5, 2), (39, .bipush 100, 2), (41, .if_icmp .ge 55, 3), (44, .aload_n 0, 1), (45, .iload_n 2, 1), (46, .iload 5, 2), (48, .invokevirtual 140, 3), (51, .ifCond .eq 39, 3), (54, .iload 4, 2), (56, .aload_n 0, 1), (57, .getfield 43, 3), (60, .iload_n 1, 1), (61, .iaload, 1), (62, .if_icmp .eq 20, 3), (65, .aload_n 0, 1), (66, .getfield 46, 3), (69, .bipush 40, 2), (71, .iload_n 1, 1), (72, .imul, 1), (73, .iload 4, 2), (75, .iadd, 1), (76, .iaload, 1), (77, .iload 5, 2), (79, .if_icmp .eq 8, 3), (82, .iconst 1, 1), (83, .iload 4, 2), (85, .iadd, 1), (86, .ireturn, 1), (87, .iinc 4 1, 3), (90, .iinc 5 1, 3), (93, .goto (-56), 3), (96, .iload 4, 2), (98, .aload_n 0, 1), (99, .getfield 43, 3), (102, .iload_n 1, 1), (103, .iaload, 1), (104, .if_icmp .ne 7, 3), (107, .iconst 0, 1), (108, .goto 7, 3), (111, .iconst 1, 1), (112, .iload 4, 2), (114, .iadd, 1), (115, .ireturn, 1)]
/-- SumDoorModel.image()I -/
def pg_8_77 : List (Nat × Instr × Nat) := [(0, .iconst 0, 1), (1, .istore_n 1, 1), (2, .iload_n 1, 1), (3, .sipush 465, 3), (6, .if_icmp .ge 21, 3), (9, .aload_n 0, 1), (10, .getfield 13, 3), (13, .iload_n 1, 1), (14, .aload_n 0, 1), (15, .getfield 7, 3), (18, .iload_n 1, 1), (19, .iaload, 1), (20, .iastore, 1), (21, .iinc 1 1, 3), (24, .goto (-22), 3), (27, .aload_n 0, 1), (28, .iconst 1, 1), (29, .putfield 245, 3), (32, .iconst 1, 1), (33, .ireturn, 1)]
/-- SumDoorModel.undo()I -/
def pg_8_78 : List (Nat × Instr × Nat) := [(0, .aload_n 0, 1), (1, .getfield 245, 3), (4, .ifCond .ne 10, 3), (7, .aload_n 0, 1), (8, .ldc 158, 2), (10, .invokevirtual 68, 3), (13, .ireturn, 1), (14, .iconst 0, 1), (15, .istore_n 1, 1), (16, .iload_n 1, 1), (17, .sipush 465, 3), (20, .if_icmp .ge 21, 3), (23, .aload_n 0, 1), (24, .getfield 7, 3), (27, .iload_n 1, 1), (28, .aload_n 0, 1), (29, .getfield 13, 3), (32, .iload_n 1, 1), (33, .iaload, 1), (34, .iastore, 1), (35, .iinc 1 1, 3), (38, .goto (-22), 3), (41, .aload_n 0, 1), (42, .getfield 7, 3), (45, .iconst 2, 1), (46, .iaload, 1), (47, .ireturn, 1)]
/-- SumDoorModel.tear()I -/
def pg_8_79 : List (Nat × Instr × Nat) := [(0, .aload_n 0, 1), (1, .getfield 245, 3), (4, .ifCond .eq 7, 3), (7, .iconst 1, 1), (8, .goto 4, 3), (11, .iconst 0, 1), (12, .istore_n 1, 1), (13, .aload_n 0, 1), (14, .iconst 0, 1), (15, .putfield 245, 3), (18, .iload_n 1, 1), (19, .ireturn, 1)]
/-- SumDoorModel.count(I)I -/
def pg_8_80 : List (Nat × Instr × Nat) := [(0, .iload_n 1, 1), (1, .tableswitch 100 0 7 #[47, 54, 61, 68, 75, 80, 85, 92], 47), (48, .aload_n 0, 1), (49, .getfield 7, 3), (52, .iconst 0, 1), (53, .iaload, 1), (54, .ireturn, 1), (55, .aload_n 0, 1), (56, .getfield 7, 3), (59, .iconst 1, 1), (60, .iaload, 1), (61, .ireturn, 1), (62, .aload_n 0, 1), (63, .getfield 7, 3), (66, .iconst 2, 1), (67, .iaload, 1), (68, .ireturn, 1), (69, .aload_n 0, 1), (70, .getfield 7, 3), (73, .iconst 3, 1), (74, .iaload, 1), (75, .ireturn, 1), (76, .aload_n 0, 1), (77, .invokevirtual 179, 3), (80, .ireturn, 1), (81, .aload_n 0, 1), (82, .getfield 72, 3), (85, .ireturn, 1), (86, .aload_n 0, 1), (87, .getfield 7, 3), (90, .iconst 4, 1), (91, .iaload, 1), (92, .ireturn, 1), (93, .aload_n 0, 1), (94, .invokevirtual 200, 3), (97, .invokestatic 203, 3), (100, .ireturn, 1), (101, .aload_n 0, 1), (102, .ldc 56, 2), (104, .invokevirtual 68, 3), (107, .ireturn, 1)]
/-- SumDoorModel.status(I)I -/
def pg_8_81 : List (Nat × Instr × Nat) := [(0, .iload_n 1, 1), (1, .i2l, 1), (2, .ldc2_w 248, 3), (5, .ldc2_w 121, 3), (8, .invokestatic 57, 3), (11, .ifCond .ne 10, 3), (14, .aload_n 0, 1), (15, .ldc 56, 2), (17, .invokevirtual 68, 3), (20, .ireturn, 1), (21, .iconst 0, 1), (22, .istore_n 2, 1), (23, .iconst 0, 1), (24, .istore_n 3, 1), (25, .iload_n 3, 1), (26, .bipush 7, 2), (28, .if_icmp .ge 31, 3), (31, .iload_n 2, 1), (32, .iload_n 1, 1), (33, .ifCond .lt 8, 3), (36, .iload_n 3, 1), (37, .iload_n 1, 1), (38, .if_icmp .ne 12, 3), (41, .aload_n 0, 1), (42, .getfield 19, 3), (45, .iload_n 3, 1), (46, .iaload, 1), (47, .goto 4, 3), (50, .iconst 0, 1), (51, .iadd, 1), (52, .istore_n 2, 1), (53, .iinc 3 1, 3), (56, .goto (-31), 3), (59, .iload_n 2, 1), (60, .ireturn, 1)]
/-- SumDoorLaw.law([I)Z -/
def pg_9_0 : List (Nat × Instr × Nat) := [(0, .new 7, 3), (3, .dup, 1), (4, .invokespecial 9, 3), (7, .astore_n 1, 1), (8, .new 10, 3), (11, .dup, 1), (12, .invokespecial 12, 3), (15, .astore_n 2, 1), (16, .iconst 0, 1), (17, .istore_n 3, 1), (18, .iload_n 3, 1), (19, .aload_n 0, 1), (20, .arraylength, 1), (21, .bipush 6, 2), (23, .isub, 1), (24, .if_icmp .gt 1387, 3), (27, .aload_n 0, 1), (28, .iload_n 3, 1), (29, .iaload, 1), (30, .bipush 63, 2), (32, .iand, 1), (33, .tableswitch 1372 0 40 #[179, 212, 225, 258, 291, 334, 377, 410, 443, 476, 499, 542, 575, 598, 621, 644, 677, 700, 713, 726, 759, 782, 815, 838, 871, 894, 937, 960, 993, 1016, 1049, 1082, 1125, 1168, 1231, 1254, 1287, 1300, 1313, 1326, 1349], 179), (212, .aload_n 1, 1), (213, .aload_n 0, 1), (214, .iload_n 3, 1), (215, .iconst 1, 1), (216, .iadd, 1), (217, .iaload, 1), (218, .aload_n 0, 1), (219, .iload_n 3, 1), (220, .iconst 2, 1), (221, .iadd, 1), (222, .iaload, 1), (223, .invokevirtual 13, 3), (226, .aload_n 2, 1), (227, .aload_n 0, 1), (228, .iload_n 3, 1), (229, .iconst 1, 1), (230, .iadd, 1), (231, .iaload, 1), (232, .aload_n 0, 1), (233, .iload_n 3, 1), (234, .iconst 2, 1), (235, .iadd, 1), (236, .iaload, 1), (237, .invokevirtual 17, 3), (240, .if_icmp .eq 1165, 3), (243, .iconst 0, 1), (244, .ireturn, 1), (245, .aload_n 1, 1), (246, .invokevirtual 18, 3), (249, .aload_n 2, 1), (250, .invokevirtual 22, 3), (253, .if_icmp .eq 1152, 3), (256, .iconst 0, 1), (257, .ireturn, 1), (258, .aload_n 1, 1), (259, .aload_n 0, 1), (260, .iload_n 3, 1), (261, .iconst 1, 1), (262, .iadd, 1), (263, .iaload, 1), (264, .aload_n 0, 1), (265, .iload_n 3, 1), (266, .iconst 2, 1), (267, .iadd, 1), (268, .iaload, 1), (269, .invokevirtual 23, 3), (272, .aload_n 2, 1), (273, .aload_n 0, 1), (274, .iload_n 3, 1), (275, .iconst 1, 1), (276, .iadd, 1), (277, .iaload, 1), (278, .aload_n 0, 1), (279, .iload_n 3, 1), (280, .iconst 2, 1), (281, .iadd, 1), (282, .iaload, 1), (283, .invokevirtual 26, 3), (286, .if_icmp .eq 1119, 3), (289, .iconst 0, 1), (290, .ireturn, 1), (291, .aload_n 1, 1), (292, .aload_n 0, 1), (293, .iload_n 3, 1), (294, .iconst 1, 1), (295, .iadd, 1), (296, .iaload, 1), (297, .aload_n 0, 1), (298, .iload_n 3, 1), (299, .iconst 2, 1), (300, .iadd, 1), (301, .iaload, 1), (302, .invokevirtual 27, 3), (305, .aload_n 2, 1), (306, .aload_n 0, 1), (307, .iload_n 3, 1), (308, .iconst 1, 1), (309, .iadd, 1), (310, .iaload, 1), (311, .aload_n 0, 1), (312, .iload_n 3, 1), (313, .iconst 2, 1), (314, .iadd, 1), (315, .iaload, 1), (316, .invokevirtual 30, 3), (319, .if_icmp .eq 1086, 3), (322, .iconst 0, 1), (323, .ireturn, 1), (324, .aload_n 1, 1), (325, .aload_n 0, 1), (326, .iload_n 3, 1), (327, .iconst 1, 1), (328, .iadd, 1), (329, .iaload, 1), (330, .aload_n 0, 1), (331, .iload_n 3, 1), (332, .iconst 2, 1), (333, .iadd, 1), (334, .iaload, 1), (335, .aload_n 0, 1), (336, .iload_n 3, 1), (337, .iconst 3, 1), (338, .iadd, 1), (339, .iaload, 1), (340, .invokevirtual 31, 3), (343, .aload_n 2, 1), (344, .aload_n 0, 1), (345, .iload_n 3, 1), (346, .iconst 1, 1), (347, .iadd, 1), (348, .iaload, 1), (349, .aload_n 0, 1), (350, .iload_n 3, 1), (351, .iconst 2, 1), (352, .iadd, 1), (353, .iaload, 1), (354, .aload_n 0, 1), (355, .iload_n 3, 1), (356, .iconst 3, 1), (357, .iadd, 1), (358, .iaload, 1), (359, .invokevirtual 35, 3), (362, .if_icmp .eq 1043, 3), (365, .iconst 0, 1), (366, .ireturn, 1), (367, .aload_n 1, 1), (368, .aload_n 0, 1), (369, .iload_n 3, 1), (370, .iconst 1, 1), (371, .iadd, 1), (372, .iaload, 1), (373, .aload_n 0, 1), (374, .iload_n 3, 1), (375, .iconst 2, 1), (376, .iadd, 1), (377, .iaload, 1), (378, .aload_n 0, 1), (379, .iload_n 3, 1), (380, .iconst 3, 1), (381, .iadd, 1), (382, .iaload, 1), (383, .invokevirtual 36, 3), (386, .aload_n 2, 1), (387, .aload_n 0, 1), (388, .iload_n 3, 1), (389, .iconst 1, 1), (390, .iadd, 1), (391, .iaload, 1), (392, .aload_n 0, 1), (393, .iload_n 3, 1), (394, .iconst 2, 1), (395, .iadd, 1), (396, .iaload, 1), (397, .aload_n 0, 1), (398, .iload_n 3, 1), (399, .iconst 3, 1), (400, .iadd, 1), (401, .iaload, 1), (402, .invokevirtual 39, 3), (405, .if_icmp .eq 1000, 3), (408, .iconst 0, 1), (409, .ireturn, 1), (410, .aload_n 1, 1), (411, .aload_n 0, 1), (412, .iload_n 3, 1), (413, .iconst 1, 1), (414, .iadd, 1), (415, .iaload, 1), (416, .aload_n 0, 1), (417, .iload_n 3, 1), (418, .iconst 2, 1), (419, .iadd, 1), (420, .iaload, 1), (421, .invokevirtual 40, 3), (424, .aload_n 2, 1), (425, .aload_n 0, 1), (426, .iload_n 3, 1), (427, .iconst 1, 1), (428, .iadd, 1), (429, .iaload, 1), (430, .aload_n 0, 1), (431, .iload_n 3, 1), (432, .iconst 2, 1), (433, .iadd, 1), (434, .iaload, 1), (435, .invokevirtual 43, 3), (438, .if_icmp .eq 967, 3), (441, .iconst 0, 1), (442, .ireturn, 1), (443, .aload_n 1, 1), (444, .aload_n 0, 1), (445, .iload_n 3, 1), (446, .iconst 1, 1), (447, .iadd, 1), (448, .iaload, 1), (449, .aload_n 0, 1), (450, .iload_n 3, 1), (451, .iconst 2, 1), (452, .iadd, 1), (453, .iaload, 1), (454, .invokevirtual 44, 3), (457, .aload_n 2, 1), (458, .aload_n 0, 1), (459, .iload_n 3, 1), (460, .iconst 1, 1), (461, .iadd, 1), (462, .iaload, 1), (463, .aload_n 0, 1), (464, .iload_n 3, 1), (465, .iconst 2, 1), (466, .iadd, 1), (467, .iaload, 1), (468, .invokevirtual 47, 3), (471, .if_icmp .eq 934, 3), (474, .iconst 0, 1), (475, .ireturn, 1), (476, .aload_n 1, 1), (477, .aload_n 0, 1), (478, .iload_n 3, 1), (479, .iconst 1, 1), (480, .iadd, 1), (481, .iaload, 1), (482, .aload_n 0, 1), (483, .iload_n 3, 1), (484, .iconst 2, 1), (485, .iadd, 1), (486, .iaload, 1), (487, .invokevirtual 48, 3), (490, .aload_n 2, 1), (491, .aload_n 0, 1), (492, .iload_n 3, 1), (493, .iconst 1, 1), (494, .iadd, 1), (495, .iaload, 1), (496, .aload_n 0, 1), (497, .iload_n 3, 1), (498, .iconst 2, 1), (499, .iadd, 1), (500, .iaload, 1), (501, .invokevirtual 51, 3), (504, .if_icmp .eq 901, 3), (507, .iconst 0, 1), (508, .ireturn, 1), (509, .aload_n 1, 1), (510, .aload_n 0, 1), (511, .iload_n 3, 1), (512, .iconst 1, 1), (513, .iadd, 1), (514, .iaload, 1), (515, .invokevirtual 52, 3), (518, .aload_n 2, 1), (519, .aload_n 0, 1), (520, .iload_n 3, 1), (521, .iconst 1, 1), (522, .iadd, 1), (523, .iaload, 1), (524, .invokevirtual 56, 3), (527, .if_icmp .eq 878, 3), (530, .iconst 0, 1), (531, .ireturn, 1), (532, .aload_n 1, 1), (533, .aload_n 0, 1), (534, .iload_n 3, 1), (535, .iconst 1, 1), (536, .iadd, 1), (537, .iaload, 1), (538, .aload_n 0, 1), (539, .iload_n 3, 1), (540, .iconst 2, 1), (541, .iadd, 1), (542, .iaload, 1), (543, .aload_n 0, 1), (544, .iload_n 3, 1), (545, .iconst 3, 1), (546, .iadd, 1), (547, .iaload, 1), (548, .invokevirtual 57, 3), (551, .aload_n 2, 1), (552, .aload_n 0, 1), (553, .iload_n 3, 1), (554, .iconst 1, 1), (555, .iadd, 1), (556, .iaload, 1), (557, .aload_n 0, 1), (558, .iload_n 3, 1), (559, .iconst 2, 1), (560, .iadd, 1), (561, .iaload, 1), (562, .aload_n 0, 1), (563, .iload_n 3, 1), (564, .iconst 3, 1), (565, .iadd, 1), (566, .iaload, 1), (567, .invokevirtual 60, 3), (570, .if_icmp .eq 835, 3), (573, .iconst 0, 1), (574, .ireturn, 1), (575, .aload_n 1, 1), (576, .aload_n 0, 1), (577, .iload_n 3, 1), (578, .iconst 1, 1), (579, .iadd, 1), (580, .iaload, 1), (581, .aload_n 0, 1), (582, .iload_n 3, 1), (583, .iconst 2, 1), (584, .iadd, 1), (585, .iaload, 1), (586, .invokevirtual 61, 3), (589, .aload_n 2, 1), (590, .aload_n 0, 1), (591, .iload_n 3, 1), (592, .iconst 1, 1), (593, .iadd, 1), (594, .iaload, 1), (595, .aload_n 0, 1), (596, .iload_n 3, 1), (597, .iconst 2, 1), (598, .iadd, 1), (599, .iaload, 1), (600, .invokevirtual 64, 3), (603, .if_icmp .eq 802, 3), (606, .iconst 0, 1), (607, .ireturn, 1), (608, .aload_n 1, 1), (609, .aload_n 0, 1), (610, .iload_n 3, 1), (611, .iconst 1, 1), (612, .iadd, 1), (613, .iaload, 1), (614, .invokevirtual 65, 3), (617, .aload_n 2, 1), (618, .aload_n 0, 1), (619, .iload_n 3, 1), (620, .iconst 1, 1), (621, .iadd, 1), (622, .iaload, 1), (623, .invokevirtual 68, 3), (626, .if_icmp .eq 779, 3), (629, .iconst 0, 1), (630, .ireturn, 1), (631, .aload_n 1, 1), (632, .aload_n 0, 1), (633, .iload_n 3, 1), (634, .iconst 1, 1), (635, .iadd, 1), (636, .iaload, 1), (637, .invokevirtual 69, 3), (640, .aload_n 2, 1), (641, .aload_n 0, 1), (642, .iload_n 3, 1), (643, .iconst 1, 1), (644, .iadd, 1), (645, .iaload, 1), (646, .invokevirtual 72, 3), (649, .if_icmp .eq 756, 3), (652, .iconst 0, 1), (653, .ireturn, 1), (654, .aload_n 1, 1), (655, .aload_n 0, 1), (656, .iload_n 3, 1), (657, .iconst 1, 1), (658, .iadd, 1), (659, .iaload, 1), (660, .invokevirtual 73, 3), (663, .aload_n 2, 1), (664, .aload_n 0, 1), (665, .iload_n 3, 1), (666, .iconst 1, 1), (667, .iadd, 1), (668, .iaload, 1), (669, .invokevirtual 76, 3), (672, .if_icmp .eq 733, 3), (675, .iconst 0, 1), (676, .ireturn, 1), (677, .aload_n 1, 1), (678, .aload_n 0, 1), (679, .iload_n 3, 1), (680, .iconst 1, 1), (681, .iadd, 1), (682, .iaload, 1), (683, .aload_n 0, 1), (684, .iload_n 3, 1), (685, .iconst 2, 1), (686, .iadd, 1), (687, .iaload, 1), (688, .invokevirtual 77, 3), (691, .aload_n 2, 1), (692, .aload_n 0, 1), (693, .iload_n 3, 1), (694, .iconst 1, 1), (695, .iadd, 1), (696, .iaload, 1), (697, .aload_n 0, 1), (698, .iload_n 3, 1), (699, .iconst 2, 1), (700, .iadd, 1), (701, .iaload, 1), (702, .invokevirtual 80, 3), (705, .if_icmp .eq 700, 3), (708, .iconst 0, 1), (709, .ireturn, 1), (710, .aload_n 1, 1), (711, .aload_n 0, 1), (712, .iload_n 3, 1), (713, .iconst 1, 1), (714, .iadd, 1), (715, .iaload, 1), (716, .invokevirtual 81, 3), (719, .aload_n 2, 1), (720, .aload_n 0, 1), (721, .iload_n 3, 1), (722, .iconst 1, 1), (723, .iadd, 1), (724, .iaload, 1), (725, .invokevirtual 84, 3), (728, .if_icmp .eq 677, 3), (731, .iconst 0, 1), (732, .ireturn, 1), (733, .aload_n 1, 1), (734, .invokevirtual 85, 3), (737, .aload_n 2, 1), (738, .invokevirtual 88, 3), (741, .if_icmp .eq 664, 3), (744, .iconst 0, 1), (745, .ireturn, 1), (746, .aload_n 1, 1), (747, .invokevirtual 89, 3), (750, .aload_n 2, 1), (751, .invokevirtual 92, 3), (754, .if_icmp .eq 651, 3), (757, .iconst 0, 1), (758, .ireturn, 1), (759, .aload_n 1, 1), (760, .aload_n 0, 1), (761, .iload_n 3, 1), (762, .iconst 1, 1), (763, .iadd, 1), (764, .iaload, 1), (765, .aload_n 0, 1), (766, .iload_n 3, 1), (767, .iconst 2, 1), (768, .iadd, 1), (769, .iaload, 1), (770, .invokevirtual 93, 3), (773, .aload_n 2, 1), (774, .aload_n 0, 1), (775, .iload_n 3, 1), (776, .iconst 1, 1), (777, .iadd, 1), (778, .iaload, 1), (779, .aload_n 0, 1), (780, .iload_n 3, 1), (781, .iconst 2, 1), (782, .iadd, 1), (783, .iaload, 1), (784, .invokevirtual 96, 3), (787, .if_icmp .eq 618, 3), (790, .iconst 0, 1), (791, .ireturn, 1), (792, .aload_n 1, 1), (793, .aload_n 0, 1), (794, .iload_n 3, 1), (795, .iconst 1, 1), (796, .iadd, 1), (797, .iaload, 1), (798, .invokevirtual 97, 3), (801, .aload_n 2, 1), (802, .aload_n 0, 1), (803, .iload_n 3, 1), (804, .iconst 1, 1), (805, .iadd, 1), (806, .iaload, 1), (807, .invokevirtual 100, 3), (810, .if_icmp .eq 595, 3), (813, .iconst 0, 1), (814, .ireturn, 1), (815, .aload_n 1, 1), (816, .aload_n 0, 1), (817, .iload_n 3, 1), (818, .iconst 1, 1), (819, .iadd, 1), (820, .iaload, 1), (821, .aload_n 0, 1), (822, .iload_n 3, 1), (823, .iconst 2, 1), (824, .iadd, 1), (825, .iaload, 1), (826, .invokevirtual 101, 3), (829, .aload_n 2, 1), (830, .aload_n 0, 1), (831, .iload_n 3, 1), (832, .iconst 1, 1), (833, .iadd, 1), (834, .iaload, 1), (835, .aload_n 0, 1), (836, .iload_n 3, 1), (837, .iconst 2, 1), (838, .iadd, 1), (839, .iaload, 1), (840, .invokevirtual 104, 3), (843, .if_icmp .eq 562, 3), (846, .iconst 0, 1), (847, .ireturn, 1), (848, .aload_n 1, 1), (849, .aload_n 0, 1), (850, .iload_n 3, 1), (851, .iconst 1, 1), (852, .iadd, 1), (853, .iaload, 1), (854, .invokevirtual 105, 3), (857, .aload_n 2, 1), (858, .aload_n 0, 1), (859, .iload_n 3, 1), (860, .iconst 1, 1), (861, .iadd, 1), (862, .iaload, 1), (863, .invokevirtual 108, 3), (866, .if_icmp .eq 539, 3), (869, .iconst 0, 1), (870, .ireturn, 1), (871, .aload_n 1, 1), (872, .aload_n 0, 1), (873, .iload_n 3, 1), (874, .iconst 1, 1), (875, .iadd, 1), (876, .iaload, 1), (877, .aload_n 0, 1), (878, .iload_n 3, 1), (879, .iconst 2, 1), (880, .iadd, 1), (881, .iaload, 1), (882, .invokevirtual 109, 3), (885, .aload_n 2, 1), (886, .aload_n 0, 1), (887, .iload_n 3, 1), (888, .iconst 1, 1), (889, .iadd, 1), (890, .iaload, 1), (891, .aload_n 0, 1), (892, .iload_n 3, 1), (893, .iconst 2, 1), (894, .iadd, 1), (895, .iaload, 1), (896, .invokevirtual 112, 3), (899, .if_icmp .eq 506, 3), (902, .iconst 0, 1), (903, .ireturn, 1), (904, .aload_n 1, 1), (905, .aload_n 0, 1), (906, .iload_n 3, 1), (907, .iconst 1, 1), (908, .iadd, 1), (909, .iaload, 1), (910, .invokevirtual 113, 3), (913, .aload_n 2, 1), (914, .aload_n 0, 1), (915, .iload_n 3, 1), (916, .iconst 1, 1), (917, .iadd, 1), (918, .iaload, 1), (919, .invokevirtual 116, 3), (922, .if_icmp .eq 483, 3), (925, .iconst 0, 1), (926, .ireturn, 1), (927, .aload_n 1, 1), (928, .aload_n 0, 1), (929, .iload_n 3, 1), (930, .iconst 1, 1), (931, .iadd, 1), (932, .iaload, 1), (933, .aload_n 0, 1), (934, .iload_n 3, 1), (935, .iconst 2, 1), (936, .iadd, 1), (937, .iaload, 1), (938, .aload_n 0, 1), (939, .iload_n 3, 1), (940, .iconst 3, 1), (941, .iadd, 1), (942, .iaload, 1), (943, .invokevirtual 117, 3), (946, .aload_n 2, 1), (947, .aload_n 0, 1), (948, .iload_n 3, 1), (949, .iconst 1, 1), (950, .iadd, 1), (951, .iaload, 1), (952, .aload_n 0, 1), (953, .iload_n 3, 1), (954, .iconst 2, 1), (955, .iadd, 1), (956, .iaload, 1), (957, .aload_n 0, 1), (958, .iload_n 3, 1), (959, .iconst 3, 1), (960, .iadd, 1), (961, .iaload, 1), (962, .invokevirtual 120, 3), (965, .if_icmp .eq 440, 3), (968, .iconst 0, 1), (969, .ireturn, 1), (970, .aload_n 1, 1), (971, .aload_n 0, 1), (972, .iload_n 3, 1), (973, .iconst 1, 1), (974, .iadd, 1), (975, .iaload, 1), (976, .invokevirtual 121, 3), (979, .aload_n 2, 1), (980, .aload_n 0, 1), (981, .iload_n 3, 1), (982, .iconst 1, 1), (983, .iadd, 1), (984, .iaload, 1), (985, .invokevirtual 124, 3), (988, .if_icmp .eq 417, 3), (991, .iconst 0, 1), (992, .ireturn, 1), (993, .aload_n 1, 1), (994, .aload_n 0, 1), (995, .iload_n 3, 1), (996, .iconst 1, 1), (997, .iadd, 1), (998, .iaload, 1), (999, .aload_n 0, 1), (1000, .iload_n 3, 1), (1001, .iconst 2, 1), (1002, .iadd, 1), (1003, .iaload, 1), (1004, .invokevirtual 125, 3), (1007, .aload_n 2, 1), (1008, .aload_n 0, 1), (1009, .iload_n 3, 1), (1010, .iconst 1, 1), (1011, .iadd, 1), (1012, .iaload, 1), (1013, .aload_n 0, 1), (1014, .iload_n 3, 1), (1015, .iconst 2, 1), (1016, .iadd, 1), (1017, .iaload, 1), (1018, .invokevirtual 128, 3), (1021, .if_icmp .eq 384, 3), (1024, .iconst 0, 1), (1025, .ireturn, 1), (1026, .aload_n 1, 1), (1027, .aload_n 0, 1), (1028, .iload_n 3, 1), (1029, .iconst 1, 1), (1030, .iadd, 1), (1031, .iaload, 1), (1032, .invokevirtual 129, 3), (1035, .aload_n 2, 1), (1036, .aload_n 0, 1), (1037, .iload_n 3, 1), (1038, .iconst 1, 1), (1039, .iadd, 1), (1040, .iaload, 1), (1041, .invokevirtual 132, 3), (1044, .if_icmp .eq 361, 3), (1047, .iconst 0, 1), (1048, .ireturn, 1), (1049, .aload_n 1, 1), (1050, .aload_n 0, 1), (1051, .iload_n 3, 1), (1052, .iconst 1, 1), (1053, .iadd, 1), (1054, .iaload, 1), (1055, .aload_n 0, 1), (1056, .iload_n 3, 1), (1057, .iconst 2, 1), (1058, .iadd, 1), (1059, .iaload, 1), (1060, .invokevirtual 133, 3), (1063, .aload_n 2, 1), (1064, .aload_n 0, 1), (1065, .iload_n 3, 1), (1066, .iconst 1, 1), (1067, .iadd, 1), (1068, .iaload, 1), (1069, .aload_n 0, 1), (1070, .iload_n 3, 1), (1071, .iconst 2, 1), (1072, .iadd, 1), (1073, .iaload, 1), (1074, .invokevirtual 136, 3), (1077, .if_icmp .eq 328, 3), (1080, .iconst 0, 1), (1081, .ireturn, 1), (1082, .aload_n 1, 1), (1083, .aload_n 0, 1), (1084, .iload_n 3, 1), (1085, .iconst 1, 1), (1086, .iadd, 1), (1087, .iaload, 1), (1088, .aload_n 0, 1), (1089, .iload_n 3, 1), (1090, .iconst 2, 1), (1091, .iadd, 1), (1092, .iaload, 1), (1093, .invokevirtual 137, 3), (1096, .aload_n 2, 1), (1097, .aload_n 0, 1), (1098, .iload_n 3, 1), (1099, .iconst 1, 1), (1100, .iadd, 1), (1101, .iaload, 1), (1102, .aload_n 0, 1), (1103, .iload_n 3, 1), (1104, .iconst 2, 1), (1105, .iadd, 1), (1106, .iaload, 1), (1107, .invokevirtual 140, 3), (1110, .if_icmp .eq 295, 3), (1113, .iconst 0, 1), (1114, .ireturn, 1), (1115, .aload_n 1, 1), (1116, .aload_n 0, 1), (1117, .iload_n 3, 1), (1118, .iconst 1, 1), (1119, .iadd, 1), (1120, .iaload, 1), (1121, .aload_n 0, 1), (1122, .iload_n 3, 1), (1123, .iconst 2, 1), (1124, .iadd, 1), (1125, .iaload, 1), (1126, .aload_n 0, 1), (1127, .iload_n 3, 1), (1128, .iconst 3, 1), (1129, .iadd, 1), (1130, .iaload, 1), (1131, .invokevirtual 141, 3), (1134, .aload_n 2, 1), (1135, .aload_n 0, 1), (1136, .iload_n 3, 1), (1137, .iconst 1, 1), (1138, .iadd, 1), (1139, .iaload, 1), (1140, .aload_n 0, 1), (1141, .iload_n 3, 1), (1142, .iconst 2, 1), (1143, .iadd, 1), (1144, .iaload, 1), (1145, .aload_n 0, 1), (1146, .iload_n 3, 1), (1147, .iconst 3, 1), (1148, .iadd, 1), (1149, .iaload, 1), (1150, .invokevirtual 144, 3), (1153, .if_icmp .eq 252, 3), (1156, .iconst 0, 1), (1157, .ireturn, 1), (1158, .aload_n 1, 1), (1159, .aload_n 0, 1), (1160, .iload_n 3, 1), (1161, .iconst 1, 1), (1162, .iadd, 1), (1163, .iaload, 1), (1164, .aload_n 0, 1), (1165, .iload_n 3, 1), (1166, .iconst 2, 1), (1167, .iadd, 1), (1168, .iaload, 1), (1169, .aload_n 0, 1), (1170, .iload_n 3, 1), (1171, .iconst 3, 1), (1172, .iadd, 1), (1173, .iaload, 1), (1174, .invokevirtual 145, 3), (1177, .aload_n 2, 1), (1178, .aload_n 0, 1), (1179, .iload_n 3, 1), (1180, .iconst 1, 1), (1181, .iadd, 1), (1182, .iaload, 1), (1183, .aload_n 0, 1), (1184, .iload_n 3, 1), (1185, .iconst 2, 1), (1186, .iadd, 1), (1187, .iaload, 1), (1188, .aload_n 0, 1), (1189, .iload_n 3, 1), (1190, .iconst 3, 1), (1191, .iadd, 1), (1192, .iaload, 1), (1193, .invokevirtual 148, 3), (1196, .if_icmp .eq 209, 3), (1199, .iconst 0, 1), (1200, .ireturn, 1), (1201, .aload_n 1, 1), (1202, .aload_n 0, 1), (1203, .iload_n 3, 1), (1204, .iconst 1, 1), (1205, .iadd, 1), (1206, .iaload, 1), (1207, .aload_n 0, 1), (1208, .iload_n 3, 1), (1209, .iconst 2, 1), (1210, .iadd, 1), (1211, .iaload, 1), (1212, .aload_n 0, 1), (1213, .iload_n 3, 1), (1214, .iconst 3, 1), (1215, .iadd, 1), (1216, .iaload, 1), (1217, .aload_n 0, 1), (1218, .iload_n 3, 1), (1219, .iconst 4, 1), (1220, .iadd, 1), (1221, .iaload, 1), (1222, .aload_n 0, 1), (1223, .iload_n 3, 1), (1224, .iconst 5, 1), (1225, .iadd, 1), (1226, .iaload, 1), (1227, .invokevirtual 149, 3), (1230, .aload_n 2, 1), (1231, .aload_n 0, 1), (1232, .iload_n 3, 1), (1233, .iconst 1, 1), (1234, .iadd, 1), (1235, .iaload, 1), (1236, .aload_n 0, 1), (1237, .iload_n 3, 1), (1238, .iconst 2, 1), (1239, .iadd, 1), (1240, .iaload, 1), (1241, .aload_n 0, 1), (1242, .iload_n 3, 1), (1243, .iconst 3, 1), (1244, .iadd, 1), (1245, .iaload, 1), (1246, .aload_n 0, 1), (1247, .iload_n 3, 1), (1248, .iconst 4, 1), (1249, .iadd, 1), (1250, .iaload, 1), (1251, .aload_n 0, 1), (1252, .iload_n 3, 1), (1253, .iconst 5, 1), (1254, .iadd, 1), (1255, .iaload, 1), (1256, .invokevirtual 153, 3), (1259, .if_icmp .eq 146, 3), (1262, .iconst 0, 1), (1263, .ireturn, 1), (1264, .aload_n 1, 1), (1265, .aload_n 0, 1), (1266, .iload_n 3, 1), (1267, .iconst 1, 1), (1268, .iadd, 1), (1269, .iaload, 1), (1270, .invokevirtual 154, 3), (1273, .aload_n 2, 1), (1274, .aload_n 0, 1), (1275, .iload_n 3, 1), (1276, .iconst 1, 1), (1277, .iadd, 1), (1278, .iaload, 1), (1279, .invokevirtual 157, 3), (1282, .if_icmp .eq 123, 3), (1285, .iconst 0, 1), (1286, .ireturn, 1), (1287, .aload_n 1, 1), (1288, .aload_n 0, 1), (1289, .iload_n 3, 1), (1290, .iconst 1, 1), (1291, .iadd, 1), (1292, .iaload, 1), (1293, .aload_n 0, 1), (1294, .iload_n 3, 1), (1295, .iconst 2, 1), (1296, .iadd, 1), (1297, .iaload, 1), (1298, .invokevirtual 158, 3), (1301, .aload_n 2, 1), (1302, .aload_n 0, 1), (1303, .iload_n 3, 1), (1304, .iconst 1, 1), (1305, .iadd, 1), (1306, .iaload, 1), (1307, .aload_n 0, 1), (1308, .iload_n 3, 1), (1309, .iconst 2, 1), (1310, .iadd, 1), (1311, .iaload, 1), (1312, .invokevirtual 161, 3), (1315, .if_icmp .eq 90, 3), (1318, .iconst 0, 1), (1319, .ireturn, 1), (1320, .aload_n 1, 1), (1321, .invokevirtual 162, 3), (1324, .aload_n 2, 1), (1325, .invokevirtual 165, 3), (1328, .if_icmp .eq 77, 3), (1331, .iconst 0, 1), (1332, .ireturn, 1), (1333, .aload_n 1, 1), (1334, .invokevirtual 166, 3), (1337, .aload_n 2, 1), (1338, .invokevirtual 169, 3), (1341, .if_icmp .eq 64, 3), (1344, .iconst 0, 1), (1345, .ireturn, 1), (1346, .aload_n 1, 1), (1347, .invokevirtual 170, 3), (1350, .aload_n 2, 1), (1351, .invokevirtual 173, 3), (1354, .if_icmp .eq 51, 3), (1357, .iconst 0, 1), (1358, .ireturn, 1), (1359, .aload_n 1, 1), (1360, .aload_n 0, 1), (1361, .iload_n 3, 1), (1362, .iconst 1, 1), (1363, .iadd, 1), (1364, .iaload, 1), (1365, .invokevirtual 174, 3), (1368, .aload_n 2, 1), (1369, .aload_n 0, 1), (1370, .iload_n 3, 1), (1371, .iconst 1, 1), (1372, .iadd, 1), (1373, .iaload, 1), (1374, .invokevirtual 177, 3), (1377, .if_icmp .eq 28, 3), (1380, .iconst 0, 1), (1381, .ireturn, 1), (1382, .aload_n 1, 1), (1383, .aload_n 0, 1), (1384, .iload_n 3, 1), (1385, .iconst 1, 1), (1386, .iadd, 1), (1387, .iaload, 1), (1388, .invokevirtual 178, 3), (1391, .aload_n 2, 1), (1392, .aload_n 0, 1), (1393, .iload_n 3, 1), (1394, .iconst 1, 1), (1395, .iadd, 1), (1396, .iaload, 1), (1397, .invokevirtual 181, 3), (1400, .if_icmp .eq 5, 3), (1403, .iconst 0, 1), (1404, .ireturn, 1), (1405, .iinc 3 6, 3), (1408, .goto (-1390), 3), (1411, .iconst 1, 1), (1412, .ireturn, 1)]
/-- java/lang/Integer.bitCount(I)I -/
def pg_10_0 : List (Nat × Instr × Nat) := [(0, .iload_n 0, 1), (1, .iload_n 0, 1), (2, .iconst 1, 1), (3, .iushr, 1), (4, .ldc_w 265, 3), (7, .iand, 1), (8, .isub, 1), (9, .istore_n 0, 1), (10, .iload_n 0, 1), (11, .ldc_w 266, 3), (14, .iand, 1), (15, .iload_n 0, 1), (16, .iconst 2, 1), (17, .iushr, 1), (18, .ldc_w 266, 3), (21, .iand, 1), (22, .iadd, 1), (23, .istore_n 0, 1), (24, .iload_n 0, 1), (25, .iload_n 0, 1), (26, .iconst 4, 1), (27, .iushr, 1), (28, .iadd, 1), (29, .ldc_w 267, 3), (32, .iand, 1), (33, .istore_n 0, 1), (34, .iload_n 0, 1), (35, .iload_n 0, 1), (36, .bipush 8, 2), (38, .iushr, 1), (39, .iadd, 1), (40, .istore_n 0, 1), (41, .iload_n 0, 1), (42, .iload_n 0, 1), (43, .bipush 16, 2), (45, .iushr, 1), (46, .iadd, 1), (47, .istore_n 0, 1), (48, .iload_n 0, 1), (49, .bipush 63, 2), (51, .iand, 1), (52, .ireturn, 1)]
/-- java/lang/Math.max(II)I -/
def pg_11_0 : List (Nat × Instr × Nat) := [(0, .iload_n 0, 1), (1, .iload_n 1, 1), (2, .if_icmp .lt 7, 3), (5, .iload_n 0, 1), (6, .goto 4, 3), (9, .iload_n 1, 1), (10, .ireturn, 1)]
/-- java/lang/Math.min(II)I -/
def pg_11_1 : List (Nat × Instr × Nat) := [(0, .iload_n 0, 1), (1, .iload_n 1, 1), (2, .if_icmp .gt 7, 3), (5, .iload_n 0, 1), (6, .goto 4, 3), (9, .iload_n 1, 1), (10, .ireturn, 1)]
/-- java/util/Arrays.fill([II)V -/
def pg_12_0 : List (Nat × Instr × Nat) := [(0, .iconst 0, 1), (1, .istore_n 2, 1), (2, .aload_n 0, 1), (3, .arraylength, 1), (4, .istore_n 3, 1), (5, .iload_n 2, 1), (6, .iload_n 3, 1), (7, .if_icmp .ge 13, 3), (10, .aload_n 0, 1), (11, .iload_n 2, 1), (12, .iload_n 1, 1), (13, .iastore, 1), (14, .iinc 2 1, 3), (17, .goto (-12), 3), (20, .return_, 1)]
def mt_0 : List MD := [(⟨"SumDoor$Gaol", "<init>", "()V"⟩, prog_2_method_1_code, 2, none, pg_0_0),
  (⟨"SumDoor$Gaol", "row", "(I)[I"⟩, prog_2_method_2_code, 2, (some (FieldType.array FieldType.int)), pg_0_1),
  (⟨"SumDoor$Gaol", "become", "(LSumDoor$Gaol;)V"⟩, prog_2_method_3_code, 3, none, pg_0_2),
  (⟨"SumDoor$Gaol", "beginDay", "(I)V"⟩, prog_2_method_4_code, 2, none, pg_0_3),
  (⟨"SumDoor$Gaol", "outSet", "()I"⟩, prog_2_method_5_code, 1, (some FieldType.int), pg_0_4),
  (⟨"SumDoor$Gaol", "maySet", "()I"⟩, prog_2_method_6_code, 1, (some FieldType.int), pg_0_5),
  (⟨"SumDoor$Gaol", "answerSet", "()I"⟩, prog_2_method_7_code, 1, (some FieldType.int), pg_0_6),
  (⟨"SumDoor$Gaol", "setOf", "([II)I"⟩, prog_2_method_8_code, 4, (some FieldType.int), pg_0_7),
  (⟨"SumDoor$Gaol", "allChalk", "()I"⟩, prog_2_method_9_code, 3, (some FieldType.int), pg_0_8),
  (⟨"SumDoor$Gaol", "give", "(II)V"⟩, prog_2_method_10_code, 3, none, pg_0_9),
  (⟨"SumDoor$Gaol", "teach", "(II)V"⟩, prog_2_method_11_code, 3, none, pg_0_10),
  (⟨"SumDoor$Gaol", "goOn", "(LSumDoor$Sums;I)V"⟩, prog_2_method_12_code, 8, none, pg_0_11),
  (⟨"SumDoor$Gaol", "seeks", "(I)Z"⟩, prog_2_method_13_code, 2, (some FieldType.boolean), pg_0_12),
  (⟨"SumDoor$Gaol", "sells", "(I)Z"⟩, prog_2_method_14_code, 2, (some FieldType.boolean), pg_0_13),
  (⟨"SumDoor$Gaol", "workOn", "(ILSumDoor$Sums;I)V"⟩, prog_2_method_15_code, 5, none, pg_0_14),
  (⟨"SumDoor$Gaol", "buy", "(I)V"⟩, prog_2_method_16_code, 3, none, pg_0_15),
  (⟨"SumDoor$Gaol", "cheapest", "()I"⟩, prog_2_method_17_code, 3, (some FieldType.int), pg_0_16),
  (⟨"SumDoor$Gaol", "readLips", "(II)V"⟩, prog_2_method_18_code, 4, none, pg_0_17),
  (⟨"SumDoor$Gaol", "firstIn", "(II)I"⟩, prog_2_method_19_code, 4, (some FieldType.int), pg_0_18),
  (⟨"SumDoor$Gaol", "goOut", "(I)V"⟩, prog_2_method_20_code, 2, none, pg_0_19)]
def mt_1 : List MD := [(⟨"SumDoor$Sheet", "<init>", "()V"⟩, prog_3_method_1_code, 1, none, pg_1_0),
  (⟨"SumDoor$Sheet", "isMissing", "()Z"⟩, prog_3_method_2_code, 1, (some FieldType.boolean), pg_1_1),
  (⟨"SumDoor$Sheet", "begin", "(II)V"⟩, prog_3_method_3_code, 3, none, pg_1_2),
  (⟨"SumDoor$Sheet", "put", "(II)V"⟩, prog_3_method_4_code, 3, none, pg_1_3),
  (⟨"SumDoor$Sheet", "cut", "(I)I"⟩, prog_3_method_5_code, 2, (some FieldType.int), pg_1_4),
  (⟨"SumDoor$Sheet", "hasRun", "(II)Z"⟩, prog_3_method_6_code, 3, (some FieldType.boolean), pg_1_5)]
def mt_2 : List MD := [(⟨"SumDoor$Side", "<init>", "([III)V"⟩, prog_4_method_1_code, 7, none, pg_2_0),
  (⟨"SumDoor$Side", "takeSign", "(I)V"⟩, prog_4_method_2_code, 2, none, pg_2_1),
  (⟨"SumDoor$Side", "takeWaiting", "(I)V"⟩, prog_4_method_3_code, 2, none, pg_2_2),
  (⟨"SumDoor$Side", "rank", "(I)I"⟩, prog_4_method_4_code, 1, (some FieldType.int), pg_2_3),
  (⟨"SumDoor$Side", "addStep", "(I)V"⟩, prog_4_method_5_code, 2, none, pg_2_4),
  (⟨"SumDoor$Side", "lengthenNumber", "(I)V"⟩, prog_4_method_6_code, 2, none, pg_2_5),
  (⟨"SumDoor$Side", "push", "(I)V"⟩, prog_4_method_7_code, 2, none, pg_2_6),
  (⟨"SumDoor$Side", "worth", "(I)I"⟩, prog_4_method_8_code, 4, (some FieldType.int), pg_2_7),
  (⟨"SumDoor$Side", "joined", "(III)I"⟩, prog_4_method_9_code, 3, (some FieldType.int), pg_2_8)]
def mt_3 : List MD := [(⟨"SumDoor$Sums", "<init>", "()V"⟩, prog_5_method_1_code, 1, none, pg_3_0),
  (⟨"SumDoor$Sums", "has", "(I)Z"⟩, prog_5_method_2_code, 2, (some FieldType.boolean), pg_3_1),
  (⟨"SumDoor$Sums", "add", "(LSumDoor$Text;II)I"⟩, prog_5_method_3_code, 5, (some FieldType.int), pg_3_2),
  (⟨"SumDoor$Sums", "become", "(LSumDoor$Sums;)V"⟩, prog_5_method_4_code, 3, none, pg_3_3),
  (⟨"SumDoor$Sums", "hardOf", "(I)I"⟩, prog_5_method_5_code, 3, (some FieldType.int), pg_3_4),
  (⟨"SumDoor$Sums", "sideOf", "(III)I"⟩, prog_5_method_6_code, 4, (some FieldType.int), pg_3_5),
  (⟨"SumDoor$Sums", "isSolvedBy", "(II)Z"⟩, prog_5_method_7_code, 3, (some FieldType.boolean), pg_3_6),
  (⟨"SumDoor$Sums", "solversOf", "(II)I"⟩, prog_5_method_8_code, 5, (some FieldType.int), pg_3_7),
  (⟨"SumDoor$Sums", "isSolvedWith", "(III)Z"⟩, prog_5_method_9_code, 6, (some FieldType.boolean), pg_3_8),
  (⟨"SumDoor$Sums", "isMultiple", "(II)Z"⟩, prog_5_method_10_code, 2, (some FieldType.boolean), pg_3_9)]
def mt_4 : List MD := [(⟨"SumDoor$Tape", "<init>", "()V"⟩, prog_6_method_1_code, 1, none, pg_4_0),
  (⟨"SumDoor$Tape", "add", "(I)V"⟩, prog_6_method_2_code, 2, none, pg_4_1),
  (⟨"SumDoor$Tape", "fault", "()I"⟩, prog_6_method_3_code, 3, (some FieldType.int), pg_4_2),
  (⟨"SumDoor$Tape", "beginsOperand", "(I)Z"⟩, prog_6_method_4_code, 2, (some FieldType.boolean), pg_4_3),
  (⟨"SumDoor$Tape", "followsOperand", "(I)Z"⟩, prog_6_method_5_code, 3, (some FieldType.boolean), pg_4_4),
  (⟨"SumDoor$Tape", "isDigit", "(I)Z"⟩, prog_6_method_6_code, 1, (some FieldType.boolean), pg_4_5),
  (⟨"SumDoor$Tape", "isOperator", "(I)Z"⟩, prog_6_method_7_code, 1, (some FieldType.boolean), pg_4_6)]
def mt_5 : List MD := [(⟨"SumDoor$Text", "<init>", "(LSumDoor$Tape;)V"⟩, prog_7_method_1_code, 6, none, pg_5_0)]
def mt_6 : List MD := [(⟨"SumDoor$World", "<init>", "()V"⟩, prog_8_method_1_code, 1, none, pg_6_0),
  (⟨"SumDoor$World", "become", "(LSumDoor$World;)V"⟩, prog_8_method_2_code, 2, none, pg_6_1),
  (⟨"SumDoor$World", "draw", "()I"⟩, prog_8_method_3_code, 1, (some FieldType.int), pg_6_2)]
def mt_7 : List MD := [(⟨"SumDoor", "<init>", "()V"⟩, prog_1_method_1_code, 2, none, pg_7_0),
  (⟨"SumDoor", "feed", "(II)I"⟩, prog_1_method_2_code, 4, (some FieldType.int), pg_7_1),
  (⟨"SumDoor", "wipe", "()I"⟩, prog_1_method_3_code, 2, (some FieldType.int), pg_7_2),
  (⟨"SumDoor", "sum", "(II)I"⟩, prog_1_method_4_code, 5, (some FieldType.int), pg_7_3),
  (⟨"SumDoor", "sumOf", "(II)I"⟩, prog_1_method_5_code, 3, (some FieldType.int), pg_7_4),
  (⟨"SumDoor", "change", "(III)I"⟩, prog_1_method_6_code, 4, (some FieldType.int), pg_7_5),
  (⟨"SumDoor", "side", "(III)I"⟩, prog_1_method_7_code, 4, (some FieldType.int), pg_7_6),
  (⟨"SumDoor", "solves", "(II)I"⟩, prog_1_method_8_code, 3, (some FieldType.int), pg_7_7),
  (⟨"SumDoor", "solution", "(II)I"⟩, prog_1_method_9_code, 5, (some FieldType.int), pg_7_8),
  (⟨"SumDoor", "both", "(II)I"⟩, prog_1_method_10_code, 5, (some FieldType.int), pg_7_9),
  (⟨"SumDoor", "strict", "(I)I"⟩, prog_1_method_11_code, 6, (some FieldType.int), pg_7_10),
  (⟨"SumDoor", "prisoner", "(III)I"⟩, prog_1_method_12_code, 4, (some FieldType.int), pg_7_11),
  (⟨"SumDoor", "of", "(II)I"⟩, prog_1_method_13_code, 3, (some FieldType.int), pg_7_12),
  (⟨"SumDoor", "set", "(I)I"⟩, prog_1_method_14_code, 3, (some FieldType.int), pg_7_13),
  (⟨"SumDoor", "rich", "(I)I"⟩, prog_1_method_15_code, 3, (some FieldType.int), pg_7_14),
  (⟨"SumDoor", "alms", "(I)I"⟩, prog_1_method_16_code, 3, (some FieldType.int), pg_7_15),
  (⟨"SumDoor", "school", "(II)I"⟩, prog_1_method_17_code, 4, (some FieldType.int), pg_7_16),
  (⟨"SumDoor", "minutes", "(I)I"⟩, prog_1_method_18_code, 3, (some FieldType.int), pg_7_17),
  (⟨"SumDoor", "out", "()I"⟩, prog_1_method_19_code, 1, (some FieldType.int), pg_7_18),
  (⟨"SumDoor", "day", "()I"⟩, prog_1_method_20_code, 2, (some FieldType.int), pg_7_19),
  (⟨"SumDoor", "ahead", "(II)I"⟩, prog_1_method_21_code, 3, (some FieldType.int), pg_7_20),
  (⟨"SumDoor", "when", "(I)I"⟩, prog_1_method_22_code, 3, (some FieldType.int), pg_7_21),
  (⟨"SumDoor", "lets", "(II)I"⟩, prog_1_method_23_code, 3, (some FieldType.int), pg_7_22),
  (⟨"SumDoor", "choose", "(I)I"⟩, prog_1_method_24_code, 6, (some FieldType.int), pg_7_23),
  (⟨"SumDoor", "wrongs", "(II)I"⟩, prog_1_method_25_code, 3, (some FieldType.int), pg_7_24),
  (⟨"SumDoor", "fewest", "(I)I"⟩, prog_1_method_26_code, 5, (some FieldType.int), pg_7_25),
  (⟨"SumDoor", "skillFor", "(III)I"⟩, prog_1_method_27_code, 5, (some FieldType.int), pg_7_26),
  (⟨"SumDoor", "richFor", "(I)I"⟩, prog_1_method_28_code, 4, (some FieldType.int), pg_7_27),
  (⟨"SumDoor", "could", "(II)I"⟩, prog_1_method_29_code, 5, (some FieldType.int), pg_7_28),
  (⟨"SumDoor", "seed", "(I)I"⟩, prog_1_method_30_code, 3, (some FieldType.int), pg_7_29),
  (⟨"SumDoor", "hold", "(II)I"⟩, prog_1_method_31_code, 3, (some FieldType.int), pg_7_30),
  (⟨"SumDoor", "as", "(II)I"⟩, prog_1_method_32_code, 4, (some FieldType.int), pg_7_31),
  (⟨"SumDoor", "sheet", "(III)I"⟩, prog_1_method_33_code, 4, (some FieldType.int), pg_7_32),
  (⟨"SumDoor", "write", "(III)I"⟩, prog_1_method_34_code, 5, (some FieldType.int), pg_7_33),
  (⟨"SumDoor", "copy", "(IIIII)I"⟩, prog_1_method_35_code, 8, (some FieldType.int), pg_7_34),
  (⟨"SumDoor", "load", "(I)I"⟩, prog_1_method_36_code, 4, (some FieldType.int), pg_7_35),
  (⟨"SumDoor", "judge", "(II)I"⟩, prog_1_method_37_code, 6, (some FieldType.int), pg_7_36),
  (⟨"SumDoor", "image", "()I"⟩, prog_1_method_38_code, 1, (some FieldType.int), pg_7_37),
  (⟨"SumDoor", "undo", "()I"⟩, prog_1_method_39_code, 1, (some FieldType.int), pg_7_38),
  (⟨"SumDoor", "tear", "()I"⟩, prog_1_method_40_code, 2, (some FieldType.int), pg_7_39),
  (⟨"SumDoor", "count", "(I)I"⟩, prog_1_method_41_code, 2, (some FieldType.int), pg_7_40),
  (⟨"SumDoor", "status", "(I)I"⟩, prog_1_method_42_code, 4, (some FieldType.int), pg_7_41),
  (⟨"SumDoor", "finding", "(I)I"⟩, prog_1_method_43_code, 3, (some FieldType.int), pg_7_42),
  (⟨"SumDoor", "isWithin", "(III)Z"⟩, prog_1_method_44_code, 3, (some FieldType.boolean), pg_7_43),
  (⟨"SumDoor", "isKind", "(I)Z"⟩, prog_1_method_45_code, 1, (some FieldType.boolean), pg_7_44),
  (⟨"SumDoor", "isNumber", "(I)Z"⟩, prog_1_method_46_code, 1, (some FieldType.boolean), pg_7_45),
  (⟨"SumDoor", "isPrisoner", "(I)Z"⟩, prog_1_method_47_code, 1, (some FieldType.boolean), pg_7_46),
  (⟨"SumDoor", "isSpot", "(I)Z"⟩, prog_1_method_48_code, 1, (some FieldType.boolean), pg_7_47),
  (⟨"SumDoor", "isSum", "(I)Z"⟩, prog_1_method_49_code, 2, (some FieldType.boolean), pg_7_48),
  (⟨"SumDoor", "isSheet", "(I)Z"⟩, prog_1_method_50_code, 2, (some FieldType.boolean), pg_7_49),
  (⟨"SumDoor", "isUnder", "(II)Z"⟩, prog_1_method_51_code, 4, (some FieldType.boolean), pg_7_50),
  (⟨"SumDoor", "replace", "([III)I"⟩, prog_1_method_52_code, 4, (some FieldType.int), pg_7_51),
  (⟨"SumDoor", "tryDay", "(I)V"⟩, prog_1_method_53_code, 2, none, pg_7_52),
  (⟨"SumDoor", "letOut", "(II)I"⟩, prog_1_method_54_code, 3, (some FieldType.int), pg_7_53),
  (⟨"SumDoor", "letByAny", "(I)I"⟩, prog_1_method_55_code, 4, (some FieldType.int), pg_7_54),
  (⟨"SumDoor", "keepsIn", "(II)Z"⟩, prog_1_method_56_code, 3, (some FieldType.boolean), pg_7_55),
  (⟨"SumDoor", "answersAlone", "(III)Z"⟩, prog_1_method_57_code, 6, (some FieldType.boolean), pg_7_56)]
def mt_8 : List MD := [(⟨"SumDoorModel", "<init>", "()V"⟩, prog_10_method_1_code, 2, none, pg_8_0),
  (⟨"SumDoorModel", "in", "(JJJ)Z"⟩, prog_10_method_2_code, 6, (some FieldType.boolean), pg_8_1),
  (⟨"SumDoorModel", "finds", "(I)I"⟩, prog_10_method_3_code, 2, (some FieldType.int), pg_8_2),
  (⟨"SumDoorModel", "at", "(II)I"⟩, prog_10_method_4_code, 2, (some FieldType.int), pg_8_3),
  (⟨"SumDoorModel", "isSum", "(I)Z"⟩, prog_10_method_5_code, 2, (some FieldType.boolean), pg_8_4),
  (⟨"SumDoorModel", "isMan", "(I)Z"⟩, prog_10_method_6_code, 1, (some FieldType.boolean), pg_8_5),
  (⟨"SumDoorModel", "isNumber", "(I)Z"⟩, prog_10_method_7_code, 1, (some FieldType.boolean), pg_8_6),
  (⟨"SumDoorModel", "its", "(II)I"⟩, prog_10_method_8_code, 3, (some FieldType.int), pg_8_7),
  (⟨"SumDoorModel", "has", "(II)Z"⟩, prog_10_method_9_code, 2, (some FieldType.boolean), pg_8_8),
  (⟨"SumDoorModel", "ones", "(I)I"⟩, prog_10_method_10_code, 3, (some FieldType.int), pg_8_9),
  (⟨"SumDoorModel", "next", "()I"⟩, prog_10_method_11_code, 1, (some FieldType.int), pg_8_10),
  (⟨"SumDoorModel", "feed", "(II)I"⟩, prog_10_method_12_code, 4, (some FieldType.int), pg_8_11),
  (⟨"SumDoorModel", "wipe", "()I"⟩, prog_10_method_13_code, 2, (some FieldType.int), pg_8_12),
  (⟨"SumDoorModel", "signOf", "(I)I"⟩, prog_10_method_14_code, 1, (some FieldType.int), pg_8_13),
  (⟨"SumDoorModel", "holds", "(I)I"⟩, prog_10_method_15_code, 1, (some FieldType.int), pg_8_14),
  (⟨"SumDoorModel", "does", "(I)V"⟩, prog_10_method_16_code, 2, none, pg_8_15),
  (⟨"SumDoorModel", "goesOn", "(I)Z"⟩, prog_10_method_17_code, 4, (some FieldType.boolean), pg_8_16),
  (⟨"SumDoorModel", "begins", "(IZ)Z"⟩, prog_10_method_18_code, 3, (some FieldType.boolean), pg_8_17),
  (⟨"SumDoorModel", "fault", "()I"⟩, prog_10_method_19_code, 2, (some FieldType.int), pg_8_18),
  (⟨"SumDoorModel", "signs", "()I"⟩, prog_10_method_20_code, 3, (some FieldType.int), pg_8_19),
  (⟨"SumDoorModel", "sum", "(II)I"⟩, prog_10_method_21_code, 7, (some FieldType.int), pg_8_20),
  (⟨"SumDoorModel", "worked", "(III)I"⟩, prog_10_method_22_code, 3, (some FieldType.int), pg_8_21),
  (⟨"SumDoorModel", "sideOf", "(III)I"⟩, prog_10_method_23_code, 8, (some FieldType.int), pg_8_22),
  (⟨"SumDoorModel", "isSolved", "(II)Z"⟩, prog_10_method_24_code, 6, (some FieldType.boolean), pg_8_23),
  (⟨"SumDoorModel", "hard", "(I)I"⟩, prog_10_method_25_code, 4, (some FieldType.int), pg_8_24),
  (⟨"SumDoorModel", "solvers", "(I)I"⟩, prog_10_method_26_code, 4, (some FieldType.int), pg_8_25),
  (⟨"SumDoorModel", "sumOf", "(II)I"⟩, prog_10_method_27_code, 3, (some FieldType.int), pg_8_26),
  (⟨"SumDoorModel", "change", "(III)I"⟩, prog_10_method_28_code, 5, (some FieldType.int), pg_8_27),
  (⟨"SumDoorModel", "side", "(III)I"⟩, prog_10_method_29_code, 4, (some FieldType.int), pg_8_28),
  (⟨"SumDoorModel", "solves", "(II)I"⟩, prog_10_method_30_code, 3, (some FieldType.int), pg_8_29),
  (⟨"SumDoorModel", "solution", "(II)I"⟩, prog_10_method_31_code, 5, (some FieldType.int), pg_8_30),
  (⟨"SumDoorModel", "both", "(II)I"⟩, prog_10_method_32_code, 5, (some FieldType.int), pg_8_31),
  (⟨"SumDoorModel", "strict", "(I)I"⟩, prog_10_method_33_code, 7, (some FieldType.int), pg_8_32),
  (⟨"SumDoorModel", "isPart", "(II)Z"⟩, prog_10_method_34_code, 2, (some FieldType.boolean), pg_8_33),
  (⟨"SumDoorModel", "prisoner", "(III)I"⟩, prog_10_method_35_code, 5, (some FieldType.int), pg_8_34),
  (⟨"SumDoorModel", "of", "(II)I"⟩, prog_10_method_36_code, 3, (some FieldType.int), pg_8_35),
  (⟨"SumDoorModel", "newDay", "()V"⟩, prog_10_method_37_code, 2, none, pg_8_36),
  (⟨"SumDoorModel", "set", "(I)I"⟩, prog_10_method_38_code, 3, (some FieldType.int), pg_8_37),
  (⟨"SumDoorModel", "rich", "(I)I"⟩, prog_10_method_39_code, 3, (some FieldType.int), pg_8_38),
  (⟨"SumDoorModel", "chalks", "()I"⟩, prog_10_method_40_code, 3, (some FieldType.int), pg_8_39),
  (⟨"SumDoorModel", "alms", "(I)I"⟩, prog_10_method_41_code, 4, (some FieldType.int), pg_8_40),
  (⟨"SumDoorModel", "school", "(II)I"⟩, prog_10_method_42_code, 5, (some FieldType.int), pg_8_41),
  (⟨"SumDoorModel", "works", "(I)V"⟩, prog_10_method_43_code, 3, none, pg_8_42),
  (⟨"SumDoorModel", "isOpen", "(I)Z"⟩, prog_10_method_44_code, 2, (some FieldType.boolean), pg_8_43),
  (⟨"SumDoorModel", "buys", "(I)V"⟩, prog_10_method_45_code, 5, none, pg_8_44),
  (⟨"SumDoorModel", "reads", "(I)V"⟩, prog_10_method_46_code, 6, none, pg_8_45),
  (⟨"SumDoorModel", "minute", "()V"⟩, prog_10_method_47_code, 3, none, pg_8_46),
  (⟨"SumDoorModel", "minutesGo", "(I)V"⟩, prog_10_method_48_code, 3, none, pg_8_47),
  (⟨"SumDoorModel", "outs", "()I"⟩, prog_10_method_49_code, 3, (some FieldType.int), pg_8_48),
  (⟨"SumDoorModel", "minutes", "(I)I"⟩, prog_10_method_50_code, 3, (some FieldType.int), pg_8_49),
  (⟨"SumDoorModel", "out", "()I"⟩, prog_10_method_51_code, 1, (some FieldType.int), pg_8_50),
  (⟨"SumDoorModel", "day", "()I"⟩, prog_10_method_52_code, 2, (some FieldType.int), pg_8_51),
  (⟨"SumDoorModel", "puts", "()V"⟩, prog_10_method_53_code, 2, none, pg_8_52),
  (⟨"SumDoorModel", "putsBack", "()V"⟩, prog_10_method_54_code, 2, none, pg_8_53),
  (⟨"SumDoorModel", "ahead", "(II)I"⟩, prog_10_method_55_code, 5, (some FieldType.int), pg_8_54),
  (⟨"SumDoorModel", "when", "(I)I"⟩, prog_10_method_56_code, 4, (some FieldType.int), pg_8_55),
  (⟨"SumDoorModel", "letsOut", "(II)I"⟩, prog_10_method_57_code, 4, (some FieldType.int), pg_8_56),
  (⟨"SumDoorModel", "lets", "(II)I"⟩, prog_10_method_58_code, 3, (some FieldType.int), pg_8_57),
  (⟨"SumDoorModel", "maySet", "()I"⟩, prog_10_method_59_code, 3, (some FieldType.int), pg_8_58),
  (⟨"SumDoorModel", "wrongsOf", "(II)I"⟩, prog_10_method_60_code, 3, (some FieldType.int), pg_8_59),
  (⟨"SumDoorModel", "choose", "(I)I"⟩, prog_10_method_61_code, 6, (some FieldType.int), pg_8_60),
  (⟨"SumDoorModel", "wrongs", "(II)I"⟩, prog_10_method_62_code, 3, (some FieldType.int), pg_8_61),
  (⟨"SumDoorModel", "fewest", "(I)I"⟩, prog_10_method_63_code, 7, (some FieldType.int), pg_8_62),
  (⟨"SumDoorModel", "skillFor", "(III)I"⟩, prog_10_method_64_code, 7, (some FieldType.int), pg_8_63),
  (⟨"SumDoorModel", "richFor", "(I)I"⟩, prog_10_method_65_code, 5, (some FieldType.int), pg_8_64),
  (⟨"SumDoorModel", "could", "(II)I"⟩, prog_10_method_66_code, 6, (some FieldType.int), pg_8_65),
  (⟨"SumDoorModel", "seed", "(I)I"⟩, prog_10_method_67_code, 3, (some FieldType.int), pg_8_66),
  (⟨"SumDoorModel", "hold", "(II)I"⟩, prog_10_method_68_code, 3, (some FieldType.int), pg_8_67),
  (⟨"SumDoorModel", "as", "(II)I"⟩, prog_10_method_69_code, 6, (some FieldType.int), pg_8_68),
  (⟨"SumDoorModel", "isOne", "(I)Z"⟩, prog_10_method_70_code, 1, (some FieldType.boolean), pg_8_69),
  (⟨"SumDoorModel", "sheet", "(III)I"⟩, prog_10_method_71_code, 5, (some FieldType.int), pg_8_70),
  (⟨"SumDoorModel", "narrowed", "(II)I"⟩, prog_10_method_72_code, 2, (some FieldType.int), pg_8_71),
  (⟨"SumDoorModel", "wrong", "(I)I"⟩, prog_10_method_73_code, 2, (some FieldType.int), pg_8_72),
  (⟨"SumDoorModel", "write", "(III)I"⟩, prog_10_method_74_code, 5, (some FieldType.int), pg_8_73),
  (⟨"SumDoorModel", "copy", "(IIIII)I"⟩, prog_10_method_75_code, 7, (some FieldType.int), pg_8_74),
  (⟨"SumDoorModel", "load", "(I)I"⟩, prog_10_method_76_code, 4, (some FieldType.int), pg_8_75),
  (⟨"SumDoorModel", "judge", "(II)I"⟩, prog_10_method_77_code, 6, (some FieldType.int), pg_8_76),
  (⟨"SumDoorModel", "image", "()I"⟩, prog_10_method_78_code, 2, (some FieldType.int), pg_8_77),
  (⟨"SumDoorModel", "undo", "()I"⟩, prog_10_method_79_code, 2, (some FieldType.int), pg_8_78),
  (⟨"SumDoorModel", "tear", "()I"⟩, prog_10_method_80_code, 2, (some FieldType.int), pg_8_79),
  (⟨"SumDoorModel", "count", "(I)I"⟩, prog_10_method_81_code, 2, (some FieldType.int), pg_8_80),
  (⟨"SumDoorModel", "status", "(I)I"⟩, prog_10_method_82_code, 4, (some FieldType.int), pg_8_81)]
def mt_9 : List MD := [(⟨"SumDoorLaw", "law", "([I)Z"⟩, code, 4, (some FieldType.boolean), pg_9_0)]
def mt_10 : List MD := [(⟨"java/lang/Integer", "bitCount", "(I)I"⟩, prog_11_method_49_code, 1, (some FieldType.int), pg_10_0)]
def mt_11 : List MD := [(⟨"java/lang/Math", "max", "(II)I"⟩, prog_12_method_65_code, 2, (some FieldType.int), pg_11_0),
  (⟨"java/lang/Math", "min", "(II)I"⟩, prog_12_method_69_code, 2, (some FieldType.int), pg_11_1)]
def mt_12 : List MD := [(⟨"java/util/Arrays", "fill", "([II)V"⟩, prog_14_method_103_code, 4, none, pg_12_0)]
def sd_mt : List (List MD) := [mt_0, mt_1, mt_2, mt_3, mt_4, mt_5, mt_6, mt_7, mt_8, mt_9, mt_10, mt_11, mt_12]
end
section
def tgt (pc : Nat) (off : Int) : Nat := ((pc : Int) + off).toNat
def ilen : Instr → Nat
  | .iconst _ => 1 | .bipush _ => 2 | .sipush _ => 3 | .ldc _ => 2 | .ldc_w _ => 3 | .lconst _ => 1 | .ldc2_w _ => 3
  | .iload_n _ => 1 | .aload_n _ => 1 | .lload_n _ => 1 | .istore_n _ => 1 | .astore_n _ => 1
  | .iload _ => 2 | .aload _ => 2 | .lload _ => 2 | .istore _ => 2 | .astore _ => 2
  | .iinc _ _ => 3 | .goto _ => 3 | .ifCond _ _ => 3 | .if_icmp _ _ => 3 | .ifnull _ => 3
  | .getfield _ => 3 | .putfield _ => 3 | .getstatic _ => 3 | .newarray _ => 2 | .anewarray _ => 3 | .new _ => 3
  | .invokestatic _ => 3 | .invokevirtual _ => 3 | .invokespecial _ => 3 | .tableswitch _ _ _ _ => 0
  | _ => 1
def tok (pc : Nat) : Instr → Bool
  | .goto off => decide ((pc : Int) + off = (tgt pc off : Int))
  | .ifCond _ off => decide ((pc : Int) + off = (tgt pc off : Int))
  | .if_icmp _ off => decide ((pc : Int) + off = (tgt pc off : Int))
  | .ifnull off => decide ((pc : Int) + off = (tgt pc off : Int))
  | .tableswitch dflt lo hi offs => decide ((pc : Int) + dflt = (tgt pc dflt : Int)) && decide ((offs.size : Int) = hi - lo + 1) && offs.toList.all (fun o => decide ((pc : Int) + o = (tgt pc o : Int)))
  | _ => true
def chkI (b : ByteArray) (q : Nat × Instr × Nat) : Bool := decide (decode b q.1 = .ok q.2) && (Nat.beq (ilen q.2.1) 0 || Nat.beq (ilen q.2.1) q.2.2) && tok q.1 q.2.1
def chkM (M : MD) : Bool := M.2.2.2.2.all (chkI M.2.1)
theorem all_split {α : Type} (f : α → Bool) (n : Nat) (l : List α) (h1 : (l.take n).all f = true) (h2 : (l.drop n).all f = true) : l.all f = true := by
  rw [← List.take_append_drop n l, List.all_append, h1, h2]; rfl
theorem ck_0_0 : pg_0_0.all (chkI prog_2_method_1_code) = true := by decide +kernel
theorem ck_0_1 : pg_0_1.all (chkI prog_2_method_2_code) = true := by decide +kernel
theorem ck_0_2 : pg_0_2.all (chkI prog_2_method_3_code) = true := by decide +kernel
theorem ck_0_3 : pg_0_3.all (chkI prog_2_method_4_code) = true := by decide +kernel
theorem ck_0_4 : pg_0_4.all (chkI prog_2_method_5_code) = true := by decide +kernel
theorem ck_0_5 : pg_0_5.all (chkI prog_2_method_6_code) = true := by decide +kernel
theorem ck_0_6 : pg_0_6.all (chkI prog_2_method_7_code) = true := by decide +kernel
theorem ck_0_7 : pg_0_7.all (chkI prog_2_method_8_code) = true := by decide +kernel
theorem ck_0_8 : pg_0_8.all (chkI prog_2_method_9_code) = true := by decide +kernel
theorem ck_0_9 : pg_0_9.all (chkI prog_2_method_10_code) = true := by decide +kernel
theorem ck_0_10 : pg_0_10.all (chkI prog_2_method_11_code) = true := by decide +kernel
theorem ck_0_11 : pg_0_11.all (chkI prog_2_method_12_code) = true := by decide +kernel
theorem ck_0_12 : pg_0_12.all (chkI prog_2_method_13_code) = true := by decide +kernel
theorem ck_0_13 : pg_0_13.all (chkI prog_2_method_14_code) = true := by decide +kernel
theorem ck_0_14 : pg_0_14.all (chkI prog_2_method_15_code) = true := by decide +kernel
theorem ck_0_15 : pg_0_15.all (chkI prog_2_method_16_code) = true := by decide +kernel
theorem ck_0_16 : pg_0_16.all (chkI prog_2_method_17_code) = true := by decide +kernel
theorem ck_0_17 : pg_0_17.all (chkI prog_2_method_18_code) = true := by decide +kernel
theorem ck_0_18 : pg_0_18.all (chkI prog_2_method_19_code) = true := by decide +kernel
theorem ck_0_19 : pg_0_19.all (chkI prog_2_method_20_code) = true := by decide +kernel
theorem ck_1_0 : pg_1_0.all (chkI prog_3_method_1_code) = true := by decide +kernel
theorem ck_1_1 : pg_1_1.all (chkI prog_3_method_2_code) = true := by decide +kernel
theorem ck_1_2 : pg_1_2.all (chkI prog_3_method_3_code) = true := by decide +kernel
theorem ck_1_3 : pg_1_3.all (chkI prog_3_method_4_code) = true := by decide +kernel
theorem ck_1_4 : pg_1_4.all (chkI prog_3_method_5_code) = true := by decide +kernel
theorem ck_1_5 : pg_1_5.all (chkI prog_3_method_6_code) = true := by decide +kernel
theorem ck_2_0 : pg_2_0.all (chkI prog_4_method_1_code) = true := by decide +kernel
theorem ck_2_1 : pg_2_1.all (chkI prog_4_method_2_code) = true := by decide +kernel
theorem ck_2_2 : pg_2_2.all (chkI prog_4_method_3_code) = true := by decide +kernel
theorem ck_2_3 : pg_2_3.all (chkI prog_4_method_4_code) = true := by decide +kernel
theorem ck_2_4 : pg_2_4.all (chkI prog_4_method_5_code) = true := by decide +kernel
theorem ck_2_5 : pg_2_5.all (chkI prog_4_method_6_code) = true := by decide +kernel
theorem ck_2_6 : pg_2_6.all (chkI prog_4_method_7_code) = true := by decide +kernel
theorem ck_2_7 : pg_2_7.all (chkI prog_4_method_8_code) = true := by decide +kernel
theorem ck_2_8 : pg_2_8.all (chkI prog_4_method_9_code) = true := by decide +kernel
theorem ck_3_0 : pg_3_0.all (chkI prog_5_method_1_code) = true := by decide +kernel
theorem ck_3_1 : pg_3_1.all (chkI prog_5_method_2_code) = true := by decide +kernel
theorem ck_3_2 : pg_3_2.all (chkI prog_5_method_3_code) = true := by decide +kernel
theorem ck_3_3 : pg_3_3.all (chkI prog_5_method_4_code) = true := by decide +kernel
theorem ck_3_4 : pg_3_4.all (chkI prog_5_method_5_code) = true := by decide +kernel
theorem ck_3_5 : pg_3_5.all (chkI prog_5_method_6_code) = true := by decide +kernel
theorem ck_3_6 : pg_3_6.all (chkI prog_5_method_7_code) = true := by decide +kernel
theorem ck_3_7 : pg_3_7.all (chkI prog_5_method_8_code) = true := by decide +kernel
theorem ck_3_8 : pg_3_8.all (chkI prog_5_method_9_code) = true := by decide +kernel
theorem ck_3_9 : pg_3_9.all (chkI prog_5_method_10_code) = true := by decide +kernel
theorem ck_4_0 : pg_4_0.all (chkI prog_6_method_1_code) = true := by decide +kernel
theorem ck_4_1 : pg_4_1.all (chkI prog_6_method_2_code) = true := by decide +kernel
theorem ck_4_2 : pg_4_2.all (chkI prog_6_method_3_code) = true := by decide +kernel
theorem ck_4_3 : pg_4_3.all (chkI prog_6_method_4_code) = true := by decide +kernel
theorem ck_4_4 : pg_4_4.all (chkI prog_6_method_5_code) = true := by decide +kernel
theorem ck_4_5 : pg_4_5.all (chkI prog_6_method_6_code) = true := by decide +kernel
theorem ck_4_6 : pg_4_6.all (chkI prog_6_method_7_code) = true := by decide +kernel
theorem ck_5_0 : pg_5_0.all (chkI prog_7_method_1_code) = true := by decide +kernel
theorem ck_6_0 : pg_6_0.all (chkI prog_8_method_1_code) = true := by decide +kernel
theorem ck_6_1 : pg_6_1.all (chkI prog_8_method_2_code) = true := by decide +kernel
theorem ck_6_2 : pg_6_2.all (chkI prog_8_method_3_code) = true := by decide +kernel
theorem ck_7_0 : pg_7_0.all (chkI prog_1_method_1_code) = true := by decide +kernel
theorem ck_7_1 : pg_7_1.all (chkI prog_1_method_2_code) = true := by decide +kernel
theorem ck_7_2 : pg_7_2.all (chkI prog_1_method_3_code) = true := by decide +kernel
theorem ck_7_3 : pg_7_3.all (chkI prog_1_method_4_code) = true := by decide +kernel
theorem ck_7_4 : pg_7_4.all (chkI prog_1_method_5_code) = true := by decide +kernel
theorem ck_7_5 : pg_7_5.all (chkI prog_1_method_6_code) = true := by decide +kernel
theorem ck_7_6 : pg_7_6.all (chkI prog_1_method_7_code) = true := by decide +kernel
theorem ck_7_7 : pg_7_7.all (chkI prog_1_method_8_code) = true := by decide +kernel
theorem ck_7_8 : pg_7_8.all (chkI prog_1_method_9_code) = true := by decide +kernel
theorem ck_7_9 : pg_7_9.all (chkI prog_1_method_10_code) = true := by decide +kernel
theorem ck_7_10 : pg_7_10.all (chkI prog_1_method_11_code) = true := by decide +kernel
theorem ck_7_11 : pg_7_11.all (chkI prog_1_method_12_code) = true := by decide +kernel
theorem ck_7_12 : pg_7_12.all (chkI prog_1_method_13_code) = true := by decide +kernel
theorem ck_7_13 : pg_7_13.all (chkI prog_1_method_14_code) = true := by decide +kernel
theorem ck_7_14 : pg_7_14.all (chkI prog_1_method_15_code) = true := by decide +kernel
theorem ck_7_15 : pg_7_15.all (chkI prog_1_method_16_code) = true := by decide +kernel
theorem ck_7_16 : pg_7_16.all (chkI prog_1_method_17_code) = true := by decide +kernel
theorem ck_7_17 : pg_7_17.all (chkI prog_1_method_18_code) = true := by decide +kernel
theorem ck_7_18 : pg_7_18.all (chkI prog_1_method_19_code) = true := by decide +kernel
theorem ck_7_19 : pg_7_19.all (chkI prog_1_method_20_code) = true := by decide +kernel
theorem ck_7_20 : pg_7_20.all (chkI prog_1_method_21_code) = true := by decide +kernel
theorem ck_7_21 : pg_7_21.all (chkI prog_1_method_22_code) = true := by decide +kernel
theorem ck_7_22 : pg_7_22.all (chkI prog_1_method_23_code) = true := by decide +kernel
theorem ck_7_23 : pg_7_23.all (chkI prog_1_method_24_code) = true := by decide +kernel
theorem ck_7_24 : pg_7_24.all (chkI prog_1_method_25_code) = true := by decide +kernel
theorem ck_7_25 : pg_7_25.all (chkI prog_1_method_26_code) = true := by decide +kernel
theorem ck_7_26 : pg_7_26.all (chkI prog_1_method_27_code) = true := by decide +kernel
theorem ck_7_27 : pg_7_27.all (chkI prog_1_method_28_code) = true := by decide +kernel
theorem ck_7_28 : pg_7_28.all (chkI prog_1_method_29_code) = true := by decide +kernel
theorem ck_7_29 : pg_7_29.all (chkI prog_1_method_30_code) = true := by decide +kernel
theorem ck_7_30 : pg_7_30.all (chkI prog_1_method_31_code) = true := by decide +kernel
theorem ck_7_31 : pg_7_31.all (chkI prog_1_method_32_code) = true := by decide +kernel
theorem ck_7_32 : pg_7_32.all (chkI prog_1_method_33_code) = true := by decide +kernel
theorem ck_7_33 : pg_7_33.all (chkI prog_1_method_34_code) = true := by decide +kernel
theorem ck_7_34 : pg_7_34.all (chkI prog_1_method_35_code) = true := by decide +kernel
theorem ck_7_35 : pg_7_35.all (chkI prog_1_method_36_code) = true := by decide +kernel
theorem ck_7_36 : pg_7_36.all (chkI prog_1_method_37_code) = true := by decide +kernel
theorem ck_7_37 : pg_7_37.all (chkI prog_1_method_38_code) = true := by decide +kernel
theorem ck_7_38 : pg_7_38.all (chkI prog_1_method_39_code) = true := by decide +kernel
theorem ck_7_39 : pg_7_39.all (chkI prog_1_method_40_code) = true := by decide +kernel
theorem ck_7_40 : pg_7_40.all (chkI prog_1_method_41_code) = true := by decide +kernel
theorem ck_7_41 : pg_7_41.all (chkI prog_1_method_42_code) = true := by decide +kernel
theorem ck_7_42 : pg_7_42.all (chkI prog_1_method_43_code) = true := by decide +kernel
theorem ck_7_43 : pg_7_43.all (chkI prog_1_method_44_code) = true := by decide +kernel
theorem ck_7_44 : pg_7_44.all (chkI prog_1_method_45_code) = true := by decide +kernel
theorem ck_7_45 : pg_7_45.all (chkI prog_1_method_46_code) = true := by decide +kernel
theorem ck_7_46 : pg_7_46.all (chkI prog_1_method_47_code) = true := by decide +kernel
theorem ck_7_47 : pg_7_47.all (chkI prog_1_method_48_code) = true := by decide +kernel
theorem ck_7_48 : pg_7_48.all (chkI prog_1_method_49_code) = true := by decide +kernel
theorem ck_7_49 : pg_7_49.all (chkI prog_1_method_50_code) = true := by decide +kernel
theorem ck_7_50 : pg_7_50.all (chkI prog_1_method_51_code) = true := by decide +kernel
theorem ck_7_51 : pg_7_51.all (chkI prog_1_method_52_code) = true := by decide +kernel
theorem ck_7_52 : pg_7_52.all (chkI prog_1_method_53_code) = true := by decide +kernel
theorem ck_7_53 : pg_7_53.all (chkI prog_1_method_54_code) = true := by decide +kernel
theorem ck_7_54 : pg_7_54.all (chkI prog_1_method_55_code) = true := by decide +kernel
theorem ck_7_55 : pg_7_55.all (chkI prog_1_method_56_code) = true := by decide +kernel
theorem ck_7_56 : pg_7_56.all (chkI prog_1_method_57_code) = true := by decide +kernel
theorem ck_10_0 : pg_10_0.all (chkI prog_11_method_49_code) = true := by decide +kernel
theorem ck_11_0 : pg_11_0.all (chkI prog_12_method_65_code) = true := by decide +kernel
theorem ck_11_1 : pg_11_1.all (chkI prog_12_method_69_code) = true := by decide +kernel
theorem ck_12_0 : pg_12_0.all (chkI prog_14_method_103_code) = true := by decide +kernel
end
section
theorem ck_8_0 : pg_8_0.all (chkI prog_10_method_1_code) = true := by decide +kernel
theorem ck_8_1 : pg_8_1.all (chkI prog_10_method_2_code) = true := by decide +kernel
theorem ck_8_2 : pg_8_2.all (chkI prog_10_method_3_code) = true := by decide +kernel
theorem ck_8_3 : pg_8_3.all (chkI prog_10_method_4_code) = true := by decide +kernel
theorem ck_8_4 : pg_8_4.all (chkI prog_10_method_5_code) = true := by decide +kernel
theorem ck_8_5 : pg_8_5.all (chkI prog_10_method_6_code) = true := by decide +kernel
theorem ck_8_6 : pg_8_6.all (chkI prog_10_method_7_code) = true := by decide +kernel
theorem ck_8_7 : pg_8_7.all (chkI prog_10_method_8_code) = true := by decide +kernel
theorem ck_8_8 : pg_8_8.all (chkI prog_10_method_9_code) = true := by decide +kernel
theorem ck_8_9 : pg_8_9.all (chkI prog_10_method_10_code) = true := by decide +kernel
theorem ck_8_10 : pg_8_10.all (chkI prog_10_method_11_code) = true := by decide +kernel
theorem ck_8_11 : pg_8_11.all (chkI prog_10_method_12_code) = true := by decide +kernel
theorem ck_8_12 : pg_8_12.all (chkI prog_10_method_13_code) = true := by decide +kernel
theorem ck_8_13 : pg_8_13.all (chkI prog_10_method_14_code) = true := by decide +kernel
theorem ck_8_14 : pg_8_14.all (chkI prog_10_method_15_code) = true := by decide +kernel
theorem ck_8_15 : pg_8_15.all (chkI prog_10_method_16_code) = true := by decide +kernel
theorem ck_8_16 : pg_8_16.all (chkI prog_10_method_17_code) = true := by decide +kernel
theorem ck_8_17 : pg_8_17.all (chkI prog_10_method_18_code) = true := by decide +kernel
theorem ck_8_18 : pg_8_18.all (chkI prog_10_method_19_code) = true := by decide +kernel
theorem ck_8_19 : pg_8_19.all (chkI prog_10_method_20_code) = true := by decide +kernel
theorem ck_8_20 : pg_8_20.all (chkI prog_10_method_21_code) = true := by decide +kernel
theorem ck_8_21 : pg_8_21.all (chkI prog_10_method_22_code) = true := by decide +kernel
theorem ck_8_22 : pg_8_22.all (chkI prog_10_method_23_code) = true := by decide +kernel
theorem ck_8_23 : pg_8_23.all (chkI prog_10_method_24_code) = true := by decide +kernel
theorem ck_8_24 : pg_8_24.all (chkI prog_10_method_25_code) = true := by decide +kernel
theorem ck_8_25 : pg_8_25.all (chkI prog_10_method_26_code) = true := by decide +kernel
theorem ck_8_26 : pg_8_26.all (chkI prog_10_method_27_code) = true := by decide +kernel
theorem ck_8_27 : pg_8_27.all (chkI prog_10_method_28_code) = true := by decide +kernel
theorem ck_8_28 : pg_8_28.all (chkI prog_10_method_29_code) = true := by decide +kernel
theorem ck_8_29 : pg_8_29.all (chkI prog_10_method_30_code) = true := by decide +kernel
theorem ck_8_30 : pg_8_30.all (chkI prog_10_method_31_code) = true := by decide +kernel
theorem ck_8_31 : pg_8_31.all (chkI prog_10_method_32_code) = true := by decide +kernel
theorem ck_8_32 : pg_8_32.all (chkI prog_10_method_33_code) = true := by decide +kernel
theorem ck_8_33 : pg_8_33.all (chkI prog_10_method_34_code) = true := by decide +kernel
theorem ck_8_34 : pg_8_34.all (chkI prog_10_method_35_code) = true := by decide +kernel
theorem ck_8_35 : pg_8_35.all (chkI prog_10_method_36_code) = true := by decide +kernel
theorem ck_8_36 : pg_8_36.all (chkI prog_10_method_37_code) = true := by decide +kernel
theorem ck_8_37 : pg_8_37.all (chkI prog_10_method_38_code) = true := by decide +kernel
theorem ck_8_38 : pg_8_38.all (chkI prog_10_method_39_code) = true := by decide +kernel
theorem ck_8_39 : pg_8_39.all (chkI prog_10_method_40_code) = true := by decide +kernel
theorem ck_8_40 : pg_8_40.all (chkI prog_10_method_41_code) = true := by decide +kernel
end
section
theorem ck_8_41 : pg_8_41.all (chkI prog_10_method_42_code) = true := by decide +kernel
theorem ck_8_42 : pg_8_42.all (chkI prog_10_method_43_code) = true := by decide +kernel
theorem ck_8_43 : pg_8_43.all (chkI prog_10_method_44_code) = true := by decide +kernel
theorem ck_8_44 : pg_8_44.all (chkI prog_10_method_45_code) = true := by decide +kernel
theorem ck_8_45 : pg_8_45.all (chkI prog_10_method_46_code) = true := by decide +kernel
theorem ck_8_46 : pg_8_46.all (chkI prog_10_method_47_code) = true := by decide +kernel
theorem ck_8_47 : pg_8_47.all (chkI prog_10_method_48_code) = true := by decide +kernel
theorem ck_8_48 : pg_8_48.all (chkI prog_10_method_49_code) = true := by decide +kernel
theorem ck_8_49 : pg_8_49.all (chkI prog_10_method_50_code) = true := by decide +kernel
theorem ck_8_50 : pg_8_50.all (chkI prog_10_method_51_code) = true := by decide +kernel
theorem ck_8_51 : pg_8_51.all (chkI prog_10_method_52_code) = true := by decide +kernel
theorem ck_8_52 : pg_8_52.all (chkI prog_10_method_53_code) = true := by decide +kernel
theorem ck_8_53 : pg_8_53.all (chkI prog_10_method_54_code) = true := by decide +kernel
theorem ck_8_54 : pg_8_54.all (chkI prog_10_method_55_code) = true := by decide +kernel
theorem ck_8_55 : pg_8_55.all (chkI prog_10_method_56_code) = true := by decide +kernel
theorem ck_8_56 : pg_8_56.all (chkI prog_10_method_57_code) = true := by decide +kernel
theorem ck_8_57 : pg_8_57.all (chkI prog_10_method_58_code) = true := by decide +kernel
theorem ck_8_58 : pg_8_58.all (chkI prog_10_method_59_code) = true := by decide +kernel
theorem ck_8_59 : pg_8_59.all (chkI prog_10_method_60_code) = true := by decide +kernel
theorem ck_8_60 : pg_8_60.all (chkI prog_10_method_61_code) = true := by decide +kernel
theorem ck_8_61 : pg_8_61.all (chkI prog_10_method_62_code) = true := by decide +kernel
theorem ck_8_62 : pg_8_62.all (chkI prog_10_method_63_code) = true := by decide +kernel
theorem ck_8_63 : pg_8_63.all (chkI prog_10_method_64_code) = true := by decide +kernel
theorem ck_8_64 : pg_8_64.all (chkI prog_10_method_65_code) = true := by decide +kernel
theorem ck_8_65 : pg_8_65.all (chkI prog_10_method_66_code) = true := by decide +kernel
theorem ck_8_66 : pg_8_66.all (chkI prog_10_method_67_code) = true := by decide +kernel
theorem ck_8_67 : pg_8_67.all (chkI prog_10_method_68_code) = true := by decide +kernel
theorem ck_8_68 : pg_8_68.all (chkI prog_10_method_69_code) = true := by decide +kernel
theorem ck_8_69 : pg_8_69.all (chkI prog_10_method_70_code) = true := by decide +kernel
theorem ck_8_70 : pg_8_70.all (chkI prog_10_method_71_code) = true := by decide +kernel
theorem ck_8_71 : pg_8_71.all (chkI prog_10_method_72_code) = true := by decide +kernel
theorem ck_8_72 : pg_8_72.all (chkI prog_10_method_73_code) = true := by decide +kernel
theorem ck_8_73 : pg_8_73.all (chkI prog_10_method_74_code) = true := by decide +kernel
theorem ck_8_74 : pg_8_74.all (chkI prog_10_method_75_code) = true := by decide +kernel
theorem ck_8_75 : pg_8_75.all (chkI prog_10_method_76_code) = true := by decide +kernel
theorem ck_8_76 : pg_8_76.all (chkI prog_10_method_77_code) = true := by decide +kernel
theorem ck_8_77 : pg_8_77.all (chkI prog_10_method_78_code) = true := by decide +kernel
theorem ck_8_78 : pg_8_78.all (chkI prog_10_method_79_code) = true := by decide +kernel
theorem ck_8_79 : pg_8_79.all (chkI prog_10_method_80_code) = true := by decide +kernel
theorem ck_8_80 : pg_8_80.all (chkI prog_10_method_81_code) = true := by decide +kernel
theorem ck_8_81 : pg_8_81.all (chkI prog_10_method_82_code) = true := by decide +kernel
end
section
theorem ck_9_0_0 : ((pg_9_0.drop 0).take 50).all (chkI code) = true := by decide +kernel
theorem ck_9_0_1 : ((pg_9_0.drop 50).take 50).all (chkI code) = true := by decide +kernel
theorem ck_9_0_2 : ((pg_9_0.drop 100).take 50).all (chkI code) = true := by decide +kernel
theorem ck_9_0_3 : ((pg_9_0.drop 150).take 50).all (chkI code) = true := by decide +kernel
theorem ck_9_0_4 : ((pg_9_0.drop 200).take 50).all (chkI code) = true := by decide +kernel
theorem ck_9_0_5 : ((pg_9_0.drop 250).take 50).all (chkI code) = true := by decide +kernel
theorem ck_9_0_6 : ((pg_9_0.drop 300).take 50).all (chkI code) = true := by decide +kernel
theorem ck_9_0_7 : ((pg_9_0.drop 350).take 50).all (chkI code) = true := by decide +kernel
theorem ck_9_0_8 : ((pg_9_0.drop 400).take 50).all (chkI code) = true := by decide +kernel
theorem ck_9_0_9 : ((pg_9_0.drop 450).take 50).all (chkI code) = true := by decide +kernel
theorem ck_9_0_10 : ((pg_9_0.drop 500).take 50).all (chkI code) = true := by decide +kernel
theorem ck_9_0_11 : ((pg_9_0.drop 550).take 50).all (chkI code) = true := by decide +kernel
theorem ck_9_0_12 : ((pg_9_0.drop 600).take 50).all (chkI code) = true := by decide +kernel
theorem ck_9_0_13 : ((pg_9_0.drop 650).take 50).all (chkI code) = true := by decide +kernel
theorem ck_9_0_14 : ((pg_9_0.drop 700).take 50).all (chkI code) = true := by decide +kernel
theorem ck_9_0_15 : ((pg_9_0.drop 750).take 50).all (chkI code) = true := by decide +kernel
theorem ck_9_0_16 : ((pg_9_0.drop 800).take 50).all (chkI code) = true := by decide +kernel
theorem ck_9_0_17 : ((pg_9_0.drop 850).take 50).all (chkI code) = true := by decide +kernel
theorem ck_9_0_18 : ((pg_9_0.drop 900).take 50).all (chkI code) = true := by decide +kernel
theorem ck_9_0_19 : ((pg_9_0.drop 950).take 50).all (chkI code) = true := by decide +kernel
theorem ck_9_0_e : ((pg_9_0.drop 1000)).all (chkI code) = true := by decide +kernel
theorem ck_9_0_s19 : (pg_9_0.drop 950).all (chkI code) = true := all_split _ 50 _ ck_9_0_19 (by rw [List.drop_drop]; exact ck_9_0_e)
theorem ck_9_0_s18 : (pg_9_0.drop 900).all (chkI code) = true := all_split _ 50 _ ck_9_0_18 (by rw [List.drop_drop]; exact ck_9_0_s19)
theorem ck_9_0_s17 : (pg_9_0.drop 850).all (chkI code) = true := all_split _ 50 _ ck_9_0_17 (by rw [List.drop_drop]; exact ck_9_0_s18)
theorem ck_9_0_s16 : (pg_9_0.drop 800).all (chkI code) = true := all_split _ 50 _ ck_9_0_16 (by rw [List.drop_drop]; exact ck_9_0_s17)
theorem ck_9_0_s15 : (pg_9_0.drop 750).all (chkI code) = true := all_split _ 50 _ ck_9_0_15 (by rw [List.drop_drop]; exact ck_9_0_s16)
theorem ck_9_0_s14 : (pg_9_0.drop 700).all (chkI code) = true := all_split _ 50 _ ck_9_0_14 (by rw [List.drop_drop]; exact ck_9_0_s15)
theorem ck_9_0_s13 : (pg_9_0.drop 650).all (chkI code) = true := all_split _ 50 _ ck_9_0_13 (by rw [List.drop_drop]; exact ck_9_0_s14)
theorem ck_9_0_s12 : (pg_9_0.drop 600).all (chkI code) = true := all_split _ 50 _ ck_9_0_12 (by rw [List.drop_drop]; exact ck_9_0_s13)
theorem ck_9_0_s11 : (pg_9_0.drop 550).all (chkI code) = true := all_split _ 50 _ ck_9_0_11 (by rw [List.drop_drop]; exact ck_9_0_s12)
theorem ck_9_0_s10 : (pg_9_0.drop 500).all (chkI code) = true := all_split _ 50 _ ck_9_0_10 (by rw [List.drop_drop]; exact ck_9_0_s11)
theorem ck_9_0_s9 : (pg_9_0.drop 450).all (chkI code) = true := all_split _ 50 _ ck_9_0_9 (by rw [List.drop_drop]; exact ck_9_0_s10)
theorem ck_9_0_s8 : (pg_9_0.drop 400).all (chkI code) = true := all_split _ 50 _ ck_9_0_8 (by rw [List.drop_drop]; exact ck_9_0_s9)
theorem ck_9_0_s7 : (pg_9_0.drop 350).all (chkI code) = true := all_split _ 50 _ ck_9_0_7 (by rw [List.drop_drop]; exact ck_9_0_s8)
theorem ck_9_0_s6 : (pg_9_0.drop 300).all (chkI code) = true := all_split _ 50 _ ck_9_0_6 (by rw [List.drop_drop]; exact ck_9_0_s7)
theorem ck_9_0_s5 : (pg_9_0.drop 250).all (chkI code) = true := all_split _ 50 _ ck_9_0_5 (by rw [List.drop_drop]; exact ck_9_0_s6)
theorem ck_9_0_s4 : (pg_9_0.drop 200).all (chkI code) = true := all_split _ 50 _ ck_9_0_4 (by rw [List.drop_drop]; exact ck_9_0_s5)
theorem ck_9_0_s3 : (pg_9_0.drop 150).all (chkI code) = true := all_split _ 50 _ ck_9_0_3 (by rw [List.drop_drop]; exact ck_9_0_s4)
theorem ck_9_0_s2 : (pg_9_0.drop 100).all (chkI code) = true := all_split _ 50 _ ck_9_0_2 (by rw [List.drop_drop]; exact ck_9_0_s3)
theorem ck_9_0_s1 : (pg_9_0.drop 50).all (chkI code) = true := all_split _ 50 _ ck_9_0_1 (by rw [List.drop_drop]; exact ck_9_0_s2)
theorem ck_9_0_s0 : (pg_9_0.drop 0).all (chkI code) = true := all_split _ 50 _ ck_9_0_0 (by rw [List.drop_drop]; exact ck_9_0_s1)
theorem ck_9_0 : pg_9_0.all (chkI code) = true := ck_9_0_s0
end
section
/-! An abstract machine over numbers and places (group, offset): its steps are decided by the class's own bytecode. Group 0 is what the two constructors make, group k + 1 the k-th text. -/
abbrev AV : Type := Int32 ⊕ (Int64 ⊕ Option (Nat × Nat))
abbrev vi (x : Int32) : AV := .inl x
abbrev vl (x : Int64) : AV := .inr (.inl x)
abbrev vr (g j : Nat) : AV := .inr (.inr (some (g, j)))
abbrev vn : AV := .inr (.inr none)
/-- ints, references, the next place, the script's length and ints -/
abbrev AH : Type := (Nat → Nat → Nat → Int32) × (Nat → Nat → Nat → Option (Nat × Nat)) × (Nat × Nat) × Nat × (Nat → Int32)
/-- depth, class, method, pc, locals, stack, heap -/
abbrev AX : Type := Nat × Nat × Nat × Nat × List (Option AV) × List AV × AH
abbrev AO : Type := Option AV × AH
abbrev AA : Type := Option AO ⊕ (AX ⊕ ((Bool × (AX ⊕ AO) × Option AX) ⊕ (AX × (AO → AX))))
abbrev a_fail : AA := .inl none
abbrev a_ret (v : Option AV) (h : AH) : AA := .inl (some (v, h))
abbrev a_go (x : AX) : AA := .inr (.inl x)
abbrev a_br (c : Bool) (x : AX) (y : Option AX) : AA := .inr (.inr (.inl (c, .inl x, y)))
abbrev a_brr (c : Bool) (o : AO) : AA := .inr (.inr (.inl (c, .inr o, none)))
abbrev a_call (x : AX) (k : AO → AX) : AA := .inr (.inr (.inr (x, k)))
def rI (h : AH) (g j i : Nat) : Int32 := h.1 g j i
def rR (h : AH) (g j i : Nat) : Option (Nat × Nat) := h.2.1 g j i
def wI (h : AH) (g j i : Nat) (v : Int32) : AH := (fun g' j' i' => if g' = g ∧ j' = j ∧ i' = i then v else h.1 g' j' i', h.2)
def wR (h : AH) (g j i : Nat) (v : Option (Nat × Nat)) : AH := (h.1, fun g' j' i' => if g' = g ∧ j' = j ∧ i' = i then v else h.2.1 g' j' i', h.2.2)
/-- a whole row of ints -/
def wA (h : AH) (g j : Nat) (f : Nat → Int32) : AH := (fun g' j' i' => if g' = g ∧ j' = j then f i' else h.1 g' j' i', h.2)
abbrev alo (h : AH) : Nat × Nat := h.2.2.1
/-- what stands at a place: (0, class), (1, length) of ints, (2, length) of texts, (3, length) of sheets -/
def shp0 : List (Nat × Nat) := [(0,7), (0,4), (1,40),
  (0,6), (0,3), (2,8), (1,8), (1,8), (0,0), (1,10), (1,10), (1,10), (1,10), (1,10), (1,10), (1,10), (1,10), (1,10), (1,10),
  (0,6), (0,3), (2,8), (1,8), (1,8), (0,0), (1,10), (1,10), (1,10), (1,10), (1,10), (1,10), (1,10), (1,10), (1,10), (1,10),
  (0,0), (1,10), (1,10), (1,10), (1,10), (1,10), (1,10), (1,10), (1,10), (1,10),
  (3,4), (1,8), (1,7), (0,1), (1,40), (0,1), (1,40), (0,1), (1,40), (0,1), (1,40),
  (0,8), (1,465), (1,465), (1,465), (1,7), (1,40), (1,40), (1,40), (1,40), (1,10), (1,8), (1,4), (1,4), (1,160), (1,40)]
def shpT : List (Nat × Nat) := [(0,5), (1,100), (1,100), (0,2), (1,40), (1,40), (0,2), (1,40), (1,40)]
def lkp {α : Type} (d : α) : List α → Nat → α
  | [], _ => d
  | a :: _, 0 => a
  | _ :: l, n + 1 => lkp d l n
def shp (g j : Nat) : Nat × Nat := match g with
  | 0 => lkp (9, 0) shp0 j
  | _ + 1 => lkp (9, 0) shpT j
def nxt (a : Nat × Nat) : Nat × Nat := match a.1 with
  | 0 => bif Nat.beq a.2 70 then (1, 0) else (0, a.2 + 1)
  | g + 1 => bif Nat.beq a.2 8 then (g + 2, 0) else (g + 1, a.2 + 1)
/-- a new cell at the next place: all 0 and null -/
def newc (h : AH) : AH := (fun g' j' i' => if g' = h.2.2.1.1 ∧ j' = h.2.2.1.2 then 0 else h.1 g' j' i', fun g' j' i' => if g' = h.2.2.1.1 ∧ j' = h.2.2.1.2 then none else h.2.1 g' j' i', nxt h.2.2.1, h.2.2.2)
def alk {α : Type} : List (Nat × α) → Nat → Option α
  | [], _ => none
  | q :: l, k => bif Nat.beq q.1 k then some q.2 else alk l k
def md (c i : Nat) : Option MD := lkp none ((lkp [] sd_mt c).map some) i
abbrev MD.pg (M : MD) : List (Nat × Instr × Nat) := M.2.2.2.2
def fkd (ci k : Nat) : Nat := lkp 9 (lkp [] sd_fk ci) k
def ffd (ci k : Nat) : Bool := lkp true (lkp [] sd_ff ci) k
def avC : AV → Nat
  | .inr (.inl _) => 2
  | _ => 1
/-- the locals at a method's entry -/
def eSl : List AV → List (Option AV)
  | [] => []
  | .inr (.inl y) :: l => some (.inr (.inl y)) :: none :: eSl l
  | v :: l => some v :: eSl l
def eL (n : Nat) (vs : List AV) : List (Option AV) := eSl vs ++ List.replicate (n - (eSl vs).length) none
def inb (x : Int32) (n : Nat) : Bool := !(decide (x < 0) || decide (n ≤ x.toNatClampNeg))
/-- the static rows and the script: length and ints -/
def stR (h : AH) (k : Nat) : Option (Nat × (Nat → Int32)) := match k with
  | 0 => some (7, fun i => lkp 0 [-1, 0, 0, 2, 0, 1, 0] i)
  | 1 => some (5, fun i => lkp 0 [1, 0, 0, 0, 0] i)
  | 2 => some (5, fun i => lkp 0 [9, 999, 99, 19, 1] i)
  | 3 => some (h.2.2.2.1, h.2.2.2.2)
  | _ => none
/-- a row of ints at a place, with its length -/
def rowOf (h : AH) (a : Nat × Nat) : Option (Nat × (Nat → Int32)) := match shp a.1 a.2 with
  | (1, n) => some (n, fun i => h.1 a.1 a.2 i)
  | (9, _) => (match a.1 with
    | 0 => bif Nat.ble 1000 a.2 then stR h (a.2 - 1000) else none
    | _ + 1 => none)
  | _ => none
def lenOf (h : AH) (a : Nat × Nat) : Option Nat := match shp a.1 a.2 with
  | (2, n) => some n
  | (3, n) => some n
  | _ => (rowOf h a).map (fun r => r.1)
def noL : List (Option AV) → Bool
  | [] => true
  | some (.inr (.inl _)) :: _ => false
  | _ :: l => noL l
def sto (ls : List (Option AV)) (k : Nat) (v : AV) (f : List (Option AV) → AA) : AA := bif noL ls && Nat.blt k ls.length then f (ls.set k (some v)) else a_fail
def catS : List AV → Nat
  | [] => 0
  | v :: l => avC v + catS l
def un1 (st : List AV) (f : Int32 → AV) (k : List AV → AA) : AA := match st with
  | .inl a :: r => k (f a :: r)
  | _ => a_fail
def bi2 (st : List AV) (f : Int32 → Int32 → Int32) (k : List AV → AA) : AA := match st with
  | .inl b :: .inl a :: r => k (.inl (f a b) :: r)
  | _ => a_fail
def jrem (a b : Int32) : Int32 := a - a / b * b
def jushr (a b : Int32) : Int32 := (a.toUInt32 >>> (b.toUInt32 &&& Int32.toUInt32 31)).toInt32
def act1 (M : MD) (d c i pc n : Nat) (ls : List (Option AV)) (st : List AV) (h : AH) (ins : Instr) : AA := match ins with
  | .iconst k => a_go (d, c, i, pc + n, ls, .inl (Int32.ofInt k) :: st, h)
  | .bipush k => a_go (d, c, i, pc + n, ls, .inl (Int8.ofInt k).toInt32 :: st, h)
  | .sipush k => a_go (d, c, i, pc + n, ls, .inl (Int16.ofInt k).toInt32 :: st, h)
  | .ldc k => (match alk (lkp [] sd_kt c) k with
    | some v => a_go (d, c, i, pc + n, ls, .inl v :: st, h)
    | none => a_fail)
  | .ldc_w k => (match alk (lkp [] sd_kt c) k with
    | some v => a_go (d, c, i, pc + n, ls, .inl v :: st, h)
    | none => a_fail)
  | .lconst k => a_go (d, c, i, pc + n, ls, .inr (.inl (Int64.ofNat (k : Nat))) :: st, h)
  | .ldc2_w k => (match alk (lkp [] sd_lt c) k with
    | some v => a_go (d, c, i, pc + n, ls, .inr (.inl v) :: st, h)
    | none => a_fail)
  | .iload_n k => (match lkp none ls (k : Nat) with
    | some (.inl x) => a_go (d, c, i, pc + n, ls, .inl x :: st, h)
    | _ => a_fail)
  | .iload k => (match lkp none ls k with
    | some (.inl x) => a_go (d, c, i, pc + n, ls, .inl x :: st, h)
    | _ => a_fail)
  | .aload_n k => (match lkp none ls (k : Nat) with
    | some (.inr (.inr (some a))) => a_go (d, c, i, pc + n, ls, .inr (.inr (some a)) :: st, h)
    | _ => a_fail)
  | .aload k => (match lkp none ls k with
    | some (.inr (.inr (some a))) => a_go (d, c, i, pc + n, ls, .inr (.inr (some a)) :: st, h)
    | _ => a_fail)
  | .lload_n k => (match lkp none ls (k : Nat) with
    | some (.inr (.inl x)) => a_go (d, c, i, pc + n, ls, .inr (.inl x) :: st, h)
    | _ => a_fail)
  | .lload k => (match lkp none ls k with
    | some (.inr (.inl x)) => a_go (d, c, i, pc + n, ls, .inr (.inl x) :: st, h)
    | _ => a_fail)
  | .istore_n k => (match st with
    | .inl x :: r => sto ls (k : Nat) (.inl x) (fun l => a_go (d, c, i, pc + n, l, r, h))
    | _ => a_fail)
  | .istore k => (match st with
    | .inl x :: r => sto ls k (.inl x) (fun l => a_go (d, c, i, pc + n, l, r, h))
    | _ => a_fail)
  | .astore_n k => (match st with
    | .inr (.inr (some a)) :: r => sto ls (k : Nat) (.inr (.inr (some a))) (fun l => a_go (d, c, i, pc + n, l, r, h))
    | _ => a_fail)
  | .astore k => (match st with
    | .inr (.inr (some a)) :: r => sto ls k (.inr (.inr (some a))) (fun l => a_go (d, c, i, pc + n, l, r, h))
    | _ => a_fail)
  | .iinc k v => (match lkp none ls k with
    | some (.inl x) => sto ls k (.inl (x + Int32.ofInt v)) (fun l => a_go (d, c, i, pc + n, l, st, h))
    | _ => a_fail)
  | .iadd => bi2 st (fun a b => a + b) (fun s => a_go (d, c, i, pc + n, ls, s, h))
  | .isub => bi2 st (fun a b => a - b) (fun s => a_go (d, c, i, pc + n, ls, s, h))
  | .imul => bi2 st (fun a b => a * b) (fun s => a_go (d, c, i, pc + n, ls, s, h))
  | .iand => bi2 st (fun a b => a &&& b) (fun s => a_go (d, c, i, pc + n, ls, s, h))
  | .ior => bi2 st (fun a b => a ||| b) (fun s => a_go (d, c, i, pc + n, ls, s, h))
  | .ixor => bi2 st (fun a b => a ^^^ b) (fun s => a_go (d, c, i, pc + n, ls, s, h))
  | .ishl => bi2 st (fun a b => a <<< (b &&& 31)) (fun s => a_go (d, c, i, pc + n, ls, s, h))
  | .ishr => bi2 st (fun a b => a >>> (b &&& 31)) (fun s => a_go (d, c, i, pc + n, ls, s, h))
  | .iushr => bi2 st jushr (fun s => a_go (d, c, i, pc + n, ls, s, h))
  | .idiv => (match st with
    | .inl b :: .inl a :: r => a_br (!decide (b = 0)) (d, c, i, pc + n, ls, .inl (a / b) :: r, h) none
    | _ => a_fail)
  | .irem => (match st with
    | .inl b :: .inl a :: r => a_br (!decide (b = 0)) (d, c, i, pc + n, ls, .inl (jrem a b) :: r, h) none
    | _ => a_fail)
  | .ineg => un1 st (fun a => .inl (-a)) (fun s => a_go (d, c, i, pc + n, ls, s, h))
  | .i2l => un1 st (fun a => .inr (.inl a.toInt64)) (fun s => a_go (d, c, i, pc + n, ls, s, h))
  | .i2b => un1 st (fun a => .inl a.toInt8.toInt32) (fun s => a_go (d, c, i, pc + n, ls, s, h))
  | .i2s => un1 st (fun a => .inl a.toInt16.toInt32) (fun s => a_go (d, c, i, pc + n, ls, s, h))
  | .lcmp => (match st with
    | .inr (.inl b) :: .inr (.inl a) :: r => a_go (d, c, i, pc + n, ls, .inl (lg_cmp a b) :: r, h)
    | _ => a_fail)
  | .dup => (match st with
    | .inl a :: r => a_go (d, c, i, pc + n, ls, .inl a :: .inl a :: r, h)
    | .inr (.inr a) :: r => a_go (d, c, i, pc + n, ls, .inr (.inr a) :: .inr (.inr a) :: r, h)
    | _ => a_fail)
  | .dup2 => (match st with
    | .inl b :: .inr (.inr a) :: r => a_go (d, c, i, pc + n, ls, .inl b :: .inr (.inr a) :: .inl b :: .inr (.inr a) :: r, h)
    | _ => a_fail)
  | .goto off => a_go (d, c, i, tgt pc off, ls, st, h)
  | .ifCond q off => (match st with
    | .inl a :: r => (match q with
      | .eq => a_br (decide (a = 0)) (d, c, i, tgt pc off, ls, r, h) (some (d, c, i, pc + n, ls, r, h))
      | .ne => a_br (decide (a = 0)) (d, c, i, pc + n, ls, r, h) (some (d, c, i, tgt pc off, ls, r, h))
      | .lt => a_br (decide (a < 0)) (d, c, i, tgt pc off, ls, r, h) (some (d, c, i, pc + n, ls, r, h))
      | .ge => a_br (decide (a < 0)) (d, c, i, pc + n, ls, r, h) (some (d, c, i, tgt pc off, ls, r, h))
      | .gt => a_br (decide (0 < a)) (d, c, i, tgt pc off, ls, r, h) (some (d, c, i, pc + n, ls, r, h))
      | .le => a_br (decide (0 < a)) (d, c, i, pc + n, ls, r, h) (some (d, c, i, tgt pc off, ls, r, h)))
    | _ => a_fail)
  | .if_icmp q off => (match st with
    | .inl b :: .inl a :: r => (match q with
      | .eq => a_br (decide (a = b)) (d, c, i, tgt pc off, ls, r, h) (some (d, c, i, pc + n, ls, r, h))
      | .ne => a_br (decide (a = b)) (d, c, i, pc + n, ls, r, h) (some (d, c, i, tgt pc off, ls, r, h))
      | .lt => a_br (decide (a < b)) (d, c, i, tgt pc off, ls, r, h) (some (d, c, i, pc + n, ls, r, h))
      | .ge => a_br (decide (a < b)) (d, c, i, pc + n, ls, r, h) (some (d, c, i, tgt pc off, ls, r, h))
      | .gt => a_br (decide (b < a)) (d, c, i, tgt pc off, ls, r, h) (some (d, c, i, pc + n, ls, r, h))
      | .le => a_br (decide (b < a)) (d, c, i, pc + n, ls, r, h) (some (d, c, i, tgt pc off, ls, r, h)))
    | _ => a_fail)
  | .ifnull off => (match st with
    | .inr (.inr (some _)) :: r => a_go (d, c, i, pc + n, ls, r, h)
    | .inr (.inr none) :: r => a_go (d, c, i, tgt pc off, ls, r, h)
    | _ => a_fail)
  | .tableswitch dflt lo hi offs => (match st with
    | .inl a :: r => a_br (decide (a.toInt < lo) || decide (hi < a.toInt)) (d, c, i, tgt pc dflt, ls, r, h) (some (d, c, i, tgt pc (lkp 0 offs.toList (a.toInt - lo).toNat), ls, r, h))
    | _ => a_fail)
  | .getfield k => (match st with
    | .inr (.inr (some a)) :: r => (match alk (lkp [] sd_ft c) k with
      | some (ci, f, _) => bif Nat.beq (shp a.1 a.2).1 0 && Nat.beq (shp a.1 a.2).2 ci then
          a_go (d, c, i, pc + n, ls, (bif Nat.beq (fkd ci f) 2 then .inr (.inr (rR h a.1 a.2 f)) else .inl (rI h a.1 a.2 f)) :: r, h) else a_fail
      | none => a_fail)
    | _ => a_fail)
  | .putfield k => (match alk (lkp [] sd_ft c) k with
      | some (ci, f, _) => (match st with
        | .inl x :: .inr (.inr (some a)) :: r => bif Nat.beq (shp a.1 a.2).1 0 && Nat.beq (shp a.1 a.2).2 ci && (!(ffd ci f) || (Nat.beq c ci && Nat.beq i 0)) then
            (bif Nat.beq (fkd ci f) 0 then a_go (d, c, i, pc + n, ls, r, wI h a.1 a.2 f x)
             else bif Nat.beq (fkd ci f) 1 then a_br (decide (x = 0) || decide (x = 1)) (d, c, i, pc + n, ls, r, wI h a.1 a.2 f x) none else a_fail) else a_fail
        | .inr (.inr (some b)) :: .inr (.inr (some a)) :: r => bif Nat.beq (shp a.1 a.2).1 0 && Nat.beq (shp a.1 a.2).2 ci && (!(ffd ci f) || (Nat.beq c ci && Nat.beq i 0)) && Nat.beq (fkd ci f) 2 then
            a_go (d, c, i, pc + n, ls, r, wR h a.1 a.2 f (some b)) else a_fail
        | _ => a_fail)
      | none => a_fail)
  | .getstatic k => (match alk (lkp [] sd_st c) k with
    | some j => a_go (d, c, i, pc + n, ls, .inr (.inr (some (0, 1000 + j))) :: st, h)
    | none => a_fail)
  | .arraylength => (match st with
    | .inr (.inr (some a)) :: r => (match lenOf h a with
      | some m => a_go (d, c, i, pc + n, ls, .inl (Int32.ofNat m) :: r, h)
      | none => a_fail)
    | _ => a_fail)
  | .iaload => (match st with
    | .inl x :: .inr (.inr (some a)) :: r => (match rowOf h a with
      | some (m, f) => a_br (inb x m) (d, c, i, pc + n, ls, .inl (f x.toNatClampNeg) :: r, h) none
      | none => a_fail)
    | _ => a_fail)
  | .iastore => (match st with
    | .inl v :: .inl x :: .inr (.inr (some a)) :: r => bif Nat.beq (shp a.1 a.2).1 1 then a_br (inb x (shp a.1 a.2).2) (d, c, i, pc + n, ls, r, wI h a.1 a.2 x.toNatClampNeg v) none else a_fail
    | _ => a_fail)
  | .aaload => (match st with
    | .inl x :: .inr (.inr (some a)) :: r => bif Nat.beq (shp a.1 a.2).1 2 || Nat.beq (shp a.1 a.2).1 3 then a_br (inb x (shp a.1 a.2).2) (d, c, i, pc + n, ls, .inr (.inr (rR h a.1 a.2 x.toNatClampNeg)) :: r, h) none else a_fail
    | _ => a_fail)
  | .aastore => (match st with
    | .inr (.inr none) :: .inl x :: .inr (.inr (some a)) :: r => bif Nat.beq (shp a.1 a.2).1 2 || Nat.beq (shp a.1 a.2).1 3 then a_br (inb x (shp a.1 a.2).2) (d, c, i, pc + n, ls, r, wR h a.1 a.2 x.toNatClampNeg none) none else a_fail
    | .inr (.inr (some b)) :: .inl x :: .inr (.inr (some a)) :: r => bif Nat.beq (shp b.1 b.2).1 0 && ((Nat.beq (shp a.1 a.2).1 2 && Nat.beq (shp b.1 b.2).2 5) || (Nat.beq (shp a.1 a.2).1 3 && Nat.beq (shp b.1 b.2).2 1)) then a_br (inb x (shp a.1 a.2).2) (d, c, i, pc + n, ls, r, wR h a.1 a.2 x.toNatClampNeg (some b)) none else a_fail
    | _ => a_fail)
  | .newarray t => (match t, st with
    | .int, .inl x :: r => bif Nat.beq (shp (alo h).1 (alo h).2).1 1 && decide (x = Int32.ofNat (shp (alo h).1 (alo h).2).2) then a_go (d, c, i, pc + n, ls, .inr (.inr (some (alo h))) :: r, newc h) else a_fail
    | _, _ => a_fail)
  | .anewarray k => (match st with
    | .inl x :: r => (match alk (lkp [] sd_nt c) k with
      | some ci => bif ((Nat.beq (shp (alo h).1 (alo h).2).1 2 && Nat.beq ci 5) || (Nat.beq (shp (alo h).1 (alo h).2).1 3 && Nat.beq ci 1)) && decide (x = Int32.ofNat (shp (alo h).1 (alo h).2).2) then a_go (d, c, i, pc + n, ls, .inr (.inr (some (alo h))) :: r, newc h) else a_fail
      | none => a_fail)
    | _ => a_fail)
  | .new k => (match alk (lkp [] sd_nt c) k with
      | some ci => bif Nat.beq (shp (alo h).1 (alo h).2).1 0 && Nat.beq (shp (alo h).1 (alo h).2).2 ci then a_go (d, c, i, pc + n, ls, .inr (.inr (some (alo h))) :: st, newc h) else a_fail
      | none => a_fail)
  | .invokestatic k => (match alk (lkp [] sd_ct c) k, d with
    | some (t, c', i', m), d' + 1 => (match md c' i' with
      | some M' => bif (Nat.beq t 0 || Nat.beq t 3) && Nat.ble m st.length && Nat.ble (catS (st.drop m)) 8 then
          a_call (d', c', i', 0, eL M'.2.2.1 (st.take m).reverse, [], h) (fun o => (d' + 1, c, i, pc + n, ls, o.1.toList ++ st.drop m, o.2)) else
          bif Nat.beq t 7 then (match st with
            | .inl m :: .inl dp :: .inr (.inr (some b)) :: .inl sp :: .inr (.inr (some a)) :: r => bif Nat.beq (shp a.1 a.2).1 1 && Nat.beq (shp b.1 b.2).1 1 && Nat.ble (catS r) 8 then
                a_br (!decide (sp < 0) && !decide (dp < 0) && !decide (m < 0) && decide (sp.toNatClampNeg + m.toNatClampNeg ≤ (shp a.1 a.2).2) && decide (dp.toNatClampNeg + m.toNatClampNeg ≤ (shp b.1 b.2).2))
                  (d' + 1, c, i, pc + n, ls, r, wA h b.1 b.2 (va_cpy (h.1 a.1 a.2) (h.1 b.1 b.2) sp.toNatClampNeg dp.toNatClampNeg m.toNatClampNeg)) none else a_fail
            | _ => a_fail) else a_fail
      | none => a_fail)
    | _, _ => a_fail)
  | .invokevirtual k => (match alk (lkp [] sd_ct c) k, d with
    | some (t, c', i', m), d' + 1 => (match md c' i', (st.drop m) with
      | some M', .inr (.inr (some a)) :: r => bif (Nat.beq t 1 || Nat.beq t 4) && Nat.ble m st.length && Nat.ble (catS r) 8 && Nat.beq (shp a.1 a.2).1 0 && Nat.beq (shp a.1 a.2).2 c' then
          a_call (d', c', i', 0, eL M'.2.2.1 (.inr (.inr (some a)) :: (st.take m).reverse), [], h) (fun o => (d' + 1, c, i, pc + n, ls, o.1.toList ++ r, o.2)) else a_fail
      | _, _ => a_fail)
    | _, _ => a_fail)
  | .invokespecial k => (match alk (lkp [] sd_ct c) k, d with
    | some (t, c', i', m), d' + 1 => (match md c' i', (st.drop m) with
      | some M', .inr (.inr (some a)) :: r => bif (Nat.beq t 2 || Nat.beq t 5) && Nat.ble m st.length && Nat.ble (catS r) 8 then
          a_call (d', c', i', 0, eL M'.2.2.1 (.inr (.inr (some a)) :: (st.take m).reverse), [], h) (fun o => (d' + 1, c, i, pc + n, ls, o.1.toList ++ r, o.2)) else
          bif Nat.beq t 6 && Nat.ble (catS r) 8 then a_go (d' + 1, c, i, pc + n, ls, r, h) else a_fail
      | _, _ => a_fail)
    | _, _ => a_fail)
  | .ireturn => (match st, M.2.2.2.1 with
    | [.inl x], some .int => a_ret (some (.inl x)) h
    | [.inl x], some .boolean => a_brr (decide (x = 0) || decide (x = 1)) (some (.inl x), h)
    | _, _ => a_fail)
  | .return_ => (match st, M.2.2.2.1 with
    | [], none => a_ret none h
    | _, _ => a_fail)
  | .areturn => (match st, M.2.2.2.1 with
    | [.inr (.inr (some a))], some (.array .int) => a_ret (some (.inr (.inr (some a)))) h
    | _, _ => a_fail)
  | _ => a_fail
def act (x : AX) : AA := match md x.2.1 x.2.2.1 with
  | none => a_fail
  | some M => (match alk M.2.2.2.2 x.2.2.2.1 with
    | none => a_fail
    | some q => act1 M x.1 x.2.1 x.2.2.1 x.2.2.2.1 q.2 x.2.2.2.2.1 x.2.2.2.2.2.1 x.2.2.2.2.2.2 q.1)
def ev : Nat → AX → Option AO
  | 0, _ => none
  | F + 1, x => (match act x with
    | .inl o => o
    | .inr (.inl y) => ev F y
    | .inr (.inr (.inl (b, y, z))) => bif b then (match y with
      | .inl y => ev F y
      | .inr o => some o) else (match z with
      | some z => ev F z
      | none => none)
    | .inr (.inr (.inr (y, k))) => (ev F y).bind (fun o => ev F (k o)))
theorem ev_mono1 : ∀ (F : Nat) (x : AX) (o : AO), ev F x = some o → ev (F + 1) x = some o
  | 0, x, o, h => by simp [ev] at h
  | F + 1, x, o, h => by
    rw [ev] at h ⊢
    split at h
    · exact h
    · exact ev_mono1 F _ o h
    · rename_i b y z _
      cases b with
      | true =>
        cases y with
        | inl y => exact ev_mono1 F _ o h
        | inr o' => exact h
      | false =>
        cases z with
        | some z => exact ev_mono1 F _ o h
        | none => exact h
    · rename_i y k _
      cases hy : ev F y with
      | none => rw [hy] at h; cases h
      | some o1 =>
        rw [hy] at h
        rw [ev_mono1 F y o1 hy]
        exact ev_mono1 F _ o h
theorem ev_mono {F G : Nat} (hFG : F ≤ G) {x : AX} {o : AO} (h : ev F x = some o) : ev G x = some o := by
  induction hFG with
  | refl => exact h
  | step _ ih => exact ev_mono1 _ _ _ ih
theorem ev_one {F G : Nat} {x : AX} {o o' : AO} (h : ev F x = some o) (h' : ev G x = some o') : o = o' := by
  have h1 := ev_mono (Nat.le_max_left F G) h
  have h2 := ev_mono (Nat.le_max_right F G) h'
  exact Option.some.inj (h1.symm.trans h2)
noncomputable def den (x : AX) : Option AO := @dite (Option AO) (∃ F o, ev F x = some o) (Classical.propDecidable _) (fun h => some (Classical.choose (Classical.choose_spec h))) (fun _ => none)
theorem den_of {F : Nat} {x : AX} {o : AO} (h : ev F x = some o) : den x = some o := by
  have hx : ∃ F o, ev F x = some o := ⟨F, o, h⟩
  rw [den, dif_pos hx]
  exact congrArg some (ev_one (Classical.choose_spec (Classical.choose_spec hx)) h)
theorem den_ev {x : AX} {o : AO} (h : den x = some o) : ∃ F, ev F x = some o := by
  by_cases hx : ∃ F o, ev F x = some o
  · rw [den, dif_pos hx] at h
    have h2 := Classical.choose_spec (Classical.choose_spec hx)
    rw [Option.some.inj h] at h2
    exact ⟨_, h2⟩
  · rw [den, dif_neg hx] at h
    cases h
theorem den_iff {x : AX} {o : AO} : den x = some o ↔ ∃ F, ev F x = some o := ⟨den_ev, fun ⟨_, h⟩ => den_of h⟩
theorem den_eq_of {x : AX} {r : Option AO} (h : ∀ o, den x = some o ↔ r = some o) : den x = r := by
  cases hr : r with
  | some o => exact (h o).mpr hr
  | none =>
    cases hd : den x with
    | none => rfl
    | some o => have := (h o).mp hd; rw [hr] at this; cases this
theorem den_step (x : AX) : den x = (match act x with
    | .inl o => o
    | .inr (.inl y) => den y
    | .inr (.inr (.inl (b, y, z))) => bif b then (match y with
      | .inl y => den y
      | .inr o => some o) else (match z with
      | some z => den z
      | none => none)
    | .inr (.inr (.inr (y, k))) => (den y).bind (fun o => den (k o))) := by
  apply den_eq_of
  intro o
  rw [den_iff]
  have hs : (∃ F, ev F x = some o) ↔ ∃ F, ev (F + 1) x = some o := by
    constructor
    · rintro ⟨F, h⟩
      exact ⟨F, ev_mono1 _ _ _ h⟩
    · rintro ⟨F, h⟩
      exact ⟨F + 1, h⟩
  rw [hs]
  constructor
  · rintro ⟨F, h⟩
    rw [ev] at h
    split at h
    · exact h
    · exact den_of h
    · rename_i b y z _
      cases b with
      | true =>
        cases y with
        | inl y => exact den_of (F := F) h
        | inr o' => exact h
      | false =>
        cases z with
        | some z => exact den_of (F := F) h
        | none => exact h
    · rename_i y k _
      cases hy : ev F y with
      | none => rw [hy] at h; cases h
      | some o1 =>
        rw [hy] at h
        show (den y).bind (fun o => den (k o)) = some o
        rw [den_of hy]
        exact den_of (F := F) h
  · intro h
    split at h
    · rename_i o' ho
      exact ⟨0, by rw [ev, ho]; exact h⟩
    · rename_i y hy
      obtain ⟨F, hF⟩ := den_ev h
      exact ⟨F, by rw [ev, hy]; exact hF⟩
    · rename_i b y z hy
      cases b with
      | true =>
        cases y with
        | inl y =>
          obtain ⟨F, hF⟩ := den_ev (show den y = some o from h)
          exact ⟨F, by rw [ev, hy]; exact hF⟩
        | inr o' => exact ⟨0, by rw [ev, hy]; exact h⟩
      | false =>
        cases z with
        | some z =>
          obtain ⟨F, hF⟩ := den_ev (show den z = some o from h)
          exact ⟨F, by rw [ev, hy]; exact hF⟩
        | none => exact ⟨0, by rw [ev, hy]; exact h⟩
    · rename_i y k hy
      cases hd : den y with
      | none => rw [hd] at h; cases h
      | some o1 =>
        rw [hd] at h
        obtain ⟨F, hF⟩ := den_ev hd
        obtain ⟨G, hG⟩ := den_ev (show den (k o1) = some o from h)
        refine ⟨max F G, ?_⟩
        rw [ev, hy]
        show (ev (max F G) y).bind (fun o => ev (max F G) (k o)) = some o
        rw [ev_mono (Nat.le_max_left F G) hF]
        exact ev_mono (Nat.le_max_right F G) hG
/-- n instructions further, along each branch -/
noncomputable def run : Nat → AX → Option AO
  | 0, x => den x
  | n + 1, x => (match act x with
    | .inl o => o
    | .inr (.inl y) => run n y
    | .inr (.inr (.inl (b, y, z))) => bif b then (match y with
      | .inl y => run n y
      | .inr o => some o) else (match z with
      | some z => run n z
      | none => none)
    | .inr (.inr (.inr (y, k))) => (den y).bind (fun o => run n (k o)))
theorem den_run : ∀ (n : Nat) (x : AX), den x = run n x
  | 0, _ => rfl
  | n + 1, x => by
    rw [den_step x, run]
    split
    · rfl
    · exact den_run n _
    · rename_i b y z _
      cases b with
      | true =>
        cases y with
        | inl y => exact den_run n _
        | inr o' => rfl
      | false =>
        cases z with
        | some z => exact den_run n _
        | none => rfl
    · rename_i y k _
      cases den y with
      | none => rfl
      | some o => exact den_run n _
end
