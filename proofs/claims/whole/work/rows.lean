section
-- ===== PART A: goes FIRST, ahead of the names: the tables' words, and 'selects' of the private methods out of them =====
/-- a private method of a class that the tables say can be made, by its rows of tables_1 -/
def lw_okq (q : MethodName × Nat) : Prop := (q.1.cls ≠ "java/lang/invoke/MethodHandle" ∧ q.1.cls ≠ "java/lang/invoke/VarHandle") ∧ Cond.instantiable q.1.cls q.2 ∈ tables_1 ∧ Cond.privateMethod q.1 ∈ tables_1 ∧ Cond.instanceMethod q.1 ∈ tables_1
theorem lw_p0 : lw_okq (⟨"BlobRuns", "parted", "()LBlobRuns$Parting;"⟩, 7) := ⟨⟨by decide +kernel, by decide +kernel⟩, List.mem_of_getElem? (i := 12) (by decide +kernel), List.mem_of_getElem? (i := 194) (by decide +kernel), List.mem_of_getElem? (i := 195) (by decide +kernel)⟩
theorem lw_p1 : lw_okq (⟨"BlobRuns$Runs", "cut", "(II)V"⟩, 8) := ⟨⟨by decide +kernel, by decide +kernel⟩, List.mem_of_getElem? (i := 44) (by decide +kernel), List.mem_of_getElem? (i := 211) (by decide +kernel), List.mem_of_getElem? (i := 212) (by decide +kernel)⟩
theorem lw_p2 : lw_okq (⟨"BlobRuns$Runs", "add", "(IIIZ)V"⟩, 8) := ⟨⟨by decide +kernel, by decide +kernel⟩, List.mem_of_getElem? (i := 44) (by decide +kernel), List.mem_of_getElem? (i := 215) (by decide +kernel), List.mem_of_getElem? (i := 216) (by decide +kernel)⟩
theorem lw_p3 : lw_okq (⟨"BlobRuns$Runs", "joinToRowAbove", "(IZI)V"⟩, 8) := ⟨⟨by decide +kernel, by decide +kernel⟩, List.mem_of_getElem? (i := 44) (by decide +kernel), List.mem_of_getElem? (i := 223) (by decide +kernel), List.mem_of_getElem? (i := 224) (by decide +kernel)⟩
theorem lw_p4 : lw_okq (⟨"BlobRuns$Runs", "firstOfColour", "(IZ)I"⟩, 8) := ⟨⟨by decide +kernel, by decide +kernel⟩, List.mem_of_getElem? (i := 44) (by decide +kernel), List.mem_of_getElem? (i := 227) (by decide +kernel), List.mem_of_getElem? (i := 228) (by decide +kernel)⟩
theorem lw_p5 : lw_okq (⟨"BlobRuns$Runs", "join", "(II)V"⟩, 8) := ⟨⟨by decide +kernel, by decide +kernel⟩, List.mem_of_getElem? (i := 44) (by decide +kernel), List.mem_of_getElem? (i := 243) (by decide +kernel), List.mem_of_getElem? (i := 244) (by decide +kernel)⟩
theorem lw_p6 : lw_okq (⟨"BlobRuns$Runs", "leastKnown", "(I)I"⟩, 8) := ⟨⟨by decide +kernel, by decide +kernel⟩, List.mem_of_getElem? (i := 44) (by decide +kernel), List.mem_of_getElem? (i := 247) (by decide +kernel), List.mem_of_getElem? (i := 248) (by decide +kernel)⟩
theorem lw_p7 : lw_okq (⟨"BlobRuns$Runs", "settle", "()V"⟩, 8) := ⟨⟨by decide +kernel, by decide +kernel⟩, List.mem_of_getElem? (i := 44) (by decide +kernel), List.mem_of_getElem? (i := 257) (by decide +kernel), List.mem_of_getElem? (i := 258) (by decide +kernel)⟩
theorem lw_p8 : lw_okq (⟨"BlobRuns$Parting", "measure", "(ILBlobRuns$Picture;)V"⟩, 14) := ⟨⟨by decide +kernel, by decide +kernel⟩, List.mem_of_getElem? (i := 38) (by decide +kernel), List.mem_of_getElem? (i := 265) (by decide +kernel), List.mem_of_getElem? (i := 266) (by decide +kernel)⟩
theorem lw_p9 : lw_okq (⟨"BlobRuns$Parting", "clear", "(I)V"⟩, 14) := ⟨⟨by decide +kernel, by decide +kernel⟩, List.mem_of_getElem? (i := 38) (by decide +kernel), List.mem_of_getElem? (i := 276) (by decide +kernel), List.mem_of_getElem? (i := 277) (by decide +kernel)⟩
theorem lw_p10 : lw_okq (⟨"BlobRuns$Parting", "giveNumber", "(I)V"⟩, 14) := ⟨⟨by decide +kernel, by decide +kernel⟩, List.mem_of_getElem? (i := 38) (by decide +kernel), List.mem_of_getElem? (i := 292) (by decide +kernel), List.mem_of_getElem? (i := 293) (by decide +kernel)⟩
theorem lw_p11 : lw_okq (⟨"BlobRuns$Parting", "numberAt", "(IIZ)I"⟩, 14) := ⟨⟨by decide +kernel, by decide +kernel⟩, List.mem_of_getElem? (i := 38) (by decide +kernel), List.mem_of_getElem? (i := 332) (by decide +kernel), List.mem_of_getElem? (i := 333) (by decide +kernel)⟩
theorem lw_p12 : lw_okq (⟨"BlobRuns$Parting", "isTouched", "(II)Z"⟩, 14) := ⟨⟨by decide +kernel, by decide +kernel⟩, List.mem_of_getElem? (i := 38) (by decide +kernel), List.mem_of_getElem? (i := 388) (by decide +kernel), List.mem_of_getElem? (i := 389) (by decide +kernel)⟩
theorem lw_p13 : lw_okq (⟨"BlobRuns", "splitsAt", "(III)I"⟩, 7) := ⟨⟨by decide +kernel, by decide +kernel⟩, List.mem_of_getElem? (i := 12) (by decide +kernel), List.mem_of_getElem? (i := 392) (by decide +kernel), List.mem_of_getElem? (i := 393) (by decide +kernel)⟩
theorem lw_p14 : lw_okq (⟨"BlobRuns", "remember", "()V"⟩, 7) := ⟨⟨by decide +kernel, by decide +kernel⟩, List.mem_of_getElem? (i := 12) (by decide +kernel), List.mem_of_getElem? (i := 466) (by decide +kernel), List.mem_of_getElem? (i := 467) (by decide +kernel)⟩
theorem lw_p15 : lw_okq (⟨"BlobRuns", "flipGroup", "(I)I"⟩, 7) := ⟨⟨by decide +kernel, by decide +kernel⟩, List.mem_of_getElem? (i := 12) (by decide +kernel), List.mem_of_getElem? (i := 491) (by decide +kernel), List.mem_of_getElem? (i := 492) (by decide +kernel)⟩
def lw_privs_1 : List (MethodName × Nat) := [(⟨"BlobRuns", "parted", "()LBlobRuns$Parting;"⟩, 7), (⟨"BlobRuns$Runs", "cut", "(II)V"⟩, 8), (⟨"BlobRuns$Runs", "add", "(IIIZ)V"⟩, 8), (⟨"BlobRuns$Runs", "joinToRowAbove", "(IZI)V"⟩, 8), (⟨"BlobRuns$Runs", "firstOfColour", "(IZ)I"⟩, 8), (⟨"BlobRuns$Runs", "join", "(II)V"⟩, 8), (⟨"BlobRuns$Runs", "leastKnown", "(I)I"⟩, 8), (⟨"BlobRuns$Runs", "settle", "()V"⟩, 8), (⟨"BlobRuns$Parting", "measure", "(ILBlobRuns$Picture;)V"⟩, 14), (⟨"BlobRuns$Parting", "clear", "(I)V"⟩, 14), (⟨"BlobRuns$Parting", "giveNumber", "(I)V"⟩, 14), (⟨"BlobRuns$Parting", "numberAt", "(IIZ)I"⟩, 14), (⟨"BlobRuns$Parting", "isTouched", "(II)Z"⟩, 14), (⟨"BlobRuns", "splitsAt", "(III)I"⟩, 7), (⟨"BlobRuns", "remember", "()V"⟩, 7), (⟨"BlobRuns", "flipGroup", "(I)I"⟩, 7)]
theorem lw_r1 : ∀ q ∈ lw_privs_1, lw_okq q := List.forall_mem_cons.mpr ⟨lw_p0, List.forall_mem_cons.mpr ⟨lw_p1, List.forall_mem_cons.mpr ⟨lw_p2, List.forall_mem_cons.mpr ⟨lw_p3, List.forall_mem_cons.mpr ⟨lw_p4, List.forall_mem_cons.mpr ⟨lw_p5, List.forall_mem_cons.mpr ⟨lw_p6, List.forall_mem_cons.mpr ⟨lw_p7, List.forall_mem_cons.mpr ⟨lw_p8, List.forall_mem_cons.mpr ⟨lw_p9, List.forall_mem_cons.mpr ⟨lw_p10, List.forall_mem_cons.mpr ⟨lw_p11, List.forall_mem_cons.mpr ⟨lw_p12, List.forall_mem_cons.mpr ⟨lw_p13, List.forall_mem_cons.mpr ⟨lw_p14, List.forall_mem_cons.mpr ⟨lw_p15, fun _ h => absurd h List.not_mem_nil⟩⟩⟩⟩⟩⟩⟩⟩⟩⟩⟩⟩⟩⟩⟩⟩
theorem lw_p16 : lw_okq (⟨"BlobRuns$Picture", "becomeNext", "()V"⟩, 3) := ⟨⟨by decide +kernel, by decide +kernel⟩, List.mem_of_getElem? (i := 20) (by decide +kernel), List.mem_of_getElem? (i := 516) (by decide +kernel), List.mem_of_getElem? (i := 517) (by decide +kernel)⟩
theorem lw_p17 : lw_okq (⟨"BlobRuns", "drawPlace", "()I"⟩, 7) := ⟨⟨by decide +kernel, by decide +kernel⟩, List.mem_of_getElem? (i := 12) (by decide +kernel), List.mem_of_getElem? (i := 559) (by decide +kernel), List.mem_of_getElem? (i := 560) (by decide +kernel)⟩
theorem lw_p18 : lw_okq (⟨"BlobRuns$Parting", "nextOfGroup", "(II)I"⟩, 14) := ⟨⟨by decide +kernel, by decide +kernel⟩, List.mem_of_getElem? (i := 38) (by decide +kernel), List.mem_of_getElem? (i := 593) (by decide +kernel), List.mem_of_getElem? (i := 594) (by decide +kernel)⟩
theorem lw_p19 : lw_okq (⟨"BlobRunsModel", "parts", "([I)V"⟩, 17) := ⟨⟨by decide +kernel, by decide +kernel⟩, List.mem_of_getElem? (i := 643) (by decide +kernel), List.mem_of_getElem? (i := 705) (by decide +kernel), List.mem_of_getElem? (i := 706) (by decide +kernel)⟩
theorem lw_p20 : lw_okq (⟨"BlobRunsModel", "floods", "([III)Z"⟩, 17) := ⟨⟨by decide +kernel, by decide +kernel⟩, List.mem_of_getElem? (i := 643) (by decide +kernel), List.mem_of_getElem? (i := 715) (by decide +kernel), List.mem_of_getElem? (i := 716) (by decide +kernel)⟩
theorem lw_p21 : lw_okq (⟨"BlobRunsModel", "darkOf", "([I)I"⟩, 17) := ⟨⟨by decide +kernel, by decide +kernel⟩, List.mem_of_getElem? (i := 643) (by decide +kernel), List.mem_of_getElem? (i := 725) (by decide +kernel), List.mem_of_getElem? (i := 726) (by decide +kernel)⟩
theorem lw_p22 : lw_okq (⟨"BlobRunsModel", "sidesOf", "(I)I"⟩, 17) := ⟨⟨by decide +kernel, by decide +kernel⟩, List.mem_of_getElem? (i := 643) (by decide +kernel), List.mem_of_getElem? (i := 735) (by decide +kernel), List.mem_of_getElem? (i := 736) (by decide +kernel)⟩
theorem lw_p23 : lw_okq (⟨"BlobRunsModel", "deep", "(I)I"⟩, 17) := ⟨⟨by decide +kernel, by decide +kernel⟩, List.mem_of_getElem? (i := 643) (by decide +kernel), List.mem_of_getElem? (i := 742) (by decide +kernel), List.mem_of_getElem? (i := 743) (by decide +kernel)⟩
theorem lw_p24 : lw_okq (⟨"BlobRunsModel", "liesIn", "(I)I"⟩, 17) := ⟨⟨by decide +kernel, by decide +kernel⟩, List.mem_of_getElem? (i := 643) (by decide +kernel), List.mem_of_getElem? (i := 746) (by decide +kernel), List.mem_of_getElem? (i := 747) (by decide +kernel)⟩
theorem lw_p25 : lw_okq (⟨"BlobRunsModel", "partOf", "(I)I"⟩, 17) := ⟨⟨by decide +kernel, by decide +kernel⟩, List.mem_of_getElem? (i := 643) (by decide +kernel), List.mem_of_getElem? (i := 750) (by decide +kernel), List.mem_of_getElem? (i := 751) (by decide +kernel)⟩
theorem lw_p26 : lw_okq (⟨"BlobRunsModel", "lightOf", "(I)I"⟩, 17) := ⟨⟨by decide +kernel, by decide +kernel⟩, List.mem_of_getElem? (i := 643) (by decide +kernel), List.mem_of_getElem? (i := 754) (by decide +kernel), List.mem_of_getElem? (i := 755) (by decide +kernel)⟩
theorem lw_p27 : lw_okq (⟨"BlobRunsModel", "largest", "()I"⟩, 17) := ⟨⟨by decide +kernel, by decide +kernel⟩, List.mem_of_getElem? (i := 643) (by decide +kernel), List.mem_of_getElem? (i := 758) (by decide +kernel), List.mem_of_getElem? (i := 759) (by decide +kernel)⟩
theorem lw_p28 : lw_okq (⟨"BlobRunsModel", "sizeOf", "(ZI)I"⟩, 17) := ⟨⟨by decide +kernel, by decide +kernel⟩, List.mem_of_getElem? (i := 643) (by decide +kernel), List.mem_of_getElem? (i := 762) (by decide +kernel), List.mem_of_getElem? (i := 763) (by decide +kernel)⟩
theorem lw_p29 : lw_okq (⟨"BlobRunsModel", "isOf", "(IZI)Z"⟩, 17) := ⟨⟨by decide +kernel, by decide +kernel⟩, List.mem_of_getElem? (i := 643) (by decide +kernel), List.mem_of_getElem? (i := 766) (by decide +kernel), List.mem_of_getElem? (i := 767) (by decide +kernel)⟩
theorem lw_p30 : lw_okq (⟨"BlobRunsModel", "partsTurned", "(I)I"⟩, 17) := ⟨⟨by decide +kernel, by decide +kernel⟩, List.mem_of_getElem? (i := 643) (by decide +kernel), List.mem_of_getElem? (i := 780) (by decide +kernel), List.mem_of_getElem? (i := 781) (by decide +kernel)⟩
theorem lw_p31 : lw_okq (⟨"BlobRunsModel", "partsOf", "([I)I"⟩, 17) := ⟨⟨by decide +kernel, by decide +kernel⟩, List.mem_of_getElem? (i := 643) (by decide +kernel), List.mem_of_getElem? (i := 787) (by decide +kernel), List.mem_of_getElem? (i := 788) (by decide +kernel)⟩
def lw_privs_2 : List (MethodName × Nat) := [(⟨"BlobRuns$Picture", "becomeNext", "()V"⟩, 3), (⟨"BlobRuns", "drawPlace", "()I"⟩, 7), (⟨"BlobRuns$Parting", "nextOfGroup", "(II)I"⟩, 14), (⟨"BlobRunsModel", "parts", "([I)V"⟩, 17), (⟨"BlobRunsModel", "floods", "([III)Z"⟩, 17), (⟨"BlobRunsModel", "darkOf", "([I)I"⟩, 17), (⟨"BlobRunsModel", "sidesOf", "(I)I"⟩, 17), (⟨"BlobRunsModel", "deep", "(I)I"⟩, 17), (⟨"BlobRunsModel", "liesIn", "(I)I"⟩, 17), (⟨"BlobRunsModel", "partOf", "(I)I"⟩, 17), (⟨"BlobRunsModel", "lightOf", "(I)I"⟩, 17), (⟨"BlobRunsModel", "largest", "()I"⟩, 17), (⟨"BlobRunsModel", "sizeOf", "(ZI)I"⟩, 17), (⟨"BlobRunsModel", "isOf", "(IZI)Z"⟩, 17), (⟨"BlobRunsModel", "partsTurned", "(I)I"⟩, 17), (⟨"BlobRunsModel", "partsOf", "([I)I"⟩, 17)]
theorem lw_r2 : ∀ q ∈ lw_privs_2, lw_okq q := List.forall_mem_cons.mpr ⟨lw_p16, List.forall_mem_cons.mpr ⟨lw_p17, List.forall_mem_cons.mpr ⟨lw_p18, List.forall_mem_cons.mpr ⟨lw_p19, List.forall_mem_cons.mpr ⟨lw_p20, List.forall_mem_cons.mpr ⟨lw_p21, List.forall_mem_cons.mpr ⟨lw_p22, List.forall_mem_cons.mpr ⟨lw_p23, List.forall_mem_cons.mpr ⟨lw_p24, List.forall_mem_cons.mpr ⟨lw_p25, List.forall_mem_cons.mpr ⟨lw_p26, List.forall_mem_cons.mpr ⟨lw_p27, List.forall_mem_cons.mpr ⟨lw_p28, List.forall_mem_cons.mpr ⟨lw_p29, List.forall_mem_cons.mpr ⟨lw_p30, List.forall_mem_cons.mpr ⟨lw_p31, fun _ h => absurd h List.not_mem_nil⟩⟩⟩⟩⟩⟩⟩⟩⟩⟩⟩⟩⟩⟩⟩⟩
theorem lw_p32 : lw_okq (⟨"BlobRunsModel", "rimOf", "(I)I"⟩, 17) := ⟨⟨by decide +kernel, by decide +kernel⟩, List.mem_of_getElem? (i := 643) (by decide +kernel), List.mem_of_getElem? (i := 795) (by decide +kernel), List.mem_of_getElem? (i := 796) (by decide +kernel)⟩
theorem lw_p33 : lw_okq (⟨"BlobRunsModel", "edge", "(IZZ)I"⟩, 17) := ⟨⟨by decide +kernel, by decide +kernel⟩, List.mem_of_getElem? (i := 643) (by decide +kernel), List.mem_of_getElem? (i := 799) (by decide +kernel), List.mem_of_getElem? (i := 800) (by decide +kernel)⟩
theorem lw_p34 : lw_okq (⟨"BlobRunsModel", "holesOf", "(I)I"⟩, 17) := ⟨⟨by decide +kernel, by decide +kernel⟩, List.mem_of_getElem? (i := 643) (by decide +kernel), List.mem_of_getElem? (i := 803) (by decide +kernel), List.mem_of_getElem? (i := 804) (by decide +kernel)⟩
theorem lw_p35 : lw_okq (⟨"BlobRunsModel", "partsIn", "(I)I"⟩, 17) := ⟨⟨by decide +kernel, by decide +kernel⟩, List.mem_of_getElem? (i := 643) (by decide +kernel), List.mem_of_getElem? (i := 811) (by decide +kernel), List.mem_of_getElem? (i := 812) (by decide +kernel)⟩
theorem lw_p36 : lw_okq (⟨"BlobRunsModel", "remember", "()V"⟩, 17) := ⟨⟨by decide +kernel, by decide +kernel⟩, List.mem_of_getElem? (i := 643) (by decide +kernel), List.mem_of_getElem? (i := 820) (by decide +kernel), List.mem_of_getElem? (i := 821) (by decide +kernel)⟩
theorem lw_p37 : lw_okq (⟨"BlobRunsModel", "turns", "(I)V"⟩, 17) := ⟨⟨by decide +kernel, by decide +kernel⟩, List.mem_of_getElem? (i := 643) (by decide +kernel), List.mem_of_getElem? (i := 828) (by decide +kernel), List.mem_of_getElem? (i := 829) (by decide +kernel)⟩
theorem lw_p38 : lw_okq (⟨"BlobRunsModel", "turnsAll", "(ZI)I"⟩, 17) := ⟨⟨by decide +kernel, by decide +kernel⟩, List.mem_of_getElem? (i := 643) (by decide +kernel), List.mem_of_getElem? (i := 836) (by decide +kernel), List.mem_of_getElem? (i := 837) (by decide +kernel)⟩
theorem lw_p39 : lw_okq (⟨"BlobRunsModel", "turnsNear", "(Z)I"⟩, 17) := ⟨⟨by decide +kernel, by decide +kernel⟩, List.mem_of_getElem? (i := 643) (by decide +kernel), List.mem_of_getElem? (i := 848) (by decide +kernel), List.mem_of_getElem? (i := 849) (by decide +kernel)⟩
theorem lw_p40 : lw_okq (⟨"BlobRunsModel", "isNear", "(IZ)Z"⟩, 17) := ⟨⟨by decide +kernel, by decide +kernel⟩, List.mem_of_getElem? (i := 643) (by decide +kernel), List.mem_of_getElem? (i := 852) (by decide +kernel), List.mem_of_getElem? (i := 853) (by decide +kernel)⟩
theorem lw_p41 : lw_okq (⟨"BlobRunsModel", "draw", "(I)I"⟩, 17) := ⟨⟨by decide +kernel, by decide +kernel⟩, List.mem_of_getElem? (i := 643) (by decide +kernel), List.mem_of_getElem? (i := 877) (by decide +kernel), List.mem_of_getElem? (i := 878) (by decide +kernel)⟩
def lw_privs_3 : List (MethodName × Nat) := [(⟨"BlobRunsModel", "rimOf", "(I)I"⟩, 17), (⟨"BlobRunsModel", "edge", "(IZZ)I"⟩, 17), (⟨"BlobRunsModel", "holesOf", "(I)I"⟩, 17), (⟨"BlobRunsModel", "partsIn", "(I)I"⟩, 17), (⟨"BlobRunsModel", "remember", "()V"⟩, 17), (⟨"BlobRunsModel", "turns", "(I)V"⟩, 17), (⟨"BlobRunsModel", "turnsAll", "(ZI)I"⟩, 17), (⟨"BlobRunsModel", "turnsNear", "(Z)I"⟩, 17), (⟨"BlobRunsModel", "isNear", "(IZ)Z"⟩, 17), (⟨"BlobRunsModel", "draw", "(I)I"⟩, 17)]
theorem lw_r3 : ∀ q ∈ lw_privs_3, lw_okq q := List.forall_mem_cons.mpr ⟨lw_p32, List.forall_mem_cons.mpr ⟨lw_p33, List.forall_mem_cons.mpr ⟨lw_p34, List.forall_mem_cons.mpr ⟨lw_p35, List.forall_mem_cons.mpr ⟨lw_p36, List.forall_mem_cons.mpr ⟨lw_p37, List.forall_mem_cons.mpr ⟨lw_p38, List.forall_mem_cons.mpr ⟨lw_p39, List.forall_mem_cons.mpr ⟨lw_p40, List.forall_mem_cons.mpr ⟨lw_p41, fun _ h => absurd h List.not_mem_nil⟩⟩⟩⟩⟩⟩⟩⟩⟩⟩
def lw_privs : List (MethodName × Nat) := lw_privs_1 ++ (lw_privs_2 ++ (lw_privs_3))
def lw_tbl : List Cond := k2_sels lw_privs ++ tables_1
theorem lw_privs_ok : ∀ q ∈ lw_privs, lw_okq q := by
  show ∀ q ∈ lw_privs_1 ++ (lw_privs_2 ++ (lw_privs_3)), lw_okq q
  exact List.forall_mem_append.mpr ⟨lw_r1, List.forall_mem_append.mpr ⟨lw_r2, lw_r3⟩⟩
end
section
/-! ===== BEGIN words of one list among another's, by their places ===== -/
theorem goodIn_r {big : List Cond} (ws : List Cond) (ps : List Nat) (hp : ws = ps.filterMap (fun i => big[i]?)) (h : ws.all goodWord = true) : GoodIn big ws := by
  intro w hw
  have h1 := List.all_eq_true.mp h w hw
  rw [hp] at hw
  obtain ⟨i, -, hi⟩ := List.mem_filterMap.mp hw
  have hm : w ∈ big := by first | exact List.mem_of_getElem? hi | exact List.getElem?_mem hi
  exact ⟨hm, good_of_word h1⟩
theorem goodIn_app {big a b : List Cond} (ha : GoodIn big a) (hb : GoodIn big b) : GoodIn big (a ++ b) := fun w h => (List.mem_append.mp h).elim (ha w) (hb w)
theorem goodIn_ca {big a b : List Cond} {c : Cond} (ha : GoodIn big (c :: a)) (hb : GoodIn big b) : GoodIn big (c :: (a ++ b)) := fun w h => (List.mem_cons.mp h).elim (fun e => ha w (List.mem_cons.mpr (Or.inl e))) (fun h => (List.mem_append.mp h).elim (fun h => ha w (List.mem_cons.mpr (Or.inr h))) (hb w))
theorem goodIn_sub {big ws : List Cond} (hm : ∀ w ∈ ws, w ∈ big) (h : ws.all goodWord = true) : GoodIn big ws := fun w hw => ⟨hm w hw, good_of_word (List.all_eq_true.mp h w hw)⟩
/-! ===== END ===== -/

/-! ===== BEGIN printed: names, fields, word lists, decode rows ===== -/
def RX0 : String := "BlobRuns$Images"
def TX0 : u_T := fun k => match k with
  | 0 => ("BlobRuns$Images", "shelf", "[I", true)
  | 1 => ("BlobRuns$Images", "seeds", "[I", true)
  | _ => ("BlobRuns$Images", "taken", "[Z", true)
def tyX0 : Nat → FieldType := fun k => match k with
  | 0 => .array .int
  | 1 => .array .int
  | _ => .array .boolean
abbrev wsX00 : List Cond := u_ws RX0 TX0 3
theorem nmX0 : ∀ a, a < 3 → ∀ b, b < 3 → a ≠ b → (TX0 a).2.1 ≠ (TX0 b).2.1 := by decide +kernel
theorem tyX0_ok : ∀ k, k < 3 → parseFieldDescriptor (TX0 k).2.2.1 = some (tyX0 k) := by decide +kernel
abbrev cX0_init : ByteArray := prog_2_method_1_code
def yX0_init : MethodName := ⟨RX0, "<init>", "()V"⟩
abbrev cX0_isTaken : ByteArray := prog_2_method_2_code
def yX0_isTaken : MethodName := ⟨RX0, "isTaken", "(I)Z"⟩
abbrev cX0_seedOf : ByteArray := prog_2_method_3_code
def yX0_seedOf : MethodName := ⟨RX0, "seedOf", "(I)I"⟩
abbrev cX0_take : ByteArray := prog_2_method_4_code
def yX0_take : MethodName := ⟨RX0, "take", "(ILBlobRuns$Picture;I)V"⟩
abbrev cX0_show : ByteArray := prog_2_method_5_code
def yX0_show : MethodName := ⟨RX0, "show", "(ILBlobRuns$Picture;)V"⟩
def RX1 : String := "BlobRuns$Parting"
def TX1 : u_T := fun k => match k with
  | 0 => ("BlobRuns$Parting", "runs", "LBlobRuns$Runs;", true)
  | 1 => ("BlobRuns$Parting", "size", "[I", true)
  | 2 => ("BlobRuns$Parting", "rim", "[I", true)
  | 3 => ("BlobRuns$Parting", "bottom", "[I", true)
  | 4 => ("BlobRuns$Parting", "left", "[I", true)
  | 5 => ("BlobRuns$Parting", "right", "[I", true)
  | 6 => ("BlobRuns$Parting", "reachesRim", "[Z", true)
  | 7 => ("BlobRuns$Parting", "number", "[I", true)
  | 8 => ("BlobRuns$Parting", "partGroup", "[I", true)
  | 9 => ("BlobRuns$Parting", "holeGroup", "[I", true)
  | 10 => ("BlobRuns$Parting", "touched", "[I", true)
  | 11 => ("BlobRuns$Parting", "partCount", "I", false)
  | 12 => ("BlobRuns$Parting", "holeCount", "I", false)
  | _ => ("BlobRuns$Parting", "lightCount", "I", false)
def tyX1 : Nat → FieldType := fun k => match k with
  | 0 => .object "BlobRuns$Runs"
  | 1 => .array .int
  | 2 => .array .int
  | 3 => .array .int
  | 4 => .array .int
  | 5 => .array .int
  | 6 => .array .boolean
  | 7 => .array .int
  | 8 => .array .int
  | 9 => .array .int
  | 10 => .array .int
  | 11 => .int
  | 12 => .int
  | _ => .int
abbrev wsX10 : List Cond := u_ws RX1 TX1 14
theorem nmX1 : ∀ a, a < 14 → ∀ b, b < 14 → a ≠ b → (TX1 a).2.1 ≠ (TX1 b).2.1 := by decide +kernel
theorem tyX1_ok : ∀ k, k < 14 → parseFieldDescriptor (TX1 k).2.2.1 = some (tyX1 k) := by decide +kernel
abbrev cX1_init : ByteArray := prog_3_method_1_code
def yX1_init : MethodName := ⟨RX1, "<init>", "()V"⟩
abbrev cX1_read : ByteArray := prog_3_method_2_code
def yX1_read : MethodName := ⟨RX1, "read", "(LBlobRuns$Picture;)V"⟩
abbrev cX1_hasPart : ByteArray := prog_3_method_3_code
def yX1_hasPart : MethodName := ⟨RX1, "hasPart", "(I)Z"⟩
abbrev cX1_hasHole : ByteArray := prog_3_method_4_code
def yX1_hasHole : MethodName := ⟨RX1, "hasHole", "(I)Z"⟩
abbrev cX1_groupOfPart : ByteArray := prog_3_method_5_code
def yX1_groupOfPart : MethodName := ⟨RX1, "groupOfPart", "(I)I"⟩
abbrev cX1_groupOfHole : ByteArray := prog_3_method_6_code
def yX1_groupOfHole : MethodName := ⟨RX1, "groupOfHole", "(I)I"⟩
abbrev cX1_sizeOf : ByteArray := prog_3_method_7_code
def yX1_sizeOf : MethodName := ⟨RX1, "sizeOf", "(I)I"⟩
abbrev cX1_rimOf : ByteArray := prog_3_method_8_code
def yX1_rimOf : MethodName := ⟨RX1, "rimOf", "(I)I"⟩
abbrev cX1_topOf : ByteArray := prog_3_method_9_code
def yX1_topOf : MethodName := ⟨RX1, "topOf", "(I)I"⟩
abbrev cX1_bottomOf : ByteArray := prog_3_method_10_code
def yX1_bottomOf : MethodName := ⟨RX1, "bottomOf", "(I)I"⟩
abbrev cX1_leftOf : ByteArray := prog_3_method_11_code
def yX1_leftOf : MethodName := ⟨RX1, "leftOf", "(I)I"⟩
abbrev cX1_rightOf : ByteArray := prog_3_method_12_code
def yX1_rightOf : MethodName := ⟨RX1, "rightOf", "(I)I"⟩
abbrev cX1_leastPlaceOf : ByteArray := prog_3_method_13_code
def yX1_leastPlaceOf : MethodName := ⟨RX1, "leastPlaceOf", "(I)I"⟩
abbrev cX1_partAt : ByteArray := prog_3_method_14_code
def yX1_partAt : MethodName := ⟨RX1, "partAt", "(II)I"⟩
abbrev cX1_holeAt : ByteArray := prog_3_method_15_code
def yX1_holeAt : MethodName := ⟨RX1, "holeAt", "(II)I"⟩
abbrev cX1_holeAround : ByteArray := prog_3_method_16_code
def yX1_holeAround : MethodName := ⟨RX1, "holeAround", "(I)I"⟩
abbrev cX1_partAround : ByteArray := prog_3_method_17_code
def yX1_partAround : MethodName := ⟨RX1, "partAround", "(I)I"⟩
abbrev cX1_depthOf : ByteArray := prog_3_method_18_code
def yX1_depthOf : MethodName := ⟨RX1, "depthOf", "(I)I"⟩
abbrev cX1_holesOfPart : ByteArray := prog_3_method_19_code
def yX1_holesOfPart : MethodName := ⟨RX1, "holesOfPart", "(I)I"⟩
abbrev cX1_partsInHole : ByteArray := prog_3_method_20_code
def yX1_partsInHole : MethodName := ⟨RX1, "partsInHole", "(I)I"⟩
abbrev cX1_allRims : ByteArray := prog_3_method_21_code
def yX1_allRims : MethodName := ⟨RX1, "allRims", "()I"⟩
abbrev cX1_deepest : ByteArray := prog_3_method_22_code
def yX1_deepest : MethodName := ⟨RX1, "deepest", "()I"⟩
abbrev cX1_largest : ByteArray := prog_3_method_23_code
def yX1_largest : MethodName := ⟨RX1, "largest", "()I"⟩
abbrev cX1_partsUpTo : ByteArray := prog_3_method_24_code
def yX1_partsUpTo : MethodName := ⟨RX1, "partsUpTo", "(I)I"⟩
abbrev cX1_joinsAt : ByteArray := prog_3_method_25_code
def yX1_joinsAt : MethodName := ⟨RX1, "joinsAt", "(IIZ)I"⟩
abbrev cX1_sameMoved : ByteArray := prog_3_method_26_code
def yX1_sameMoved : MethodName := ⟨RX1, "sameMoved", "(II)Z"⟩
abbrev cX1_flipDotsOf : ByteArray := prog_3_method_27_code
def yX1_flipDotsOf : MethodName := ⟨RX1, "flipDotsOf", "(ILBlobRuns$Picture;)V"⟩
abbrev cX1_measure : ByteArray := prog_3_method_28_code
def yX1_measure : MethodName := ⟨RX1, "measure", "(ILBlobRuns$Picture;)V"⟩
abbrev cX1_clear : ByteArray := prog_3_method_29_code
def yX1_clear : MethodName := ⟨RX1, "clear", "(I)V"⟩
abbrev cX1_giveNumber : ByteArray := prog_3_method_30_code
def yX1_giveNumber : MethodName := ⟨RX1, "giveNumber", "(I)V"⟩
abbrev cX1_numberAt : ByteArray := prog_3_method_31_code
def yX1_numberAt : MethodName := ⟨RX1, "numberAt", "(IIZ)I"⟩
abbrev cX1_isTouched : ByteArray := prog_3_method_32_code
def yX1_isTouched : MethodName := ⟨RX1, "isTouched", "(II)Z"⟩
abbrev cX1_nextOfGroup : ByteArray := prog_3_method_33_code
def yX1_nextOfGroup : MethodName := ⟨RX1, "nextOfGroup", "(II)I"⟩
def RX2 : String := "BlobRuns$Past"
def TX2 : u_T := fun k => match k with
  | 0 => ("BlobRuns$Past", "shelf", "[I", true)
  | 1 => ("BlobRuns$Past", "next", "I", false)
  | _ => ("BlobRuns$Past", "count", "I", false)
def tyX2 : Nat → FieldType := fun k => match k with
  | 0 => .array .int
  | 1 => .int
  | _ => .int
abbrev wsX20 : List Cond := u_ws RX2 TX2 3
theorem nmX2 : ∀ a, a < 3 → ∀ b, b < 3 → a ≠ b → (TX2 a).2.1 ≠ (TX2 b).2.1 := by decide +kernel
theorem tyX2_ok : ∀ k, k < 3 → parseFieldDescriptor (TX2 k).2.2.1 = some (tyX2 k) := by decide +kernel
abbrev cX2_init : ByteArray := prog_4_method_1_code
def yX2_init : MethodName := ⟨RX2, "<init>", "()V"⟩
abbrev cX2_push : ByteArray := prog_4_method_2_code
def yX2_push : MethodName := ⟨RX2, "push", "(LBlobRuns$Picture;)V"⟩
abbrev cX2_goBackBy : ByteArray := prog_4_method_3_code
def yX2_goBackBy : MethodName := ⟨RX2, "goBackBy", "(ILBlobRuns$Picture;)V"⟩
abbrev cX2_forget : ByteArray := prog_4_method_4_code
def yX2_forget : MethodName := ⟨RX2, "forget", "()V"⟩
def RX3 : String := "BlobRuns$Picture"
def TX3 : u_T := fun k => match k with
  | 0 => ("BlobRuns$Picture", "rows", "[I", true)
  | 1 => ("BlobRuns$Picture", "next", "[I", true)
  | _ => ("BlobRuns$Picture", "joinedBy", "I", false)
def tyX3 : Nat → FieldType := fun k => match k with
  | 0 => .array .int
  | 1 => .array .int
  | _ => .int
abbrev wsX30 : List Cond := u_ws RX3 TX3 3
theorem nmX3 : ∀ a, a < 3 → ∀ b, b < 3 → a ≠ b → (TX3 a).2.1 ≠ (TX3 b).2.1 := by decide +kernel
theorem tyX3_ok : ∀ k, k < 3 → parseFieldDescriptor (TX3 k).2.2.1 = some (tyX3 k) := by decide +kernel
abbrev cX3_init : ByteArray := prog_5_method_1_code
def yX3_init : MethodName := ⟨RX3, "<init>", "()V"⟩
abbrev cX3_cornersJoin : ByteArray := prog_5_method_2_code
def yX3_cornersJoin : MethodName := ⟨RX3, "cornersJoin", "()Z"⟩
abbrev cX3_line : ByteArray := prog_5_method_3_code
def yX3_line : MethodName := ⟨RX3, "line", "(I)I"⟩
abbrev cX3_putLine : ByteArray := prog_5_method_4_code
def yX3_putLine : MethodName := ⟨RX3, "putLine", "(II)V"⟩
abbrev cX3_isDark : ByteArray := prog_5_method_5_code
def yX3_isDark : MethodName := ⟨RX3, "isDark", "(II)Z"⟩
abbrev cX3_flip : ByteArray := prog_5_method_6_code
def yX3_flip : MethodName := ⟨RX3, "flip", "(II)V"⟩
abbrev cX3_darkDots : ByteArray := prog_5_method_7_code
def yX3_darkDots : MethodName := ⟨RX3, "darkDots", "()I"⟩
abbrev cX3_allRuns : ByteArray := prog_5_method_8_code
def yX3_allRuns : MethodName := ⟨RX3, "allRuns", "()I"⟩
abbrev cX3_freeSides : ByteArray := prog_5_method_9_code
def yX3_freeSides : MethodName := ⟨RX3, "freeSides", "(II)I"⟩
abbrev cX3_becomeGrown : ByteArray := prog_5_method_10_code
def yX3_becomeGrown : MethodName := ⟨RX3, "becomeGrown", "()V"⟩
abbrev cX3_becomeShrunk : ByteArray := prog_5_method_11_code
def yX3_becomeShrunk : MethodName := ⟨RX3, "becomeShrunk", "()V"⟩
abbrev cX3_becomeMoved : ByteArray := prog_5_method_12_code
def yX3_becomeMoved : MethodName := ⟨RX3, "becomeMoved", "(II)V"⟩
abbrev cX3_becomeOver : ByteArray := prog_5_method_13_code
def yX3_becomeOver : MethodName := ⟨RX3, "becomeOver", "()V"⟩
abbrev cX3_layBy : ByteArray := prog_5_method_14_code
def yX3_layBy : MethodName := ⟨RX3, "layBy", "([II)V"⟩
abbrev cX3_takeUp : ByteArray := prog_5_method_15_code
def yX3_takeUp : MethodName := ⟨RX3, "takeUp", "([II)V"⟩
abbrev cX3_becomeNext : ByteArray := prog_5_method_16_code
def yX3_becomeNext : MethodName := ⟨RX3, "becomeNext", "()V"⟩
abbrev cX3_widened : ByteArray := prog_5_method_17_code
def yX3_widened : MethodName := ⟨RX3, "widened", "(I)I"⟩
abbrev cX3_narrowed : ByteArray := prog_5_method_18_code
def yX3_narrowed : MethodName := ⟨RX3, "narrowed", "(I)I"⟩
abbrev cX3_slid : ByteArray := prog_5_method_19_code
def yX3_slid : MethodName := ⟨RX3, "slid", "(II)I"⟩
def RX4 : String := "BlobRuns$Runs"
def TX4 : u_T := fun k => match k with
  | 0 => ("BlobRuns$Runs", "first", "[I", true)
  | 1 => ("BlobRuns$Runs", "changes", "[I", true)
  | 2 => ("BlobRuns$Runs", "startOf", "[I", true)
  | 3 => ("BlobRuns$Runs", "endOf", "[I", true)
  | 4 => ("BlobRuns$Runs", "rowOf", "[I", true)
  | 5 => ("BlobRuns$Runs", "dark", "[Z", true)
  | 6 => ("BlobRuns$Runs", "towards", "[I", true)
  | _ => ("BlobRuns$Runs", "count", "I", false)
def tyX4 : Nat → FieldType := fun k => match k with
  | 0 => .array .int
  | 1 => .array .int
  | 2 => .array .int
  | 3 => .array .int
  | 4 => .array .int
  | 5 => .array .boolean
  | 6 => .array .int
  | _ => .int
abbrev wsX40 : List Cond := u_ws RX4 TX4 8
theorem nmX4 : ∀ a, a < 8 → ∀ b, b < 8 → a ≠ b → (TX4 a).2.1 ≠ (TX4 b).2.1 := by decide +kernel
theorem tyX4_ok : ∀ k, k < 8 → parseFieldDescriptor (TX4 k).2.2.1 = some (tyX4 k) := by decide +kernel
abbrev cX4_init : ByteArray := prog_6_method_1_code
def yX4_init : MethodName := ⟨RX4, "<init>", "()V"⟩
abbrev cX4_read : ByteArray := prog_6_method_2_code
def yX4_read : MethodName := ⟨RX4, "read", "(LBlobRuns$Picture;)V"⟩
abbrev cX4_darkGroups : ByteArray := prog_6_method_3_code
def yX4_darkGroups : MethodName := ⟨RX4, "darkGroups", "()I"⟩
abbrev cX4_isDark : ByteArray := prog_6_method_4_code
def yX4_isDark : MethodName := ⟨RX4, "isDark", "(I)Z"⟩
abbrev cX4_groupOf : ByteArray := prog_6_method_5_code
def yX4_groupOf : MethodName := ⟨RX4, "groupOf", "(I)I"⟩
abbrev cX4_lineOf : ByteArray := prog_6_method_6_code
def yX4_lineOf : MethodName := ⟨RX4, "lineOf", "(I)I"⟩
abbrev cX4_start : ByteArray := prog_6_method_7_code
def yX4_start : MethodName := ⟨RX4, "start", "(I)I"⟩
abbrev cX4_end : ByteArray := prog_6_method_8_code
def yX4_end : MethodName := ⟨RX4, "end", "(I)I"⟩
abbrev cX4_length : ByteArray := prog_6_method_9_code
def yX4_length : MethodName := ⟨RX4, "length", "(I)I"⟩
abbrev cX4_columns : ByteArray := prog_6_method_10_code
def yX4_columns : MethodName := ⟨RX4, "columns", "(I)I"⟩
abbrev cX4_runAt : ByteArray := prog_6_method_11_code
def yX4_runAt : MethodName := ⟨RX4, "runAt", "(II)I"⟩
abbrev cX4_cut : ByteArray := prog_6_method_12_code
def yX4_cut : MethodName := ⟨RX4, "cut", "(II)V"⟩
abbrev cX4_add : ByteArray := prog_6_method_13_code
def yX4_add : MethodName := ⟨RX4, "add", "(IIIZ)V"⟩
abbrev cX4_joinToRowAbove : ByteArray := prog_6_method_14_code
def yX4_joinToRowAbove : MethodName := ⟨RX4, "joinToRowAbove", "(IZI)V"⟩
abbrev cX4_firstOfColour : ByteArray := prog_6_method_15_code
def yX4_firstOfColour : MethodName := ⟨RX4, "firstOfColour", "(IZ)I"⟩
abbrev cX4_join : ByteArray := prog_6_method_16_code
def yX4_join : MethodName := ⟨RX4, "join", "(II)V"⟩
abbrev cX4_leastKnown : ByteArray := prog_6_method_17_code
def yX4_leastKnown : MethodName := ⟨RX4, "leastKnown", "(I)I"⟩
abbrev cX4_settle : ByteArray := prog_6_method_18_code
def yX4_settle : MethodName := ⟨RX4, "settle", "()V"⟩
def RX5 : String := "BlobRuns"
def TX5 : u_T := fun k => match k with
  | 0 => ("BlobRuns", "picture", "LBlobRuns$Picture;", true)
  | 1 => ("BlobRuns", "parting", "LBlobRuns$Parting;", true)
  | 2 => ("BlobRuns", "trial", "LBlobRuns$Runs;", true)
  | 3 => ("BlobRuns", "past", "LBlobRuns$Past;", true)
  | 4 => ("BlobRuns", "images", "LBlobRuns$Images;", true)
  | 5 => ("BlobRuns", "theSeed", "I", false)
  | _ => ("BlobRuns", "stale", "Z", false)
def tyX5 : Nat → FieldType := fun k => match k with
  | 0 => .object "BlobRuns$Picture"
  | 1 => .object "BlobRuns$Parting"
  | 2 => .object "BlobRuns$Runs"
  | 3 => .object "BlobRuns$Past"
  | 4 => .object "BlobRuns$Images"
  | 5 => .int
  | _ => .boolean
abbrev wsX50 : List Cond := u_ws RX5 TX5 7
theorem nmX5 : ∀ a, a < 7 → ∀ b, b < 7 → a ≠ b → (TX5 a).2.1 ≠ (TX5 b).2.1 := by decide +kernel
theorem tyX5_ok : ∀ k, k < 7 → parseFieldDescriptor (TX5 k).2.2.1 = some (tyX5 k) := by decide +kernel
abbrev cX5_init : ByteArray := prog_1_method_1_code
def yX5_init : MethodName := ⟨RX5, "<init>", "()V"⟩
abbrev cX5_told : ByteArray := prog_1_method_2_code
def yX5_told : MethodName := ⟨RX5, "told", "(I)I"⟩
abbrev cX5_rowAt : ByteArray := prog_1_method_3_code
def yX5_rowAt : MethodName := ⟨RX5, "rowAt", "(II)I"⟩
abbrev cX5_dot : ByteArray := prog_1_method_4_code
def yX5_dot : MethodName := ⟨RX5, "dot", "(III)I"⟩
abbrev cX5_part : ByteArray := prog_1_method_5_code
def yX5_part : MethodName := ⟨RX5, "part", "(II)I"⟩
abbrev cX5_hole : ByteArray := prog_1_method_6_code
def yX5_hole : MethodName := ⟨RX5, "hole", "(II)I"⟩
abbrev cX5_row : ByteArray := prog_1_method_7_code
def yX5_row : MethodName := ⟨RX5, "row", "(II)I"⟩
abbrev cX5_turn : ByteArray := prog_1_method_8_code
def yX5_turn : MethodName := ⟨RX5, "turn", "(II)I"⟩
abbrev cX5_wipe : ByteArray := prog_1_method_9_code
def yX5_wipe : MethodName := ⟨RX5, "wipe", "(I)I"⟩
abbrev cX5_fill : ByteArray := prog_1_method_10_code
def yX5_fill : MethodName := ⟨RX5, "fill", "(I)I"⟩
abbrev cX5_grow : ByteArray := prog_1_method_11_code
def yX5_grow : MethodName := ⟨RX5, "grow", "()I"⟩
abbrev cX5_shrink : ByteArray := prog_1_method_12_code
def yX5_shrink : MethodName := ⟨RX5, "shrink", "()I"⟩
abbrev cX5_move : ByteArray := prog_1_method_13_code
def yX5_move : MethodName := ⟨RX5, "move", "(II)I"⟩
abbrev cX5_over : ByteArray := prog_1_method_14_code
def yX5_over : MethodName := ⟨RX5, "over", "()I"⟩
abbrev cX5_mode : ByteArray := prog_1_method_15_code
def yX5_mode : MethodName := ⟨RX5, "mode", "(I)I"⟩
abbrev cX5_drift : ByteArray := prog_1_method_16_code
def yX5_drift : MethodName := ⟨RX5, "drift", "(I)I"⟩
abbrev cX5_undo : ByteArray := prog_1_method_17_code
def yX5_undo : MethodName := ⟨RX5, "undo", "(I)I"⟩
abbrev cX5_alike : ByteArray := prog_1_method_18_code
def yX5_alike : MethodName := ⟨RX5, "alike", "(II)I"⟩
abbrev cX5_small : ByteArray := prog_1_method_19_code
def yX5_small : MethodName := ⟨RX5, "small", "(I)I"⟩
abbrev cX5_seed : ByteArray := prog_1_method_20_code
def yX5_seed : MethodName := ⟨RX5, "seed", "(I)I"⟩
abbrev cX5_keep : ByteArray := prog_1_method_21_code
def yX5_keep : MethodName := ⟨RX5, "keep", "(I)I"⟩
abbrev cX5_goBack : ByteArray := prog_1_method_22_code
def yX5_goBack : MethodName := ⟨RX5, "goBack", "(I)I"⟩
abbrev cX5_isLine : ByteArray := prog_1_method_23_code
def yX5_isLine : MethodName := ⟨RX5, "isLine", "(I)Z"⟩
abbrev cX5_isImage : ByteArray := prog_1_method_24_code
def yX5_isImage : MethodName := ⟨RX5, "isImage", "(I)Z"⟩
abbrev cX5_runsOf : ByteArray := prog_1_method_25_code
def yX5_runsOf : MethodName := ⟨RX5, "runsOf", "(I)I"⟩
abbrev cX5_parted : ByteArray := prog_1_method_26_code
def yX5_parted : MethodName := ⟨RX5, "parted", "()LBlobRuns$Parting;"⟩
abbrev cX5_remember : ByteArray := prog_1_method_27_code
def yX5_remember : MethodName := ⟨RX5, "remember", "()V"⟩
abbrev cX5_flipGroup : ByteArray := prog_1_method_28_code
def yX5_flipGroup : MethodName := ⟨RX5, "flipGroup", "(I)I"⟩
abbrev cX5_drawPlace : ByteArray := prog_1_method_29_code
def yX5_drawPlace : MethodName := ⟨RX5, "drawPlace", "()I"⟩
abbrev cX5_splitsAt : ByteArray := prog_1_method_30_code
def yX5_splitsAt : MethodName := ⟨RX5, "splitsAt", "(III)I"⟩
def RX6 : String := "BlobRunsModel"
def TX6 : u_T := fun k => match k with
  | 0 => ("BlobRunsModel", "now", "[I", true)
  | 1 => ("BlobRunsModel", "tried", "[I", true)
  | 2 => ("BlobRunsModel", "seed", "I", false)
  | 3 => ("BlobRunsModel", "numbers", "[I", true)
  | 4 => ("BlobRunsModel", "queue", "[I", true)
  | 5 => ("BlobRunsModel", "darkMany", "I", false)
  | 6 => ("BlobRunsModel", "lightMany", "I", false)
  | 7 => ("BlobRunsModel", "holeMany", "I", false)
  | 8 => ("BlobRunsModel", "darkFirst", "[I", true)
  | 9 => ("BlobRunsModel", "lightFirst", "[I", true)
  | 10 => ("BlobRunsModel", "holeAs", "[I", true)
  | 11 => ("BlobRunsModel", "undoMany", "I", false)
  | 12 => ("BlobRunsModel", "undoAt", "I", false)
  | 13 => ("BlobRunsModel", "undos", "[I", true)
  | 14 => ("BlobRunsModel", "isKept", "[Z", true)
  | 15 => ("BlobRunsModel", "kept", "[I", true)
  | _ => ("BlobRunsModel", "keptSeeds", "[I", true)
def tyX6 : Nat → FieldType := fun k => match k with
  | 0 => .array .int
  | 1 => .array .int
  | 2 => .int
  | 3 => .array .int
  | 4 => .array .int
  | 5 => .int
  | 6 => .int
  | 7 => .int
  | 8 => .array .int
  | 9 => .array .int
  | 10 => .array .int
  | 11 => .int
  | 12 => .int
  | 13 => .array .int
  | 14 => .array .boolean
  | 15 => .array .int
  | _ => .array .int
abbrev wsX60 : List Cond := u_ws RX6 TX6 17
theorem nmX6 : ∀ a, a < 17 → ∀ b, b < 17 → a ≠ b → (TX6 a).2.1 ≠ (TX6 b).2.1 := by decide +kernel
theorem tyX6_ok : ∀ k, k < 17 → parseFieldDescriptor (TX6 k).2.2.1 = some (tyX6 k) := by decide +kernel
abbrev cX6_init : ByteArray := prog_8_method_1_code
def yX6_init : MethodName := ⟨RX6, "<init>", "()V"⟩
abbrev cX6_in : ByteArray := prog_8_method_2_code
def yX6_in : MethodName := ⟨RX6, "in", "(III)Z"⟩
abbrev cX6_has : ByteArray := prog_8_method_3_code
def yX6_has : MethodName := ⟨RX6, "has", "(II)Z"⟩
abbrev cX6_bits : ByteArray := prog_8_method_4_code
def yX6_bits : MethodName := ⟨RX6, "bits", "(I)I"⟩
abbrev cX6_isDark : ByteArray := prog_8_method_5_code
def yX6_isDark : MethodName := ⟨RX6, "isDark", "([II)Z"⟩
abbrev cX6_copies : ByteArray := prog_8_method_6_code
def yX6_copies : MethodName := ⟨RX6, "copies", "([I[I)V"⟩
abbrev cX6_isOn : ByteArray := prog_8_method_7_code
def yX6_isOn : MethodName := ⟨RX6, "isOn", "(II)Z"⟩
abbrev cX6_floods : ByteArray := prog_8_method_8_code
def yX6_floods : MethodName := ⟨RX6, "floods", "([III)Z"⟩
abbrev cX6_parts : ByteArray := prog_8_method_9_code
def yX6_parts : MethodName := ⟨RX6, "parts", "([I)V"⟩
abbrev cX6_partsOf : ByteArray := prog_8_method_10_code
def yX6_partsOf : MethodName := ⟨RX6, "partsOf", "([I)I"⟩
abbrev cX6_darkOf : ByteArray := prog_8_method_11_code
def yX6_darkOf : MethodName := ⟨RX6, "darkOf", "([I)I"⟩
abbrev cX6_lightOf : ByteArray := prog_8_method_12_code
def yX6_lightOf : MethodName := ⟨RX6, "lightOf", "(I)I"⟩
abbrev cX6_isOf : ByteArray := prog_8_method_13_code
def yX6_isOf : MethodName := ⟨RX6, "isOf", "(IZI)Z"⟩
abbrev cX6_sizeOf : ByteArray := prog_8_method_14_code
def yX6_sizeOf : MethodName := ⟨RX6, "sizeOf", "(ZI)I"⟩
abbrev cX6_liesIn : ByteArray := prog_8_method_15_code
def yX6_liesIn : MethodName := ⟨RX6, "liesIn", "(I)I"⟩
abbrev cX6_partOf : ByteArray := prog_8_method_16_code
def yX6_partOf : MethodName := ⟨RX6, "partOf", "(I)I"⟩
abbrev cX6_deep : ByteArray := prog_8_method_17_code
def yX6_deep : MethodName := ⟨RX6, "deep", "(I)I"⟩
abbrev cX6_isRim : ByteArray := prog_8_method_18_code
def yX6_isRim : MethodName := ⟨RX6, "isRim", "([III)Z"⟩
abbrev cX6_sidesOf : ByteArray := prog_8_method_19_code
def yX6_sidesOf : MethodName := ⟨RX6, "sidesOf", "(I)I"⟩
abbrev cX6_rimOf : ByteArray := prog_8_method_20_code
def yX6_rimOf : MethodName := ⟨RX6, "rimOf", "(I)I"⟩
abbrev cX6_edge : ByteArray := prog_8_method_21_code
def yX6_edge : MethodName := ⟨RX6, "edge", "(IZZ)I"⟩
abbrev cX6_holesOf : ByteArray := prog_8_method_22_code
def yX6_holesOf : MethodName := ⟨RX6, "holesOf", "(I)I"⟩
abbrev cX6_partsIn : ByteArray := prog_8_method_23_code
def yX6_partsIn : MethodName := ⟨RX6, "partsIn", "(I)I"⟩
abbrev cX6_runsOf : ByteArray := prog_8_method_24_code
def yX6_runsOf : MethodName := ⟨RX6, "runsOf", "(I)I"⟩
abbrev cX6_largest : ByteArray := prog_8_method_25_code
def yX6_largest : MethodName := ⟨RX6, "largest", "()I"⟩
abbrev cX6_told : ByteArray := prog_8_method_26_code
def yX6_told : MethodName := ⟨RX6, "told", "(I)I"⟩
abbrev cX6_rowAt : ByteArray := prog_8_method_27_code
def yX6_rowAt : MethodName := ⟨RX6, "rowAt", "(II)I"⟩
abbrev cX6_partsTurned : ByteArray := prog_8_method_28_code
def yX6_partsTurned : MethodName := ⟨RX6, "partsTurned", "(I)I"⟩
abbrev cX6_dot : ByteArray := prog_8_method_29_code
def yX6_dot : MethodName := ⟨RX6, "dot", "(III)I"⟩
abbrev cX6_part : ByteArray := prog_8_method_30_code
def yX6_part : MethodName := ⟨RX6, "part", "(II)I"⟩
abbrev cX6_hole : ByteArray := prog_8_method_31_code
def yX6_hole : MethodName := ⟨RX6, "hole", "(II)I"⟩
abbrev cX6_remember : ByteArray := prog_8_method_32_code
def yX6_remember : MethodName := ⟨RX6, "remember", "()V"⟩
abbrev cX6_row : ByteArray := prog_8_method_33_code
def yX6_row : MethodName := ⟨RX6, "row", "(II)I"⟩
abbrev cX6_turns : ByteArray := prog_8_method_34_code
def yX6_turns : MethodName := ⟨RX6, "turns", "(I)V"⟩
abbrev cX6_turn : ByteArray := prog_8_method_35_code
def yX6_turn : MethodName := ⟨RX6, "turn", "(II)I"⟩
abbrev cX6_turnsAll : ByteArray := prog_8_method_36_code
def yX6_turnsAll : MethodName := ⟨RX6, "turnsAll", "(ZI)I"⟩
abbrev cX6_wipe : ByteArray := prog_8_method_37_code
def yX6_wipe : MethodName := ⟨RX6, "wipe", "(I)I"⟩
abbrev cX6_fill : ByteArray := prog_8_method_38_code
def yX6_fill : MethodName := ⟨RX6, "fill", "(I)I"⟩
abbrev cX6_isNear : ByteArray := prog_8_method_39_code
def yX6_isNear : MethodName := ⟨RX6, "isNear", "(IZ)Z"⟩
abbrev cX6_turnsNear : ByteArray := prog_8_method_40_code
def yX6_turnsNear : MethodName := ⟨RX6, "turnsNear", "(Z)I"⟩
abbrev cX6_grow : ByteArray := prog_8_method_41_code
def yX6_grow : MethodName := ⟨RX6, "grow", "()I"⟩
abbrev cX6_shrink : ByteArray := prog_8_method_42_code
def yX6_shrink : MethodName := ⟨RX6, "shrink", "()I"⟩
abbrev cX6_move : ByteArray := prog_8_method_43_code
def yX6_move : MethodName := ⟨RX6, "move", "(II)I"⟩
abbrev cX6_over : ByteArray := prog_8_method_44_code
def yX6_over : MethodName := ⟨RX6, "over", "()I"⟩
abbrev cX6_mode : ByteArray := prog_8_method_45_code
def yX6_mode : MethodName := ⟨RX6, "mode", "(I)I"⟩
abbrev cX6_draw : ByteArray := prog_8_method_46_code
def yX6_draw : MethodName := ⟨RX6, "draw", "(I)I"⟩
abbrev cX6_drift : ByteArray := prog_8_method_47_code
def yX6_drift : MethodName := ⟨RX6, "drift", "(I)I"⟩
abbrev cX6_undo : ByteArray := prog_8_method_48_code
def yX6_undo : MethodName := ⟨RX6, "undo", "(I)I"⟩
abbrev cX6_alike : ByteArray := prog_8_method_49_code
def yX6_alike : MethodName := ⟨RX6, "alike", "(II)I"⟩
abbrev cX6_small : ByteArray := prog_8_method_50_code
def yX6_small : MethodName := ⟨RX6, "small", "(I)I"⟩
abbrev cX6_seed : ByteArray := prog_8_method_51_code
def yX6_seed : MethodName := ⟨RX6, "seed", "(I)I"⟩
abbrev cX6_keep : ByteArray := prog_8_method_52_code
def yX6_keep : MethodName := ⟨RX6, "keep", "(I)I"⟩
abbrev cX6_goBack : ByteArray := prog_8_method_53_code
def yX6_goBack : MethodName := ⟨RX6, "goBack", "(I)I"⟩
def RJ6 : String := "java/lang/Integer"
def TJ6 : u_T := fun k => match k with
  | _ => ("", "", "", false)
def tyJ6 : Nat → FieldType := fun k => match k with
  | _ => .int
abbrev wsJ60 : List Cond := u_ws RJ6 TJ6 0
theorem nmJ6 : ∀ a, a < 0 → ∀ b, b < 0 → a ≠ b → (TJ6 a).2.1 ≠ (TJ6 b).2.1 := by decide +kernel
theorem tyJ6_ok : ∀ k, k < 0 → parseFieldDescriptor (TJ6 k).2.2.1 = some (tyJ6 k) := by decide +kernel
abbrev cJ6_bitCount_0f7a4 : ByteArray := prog_9_method_49_code
def yJ6_bitCount_0f7a4 : MethodName := ⟨RJ6, "bitCount", "(I)I"⟩
def RJ9 : String := "java/lang/Math"
def TJ9 : u_T := fun k => match k with
  | _ => ("", "", "", false)
def tyJ9 : Nat → FieldType := fun k => match k with
  | _ => .int
abbrev wsJ90 : List Cond := u_ws RJ9 TJ9 0
theorem nmJ9 : ∀ a, a < 0 → ∀ b, b < 0 → a ≠ b → (TJ9 a).2.1 ≠ (TJ9 b).2.1 := by decide +kernel
theorem tyJ9_ok : ∀ k, k < 0 → parseFieldDescriptor (TJ9 k).2.2.1 = some (tyJ9 k) := by decide +kernel
abbrev cJ9_floorMod_7cf53 : ByteArray := prog_10_method_50_code
def yJ9_floorMod_7cf53 : MethodName := ⟨RJ9, "floorMod", "(II)I"⟩
abbrev cJ9_max_7cf53 : ByteArray := prog_10_method_65_code
def yJ9_max_7cf53 : MethodName := ⟨RJ9, "max", "(II)I"⟩
abbrev cJ9_min_7cf53 : ByteArray := prog_10_method_69_code
def yJ9_min_7cf53 : MethodName := ⟨RJ9, "min", "(II)I"⟩
def RJ10 : String := "java/lang/System"
def TJ10 : u_T := fun k => match k with
  | _ => ("", "", "", false)
def tyJ10 : Nat → FieldType := fun k => match k with
  | _ => .int
abbrev wsJ100 : List Cond := u_ws RJ10 TJ10 0
theorem nmJ10 : ∀ a, a < 0 → ∀ b, b < 0 → a ≠ b → (TJ10 a).2.1 ≠ (TJ10 b).2.1 := by decide +kernel
theorem tyJ10_ok : ∀ k, k < 0 → parseFieldDescriptor (TJ10 k).2.2.1 = some (tyJ10 k) := by decide +kernel
def RL : String := "BlobRunsLaw"
abbrev cL_law : ByteArray := code
def yL_law : MethodName := ⟨RL, "law", "([I)Z"⟩
def wsX0_init : List Cond := .code yX0_init cX0_init 1 none :: ([.methodLink RX0 3 objectInit, .instanceMethod objectInit, .code objectInit ⟨#[0xb1]⟩ 1 none, .arrayClass .int, .fieldLink RX0 9 "BlobRuns$Images" "shelf" "[I", .fieldLink RX0 15 "BlobRuns$Images" "seeds" "[I", .arrayClass .boolean, .fieldLink RX0 18 "BlobRuns$Images" "taken" "[Z"] ++ wsX00)
def wsX5_isImage : List Cond := .code yX5_isImage cX5_isImage 1 (some .boolean) :: ([])
def wsX0_isTaken : List Cond := .code yX0_isTaken cX0_isTaken 2 (some .boolean) :: ([.fieldLink RX0 18 "BlobRuns$Images" "taken" "[Z", .static yX5_isImage, .initialized RX5, .code yX5_isImage cX5_isImage 1 (some .boolean)] ++ wsX00)
def wsX0_seedOf : List Cond := .code yX0_seedOf cX0_seedOf 2 (some .int) :: ([.fieldLink RX0 15 "BlobRuns$Images" "seeds" "[I", .static yX5_isImage, .initialized RX5, .code yX5_isImage cX5_isImage 1 (some .boolean)] ++ wsX00)
def wsX3_layBy : List Cond := .code yX3_layBy cX3_layBy 3 none :: ([.fieldLink RX3 9 "BlobRuns$Picture" "rows" "[I", .methodLink RX3 56 arraycopyName, .native arraycopyName, .static arraycopyName, .initialized "java/lang/System", .fieldLink RX3 18 "BlobRuns$Picture" "joinedBy" "I"] ++ wsX30)
def wsX0_take : List Cond := .code yX0_take cX0_take 4 none :: ([.fieldLink RX0 9 "BlobRuns$Images" "shelf" "[I", .fieldLink RX0 15 "BlobRuns$Images" "seeds" "[I", .fieldLink RX0 18 "BlobRuns$Images" "taken" "[Z", .static yX5_isImage, .initialized RX5, .code yX5_isImage cX5_isImage 1 (some .boolean), .methodLink RX0 26 yX3_layBy, .instanceMethod yX3_layBy, .selects RX3 yX3_layBy yX3_layBy, .initialized RX3, .code yX3_layBy cX3_layBy 3 none, .fieldLink RX3 9 "BlobRuns$Picture" "rows" "[I", .methodLink RX3 56 arraycopyName, .native arraycopyName, .static arraycopyName, .initialized "java/lang/System", .fieldLink RX3 18 "BlobRuns$Picture" "joinedBy" "I"] ++ wsX00 ++ wsX30)
def wsX3_takeUp : List Cond := .code yX3_takeUp cX3_takeUp 3 none :: ([.fieldLink RX3 9 "BlobRuns$Picture" "rows" "[I", .methodLink RX3 56 arraycopyName, .native arraycopyName, .static arraycopyName, .initialized "java/lang/System", .fieldLink RX3 18 "BlobRuns$Picture" "joinedBy" "I"] ++ wsX30)
def wsX0_show : List Cond := .code yX0_show cX0_show 3 none :: ([.fieldLink RX0 9 "BlobRuns$Images" "shelf" "[I", .methodLink RX0 32 yX3_takeUp, .instanceMethod yX3_takeUp, .selects RX3 yX3_takeUp yX3_takeUp, .initialized RX3, .code yX3_takeUp cX3_takeUp 3 none, .fieldLink RX3 9 "BlobRuns$Picture" "rows" "[I", .methodLink RX3 56 arraycopyName, .native arraycopyName, .static arraycopyName, .initialized "java/lang/System", .fieldLink RX3 18 "BlobRuns$Picture" "joinedBy" "I"] ++ wsX00 ++ wsX30)
def wsX4_init : List Cond := .code yX4_init cX4_init 1 none :: ([.methodLink RX4 3 objectInit, .instanceMethod objectInit, .code objectInit ⟨#[0xb1]⟩ 1 none, .arrayClass .int, .fieldLink RX4 9 "BlobRuns$Runs" "first" "[I", .fieldLink RX4 15 "BlobRuns$Runs" "changes" "[I", .fieldLink RX4 18 "BlobRuns$Runs" "startOf" "[I", .fieldLink RX4 21 "BlobRuns$Runs" "endOf" "[I", .fieldLink RX4 24 "BlobRuns$Runs" "rowOf" "[I", .arrayClass .boolean, .fieldLink RX4 27 "BlobRuns$Runs" "dark" "[Z", .fieldLink RX4 31 "BlobRuns$Runs" "towards" "[I", .fieldLink RX4 34 "BlobRuns$Runs" "count" "I"] ++ wsX40)
def wsX1_init_r1 : List Cond := [Cond.methodLink RX1 3 objectInit, Cond.instanceMethod objectInit, Cond.code objectInit ⟨#[0xb1]⟩ 1 none, Cond.classLink RX1 9 RX4, Cond.instantiable RX4 8, Cond.initialized RX4, Cond.fieldLink RX1 12 "BlobRuns$Parting" "runs" "LBlobRuns$Runs;", Cond.arrayClass .int, Cond.fieldLink RX1 18 "BlobRuns$Parting" "size" "[I", Cond.fieldLink RX1 22 "BlobRuns$Parting" "rim" "[I", Cond.fieldLink RX1 25 "BlobRuns$Parting" "bottom" "[I", Cond.fieldLink RX1 28 "BlobRuns$Parting" "left" "[I", Cond.fieldLink RX1 31 "BlobRuns$Parting" "right" "[I", Cond.arrayClass .boolean, Cond.fieldLink RX1 34 "BlobRuns$Parting" "reachesRim" "[Z", Cond.fieldLink RX1 38 "BlobRuns$Parting" "number" "[I", Cond.fieldLink RX1 41 "BlobRuns$Parting" "partGroup" "[I", Cond.fieldLink RX1 44 "BlobRuns$Parting" "holeGroup" "[I", Cond.fieldLink RX1 47 "BlobRuns$Parting" "touched" "[I", Cond.fieldLink RX1 50 "BlobRuns$Parting" "partCount" "I", Cond.fieldLink RX1 54 "BlobRuns$Parting" "holeCount" "I", Cond.fieldLink RX1 57 "BlobRuns$Parting" "lightCount" "I", Cond.instanceMethod yX4_init, Cond.code yX4_init cX4_init 1 none]
def wsX1_init_r2 : List Cond := [Cond.methodLink RX4 3 objectInit, Cond.fieldLink RX4 9 "BlobRuns$Runs" "first" "[I", Cond.fieldLink RX4 15 "BlobRuns$Runs" "changes" "[I", Cond.fieldLink RX4 18 "BlobRuns$Runs" "startOf" "[I", Cond.fieldLink RX4 21 "BlobRuns$Runs" "endOf" "[I", Cond.fieldLink RX4 24 "BlobRuns$Runs" "rowOf" "[I", Cond.fieldLink RX4 27 "BlobRuns$Runs" "dark" "[Z", Cond.fieldLink RX4 31 "BlobRuns$Runs" "towards" "[I", Cond.fieldLink RX4 34 "BlobRuns$Runs" "count" "I"]
def wsX1_init : List Cond := .code yX1_init cX1_init 1 none :: ((wsX1_init_r1 ++ wsX1_init_r2) ++ wsX40 ++ wsX10)
def wsX3_line : List Cond := .code yX3_line cX3_line 2 (some .int) :: ([.fieldLink RX3 9 "BlobRuns$Picture" "rows" "[I"] ++ wsX30)
def wsX4_add : List Cond := .code yX4_add cX4_add 6 none :: ([.fieldLink RX4 34 "BlobRuns$Runs" "count" "I", .fieldLink RX4 24 "BlobRuns$Runs" "rowOf" "[I", .fieldLink RX4 18 "BlobRuns$Runs" "startOf" "[I", .fieldLink RX4 21 "BlobRuns$Runs" "endOf" "[I", .fieldLink RX4 27 "BlobRuns$Runs" "dark" "[Z", .fieldLink RX4 31 "BlobRuns$Runs" "towards" "[I"] ++ wsX40)
def wsX4_cut : List Cond := .code yX4_cut cX4_cut 5 none :: ([.methodLink RX4 71 yX4_add, .instanceMethod yX4_add, .selects RX4 yX4_add yX4_add, .initialized RX4, .code yX4_add cX4_add 6 none, .fieldLink RX4 34 "BlobRuns$Runs" "count" "I", .fieldLink RX4 24 "BlobRuns$Runs" "rowOf" "[I", .fieldLink RX4 18 "BlobRuns$Runs" "startOf" "[I", .fieldLink RX4 21 "BlobRuns$Runs" "endOf" "[I", .fieldLink RX4 27 "BlobRuns$Runs" "dark" "[Z", .fieldLink RX4 31 "BlobRuns$Runs" "towards" "[I"] ++ wsX40)
def wsX3_cornersJoin : List Cond := .code yX3_cornersJoin cX3_cornersJoin 1 (some .boolean) :: ([.fieldLink RX3 18 "BlobRuns$Picture" "joinedBy" "I"] ++ wsX30)
def wsX4_isDark : List Cond := .code yX4_isDark cX4_isDark 2 (some .boolean) :: ([.fieldLink RX4 27 "BlobRuns$Runs" "dark" "[Z"] ++ wsX40)
def wsX4_firstOfColour : List Cond := .code yX4_firstOfColour cX4_firstOfColour 4 (some .int) :: ([.fieldLink RX4 9 "BlobRuns$Runs" "first" "[I", .methodLink RX4 82 yX4_isDark, .instanceMethod yX4_isDark, .selects RX4 yX4_isDark yX4_isDark, .initialized RX4, .code yX4_isDark cX4_isDark 2 (some .boolean), .fieldLink RX4 27 "BlobRuns$Runs" "dark" "[Z"] ++ wsX40)
def wsX4_start : List Cond := .code yX4_start cX4_start 2 (some .int) :: ([.fieldLink RX4 18 "BlobRuns$Runs" "startOf" "[I"] ++ wsX40)
def wsX4_end : List Cond := .code yX4_end cX4_end 2 (some .int) :: ([.fieldLink RX4 21 "BlobRuns$Runs" "endOf" "[I"] ++ wsX40)
def wsX4_leastKnown : List Cond := .code yX4_leastKnown cX4_leastKnown 4 (some .int) :: ([.fieldLink RX4 31 "BlobRuns$Runs" "towards" "[I"] ++ wsX40)
def wsX4_join : List Cond := .code yX4_join cX4_join 5 none :: ([.fieldLink RX4 31 "BlobRuns$Runs" "towards" "[I", .methodLink RX4 89 Lib.Math.max.name, .static Lib.Math.max.name, .initialized "java/lang/Math", .code Lib.Math.max.name Lib.Math.max.code 2 (some .int), .methodLink RX4 95 Lib.Math.min.name, .static Lib.Math.min.name, .code Lib.Math.min.name Lib.Math.min.code 2 (some .int), .methodLink RX4 86 yX4_leastKnown, .instanceMethod yX4_leastKnown, .selects RX4 yX4_leastKnown yX4_leastKnown, .initialized RX4, .code yX4_leastKnown cX4_leastKnown 4 (some .int)] ++ wsX40)
def wsX4_joinToRowAbove_r1 : List Cond := [Cond.fieldLink RX4 9 "BlobRuns$Runs" "first" "[I", Cond.methodLink RX4 75 yX4_firstOfColour, Cond.instanceMethod yX4_firstOfColour, Cond.selects RX4 yX4_firstOfColour yX4_firstOfColour, Cond.initialized RX4, Cond.code yX4_firstOfColour cX4_firstOfColour 4 (some .int), Cond.methodLink RX4 82 yX4_isDark, Cond.instanceMethod yX4_isDark, Cond.selects RX4 yX4_isDark yX4_isDark, Cond.code yX4_isDark cX4_isDark 2 (some .boolean), Cond.fieldLink RX4 27 "BlobRuns$Runs" "dark" "[Z", Cond.methodLink RX4 63 yX4_start, Cond.instanceMethod yX4_start, Cond.selects RX4 yX4_start yX4_start, Cond.code yX4_start cX4_start 2 (some .int), Cond.fieldLink RX4 18 "BlobRuns$Runs" "startOf" "[I", Cond.methodLink RX4 60 yX4_end, Cond.instanceMethod yX4_end, Cond.selects RX4 yX4_end yX4_end, Cond.code yX4_end cX4_end 2 (some .int), Cond.fieldLink RX4 21 "BlobRuns$Runs" "endOf" "[I", Cond.methodLink RX4 79 yX4_join, Cond.instanceMethod yX4_join, Cond.selects RX4 yX4_join yX4_join]
def wsX4_joinToRowAbove_r2 : List Cond := [Cond.code yX4_join cX4_join 5 none, Cond.fieldLink RX4 31 "BlobRuns$Runs" "towards" "[I", Cond.methodLink RX4 89 Lib.Math.max.name, Cond.static Lib.Math.max.name, Cond.initialized "java/lang/Math", Cond.code Lib.Math.max.name Lib.Math.max.code 2 (some .int), Cond.methodLink RX4 95 Lib.Math.min.name, Cond.static Lib.Math.min.name, Cond.code Lib.Math.min.name Lib.Math.min.code 2 (some .int), Cond.methodLink RX4 86 yX4_leastKnown, Cond.instanceMethod yX4_leastKnown, Cond.selects RX4 yX4_leastKnown yX4_leastKnown, Cond.code yX4_leastKnown cX4_leastKnown 4 (some .int)]
def wsX4_joinToRowAbove : List Cond := .code yX4_joinToRowAbove cX4_joinToRowAbove 8 none :: ((wsX4_joinToRowAbove_r1 ++ wsX4_joinToRowAbove_r2) ++ wsX40)
def wsX4_groupOf : List Cond := .code yX4_groupOf cX4_groupOf 2 (some .int) :: ([.fieldLink RX4 31 "BlobRuns$Runs" "towards" "[I"] ++ wsX40)
def wsX4_settle : List Cond := .code yX4_settle cX4_settle 2 none :: ([.fieldLink RX4 34 "BlobRuns$Runs" "count" "I", .fieldLink RX4 31 "BlobRuns$Runs" "towards" "[I", .methodLink RX4 98 yX4_groupOf, .instanceMethod yX4_groupOf, .selects RX4 yX4_groupOf yX4_groupOf, .initialized RX4, .code yX4_groupOf cX4_groupOf 2 (some .int)] ++ wsX40)
def wsX4_read_r1 : List Cond := [Cond.fieldLink RX4 34 "BlobRuns$Runs" "count" "I", Cond.fieldLink RX4 9 "BlobRuns$Runs" "first" "[I", Cond.fieldLink RX4 15 "BlobRuns$Runs" "changes" "[I", Cond.constant RX4 44 (65534), Cond.methodLink RX4 38 yX3_line, Cond.instanceMethod yX3_line, Cond.selects RX3 yX3_line yX3_line, Cond.initialized RX3, Cond.code yX3_line cX3_line 2 (some .int), Cond.fieldLink RX3 9 "BlobRuns$Picture" "rows" "[I", Cond.methodLink RX4 45 yX4_cut, Cond.instanceMethod yX4_cut, Cond.selects RX4 yX4_cut yX4_cut, Cond.initialized RX4, Cond.code yX4_cut cX4_cut 5 none, Cond.methodLink RX4 71 yX4_add, Cond.instanceMethod yX4_add, Cond.selects RX4 yX4_add yX4_add, Cond.code yX4_add cX4_add 6 none, Cond.fieldLink RX4 24 "BlobRuns$Runs" "rowOf" "[I", Cond.fieldLink RX4 18 "BlobRuns$Runs" "startOf" "[I", Cond.fieldLink RX4 21 "BlobRuns$Runs" "endOf" "[I", Cond.fieldLink RX4 27 "BlobRuns$Runs" "dark" "[Z", Cond.fieldLink RX4 31 "BlobRuns$Runs" "towards" "[I"]
def wsX4_read_r2 : List Cond := [Cond.methodLink RX4 49 yX3_cornersJoin, Cond.instanceMethod yX3_cornersJoin, Cond.selects RX3 yX3_cornersJoin yX3_cornersJoin, Cond.code yX3_cornersJoin cX3_cornersJoin 1 (some .boolean), Cond.fieldLink RX3 18 "BlobRuns$Picture" "joinedBy" "I", Cond.methodLink RX4 53 yX4_joinToRowAbove, Cond.instanceMethod yX4_joinToRowAbove, Cond.selects RX4 yX4_joinToRowAbove yX4_joinToRowAbove, Cond.code yX4_joinToRowAbove cX4_joinToRowAbove 8 none, Cond.methodLink RX4 75 yX4_firstOfColour, Cond.instanceMethod yX4_firstOfColour, Cond.selects RX4 yX4_firstOfColour yX4_firstOfColour, Cond.code yX4_firstOfColour cX4_firstOfColour 4 (some .int), Cond.methodLink RX4 82 yX4_isDark, Cond.instanceMethod yX4_isDark, Cond.selects RX4 yX4_isDark yX4_isDark, Cond.code yX4_isDark cX4_isDark 2 (some .boolean), Cond.methodLink RX4 63 yX4_start, Cond.instanceMethod yX4_start, Cond.selects RX4 yX4_start yX4_start, Cond.code yX4_start cX4_start 2 (some .int), Cond.methodLink RX4 60 yX4_end, Cond.instanceMethod yX4_end, Cond.selects RX4 yX4_end yX4_end]
def wsX4_read_r3 : List Cond := [Cond.code yX4_end cX4_end 2 (some .int), Cond.methodLink RX4 79 yX4_join, Cond.instanceMethod yX4_join, Cond.selects RX4 yX4_join yX4_join, Cond.code yX4_join cX4_join 5 none, Cond.methodLink RX4 89 Lib.Math.max.name, Cond.static Lib.Math.max.name, Cond.initialized "java/lang/Math", Cond.code Lib.Math.max.name Lib.Math.max.code 2 (some .int), Cond.methodLink RX4 95 Lib.Math.min.name, Cond.static Lib.Math.min.name, Cond.code Lib.Math.min.name Lib.Math.min.code 2 (some .int), Cond.methodLink RX4 86 yX4_leastKnown, Cond.instanceMethod yX4_leastKnown, Cond.selects RX4 yX4_leastKnown yX4_leastKnown, Cond.code yX4_leastKnown cX4_leastKnown 4 (some .int), Cond.methodLink RX4 57 yX4_settle, Cond.instanceMethod yX4_settle, Cond.selects RX4 yX4_settle yX4_settle, Cond.code yX4_settle cX4_settle 2 none, Cond.methodLink RX4 98 yX4_groupOf, Cond.instanceMethod yX4_groupOf, Cond.selects RX4 yX4_groupOf yX4_groupOf, Cond.code yX4_groupOf cX4_groupOf 2 (some .int)]
def wsX4_read : List Cond := .code yX4_read cX4_read 4 none :: ((wsX4_read_r1 ++ (wsX4_read_r2 ++ wsX4_read_r3)) ++ wsX40 ++ wsX30)
def wsX4_lineOf : List Cond := .code yX4_lineOf cX4_lineOf 2 (some .int) :: ([.fieldLink RX4 24 "BlobRuns$Runs" "rowOf" "[I"] ++ wsX40)
def wsX1_clear : List Cond := .code yX1_clear cX1_clear 3 none :: ([.fieldLink RX1 18 "BlobRuns$Parting" "size" "[I", .fieldLink RX1 22 "BlobRuns$Parting" "rim" "[I", .fieldLink RX1 28 "BlobRuns$Parting" "left" "[I", .fieldLink RX1 31 "BlobRuns$Parting" "right" "[I", .fieldLink RX1 34 "BlobRuns$Parting" "reachesRim" "[Z"] ++ wsX10)
def wsX4_columns : List Cond := .code yX4_columns cX4_columns 2 (some .int) :: ([.methodLink RX4 60 yX4_end, .instanceMethod yX4_end, .selects RX4 yX4_end yX4_end, .initialized RX4, .code yX4_end cX4_end 2 (some .int), .fieldLink RX4 21 "BlobRuns$Runs" "endOf" "[I", .methodLink RX4 63 yX4_start, .instanceMethod yX4_start, .selects RX4 yX4_start yX4_start, .code yX4_start cX4_start 2 (some .int), .fieldLink RX4 18 "BlobRuns$Runs" "startOf" "[I"] ++ wsX40)
def wsJ6_bitCount_0f7a4 : List Cond := .code yJ6_bitCount_0f7a4 cJ6_bitCount_0f7a4 1 (some .int) :: ([.constant RJ6 265 (1431655765), .constant RJ6 266 (858993459), .constant RJ6 267 (252645135)])
def wsX3_freeSides : List Cond := .code yX3_freeSides cX3_freeSides 3 (some .int) :: ([.methodLink RX3 23 yX3_line, .instanceMethod yX3_line, .selects RX3 yX3_line yX3_line, .initialized RX3, .code yX3_line cX3_line 2 (some .int), .fieldLink RX3 9 "BlobRuns$Picture" "rows" "[I", .methodLink RX3 31 yJ6_bitCount_0f7a4, .static yJ6_bitCount_0f7a4, .initialized RJ6, .code yJ6_bitCount_0f7a4 cJ6_bitCount_0f7a4 1 (some .int), .constant RJ6 265 (1431655765), .constant RJ6 266 (858993459), .constant RJ6 267 (252645135)] ++ wsX30)
def wsX1_measure_r1 : List Cond := [Cond.fieldLink RX1 12 "BlobRuns$Parting" "runs" "LBlobRuns$Runs;", Cond.fieldLink RX1 18 "BlobRuns$Parting" "size" "[I", Cond.fieldLink RX1 22 "BlobRuns$Parting" "rim" "[I", Cond.fieldLink RX1 25 "BlobRuns$Parting" "bottom" "[I", Cond.fieldLink RX1 28 "BlobRuns$Parting" "left" "[I", Cond.methodLink RX1 154 Lib.Math.min.name, Cond.static Lib.Math.min.name, Cond.initialized "java/lang/Math", Cond.code Lib.Math.min.name Lib.Math.min.code 2 (some .int), Cond.fieldLink RX1 31 "BlobRuns$Parting" "right" "[I", Cond.methodLink RX1 114 Lib.Math.max.name, Cond.static Lib.Math.max.name, Cond.code Lib.Math.max.name Lib.Math.max.code 2 (some .int), Cond.fieldLink RX1 34 "BlobRuns$Parting" "reachesRim" "[Z", Cond.methodLink RX1 79 yX4_lineOf, Cond.instanceMethod yX4_lineOf, Cond.selects RX4 yX4_lineOf yX4_lineOf, Cond.initialized RX4, Cond.code yX4_lineOf cX4_lineOf 2 (some .int), Cond.fieldLink RX4 24 "BlobRuns$Runs" "rowOf" "[I", Cond.methodLink RX1 82 yX4_start, Cond.instanceMethod yX4_start, Cond.selects RX4 yX4_start yX4_start, Cond.code yX4_start cX4_start 2 (some .int)]
def wsX1_measure_r2 : List Cond := [Cond.fieldLink RX4 18 "BlobRuns$Runs" "startOf" "[I", Cond.methodLink RX1 141 yX4_end, Cond.instanceMethod yX4_end, Cond.selects RX4 yX4_end yX4_end, Cond.code yX4_end cX4_end 2 (some .int), Cond.fieldLink RX4 21 "BlobRuns$Runs" "endOf" "[I", Cond.methodLink RX1 71 yX4_groupOf, Cond.instanceMethod yX4_groupOf, Cond.selects RX4 yX4_groupOf yX4_groupOf, Cond.code yX4_groupOf cX4_groupOf 2 (some .int), Cond.fieldLink RX4 31 "BlobRuns$Runs" "towards" "[I", Cond.methodLink RX1 144 yX1_clear, Cond.instanceMethod yX1_clear, Cond.selects RX1 yX1_clear yX1_clear, Cond.initialized RX1, Cond.code yX1_clear cX1_clear 3 none, Cond.methodLink RX1 147 yX4_isDark, Cond.instanceMethod yX4_isDark, Cond.selects RX4 yX4_isDark yX4_isDark, Cond.code yX4_isDark cX4_isDark 2 (some .boolean), Cond.fieldLink RX4 27 "BlobRuns$Runs" "dark" "[Z", Cond.methodLink RX1 132 yX4_columns, Cond.instanceMethod yX4_columns, Cond.selects RX4 yX4_columns yX4_columns]
def wsX1_measure_r3 : List Cond := [Cond.code yX4_columns cX4_columns 2 (some .int), Cond.methodLink RX4 60 yX4_end, Cond.methodLink RX4 63 yX4_start, Cond.methodLink RX1 151 yX3_freeSides, Cond.instanceMethod yX3_freeSides, Cond.selects RX3 yX3_freeSides yX3_freeSides, Cond.initialized RX3, Cond.code yX3_freeSides cX3_freeSides 3 (some .int), Cond.methodLink RX3 23 yX3_line, Cond.instanceMethod yX3_line, Cond.selects RX3 yX3_line yX3_line, Cond.code yX3_line cX3_line 2 (some .int), Cond.fieldLink RX3 9 "BlobRuns$Picture" "rows" "[I", Cond.methodLink RX3 31 yJ6_bitCount_0f7a4, Cond.static yJ6_bitCount_0f7a4, Cond.initialized RJ6, Cond.code yJ6_bitCount_0f7a4 cJ6_bitCount_0f7a4 1 (some .int), Cond.constant RJ6 265 (1431655765), Cond.constant RJ6 266 (858993459), Cond.constant RJ6 267 (252645135)]
def wsX1_measure : List Cond := .code yX1_measure cX1_measure 7 none :: ((wsX1_measure_r1 ++ (wsX1_measure_r2 ++ wsX1_measure_r3)) ++ wsX10 ++ wsX40 ++ wsX30)
def wsX1_giveNumber : List Cond := .code yX1_giveNumber cX1_giveNumber 3 none :: ([.fieldLink RX1 38 "BlobRuns$Parting" "number" "[I", .fieldLink RX1 12 "BlobRuns$Parting" "runs" "LBlobRuns$Runs;", .fieldLink RX1 50 "BlobRuns$Parting" "partCount" "I", .fieldLink RX1 41 "BlobRuns$Parting" "partGroup" "[I", .fieldLink RX1 57 "BlobRuns$Parting" "lightCount" "I", .fieldLink RX1 34 "BlobRuns$Parting" "reachesRim" "[Z", .fieldLink RX1 54 "BlobRuns$Parting" "holeCount" "I", .fieldLink RX1 44 "BlobRuns$Parting" "holeGroup" "[I", .methodLink RX1 147 yX4_isDark, .instanceMethod yX4_isDark, .selects RX4 yX4_isDark yX4_isDark, .initialized RX4, .code yX4_isDark cX4_isDark 2 (some .boolean), .fieldLink RX4 27 "BlobRuns$Runs" "dark" "[Z"] ++ wsX10 ++ wsX40)
def wsX1_read_r1 : List Cond := [Cond.fieldLink RX1 12 "BlobRuns$Parting" "runs" "LBlobRuns$Runs;", Cond.fieldLink RX1 50 "BlobRuns$Parting" "partCount" "I", Cond.fieldLink RX1 54 "BlobRuns$Parting" "holeCount" "I", Cond.fieldLink RX1 57 "BlobRuns$Parting" "lightCount" "I", Cond.methodLink RX1 60 yX4_read, Cond.instanceMethod yX4_read, Cond.selects RX4 yX4_read yX4_read, Cond.initialized RX4, Cond.code yX4_read cX4_read 4 none, Cond.fieldLink RX4 34 "BlobRuns$Runs" "count" "I", Cond.fieldLink RX4 9 "BlobRuns$Runs" "first" "[I", Cond.fieldLink RX4 15 "BlobRuns$Runs" "changes" "[I", Cond.constant RX4 44 (65534), Cond.methodLink RX4 38 yX3_line, Cond.instanceMethod yX3_line, Cond.selects RX3 yX3_line yX3_line, Cond.initialized RX3, Cond.code yX3_line cX3_line 2 (some .int), Cond.fieldLink RX3 9 "BlobRuns$Picture" "rows" "[I", Cond.methodLink RX4 45 yX4_cut, Cond.instanceMethod yX4_cut, Cond.selects RX4 yX4_cut yX4_cut, Cond.code yX4_cut cX4_cut 5 none, Cond.methodLink RX4 71 yX4_add]
def wsX1_read_r2 : List Cond := [Cond.instanceMethod yX4_add, Cond.selects RX4 yX4_add yX4_add, Cond.code yX4_add cX4_add 6 none, Cond.fieldLink RX4 24 "BlobRuns$Runs" "rowOf" "[I", Cond.fieldLink RX4 18 "BlobRuns$Runs" "startOf" "[I", Cond.fieldLink RX4 21 "BlobRuns$Runs" "endOf" "[I", Cond.fieldLink RX4 27 "BlobRuns$Runs" "dark" "[Z", Cond.fieldLink RX4 31 "BlobRuns$Runs" "towards" "[I", Cond.methodLink RX4 49 yX3_cornersJoin, Cond.instanceMethod yX3_cornersJoin, Cond.selects RX3 yX3_cornersJoin yX3_cornersJoin, Cond.code yX3_cornersJoin cX3_cornersJoin 1 (some .boolean), Cond.fieldLink RX3 18 "BlobRuns$Picture" "joinedBy" "I", Cond.methodLink RX4 53 yX4_joinToRowAbove, Cond.instanceMethod yX4_joinToRowAbove, Cond.selects RX4 yX4_joinToRowAbove yX4_joinToRowAbove, Cond.code yX4_joinToRowAbove cX4_joinToRowAbove 8 none, Cond.methodLink RX4 75 yX4_firstOfColour, Cond.instanceMethod yX4_firstOfColour, Cond.selects RX4 yX4_firstOfColour yX4_firstOfColour, Cond.code yX4_firstOfColour cX4_firstOfColour 4 (some .int), Cond.methodLink RX4 82 yX4_isDark, Cond.instanceMethod yX4_isDark, Cond.selects RX4 yX4_isDark yX4_isDark]
def wsX1_read_r3 : List Cond := [Cond.code yX4_isDark cX4_isDark 2 (some .boolean), Cond.methodLink RX4 63 yX4_start, Cond.instanceMethod yX4_start, Cond.selects RX4 yX4_start yX4_start, Cond.code yX4_start cX4_start 2 (some .int), Cond.methodLink RX4 60 yX4_end, Cond.instanceMethod yX4_end, Cond.selects RX4 yX4_end yX4_end, Cond.code yX4_end cX4_end 2 (some .int), Cond.methodLink RX4 79 yX4_join, Cond.instanceMethod yX4_join, Cond.selects RX4 yX4_join yX4_join, Cond.code yX4_join cX4_join 5 none, Cond.methodLink RX4 89 Lib.Math.max.name, Cond.static Lib.Math.max.name, Cond.initialized "java/lang/Math", Cond.code Lib.Math.max.name Lib.Math.max.code 2 (some .int), Cond.methodLink RX4 95 Lib.Math.min.name, Cond.static Lib.Math.min.name, Cond.code Lib.Math.min.name Lib.Math.min.code 2 (some .int), Cond.methodLink RX4 86 yX4_leastKnown, Cond.instanceMethod yX4_leastKnown, Cond.selects RX4 yX4_leastKnown yX4_leastKnown, Cond.code yX4_leastKnown cX4_leastKnown 4 (some .int)]
def wsX1_read_r4 : List Cond := [Cond.methodLink RX4 57 yX4_settle, Cond.instanceMethod yX4_settle, Cond.selects RX4 yX4_settle yX4_settle, Cond.code yX4_settle cX4_settle 2 none, Cond.methodLink RX4 98 yX4_groupOf, Cond.instanceMethod yX4_groupOf, Cond.selects RX4 yX4_groupOf yX4_groupOf, Cond.code yX4_groupOf cX4_groupOf 2 (some .int), Cond.methodLink RX1 67 yX1_measure, Cond.instanceMethod yX1_measure, Cond.selects RX1 yX1_measure yX1_measure, Cond.initialized RX1, Cond.code yX1_measure cX1_measure 7 none, Cond.fieldLink RX1 18 "BlobRuns$Parting" "size" "[I", Cond.fieldLink RX1 22 "BlobRuns$Parting" "rim" "[I", Cond.fieldLink RX1 25 "BlobRuns$Parting" "bottom" "[I", Cond.fieldLink RX1 28 "BlobRuns$Parting" "left" "[I", Cond.methodLink RX1 154 Lib.Math.min.name, Cond.fieldLink RX1 31 "BlobRuns$Parting" "right" "[I", Cond.methodLink RX1 114 Lib.Math.max.name, Cond.fieldLink RX1 34 "BlobRuns$Parting" "reachesRim" "[Z", Cond.methodLink RX1 79 yX4_lineOf, Cond.instanceMethod yX4_lineOf, Cond.selects RX4 yX4_lineOf yX4_lineOf]
def wsX1_read_r5 : List Cond := [Cond.code yX4_lineOf cX4_lineOf 2 (some .int), Cond.methodLink RX1 82 yX4_start, Cond.methodLink RX1 141 yX4_end, Cond.methodLink RX1 71 yX4_groupOf, Cond.methodLink RX1 144 yX1_clear, Cond.instanceMethod yX1_clear, Cond.selects RX1 yX1_clear yX1_clear, Cond.code yX1_clear cX1_clear 3 none, Cond.methodLink RX1 147 yX4_isDark, Cond.methodLink RX1 132 yX4_columns, Cond.instanceMethod yX4_columns, Cond.selects RX4 yX4_columns yX4_columns, Cond.code yX4_columns cX4_columns 2 (some .int), Cond.methodLink RX1 151 yX3_freeSides, Cond.instanceMethod yX3_freeSides, Cond.selects RX3 yX3_freeSides yX3_freeSides, Cond.code yX3_freeSides cX3_freeSides 3 (some .int), Cond.methodLink RX3 23 yX3_line, Cond.methodLink RX3 31 yJ6_bitCount_0f7a4, Cond.static yJ6_bitCount_0f7a4, Cond.initialized RJ6, Cond.code yJ6_bitCount_0f7a4 cJ6_bitCount_0f7a4 1 (some .int), Cond.constant RJ6 265 (1431655765), Cond.constant RJ6 266 (858993459)]
def wsX1_read_r6 : List Cond := [Cond.constant RJ6 267 (252645135), Cond.methodLink RX1 75 yX1_giveNumber, Cond.instanceMethod yX1_giveNumber, Cond.selects RX1 yX1_giveNumber yX1_giveNumber, Cond.code yX1_giveNumber cX1_giveNumber 3 none, Cond.fieldLink RX1 38 "BlobRuns$Parting" "number" "[I", Cond.fieldLink RX1 41 "BlobRuns$Parting" "partGroup" "[I", Cond.fieldLink RX1 44 "BlobRuns$Parting" "holeGroup" "[I"]
def wsX1_read : List Cond := .code yX1_read cX1_read 3 none :: ((wsX1_read_r1 ++ (wsX1_read_r2 ++ (wsX1_read_r3 ++ (wsX1_read_r4 ++ (wsX1_read_r5 ++ wsX1_read_r6))))) ++ wsX10 ++ wsX40 ++ wsX30)
def wsX1_hasPart : List Cond := .code yX1_hasPart cX1_hasPart 2 (some .boolean) :: ([.fieldLink RX1 50 "BlobRuns$Parting" "partCount" "I"] ++ wsX10)
def wsX1_hasHole : List Cond := .code yX1_hasHole cX1_hasHole 2 (some .boolean) :: ([.fieldLink RX1 54 "BlobRuns$Parting" "holeCount" "I"] ++ wsX10)
def wsX1_groupOfPart : List Cond := .code yX1_groupOfPart cX1_groupOfPart 2 (some .int) :: ([.fieldLink RX1 41 "BlobRuns$Parting" "partGroup" "[I"] ++ wsX10)
def wsX1_groupOfHole : List Cond := .code yX1_groupOfHole cX1_groupOfHole 2 (some .int) :: ([.fieldLink RX1 44 "BlobRuns$Parting" "holeGroup" "[I"] ++ wsX10)
def wsX1_sizeOf : List Cond := .code yX1_sizeOf cX1_sizeOf 2 (some .int) :: ([.fieldLink RX1 18 "BlobRuns$Parting" "size" "[I"] ++ wsX10)
def wsX1_rimOf : List Cond := .code yX1_rimOf cX1_rimOf 2 (some .int) :: ([.fieldLink RX1 22 "BlobRuns$Parting" "rim" "[I"] ++ wsX10)
def wsX1_topOf : List Cond := .code yX1_topOf cX1_topOf 2 (some .int) :: ([.fieldLink RX1 12 "BlobRuns$Parting" "runs" "LBlobRuns$Runs;", .methodLink RX1 79 yX4_lineOf, .instanceMethod yX4_lineOf, .selects RX4 yX4_lineOf yX4_lineOf, .initialized RX4, .code yX4_lineOf cX4_lineOf 2 (some .int), .fieldLink RX4 24 "BlobRuns$Runs" "rowOf" "[I"] ++ wsX10 ++ wsX40)
def wsX1_bottomOf : List Cond := .code yX1_bottomOf cX1_bottomOf 2 (some .int) :: ([.fieldLink RX1 25 "BlobRuns$Parting" "bottom" "[I"] ++ wsX10)
def wsX1_leftOf : List Cond := .code yX1_leftOf cX1_leftOf 2 (some .int) :: ([.fieldLink RX1 28 "BlobRuns$Parting" "left" "[I"] ++ wsX10)
def wsX1_rightOf : List Cond := .code yX1_rightOf cX1_rightOf 2 (some .int) :: ([.fieldLink RX1 31 "BlobRuns$Parting" "right" "[I"] ++ wsX10)
def wsX1_leastPlaceOf : List Cond := .code yX1_leastPlaceOf cX1_leastPlaceOf 2 (some .int) :: ([.fieldLink RX1 12 "BlobRuns$Parting" "runs" "LBlobRuns$Runs;", .methodLink RX1 79 yX4_lineOf, .instanceMethod yX4_lineOf, .selects RX4 yX4_lineOf yX4_lineOf, .initialized RX4, .code yX4_lineOf cX4_lineOf 2 (some .int), .fieldLink RX4 24 "BlobRuns$Runs" "rowOf" "[I", .methodLink RX1 82 yX4_start, .instanceMethod yX4_start, .selects RX4 yX4_start yX4_start, .code yX4_start cX4_start 2 (some .int), .fieldLink RX4 18 "BlobRuns$Runs" "startOf" "[I"] ++ wsX10 ++ wsX40)
def wsX5_isLine : List Cond := .code yX5_isLine cX5_isLine 1 (some .boolean) :: ([])
def wsX4_runAt : List Cond := .code yX4_runAt cX4_runAt 3 (some .int) :: ([.fieldLink RX4 9 "BlobRuns$Runs" "first" "[I", .fieldLink RX4 15 "BlobRuns$Runs" "changes" "[I", .methodLink RX4 66 yJ6_bitCount_0f7a4, .static yJ6_bitCount_0f7a4, .initialized RJ6, .code yJ6_bitCount_0f7a4 cJ6_bitCount_0f7a4 1 (some .int), .constant RJ6 265 (1431655765), .constant RJ6 266 (858993459), .constant RJ6 267 (252645135)] ++ wsX40)
def wsX1_numberAt_r1 : List Cond := [Cond.fieldLink RX1 12 "BlobRuns$Parting" "runs" "LBlobRuns$Runs;", Cond.fieldLink RX1 38 "BlobRuns$Parting" "number" "[I", Cond.static yX5_isLine, Cond.initialized RX5, Cond.code yX5_isLine cX5_isLine 1 (some .boolean), Cond.methodLink RX1 160 yX4_runAt, Cond.instanceMethod yX4_runAt, Cond.selects RX4 yX4_runAt yX4_runAt, Cond.initialized RX4, Cond.code yX4_runAt cX4_runAt 3 (some .int), Cond.fieldLink RX4 9 "BlobRuns$Runs" "first" "[I", Cond.fieldLink RX4 15 "BlobRuns$Runs" "changes" "[I", Cond.methodLink RX4 66 yJ6_bitCount_0f7a4, Cond.static yJ6_bitCount_0f7a4, Cond.initialized RJ6, Cond.code yJ6_bitCount_0f7a4 cJ6_bitCount_0f7a4 1 (some .int), Cond.constant RJ6 265 (1431655765), Cond.constant RJ6 266 (858993459), Cond.constant RJ6 267 (252645135), Cond.methodLink RX1 147 yX4_isDark, Cond.instanceMethod yX4_isDark, Cond.selects RX4 yX4_isDark yX4_isDark, Cond.code yX4_isDark cX4_isDark 2 (some .boolean), Cond.fieldLink RX4 27 "BlobRuns$Runs" "dark" "[Z"]
def wsX1_numberAt_r2 : List Cond := [Cond.methodLink RX1 71 yX4_groupOf, Cond.instanceMethod yX4_groupOf, Cond.selects RX4 yX4_groupOf yX4_groupOf, Cond.code yX4_groupOf cX4_groupOf 2 (some .int), Cond.fieldLink RX4 31 "BlobRuns$Runs" "towards" "[I"]
def wsX1_numberAt : List Cond := .code yX1_numberAt cX1_numberAt 5 (some .int) :: ((wsX1_numberAt_r1 ++ wsX1_numberAt_r2) ++ wsX10 ++ wsX40)
def wsX1_partAt_r1 : List Cond := [Cond.methodLink RX1 85 yX1_numberAt, Cond.instanceMethod yX1_numberAt, Cond.selects RX1 yX1_numberAt yX1_numberAt, Cond.initialized RX1, Cond.code yX1_numberAt cX1_numberAt 5 (some .int), Cond.fieldLink RX1 12 "BlobRuns$Parting" "runs" "LBlobRuns$Runs;", Cond.fieldLink RX1 38 "BlobRuns$Parting" "number" "[I", Cond.static yX5_isLine, Cond.initialized RX5, Cond.code yX5_isLine cX5_isLine 1 (some .boolean), Cond.methodLink RX1 160 yX4_runAt, Cond.instanceMethod yX4_runAt, Cond.selects RX4 yX4_runAt yX4_runAt, Cond.initialized RX4, Cond.code yX4_runAt cX4_runAt 3 (some .int), Cond.fieldLink RX4 9 "BlobRuns$Runs" "first" "[I", Cond.fieldLink RX4 15 "BlobRuns$Runs" "changes" "[I", Cond.methodLink RX4 66 yJ6_bitCount_0f7a4, Cond.static yJ6_bitCount_0f7a4, Cond.initialized RJ6, Cond.code yJ6_bitCount_0f7a4 cJ6_bitCount_0f7a4 1 (some .int), Cond.constant RJ6 265 (1431655765), Cond.constant RJ6 266 (858993459), Cond.constant RJ6 267 (252645135)]
def wsX1_partAt_r2 : List Cond := [Cond.methodLink RX1 147 yX4_isDark, Cond.instanceMethod yX4_isDark, Cond.selects RX4 yX4_isDark yX4_isDark, Cond.code yX4_isDark cX4_isDark 2 (some .boolean), Cond.fieldLink RX4 27 "BlobRuns$Runs" "dark" "[Z", Cond.methodLink RX1 71 yX4_groupOf, Cond.instanceMethod yX4_groupOf, Cond.selects RX4 yX4_groupOf yX4_groupOf, Cond.code yX4_groupOf cX4_groupOf 2 (some .int), Cond.fieldLink RX4 31 "BlobRuns$Runs" "towards" "[I"]
def wsX1_partAt : List Cond := .code yX1_partAt cX1_partAt 3 (some .int) :: ((wsX1_partAt_r1 ++ wsX1_partAt_r2) ++ wsX10 ++ wsX40)
def wsX1_holeAt_r1 : List Cond := [Cond.methodLink RX1 85 yX1_numberAt, Cond.instanceMethod yX1_numberAt, Cond.selects RX1 yX1_numberAt yX1_numberAt, Cond.initialized RX1, Cond.code yX1_numberAt cX1_numberAt 5 (some .int), Cond.fieldLink RX1 12 "BlobRuns$Parting" "runs" "LBlobRuns$Runs;", Cond.fieldLink RX1 38 "BlobRuns$Parting" "number" "[I", Cond.static yX5_isLine, Cond.initialized RX5, Cond.code yX5_isLine cX5_isLine 1 (some .boolean), Cond.methodLink RX1 160 yX4_runAt, Cond.instanceMethod yX4_runAt, Cond.selects RX4 yX4_runAt yX4_runAt, Cond.initialized RX4, Cond.code yX4_runAt cX4_runAt 3 (some .int), Cond.fieldLink RX4 9 "BlobRuns$Runs" "first" "[I", Cond.fieldLink RX4 15 "BlobRuns$Runs" "changes" "[I", Cond.methodLink RX4 66 yJ6_bitCount_0f7a4, Cond.static yJ6_bitCount_0f7a4, Cond.initialized RJ6, Cond.code yJ6_bitCount_0f7a4 cJ6_bitCount_0f7a4 1 (some .int), Cond.constant RJ6 265 (1431655765), Cond.constant RJ6 266 (858993459), Cond.constant RJ6 267 (252645135)]
def wsX1_holeAt_r2 : List Cond := [Cond.methodLink RX1 147 yX4_isDark, Cond.instanceMethod yX4_isDark, Cond.selects RX4 yX4_isDark yX4_isDark, Cond.code yX4_isDark cX4_isDark 2 (some .boolean), Cond.fieldLink RX4 27 "BlobRuns$Runs" "dark" "[Z", Cond.methodLink RX1 71 yX4_groupOf, Cond.instanceMethod yX4_groupOf, Cond.selects RX4 yX4_groupOf yX4_groupOf, Cond.code yX4_groupOf cX4_groupOf 2 (some .int), Cond.fieldLink RX4 31 "BlobRuns$Runs" "towards" "[I"]
def wsX1_holeAt : List Cond := .code yX1_holeAt cX1_holeAt 3 (some .int) :: ((wsX1_holeAt_r1 ++ wsX1_holeAt_r2) ++ wsX10 ++ wsX40)
def wsX1_holeAround_r1 : List Cond := [Cond.fieldLink RX1 12 "BlobRuns$Parting" "runs" "LBlobRuns$Runs;", Cond.methodLink RX1 89 yX1_groupOfPart, Cond.instanceMethod yX1_groupOfPart, Cond.selects RX1 yX1_groupOfPart yX1_groupOfPart, Cond.initialized RX1, Cond.code yX1_groupOfPart cX1_groupOfPart 2 (some .int), Cond.fieldLink RX1 41 "BlobRuns$Parting" "partGroup" "[I", Cond.methodLink RX1 79 yX4_lineOf, Cond.instanceMethod yX4_lineOf, Cond.selects RX4 yX4_lineOf yX4_lineOf, Cond.initialized RX4, Cond.code yX4_lineOf cX4_lineOf 2 (some .int), Cond.fieldLink RX4 24 "BlobRuns$Runs" "rowOf" "[I", Cond.methodLink RX1 82 yX4_start, Cond.instanceMethod yX4_start, Cond.selects RX4 yX4_start yX4_start, Cond.code yX4_start cX4_start 2 (some .int), Cond.fieldLink RX4 18 "BlobRuns$Runs" "startOf" "[I", Cond.methodLink RX1 92 yX1_holeAt, Cond.instanceMethod yX1_holeAt, Cond.selects RX1 yX1_holeAt yX1_holeAt, Cond.code yX1_holeAt cX1_holeAt 3 (some .int), Cond.methodLink RX1 85 yX1_numberAt, Cond.instanceMethod yX1_numberAt]
def wsX1_holeAround_r2 : List Cond := [Cond.selects RX1 yX1_numberAt yX1_numberAt, Cond.code yX1_numberAt cX1_numberAt 5 (some .int), Cond.fieldLink RX1 38 "BlobRuns$Parting" "number" "[I", Cond.static yX5_isLine, Cond.initialized RX5, Cond.code yX5_isLine cX5_isLine 1 (some .boolean), Cond.methodLink RX1 160 yX4_runAt, Cond.instanceMethod yX4_runAt, Cond.selects RX4 yX4_runAt yX4_runAt, Cond.code yX4_runAt cX4_runAt 3 (some .int), Cond.fieldLink RX4 9 "BlobRuns$Runs" "first" "[I", Cond.fieldLink RX4 15 "BlobRuns$Runs" "changes" "[I", Cond.methodLink RX4 66 yJ6_bitCount_0f7a4, Cond.static yJ6_bitCount_0f7a4, Cond.initialized RJ6, Cond.code yJ6_bitCount_0f7a4 cJ6_bitCount_0f7a4 1 (some .int), Cond.constant RJ6 265 (1431655765), Cond.constant RJ6 266 (858993459), Cond.constant RJ6 267 (252645135), Cond.methodLink RX1 147 yX4_isDark, Cond.instanceMethod yX4_isDark, Cond.selects RX4 yX4_isDark yX4_isDark, Cond.code yX4_isDark cX4_isDark 2 (some .boolean), Cond.fieldLink RX4 27 "BlobRuns$Runs" "dark" "[Z"]
def wsX1_holeAround_r3 : List Cond := [Cond.methodLink RX1 71 yX4_groupOf, Cond.instanceMethod yX4_groupOf, Cond.selects RX4 yX4_groupOf yX4_groupOf, Cond.code yX4_groupOf cX4_groupOf 2 (some .int), Cond.fieldLink RX4 31 "BlobRuns$Runs" "towards" "[I"]
def wsX1_holeAround : List Cond := .code yX1_holeAround cX1_holeAround 3 (some .int) :: ((wsX1_holeAround_r1 ++ (wsX1_holeAround_r2 ++ wsX1_holeAround_r3)) ++ wsX10 ++ wsX40)
def wsX1_partAround_r1 : List Cond := [Cond.fieldLink RX1 12 "BlobRuns$Parting" "runs" "LBlobRuns$Runs;", Cond.methodLink RX1 96 yX1_groupOfHole, Cond.instanceMethod yX1_groupOfHole, Cond.selects RX1 yX1_groupOfHole yX1_groupOfHole, Cond.initialized RX1, Cond.code yX1_groupOfHole cX1_groupOfHole 2 (some .int), Cond.fieldLink RX1 44 "BlobRuns$Parting" "holeGroup" "[I", Cond.methodLink RX1 79 yX4_lineOf, Cond.instanceMethod yX4_lineOf, Cond.selects RX4 yX4_lineOf yX4_lineOf, Cond.initialized RX4, Cond.code yX4_lineOf cX4_lineOf 2 (some .int), Cond.fieldLink RX4 24 "BlobRuns$Runs" "rowOf" "[I", Cond.methodLink RX1 82 yX4_start, Cond.instanceMethod yX4_start, Cond.selects RX4 yX4_start yX4_start, Cond.code yX4_start cX4_start 2 (some .int), Cond.fieldLink RX4 18 "BlobRuns$Runs" "startOf" "[I", Cond.methodLink RX1 99 yX1_partAt, Cond.instanceMethod yX1_partAt, Cond.selects RX1 yX1_partAt yX1_partAt, Cond.code yX1_partAt cX1_partAt 3 (some .int), Cond.methodLink RX1 85 yX1_numberAt, Cond.instanceMethod yX1_numberAt]
def wsX1_partAround_r2 : List Cond := [Cond.selects RX1 yX1_numberAt yX1_numberAt, Cond.code yX1_numberAt cX1_numberAt 5 (some .int), Cond.fieldLink RX1 38 "BlobRuns$Parting" "number" "[I", Cond.static yX5_isLine, Cond.initialized RX5, Cond.code yX5_isLine cX5_isLine 1 (some .boolean), Cond.methodLink RX1 160 yX4_runAt, Cond.instanceMethod yX4_runAt, Cond.selects RX4 yX4_runAt yX4_runAt, Cond.code yX4_runAt cX4_runAt 3 (some .int), Cond.fieldLink RX4 9 "BlobRuns$Runs" "first" "[I", Cond.fieldLink RX4 15 "BlobRuns$Runs" "changes" "[I", Cond.methodLink RX4 66 yJ6_bitCount_0f7a4, Cond.static yJ6_bitCount_0f7a4, Cond.initialized RJ6, Cond.code yJ6_bitCount_0f7a4 cJ6_bitCount_0f7a4 1 (some .int), Cond.constant RJ6 265 (1431655765), Cond.constant RJ6 266 (858993459), Cond.constant RJ6 267 (252645135), Cond.methodLink RX1 147 yX4_isDark, Cond.instanceMethod yX4_isDark, Cond.selects RX4 yX4_isDark yX4_isDark, Cond.code yX4_isDark cX4_isDark 2 (some .boolean), Cond.fieldLink RX4 27 "BlobRuns$Runs" "dark" "[Z"]
def wsX1_partAround_r3 : List Cond := [Cond.methodLink RX1 71 yX4_groupOf, Cond.instanceMethod yX4_groupOf, Cond.selects RX4 yX4_groupOf yX4_groupOf, Cond.code yX4_groupOf cX4_groupOf 2 (some .int), Cond.fieldLink RX4 31 "BlobRuns$Runs" "towards" "[I"]
def wsX1_partAround : List Cond := .code yX1_partAround cX1_partAround 3 (some .int) :: ((wsX1_partAround_r1 ++ (wsX1_partAround_r2 ++ wsX1_partAround_r3)) ++ wsX10 ++ wsX40)
def wsX1_depthOf_r1 : List Cond := [Cond.methodLink RX1 102 yX1_holeAround, Cond.instanceMethod yX1_holeAround, Cond.selects RX1 yX1_holeAround yX1_holeAround, Cond.initialized RX1, Cond.code yX1_holeAround cX1_holeAround 3 (some .int), Cond.fieldLink RX1 12 "BlobRuns$Parting" "runs" "LBlobRuns$Runs;", Cond.methodLink RX1 89 yX1_groupOfPart, Cond.instanceMethod yX1_groupOfPart, Cond.selects RX1 yX1_groupOfPart yX1_groupOfPart, Cond.code yX1_groupOfPart cX1_groupOfPart 2 (some .int), Cond.fieldLink RX1 41 "BlobRuns$Parting" "partGroup" "[I", Cond.methodLink RX1 79 yX4_lineOf, Cond.instanceMethod yX4_lineOf, Cond.selects RX4 yX4_lineOf yX4_lineOf, Cond.initialized RX4, Cond.code yX4_lineOf cX4_lineOf 2 (some .int), Cond.fieldLink RX4 24 "BlobRuns$Runs" "rowOf" "[I", Cond.methodLink RX1 82 yX4_start, Cond.instanceMethod yX4_start, Cond.selects RX4 yX4_start yX4_start, Cond.code yX4_start cX4_start 2 (some .int), Cond.fieldLink RX4 18 "BlobRuns$Runs" "startOf" "[I", Cond.methodLink RX1 92 yX1_holeAt, Cond.instanceMethod yX1_holeAt]
def wsX1_depthOf_r2 : List Cond := [Cond.selects RX1 yX1_holeAt yX1_holeAt, Cond.code yX1_holeAt cX1_holeAt 3 (some .int), Cond.methodLink RX1 85 yX1_numberAt, Cond.instanceMethod yX1_numberAt, Cond.selects RX1 yX1_numberAt yX1_numberAt, Cond.code yX1_numberAt cX1_numberAt 5 (some .int), Cond.fieldLink RX1 38 "BlobRuns$Parting" "number" "[I", Cond.static yX5_isLine, Cond.initialized RX5, Cond.code yX5_isLine cX5_isLine 1 (some .boolean), Cond.methodLink RX1 160 yX4_runAt, Cond.instanceMethod yX4_runAt, Cond.selects RX4 yX4_runAt yX4_runAt, Cond.code yX4_runAt cX4_runAt 3 (some .int), Cond.fieldLink RX4 9 "BlobRuns$Runs" "first" "[I", Cond.fieldLink RX4 15 "BlobRuns$Runs" "changes" "[I", Cond.methodLink RX4 66 yJ6_bitCount_0f7a4, Cond.static yJ6_bitCount_0f7a4, Cond.initialized RJ6, Cond.code yJ6_bitCount_0f7a4 cJ6_bitCount_0f7a4 1 (some .int), Cond.constant RJ6 265 (1431655765), Cond.constant RJ6 266 (858993459), Cond.constant RJ6 267 (252645135), Cond.methodLink RX1 147 yX4_isDark]
def wsX1_depthOf_r3 : List Cond := [Cond.instanceMethod yX4_isDark, Cond.selects RX4 yX4_isDark yX4_isDark, Cond.code yX4_isDark cX4_isDark 2 (some .boolean), Cond.fieldLink RX4 27 "BlobRuns$Runs" "dark" "[Z", Cond.methodLink RX1 71 yX4_groupOf, Cond.instanceMethod yX4_groupOf, Cond.selects RX4 yX4_groupOf yX4_groupOf, Cond.code yX4_groupOf cX4_groupOf 2 (some .int), Cond.fieldLink RX4 31 "BlobRuns$Runs" "towards" "[I", Cond.methodLink RX1 105 yX1_partAround, Cond.instanceMethod yX1_partAround, Cond.selects RX1 yX1_partAround yX1_partAround, Cond.code yX1_partAround cX1_partAround 3 (some .int), Cond.methodLink RX1 96 yX1_groupOfHole, Cond.instanceMethod yX1_groupOfHole, Cond.selects RX1 yX1_groupOfHole yX1_groupOfHole, Cond.code yX1_groupOfHole cX1_groupOfHole 2 (some .int), Cond.fieldLink RX1 44 "BlobRuns$Parting" "holeGroup" "[I", Cond.methodLink RX1 99 yX1_partAt, Cond.instanceMethod yX1_partAt, Cond.selects RX1 yX1_partAt yX1_partAt, Cond.code yX1_partAt cX1_partAt 3 (some .int)]
def wsX1_depthOf : List Cond := .code yX1_depthOf cX1_depthOf 4 (some .int) :: ((wsX1_depthOf_r1 ++ (wsX1_depthOf_r2 ++ wsX1_depthOf_r3)) ++ wsX10 ++ wsX40)
def wsX1_holesOfPart_r1 : List Cond := [Cond.fieldLink RX1 54 "BlobRuns$Parting" "holeCount" "I", Cond.methodLink RX1 105 yX1_partAround, Cond.instanceMethod yX1_partAround, Cond.selects RX1 yX1_partAround yX1_partAround, Cond.initialized RX1, Cond.code yX1_partAround cX1_partAround 3 (some .int), Cond.fieldLink RX1 12 "BlobRuns$Parting" "runs" "LBlobRuns$Runs;", Cond.methodLink RX1 96 yX1_groupOfHole, Cond.instanceMethod yX1_groupOfHole, Cond.selects RX1 yX1_groupOfHole yX1_groupOfHole, Cond.code yX1_groupOfHole cX1_groupOfHole 2 (some .int), Cond.fieldLink RX1 44 "BlobRuns$Parting" "holeGroup" "[I", Cond.methodLink RX1 79 yX4_lineOf, Cond.instanceMethod yX4_lineOf, Cond.selects RX4 yX4_lineOf yX4_lineOf, Cond.initialized RX4, Cond.code yX4_lineOf cX4_lineOf 2 (some .int), Cond.fieldLink RX4 24 "BlobRuns$Runs" "rowOf" "[I", Cond.methodLink RX1 82 yX4_start, Cond.instanceMethod yX4_start, Cond.selects RX4 yX4_start yX4_start, Cond.code yX4_start cX4_start 2 (some .int), Cond.fieldLink RX4 18 "BlobRuns$Runs" "startOf" "[I", Cond.methodLink RX1 99 yX1_partAt]
def wsX1_holesOfPart_r2 : List Cond := [Cond.instanceMethod yX1_partAt, Cond.selects RX1 yX1_partAt yX1_partAt, Cond.code yX1_partAt cX1_partAt 3 (some .int), Cond.methodLink RX1 85 yX1_numberAt, Cond.instanceMethod yX1_numberAt, Cond.selects RX1 yX1_numberAt yX1_numberAt, Cond.code yX1_numberAt cX1_numberAt 5 (some .int), Cond.fieldLink RX1 38 "BlobRuns$Parting" "number" "[I", Cond.static yX5_isLine, Cond.initialized RX5, Cond.code yX5_isLine cX5_isLine 1 (some .boolean), Cond.methodLink RX1 160 yX4_runAt, Cond.instanceMethod yX4_runAt, Cond.selects RX4 yX4_runAt yX4_runAt, Cond.code yX4_runAt cX4_runAt 3 (some .int), Cond.fieldLink RX4 9 "BlobRuns$Runs" "first" "[I", Cond.fieldLink RX4 15 "BlobRuns$Runs" "changes" "[I", Cond.methodLink RX4 66 yJ6_bitCount_0f7a4, Cond.static yJ6_bitCount_0f7a4, Cond.initialized RJ6, Cond.code yJ6_bitCount_0f7a4 cJ6_bitCount_0f7a4 1 (some .int), Cond.constant RJ6 265 (1431655765), Cond.constant RJ6 266 (858993459), Cond.constant RJ6 267 (252645135)]
def wsX1_holesOfPart_r3 : List Cond := [Cond.methodLink RX1 147 yX4_isDark, Cond.instanceMethod yX4_isDark, Cond.selects RX4 yX4_isDark yX4_isDark, Cond.code yX4_isDark cX4_isDark 2 (some .boolean), Cond.fieldLink RX4 27 "BlobRuns$Runs" "dark" "[Z", Cond.methodLink RX1 71 yX4_groupOf, Cond.instanceMethod yX4_groupOf, Cond.selects RX4 yX4_groupOf yX4_groupOf, Cond.code yX4_groupOf cX4_groupOf 2 (some .int), Cond.fieldLink RX4 31 "BlobRuns$Runs" "towards" "[I"]
def wsX1_holesOfPart : List Cond := .code yX1_holesOfPart cX1_holesOfPart 4 (some .int) :: ((wsX1_holesOfPart_r1 ++ (wsX1_holesOfPart_r2 ++ wsX1_holesOfPart_r3)) ++ wsX10 ++ wsX40)
def wsX1_partsInHole_r1 : List Cond := [Cond.fieldLink RX1 50 "BlobRuns$Parting" "partCount" "I", Cond.methodLink RX1 102 yX1_holeAround, Cond.instanceMethod yX1_holeAround, Cond.selects RX1 yX1_holeAround yX1_holeAround, Cond.initialized RX1, Cond.code yX1_holeAround cX1_holeAround 3 (some .int), Cond.fieldLink RX1 12 "BlobRuns$Parting" "runs" "LBlobRuns$Runs;", Cond.methodLink RX1 89 yX1_groupOfPart, Cond.instanceMethod yX1_groupOfPart, Cond.selects RX1 yX1_groupOfPart yX1_groupOfPart, Cond.code yX1_groupOfPart cX1_groupOfPart 2 (some .int), Cond.fieldLink RX1 41 "BlobRuns$Parting" "partGroup" "[I", Cond.methodLink RX1 79 yX4_lineOf, Cond.instanceMethod yX4_lineOf, Cond.selects RX4 yX4_lineOf yX4_lineOf, Cond.initialized RX4, Cond.code yX4_lineOf cX4_lineOf 2 (some .int), Cond.fieldLink RX4 24 "BlobRuns$Runs" "rowOf" "[I", Cond.methodLink RX1 82 yX4_start, Cond.instanceMethod yX4_start, Cond.selects RX4 yX4_start yX4_start, Cond.code yX4_start cX4_start 2 (some .int), Cond.fieldLink RX4 18 "BlobRuns$Runs" "startOf" "[I", Cond.methodLink RX1 92 yX1_holeAt]
def wsX1_partsInHole_r2 : List Cond := [Cond.instanceMethod yX1_holeAt, Cond.selects RX1 yX1_holeAt yX1_holeAt, Cond.code yX1_holeAt cX1_holeAt 3 (some .int), Cond.methodLink RX1 85 yX1_numberAt, Cond.instanceMethod yX1_numberAt, Cond.selects RX1 yX1_numberAt yX1_numberAt, Cond.code yX1_numberAt cX1_numberAt 5 (some .int), Cond.fieldLink RX1 38 "BlobRuns$Parting" "number" "[I", Cond.static yX5_isLine, Cond.initialized RX5, Cond.code yX5_isLine cX5_isLine 1 (some .boolean), Cond.methodLink RX1 160 yX4_runAt, Cond.instanceMethod yX4_runAt, Cond.selects RX4 yX4_runAt yX4_runAt, Cond.code yX4_runAt cX4_runAt 3 (some .int), Cond.fieldLink RX4 9 "BlobRuns$Runs" "first" "[I", Cond.fieldLink RX4 15 "BlobRuns$Runs" "changes" "[I", Cond.methodLink RX4 66 yJ6_bitCount_0f7a4, Cond.static yJ6_bitCount_0f7a4, Cond.initialized RJ6, Cond.code yJ6_bitCount_0f7a4 cJ6_bitCount_0f7a4 1 (some .int), Cond.constant RJ6 265 (1431655765), Cond.constant RJ6 266 (858993459), Cond.constant RJ6 267 (252645135)]
def wsX1_partsInHole_r3 : List Cond := [Cond.methodLink RX1 147 yX4_isDark, Cond.instanceMethod yX4_isDark, Cond.selects RX4 yX4_isDark yX4_isDark, Cond.code yX4_isDark cX4_isDark 2 (some .boolean), Cond.fieldLink RX4 27 "BlobRuns$Runs" "dark" "[Z", Cond.methodLink RX1 71 yX4_groupOf, Cond.instanceMethod yX4_groupOf, Cond.selects RX4 yX4_groupOf yX4_groupOf, Cond.code yX4_groupOf cX4_groupOf 2 (some .int), Cond.fieldLink RX4 31 "BlobRuns$Runs" "towards" "[I"]
def wsX1_partsInHole : List Cond := .code yX1_partsInHole cX1_partsInHole 4 (some .int) :: ((wsX1_partsInHole_r1 ++ (wsX1_partsInHole_r2 ++ wsX1_partsInHole_r3)) ++ wsX10 ++ wsX40)
def wsX1_allRims : List Cond := .code yX1_allRims cX1_allRims 3 (some .int) :: ([.fieldLink RX1 50 "BlobRuns$Parting" "partCount" "I", .methodLink RX1 89 yX1_groupOfPart, .instanceMethod yX1_groupOfPart, .selects RX1 yX1_groupOfPart yX1_groupOfPart, .initialized RX1, .code yX1_groupOfPart cX1_groupOfPart 2 (some .int), .fieldLink RX1 41 "BlobRuns$Parting" "partGroup" "[I", .methodLink RX1 108 yX1_rimOf, .instanceMethod yX1_rimOf, .selects RX1 yX1_rimOf yX1_rimOf, .code yX1_rimOf cX1_rimOf 2 (some .int), .fieldLink RX1 22 "BlobRuns$Parting" "rim" "[I"] ++ wsX10)
def wsX1_deepest_r1 : List Cond := [Cond.fieldLink RX1 50 "BlobRuns$Parting" "partCount" "I", Cond.methodLink RX1 114 Lib.Math.max.name, Cond.static Lib.Math.max.name, Cond.initialized "java/lang/Math", Cond.code Lib.Math.max.name Lib.Math.max.code 2 (some .int), Cond.methodLink RX1 111 yX1_depthOf, Cond.instanceMethod yX1_depthOf, Cond.selects RX1 yX1_depthOf yX1_depthOf, Cond.initialized RX1, Cond.code yX1_depthOf cX1_depthOf 4 (some .int), Cond.methodLink RX1 102 yX1_holeAround, Cond.instanceMethod yX1_holeAround, Cond.selects RX1 yX1_holeAround yX1_holeAround, Cond.code yX1_holeAround cX1_holeAround 3 (some .int), Cond.fieldLink RX1 12 "BlobRuns$Parting" "runs" "LBlobRuns$Runs;", Cond.methodLink RX1 89 yX1_groupOfPart, Cond.instanceMethod yX1_groupOfPart, Cond.selects RX1 yX1_groupOfPart yX1_groupOfPart, Cond.code yX1_groupOfPart cX1_groupOfPart 2 (some .int), Cond.fieldLink RX1 41 "BlobRuns$Parting" "partGroup" "[I", Cond.methodLink RX1 79 yX4_lineOf, Cond.instanceMethod yX4_lineOf, Cond.selects RX4 yX4_lineOf yX4_lineOf, Cond.initialized RX4]
def wsX1_deepest_r2 : List Cond := [Cond.code yX4_lineOf cX4_lineOf 2 (some .int), Cond.fieldLink RX4 24 "BlobRuns$Runs" "rowOf" "[I", Cond.methodLink RX1 82 yX4_start, Cond.instanceMethod yX4_start, Cond.selects RX4 yX4_start yX4_start, Cond.code yX4_start cX4_start 2 (some .int), Cond.fieldLink RX4 18 "BlobRuns$Runs" "startOf" "[I", Cond.methodLink RX1 92 yX1_holeAt, Cond.instanceMethod yX1_holeAt, Cond.selects RX1 yX1_holeAt yX1_holeAt, Cond.code yX1_holeAt cX1_holeAt 3 (some .int), Cond.methodLink RX1 85 yX1_numberAt, Cond.instanceMethod yX1_numberAt, Cond.selects RX1 yX1_numberAt yX1_numberAt, Cond.code yX1_numberAt cX1_numberAt 5 (some .int), Cond.fieldLink RX1 38 "BlobRuns$Parting" "number" "[I", Cond.static yX5_isLine, Cond.initialized RX5, Cond.code yX5_isLine cX5_isLine 1 (some .boolean), Cond.methodLink RX1 160 yX4_runAt, Cond.instanceMethod yX4_runAt, Cond.selects RX4 yX4_runAt yX4_runAt, Cond.code yX4_runAt cX4_runAt 3 (some .int), Cond.fieldLink RX4 9 "BlobRuns$Runs" "first" "[I"]
def wsX1_deepest_r3 : List Cond := [Cond.fieldLink RX4 15 "BlobRuns$Runs" "changes" "[I", Cond.methodLink RX4 66 yJ6_bitCount_0f7a4, Cond.static yJ6_bitCount_0f7a4, Cond.initialized RJ6, Cond.code yJ6_bitCount_0f7a4 cJ6_bitCount_0f7a4 1 (some .int), Cond.constant RJ6 265 (1431655765), Cond.constant RJ6 266 (858993459), Cond.constant RJ6 267 (252645135), Cond.methodLink RX1 147 yX4_isDark, Cond.instanceMethod yX4_isDark, Cond.selects RX4 yX4_isDark yX4_isDark, Cond.code yX4_isDark cX4_isDark 2 (some .boolean), Cond.fieldLink RX4 27 "BlobRuns$Runs" "dark" "[Z", Cond.methodLink RX1 71 yX4_groupOf, Cond.instanceMethod yX4_groupOf, Cond.selects RX4 yX4_groupOf yX4_groupOf, Cond.code yX4_groupOf cX4_groupOf 2 (some .int), Cond.fieldLink RX4 31 "BlobRuns$Runs" "towards" "[I", Cond.methodLink RX1 105 yX1_partAround, Cond.instanceMethod yX1_partAround, Cond.selects RX1 yX1_partAround yX1_partAround, Cond.code yX1_partAround cX1_partAround 3 (some .int), Cond.methodLink RX1 96 yX1_groupOfHole, Cond.instanceMethod yX1_groupOfHole]
def wsX1_deepest_r4 : List Cond := [Cond.selects RX1 yX1_groupOfHole yX1_groupOfHole, Cond.code yX1_groupOfHole cX1_groupOfHole 2 (some .int), Cond.fieldLink RX1 44 "BlobRuns$Parting" "holeGroup" "[I", Cond.methodLink RX1 99 yX1_partAt, Cond.instanceMethod yX1_partAt, Cond.selects RX1 yX1_partAt yX1_partAt, Cond.code yX1_partAt cX1_partAt 3 (some .int)]
def wsX1_deepest : List Cond := .code yX1_deepest cX1_deepest 3 (some .int) :: ((wsX1_deepest_r1 ++ (wsX1_deepest_r2 ++ (wsX1_deepest_r3 ++ wsX1_deepest_r4))) ++ wsX10 ++ wsX40)
def wsX1_largest : List Cond := .code yX1_largest cX1_largest 5 (some .int) :: ([.fieldLink RX1 50 "BlobRuns$Parting" "partCount" "I", .methodLink RX1 89 yX1_groupOfPart, .instanceMethod yX1_groupOfPart, .selects RX1 yX1_groupOfPart yX1_groupOfPart, .initialized RX1, .code yX1_groupOfPart cX1_groupOfPart 2 (some .int), .fieldLink RX1 41 "BlobRuns$Parting" "partGroup" "[I", .methodLink RX1 119 yX1_sizeOf, .instanceMethod yX1_sizeOf, .selects RX1 yX1_sizeOf yX1_sizeOf, .code yX1_sizeOf cX1_sizeOf 2 (some .int), .fieldLink RX1 18 "BlobRuns$Parting" "size" "[I"] ++ wsX10)
def wsX1_partsUpTo : List Cond := .code yX1_partsUpTo cX1_partsUpTo 4 (some .int) :: ([.fieldLink RX1 50 "BlobRuns$Parting" "partCount" "I", .methodLink RX1 89 yX1_groupOfPart, .instanceMethod yX1_groupOfPart, .selects RX1 yX1_groupOfPart yX1_groupOfPart, .initialized RX1, .code yX1_groupOfPart cX1_groupOfPart 2 (some .int), .fieldLink RX1 41 "BlobRuns$Parting" "partGroup" "[I", .methodLink RX1 119 yX1_sizeOf, .instanceMethod yX1_sizeOf, .selects RX1 yX1_sizeOf yX1_sizeOf, .code yX1_sizeOf cX1_sizeOf 2 (some .int), .fieldLink RX1 18 "BlobRuns$Parting" "size" "[I"] ++ wsX10)
def wsX1_isTouched : List Cond := .code yX1_isTouched cX1_isTouched 4 (some .boolean) :: ([.fieldLink RX1 47 "BlobRuns$Parting" "touched" "[I"] ++ wsX10)
def wsX1_joinsAt_r1 : List Cond := [Cond.fieldLink RX1 47 "BlobRuns$Parting" "touched" "[I", Cond.methodLink RX1 99 yX1_partAt, Cond.instanceMethod yX1_partAt, Cond.selects RX1 yX1_partAt yX1_partAt, Cond.initialized RX1, Cond.code yX1_partAt cX1_partAt 3 (some .int), Cond.methodLink RX1 85 yX1_numberAt, Cond.instanceMethod yX1_numberAt, Cond.selects RX1 yX1_numberAt yX1_numberAt, Cond.code yX1_numberAt cX1_numberAt 5 (some .int), Cond.fieldLink RX1 12 "BlobRuns$Parting" "runs" "LBlobRuns$Runs;", Cond.fieldLink RX1 38 "BlobRuns$Parting" "number" "[I", Cond.static yX5_isLine, Cond.initialized RX5, Cond.code yX5_isLine cX5_isLine 1 (some .boolean), Cond.methodLink RX1 160 yX4_runAt, Cond.instanceMethod yX4_runAt, Cond.selects RX4 yX4_runAt yX4_runAt, Cond.initialized RX4, Cond.code yX4_runAt cX4_runAt 3 (some .int), Cond.fieldLink RX4 9 "BlobRuns$Runs" "first" "[I", Cond.fieldLink RX4 15 "BlobRuns$Runs" "changes" "[I", Cond.methodLink RX4 66 yJ6_bitCount_0f7a4, Cond.static yJ6_bitCount_0f7a4]
def wsX1_joinsAt_r2 : List Cond := [Cond.initialized RJ6, Cond.code yJ6_bitCount_0f7a4 cJ6_bitCount_0f7a4 1 (some .int), Cond.constant RJ6 265 (1431655765), Cond.constant RJ6 266 (858993459), Cond.constant RJ6 267 (252645135), Cond.methodLink RX1 147 yX4_isDark, Cond.instanceMethod yX4_isDark, Cond.selects RX4 yX4_isDark yX4_isDark, Cond.code yX4_isDark cX4_isDark 2 (some .boolean), Cond.fieldLink RX4 27 "BlobRuns$Runs" "dark" "[Z", Cond.methodLink RX1 71 yX4_groupOf, Cond.instanceMethod yX4_groupOf, Cond.selects RX4 yX4_groupOf yX4_groupOf, Cond.code yX4_groupOf cX4_groupOf 2 (some .int), Cond.fieldLink RX4 31 "BlobRuns$Runs" "towards" "[I", Cond.methodLink RX1 122 yX1_isTouched, Cond.instanceMethod yX1_isTouched, Cond.selects RX1 yX1_isTouched yX1_isTouched, Cond.code yX1_isTouched cX1_isTouched 4 (some .boolean)]
def wsX1_joinsAt : List Cond := .code yX1_joinsAt cX1_joinsAt 9 (some .int) :: ((wsX1_joinsAt_r1 ++ wsX1_joinsAt_r2) ++ wsX10 ++ wsX40)
def wsX4_length : List Cond := .code yX4_length cX4_length 2 (some .int) :: ([.methodLink RX4 60 yX4_end, .instanceMethod yX4_end, .selects RX4 yX4_end yX4_end, .initialized RX4, .code yX4_end cX4_end 2 (some .int), .fieldLink RX4 21 "BlobRuns$Runs" "endOf" "[I", .methodLink RX4 63 yX4_start, .instanceMethod yX4_start, .selects RX4 yX4_start yX4_start, .code yX4_start cX4_start 2 (some .int), .fieldLink RX4 18 "BlobRuns$Runs" "startOf" "[I"] ++ wsX40)
def wsX1_nextOfGroup : List Cond := .code yX1_nextOfGroup cX1_nextOfGroup 4 (some .int) :: ([.fieldLink RX1 12 "BlobRuns$Parting" "runs" "LBlobRuns$Runs;", .methodLink RX1 71 yX4_groupOf, .instanceMethod yX4_groupOf, .selects RX4 yX4_groupOf yX4_groupOf, .initialized RX4, .code yX4_groupOf cX4_groupOf 2 (some .int), .fieldLink RX4 31 "BlobRuns$Runs" "towards" "[I"] ++ wsX10 ++ wsX40)
def wsX1_sameMoved_r1 : List Cond := [Cond.fieldLink RX1 12 "BlobRuns$Parting" "runs" "LBlobRuns$Runs;", Cond.methodLink RX1 119 yX1_sizeOf, Cond.instanceMethod yX1_sizeOf, Cond.selects RX1 yX1_sizeOf yX1_sizeOf, Cond.initialized RX1, Cond.code yX1_sizeOf cX1_sizeOf 2 (some .int), Cond.fieldLink RX1 18 "BlobRuns$Parting" "size" "[I", Cond.methodLink RX1 79 yX4_lineOf, Cond.instanceMethod yX4_lineOf, Cond.selects RX4 yX4_lineOf yX4_lineOf, Cond.initialized RX4, Cond.code yX4_lineOf cX4_lineOf 2 (some .int), Cond.fieldLink RX4 24 "BlobRuns$Runs" "rowOf" "[I", Cond.methodLink RX1 82 yX4_start, Cond.instanceMethod yX4_start, Cond.selects RX4 yX4_start yX4_start, Cond.code yX4_start cX4_start 2 (some .int), Cond.fieldLink RX4 18 "BlobRuns$Runs" "startOf" "[I", Cond.methodLink RX1 126 yX4_length, Cond.instanceMethod yX4_length, Cond.selects RX4 yX4_length yX4_length, Cond.code yX4_length cX4_length 2 (some .int), Cond.methodLink RX4 60 yX4_end, Cond.instanceMethod yX4_end]
def wsX1_sameMoved_r2 : List Cond := [Cond.selects RX4 yX4_end yX4_end, Cond.code yX4_end cX4_end 2 (some .int), Cond.fieldLink RX4 21 "BlobRuns$Runs" "endOf" "[I", Cond.methodLink RX4 63 yX4_start, Cond.methodLink RX1 129 yX1_nextOfGroup, Cond.instanceMethod yX1_nextOfGroup, Cond.selects RX1 yX1_nextOfGroup yX1_nextOfGroup, Cond.code yX1_nextOfGroup cX1_nextOfGroup 4 (some .int), Cond.methodLink RX1 71 yX4_groupOf, Cond.instanceMethod yX4_groupOf, Cond.selects RX4 yX4_groupOf yX4_groupOf, Cond.code yX4_groupOf cX4_groupOf 2 (some .int), Cond.fieldLink RX4 31 "BlobRuns$Runs" "towards" "[I"]
def wsX1_sameMoved : List Cond := .code yX1_sameMoved cX1_sameMoved 8 (some .boolean) :: ((wsX1_sameMoved_r1 ++ wsX1_sameMoved_r2) ++ wsX10 ++ wsX40)
def wsX3_putLine : List Cond := .code yX3_putLine cX3_putLine 3 none :: ([.fieldLink RX3 9 "BlobRuns$Picture" "rows" "[I", .constant RX3 22 (65535)] ++ wsX30)
def wsX3_flip : List Cond := .code yX3_flip cX3_flip 3 none :: ([.methodLink RX3 23 yX3_line, .instanceMethod yX3_line, .selects RX3 yX3_line yX3_line, .initialized RX3, .code yX3_line cX3_line 2 (some .int), .fieldLink RX3 9 "BlobRuns$Picture" "rows" "[I", .methodLink RX3 27 yX3_putLine, .instanceMethod yX3_putLine, .selects RX3 yX3_putLine yX3_putLine, .code yX3_putLine cX3_putLine 3 none, .constant RX3 22 (65535)] ++ wsX30)
def wsX1_flipDotsOf_r1 : List Cond := [Cond.fieldLink RX1 12 "BlobRuns$Parting" "runs" "LBlobRuns$Runs;", Cond.methodLink RX1 71 yX4_groupOf, Cond.instanceMethod yX4_groupOf, Cond.selects RX4 yX4_groupOf yX4_groupOf, Cond.initialized RX4, Cond.code yX4_groupOf cX4_groupOf 2 (some .int), Cond.fieldLink RX4 31 "BlobRuns$Runs" "towards" "[I", Cond.methodLink RX1 79 yX4_lineOf, Cond.instanceMethod yX4_lineOf, Cond.selects RX4 yX4_lineOf yX4_lineOf, Cond.code yX4_lineOf cX4_lineOf 2 (some .int), Cond.fieldLink RX4 24 "BlobRuns$Runs" "rowOf" "[I", Cond.methodLink RX1 132 yX4_columns, Cond.instanceMethod yX4_columns, Cond.selects RX4 yX4_columns yX4_columns, Cond.code yX4_columns cX4_columns 2 (some .int), Cond.methodLink RX4 60 yX4_end, Cond.instanceMethod yX4_end, Cond.selects RX4 yX4_end yX4_end, Cond.code yX4_end cX4_end 2 (some .int), Cond.fieldLink RX4 21 "BlobRuns$Runs" "endOf" "[I", Cond.methodLink RX4 63 yX4_start, Cond.instanceMethod yX4_start, Cond.selects RX4 yX4_start yX4_start]
def wsX1_flipDotsOf_r2 : List Cond := [Cond.code yX4_start cX4_start 2 (some .int), Cond.fieldLink RX4 18 "BlobRuns$Runs" "startOf" "[I", Cond.methodLink RX1 135 yX3_flip, Cond.instanceMethod yX3_flip, Cond.selects RX3 yX3_flip yX3_flip, Cond.initialized RX3, Cond.code yX3_flip cX3_flip 3 none, Cond.methodLink RX3 23 yX3_line, Cond.instanceMethod yX3_line, Cond.selects RX3 yX3_line yX3_line, Cond.code yX3_line cX3_line 2 (some .int), Cond.fieldLink RX3 9 "BlobRuns$Picture" "rows" "[I", Cond.methodLink RX3 27 yX3_putLine, Cond.instanceMethod yX3_putLine, Cond.selects RX3 yX3_putLine yX3_putLine, Cond.code yX3_putLine cX3_putLine 3 none, Cond.constant RX3 22 (65535)]
def wsX1_flipDotsOf : List Cond := .code yX1_flipDotsOf cX1_flipDotsOf 4 none :: ((wsX1_flipDotsOf_r1 ++ wsX1_flipDotsOf_r2) ++ wsX10 ++ wsX40 ++ wsX30)
def wsX2_init : List Cond := .code yX2_init cX2_init 1 none :: ([.methodLink RX2 3 objectInit, .instanceMethod objectInit, .code objectInit ⟨#[0xb1]⟩ 1 none, .arrayClass .int, .fieldLink RX2 9 "BlobRuns$Past" "shelf" "[I", .fieldLink RX2 15 "BlobRuns$Past" "next" "I", .fieldLink RX2 19 "BlobRuns$Past" "count" "I"] ++ wsX20)
def wsX2_push : List Cond := .code yX2_push cX2_push 2 none :: ([.fieldLink RX2 9 "BlobRuns$Past" "shelf" "[I", .fieldLink RX2 15 "BlobRuns$Past" "next" "I", .fieldLink RX2 19 "BlobRuns$Past" "count" "I", .methodLink RX2 28 Lib.Math.min.name, .static Lib.Math.min.name, .initialized "java/lang/Math", .code Lib.Math.min.name Lib.Math.min.code 2 (some .int), .methodLink RX2 22 yX3_layBy, .instanceMethod yX3_layBy, .selects RX3 yX3_layBy yX3_layBy, .initialized RX3, .code yX3_layBy cX3_layBy 3 none, .fieldLink RX3 9 "BlobRuns$Picture" "rows" "[I", .methodLink RX3 56 arraycopyName, .native arraycopyName, .static arraycopyName, .initialized "java/lang/System", .fieldLink RX3 18 "BlobRuns$Picture" "joinedBy" "I"] ++ wsX20 ++ wsX30)
def wsJ9_floorMod_7cf53 : List Cond := .code yJ9_floorMod_7cf53 cJ9_floorMod_7cf53 3 (some .int) :: ([])
def wsX2_goBackBy : List Cond := .code yX2_goBackBy cX2_goBackBy 3 none :: ([.fieldLink RX2 15 "BlobRuns$Past" "next" "I", .fieldLink RX2 19 "BlobRuns$Past" "count" "I", .fieldLink RX2 9 "BlobRuns$Past" "shelf" "[I", .methodLink RX2 34 yJ9_floorMod_7cf53, .static yJ9_floorMod_7cf53, .initialized RJ9, .code yJ9_floorMod_7cf53 cJ9_floorMod_7cf53 3 (some .int), .methodLink RX2 37 yX3_takeUp, .instanceMethod yX3_takeUp, .selects RX3 yX3_takeUp yX3_takeUp, .initialized RX3, .code yX3_takeUp cX3_takeUp 3 none, .fieldLink RX3 9 "BlobRuns$Picture" "rows" "[I", .methodLink RX3 56 arraycopyName, .native arraycopyName, .static arraycopyName, .initialized "java/lang/System", .fieldLink RX3 18 "BlobRuns$Picture" "joinedBy" "I"] ++ wsX20 ++ wsX30)
def wsX2_forget : List Cond := .code yX2_forget cX2_forget 1 none :: ([.fieldLink RX2 19 "BlobRuns$Past" "count" "I"] ++ wsX20)
def wsX3_init : List Cond := .code yX3_init cX3_init 1 none :: ([.methodLink RX3 3 objectInit, .instanceMethod objectInit, .code objectInit ⟨#[0xb1]⟩ 1 none, .arrayClass .int, .fieldLink RX3 9 "BlobRuns$Picture" "rows" "[I", .fieldLink RX3 15 "BlobRuns$Picture" "next" "[I", .fieldLink RX3 18 "BlobRuns$Picture" "joinedBy" "I"] ++ wsX30)
def wsX3_isDark : List Cond := .code yX3_isDark cX3_isDark 3 (some .boolean) :: ([.methodLink RX3 23 yX3_line, .instanceMethod yX3_line, .selects RX3 yX3_line yX3_line, .initialized RX3, .code yX3_line cX3_line 2 (some .int), .fieldLink RX3 9 "BlobRuns$Picture" "rows" "[I"] ++ wsX30)
def wsX3_darkDots : List Cond := .code yX3_darkDots cX3_darkDots 3 (some .int) :: ([.fieldLink RX3 9 "BlobRuns$Picture" "rows" "[I", .methodLink RX3 31 yJ6_bitCount_0f7a4, .static yJ6_bitCount_0f7a4, .initialized RJ6, .code yJ6_bitCount_0f7a4 cJ6_bitCount_0f7a4 1 (some .int), .constant RJ6 265 (1431655765), .constant RJ6 266 (858993459), .constant RJ6 267 (252645135)] ++ wsX30)
def wsX5_runsOf : List Cond := .code yX5_runsOf cX5_runsOf 1 (some .int) :: ([.methodLink RX5 230 yJ6_bitCount_0f7a4, .static yJ6_bitCount_0f7a4, .initialized RJ6, .code yJ6_bitCount_0f7a4 cJ6_bitCount_0f7a4 1 (some .int), .constant RJ6 265 (1431655765), .constant RJ6 266 (858993459), .constant RJ6 267 (252645135)])
def wsX3_allRuns : List Cond := .code yX3_allRuns cX3_allRuns 3 (some .int) :: ([.fieldLink RX3 9 "BlobRuns$Picture" "rows" "[I", .static yX5_runsOf, .initialized RX5, .code yX5_runsOf cX5_runsOf 1 (some .int), .methodLink RX5 230 yJ6_bitCount_0f7a4, .static yJ6_bitCount_0f7a4, .initialized RJ6, .code yJ6_bitCount_0f7a4 cJ6_bitCount_0f7a4 1 (some .int), .constant RJ6 265 (1431655765), .constant RJ6 266 (858993459), .constant RJ6 267 (252645135)] ++ wsX30)
def wsX3_widened : List Cond := .code yX3_widened cX3_widened 1 (some .int) :: ([.constant RX3 22 (65535)])
def wsX3_becomeNext : List Cond := .code yX3_becomeNext cX3_becomeNext 1 none :: ([.fieldLink RX3 15 "BlobRuns$Picture" "next" "[I", .fieldLink RX3 9 "BlobRuns$Picture" "rows" "[I", .methodLink RX3 56 arraycopyName, .native arraycopyName, .static arraycopyName, .initialized "java/lang/System"] ++ wsX30)
def wsX3_becomeGrown : List Cond := .code yX3_becomeGrown cX3_becomeGrown 3 none :: ([.fieldLink RX3 15 "BlobRuns$Picture" "next" "[I", .fieldLink RX3 9 "BlobRuns$Picture" "rows" "[I", .methodLink RX3 23 yX3_line, .instanceMethod yX3_line, .selects RX3 yX3_line yX3_line, .initialized RX3, .code yX3_line cX3_line 2 (some .int), .methodLink RX3 39 yX3_cornersJoin, .instanceMethod yX3_cornersJoin, .selects RX3 yX3_cornersJoin yX3_cornersJoin, .code yX3_cornersJoin cX3_cornersJoin 1 (some .boolean), .fieldLink RX3 18 "BlobRuns$Picture" "joinedBy" "I", .methodLink RX3 43 yX3_widened, .static yX3_widened, .code yX3_widened cX3_widened 1 (some .int), .constant RX3 22 (65535), .methodLink RX3 46 yX3_becomeNext, .instanceMethod yX3_becomeNext, .selects RX3 yX3_becomeNext yX3_becomeNext, .code yX3_becomeNext cX3_becomeNext 1 none, .methodLink RX3 56 arraycopyName, .native arraycopyName, .static arraycopyName, .initialized "java/lang/System"] ++ wsX30)
def wsX3_narrowed : List Cond := .code yX3_narrowed cX3_narrowed 1 (some .int) :: ([])
def wsX3_becomeShrunk : List Cond := .code yX3_becomeShrunk cX3_becomeShrunk 3 none :: ([.fieldLink RX3 15 "BlobRuns$Picture" "next" "[I", .fieldLink RX3 9 "BlobRuns$Picture" "rows" "[I", .methodLink RX3 23 yX3_line, .instanceMethod yX3_line, .selects RX3 yX3_line yX3_line, .initialized RX3, .code yX3_line cX3_line 2 (some .int), .methodLink RX3 39 yX3_cornersJoin, .instanceMethod yX3_cornersJoin, .selects RX3 yX3_cornersJoin yX3_cornersJoin, .code yX3_cornersJoin cX3_cornersJoin 1 (some .boolean), .fieldLink RX3 18 "BlobRuns$Picture" "joinedBy" "I", .methodLink RX3 49 yX3_narrowed, .static yX3_narrowed, .code yX3_narrowed cX3_narrowed 1 (some .int), .methodLink RX3 46 yX3_becomeNext, .instanceMethod yX3_becomeNext, .selects RX3 yX3_becomeNext yX3_becomeNext, .code yX3_becomeNext cX3_becomeNext 1 none, .methodLink RX3 56 arraycopyName, .native arraycopyName, .static arraycopyName, .initialized "java/lang/System"] ++ wsX30)
def wsX3_slid : List Cond := .code yX3_slid cX3_slid 2 (some .int) :: ([.constant RX3 22 (65535)])
def wsX3_becomeMoved : List Cond := .code yX3_becomeMoved cX3_becomeMoved 4 none :: ([.fieldLink RX3 15 "BlobRuns$Picture" "next" "[I", .methodLink RX3 23 yX3_line, .instanceMethod yX3_line, .selects RX3 yX3_line yX3_line, .initialized RX3, .code yX3_line cX3_line 2 (some .int), .fieldLink RX3 9 "BlobRuns$Picture" "rows" "[I", .methodLink RX3 52 yX3_slid, .static yX3_slid, .code yX3_slid cX3_slid 2 (some .int), .constant RX3 22 (65535), .methodLink RX3 46 yX3_becomeNext, .instanceMethod yX3_becomeNext, .selects RX3 yX3_becomeNext yX3_becomeNext, .code yX3_becomeNext cX3_becomeNext 1 none, .methodLink RX3 56 arraycopyName, .native arraycopyName, .static arraycopyName, .initialized "java/lang/System"] ++ wsX30)
def wsX3_becomeOver : List Cond := .code yX3_becomeOver cX3_becomeOver 2 none :: ([.fieldLink RX3 9 "BlobRuns$Picture" "rows" "[I", .constant RX3 22 (65535)] ++ wsX30)
def wsX4_darkGroups : List Cond := .code yX4_darkGroups cX4_darkGroups 3 (some .int) :: ([.fieldLink RX4 34 "BlobRuns$Runs" "count" "I", .fieldLink RX4 27 "BlobRuns$Runs" "dark" "[Z", .fieldLink RX4 31 "BlobRuns$Runs" "towards" "[I"] ++ wsX40)
def wsX5_init_r1 : List Cond := [Cond.methodLink RX5 3 objectInit, Cond.instanceMethod objectInit, Cond.code objectInit ⟨#[0xb1]⟩ 1 none, Cond.classLink RX5 9 RX3, Cond.instantiable RX3 3, Cond.initialized RX3, Cond.fieldLink RX5 12 "BlobRuns" "picture" "LBlobRuns$Picture;", Cond.classLink RX5 16 RX1, Cond.instantiable RX1 14, Cond.initialized RX1, Cond.fieldLink RX5 19 "BlobRuns" "parting" "LBlobRuns$Parting;", Cond.classLink RX5 23 RX4, Cond.instantiable RX4 8, Cond.initialized RX4, Cond.fieldLink RX5 26 "BlobRuns" "trial" "LBlobRuns$Runs;", Cond.classLink RX5 30 RX2, Cond.instantiable RX2 3, Cond.initialized RX2, Cond.fieldLink RX5 33 "BlobRuns" "past" "LBlobRuns$Past;", Cond.classLink RX5 37 RX0, Cond.instantiable RX0 3, Cond.initialized RX0, Cond.fieldLink RX5 40 "BlobRuns" "images" "LBlobRuns$Images;", Cond.fieldLink RX5 44 "BlobRuns" "theSeed" "I"]
def wsX5_init_r2 : List Cond := [Cond.fieldLink RX5 48 "BlobRuns" "stale" "Z", Cond.instanceMethod yX3_init, Cond.code yX3_init cX3_init 1 none, Cond.methodLink RX3 3 objectInit, Cond.arrayClass .int, Cond.fieldLink RX3 9 "BlobRuns$Picture" "rows" "[I", Cond.fieldLink RX3 15 "BlobRuns$Picture" "next" "[I", Cond.fieldLink RX3 18 "BlobRuns$Picture" "joinedBy" "I", Cond.instanceMethod yX1_init, Cond.code yX1_init cX1_init 1 none, Cond.methodLink RX1 3 objectInit, Cond.classLink RX1 9 RX4, Cond.fieldLink RX1 12 "BlobRuns$Parting" "runs" "LBlobRuns$Runs;", Cond.fieldLink RX1 18 "BlobRuns$Parting" "size" "[I", Cond.fieldLink RX1 22 "BlobRuns$Parting" "rim" "[I", Cond.fieldLink RX1 25 "BlobRuns$Parting" "bottom" "[I", Cond.fieldLink RX1 28 "BlobRuns$Parting" "left" "[I", Cond.fieldLink RX1 31 "BlobRuns$Parting" "right" "[I", Cond.arrayClass .boolean, Cond.fieldLink RX1 34 "BlobRuns$Parting" "reachesRim" "[Z", Cond.fieldLink RX1 38 "BlobRuns$Parting" "number" "[I", Cond.fieldLink RX1 41 "BlobRuns$Parting" "partGroup" "[I", Cond.fieldLink RX1 44 "BlobRuns$Parting" "holeGroup" "[I", Cond.fieldLink RX1 47 "BlobRuns$Parting" "touched" "[I"]
def wsX5_init_r3 : List Cond := [Cond.fieldLink RX1 50 "BlobRuns$Parting" "partCount" "I", Cond.fieldLink RX1 54 "BlobRuns$Parting" "holeCount" "I", Cond.fieldLink RX1 57 "BlobRuns$Parting" "lightCount" "I", Cond.instanceMethod yX4_init, Cond.code yX4_init cX4_init 1 none, Cond.methodLink RX4 3 objectInit, Cond.fieldLink RX4 9 "BlobRuns$Runs" "first" "[I", Cond.fieldLink RX4 15 "BlobRuns$Runs" "changes" "[I", Cond.fieldLink RX4 18 "BlobRuns$Runs" "startOf" "[I", Cond.fieldLink RX4 21 "BlobRuns$Runs" "endOf" "[I", Cond.fieldLink RX4 24 "BlobRuns$Runs" "rowOf" "[I", Cond.fieldLink RX4 27 "BlobRuns$Runs" "dark" "[Z", Cond.fieldLink RX4 31 "BlobRuns$Runs" "towards" "[I", Cond.fieldLink RX4 34 "BlobRuns$Runs" "count" "I", Cond.instanceMethod yX2_init, Cond.code yX2_init cX2_init 1 none, Cond.methodLink RX2 3 objectInit, Cond.fieldLink RX2 9 "BlobRuns$Past" "shelf" "[I", Cond.fieldLink RX2 15 "BlobRuns$Past" "next" "I", Cond.fieldLink RX2 19 "BlobRuns$Past" "count" "I", Cond.instanceMethod yX0_init, Cond.code yX0_init cX0_init 1 none, Cond.methodLink RX0 3 objectInit, Cond.fieldLink RX0 9 "BlobRuns$Images" "shelf" "[I"]
def wsX5_init_r4 : List Cond := [Cond.fieldLink RX0 15 "BlobRuns$Images" "seeds" "[I", Cond.fieldLink RX0 18 "BlobRuns$Images" "taken" "[Z"]
def wsX5_init : List Cond := .code yX5_init cX5_init 1 none :: ((wsX5_init_r1 ++ (wsX5_init_r2 ++ (wsX5_init_r3 ++ wsX5_init_r4))) ++ wsX30 ++ wsX50 ++ wsX10 ++ wsX40 ++ wsX20 ++ wsX00)
def wsX5_parted_r1 : List Cond := [Cond.fieldLink RX5 48 "BlobRuns" "stale" "Z", Cond.fieldLink RX5 19 "BlobRuns" "parting" "LBlobRuns$Parting;", Cond.fieldLink RX5 12 "BlobRuns" "picture" "LBlobRuns$Picture;", Cond.methodLink RX5 235 yX1_read, Cond.instanceMethod yX1_read, Cond.selects RX1 yX1_read yX1_read, Cond.initialized RX1, Cond.code yX1_read cX1_read 3 none, Cond.fieldLink RX1 12 "BlobRuns$Parting" "runs" "LBlobRuns$Runs;", Cond.fieldLink RX1 50 "BlobRuns$Parting" "partCount" "I", Cond.fieldLink RX1 54 "BlobRuns$Parting" "holeCount" "I", Cond.fieldLink RX1 57 "BlobRuns$Parting" "lightCount" "I", Cond.methodLink RX1 60 yX4_read, Cond.instanceMethod yX4_read, Cond.selects RX4 yX4_read yX4_read, Cond.initialized RX4, Cond.code yX4_read cX4_read 4 none, Cond.fieldLink RX4 34 "BlobRuns$Runs" "count" "I", Cond.fieldLink RX4 9 "BlobRuns$Runs" "first" "[I", Cond.fieldLink RX4 15 "BlobRuns$Runs" "changes" "[I", Cond.constant RX4 44 (65534), Cond.methodLink RX4 38 yX3_line, Cond.instanceMethod yX3_line, Cond.selects RX3 yX3_line yX3_line]
def wsX5_parted_r2 : List Cond := [Cond.initialized RX3, Cond.code yX3_line cX3_line 2 (some .int), Cond.fieldLink RX3 9 "BlobRuns$Picture" "rows" "[I", Cond.methodLink RX4 45 yX4_cut, Cond.instanceMethod yX4_cut, Cond.selects RX4 yX4_cut yX4_cut, Cond.code yX4_cut cX4_cut 5 none, Cond.methodLink RX4 71 yX4_add, Cond.instanceMethod yX4_add, Cond.selects RX4 yX4_add yX4_add, Cond.code yX4_add cX4_add 6 none, Cond.fieldLink RX4 24 "BlobRuns$Runs" "rowOf" "[I", Cond.fieldLink RX4 18 "BlobRuns$Runs" "startOf" "[I", Cond.fieldLink RX4 21 "BlobRuns$Runs" "endOf" "[I", Cond.fieldLink RX4 27 "BlobRuns$Runs" "dark" "[Z", Cond.fieldLink RX4 31 "BlobRuns$Runs" "towards" "[I", Cond.methodLink RX4 49 yX3_cornersJoin, Cond.instanceMethod yX3_cornersJoin, Cond.selects RX3 yX3_cornersJoin yX3_cornersJoin, Cond.code yX3_cornersJoin cX3_cornersJoin 1 (some .boolean), Cond.fieldLink RX3 18 "BlobRuns$Picture" "joinedBy" "I", Cond.methodLink RX4 53 yX4_joinToRowAbove, Cond.instanceMethod yX4_joinToRowAbove, Cond.selects RX4 yX4_joinToRowAbove yX4_joinToRowAbove]
def wsX5_parted_r3 : List Cond := [Cond.code yX4_joinToRowAbove cX4_joinToRowAbove 8 none, Cond.methodLink RX4 75 yX4_firstOfColour, Cond.instanceMethod yX4_firstOfColour, Cond.selects RX4 yX4_firstOfColour yX4_firstOfColour, Cond.code yX4_firstOfColour cX4_firstOfColour 4 (some .int), Cond.methodLink RX4 82 yX4_isDark, Cond.instanceMethod yX4_isDark, Cond.selects RX4 yX4_isDark yX4_isDark, Cond.code yX4_isDark cX4_isDark 2 (some .boolean), Cond.methodLink RX4 63 yX4_start, Cond.instanceMethod yX4_start, Cond.selects RX4 yX4_start yX4_start, Cond.code yX4_start cX4_start 2 (some .int), Cond.methodLink RX4 60 yX4_end, Cond.instanceMethod yX4_end, Cond.selects RX4 yX4_end yX4_end, Cond.code yX4_end cX4_end 2 (some .int), Cond.methodLink RX4 79 yX4_join, Cond.instanceMethod yX4_join, Cond.selects RX4 yX4_join yX4_join, Cond.code yX4_join cX4_join 5 none, Cond.methodLink RX4 89 Lib.Math.max.name, Cond.static Lib.Math.max.name, Cond.initialized "java/lang/Math"]
def wsX5_parted_r4 : List Cond := [Cond.code Lib.Math.max.name Lib.Math.max.code 2 (some .int), Cond.methodLink RX4 95 Lib.Math.min.name, Cond.static Lib.Math.min.name, Cond.code Lib.Math.min.name Lib.Math.min.code 2 (some .int), Cond.methodLink RX4 86 yX4_leastKnown, Cond.instanceMethod yX4_leastKnown, Cond.selects RX4 yX4_leastKnown yX4_leastKnown, Cond.code yX4_leastKnown cX4_leastKnown 4 (some .int), Cond.methodLink RX4 57 yX4_settle, Cond.instanceMethod yX4_settle, Cond.selects RX4 yX4_settle yX4_settle, Cond.code yX4_settle cX4_settle 2 none, Cond.methodLink RX4 98 yX4_groupOf, Cond.instanceMethod yX4_groupOf, Cond.selects RX4 yX4_groupOf yX4_groupOf, Cond.code yX4_groupOf cX4_groupOf 2 (some .int), Cond.methodLink RX1 67 yX1_measure, Cond.instanceMethod yX1_measure, Cond.selects RX1 yX1_measure yX1_measure, Cond.code yX1_measure cX1_measure 7 none, Cond.fieldLink RX1 18 "BlobRuns$Parting" "size" "[I", Cond.fieldLink RX1 22 "BlobRuns$Parting" "rim" "[I", Cond.fieldLink RX1 25 "BlobRuns$Parting" "bottom" "[I", Cond.fieldLink RX1 28 "BlobRuns$Parting" "left" "[I"]
def wsX5_parted_r5 : List Cond := [Cond.methodLink RX1 154 Lib.Math.min.name, Cond.fieldLink RX1 31 "BlobRuns$Parting" "right" "[I", Cond.methodLink RX1 114 Lib.Math.max.name, Cond.fieldLink RX1 34 "BlobRuns$Parting" "reachesRim" "[Z", Cond.methodLink RX1 79 yX4_lineOf, Cond.instanceMethod yX4_lineOf, Cond.selects RX4 yX4_lineOf yX4_lineOf, Cond.code yX4_lineOf cX4_lineOf 2 (some .int), Cond.methodLink RX1 82 yX4_start, Cond.methodLink RX1 141 yX4_end, Cond.methodLink RX1 71 yX4_groupOf, Cond.methodLink RX1 144 yX1_clear, Cond.instanceMethod yX1_clear, Cond.selects RX1 yX1_clear yX1_clear, Cond.code yX1_clear cX1_clear 3 none, Cond.methodLink RX1 147 yX4_isDark, Cond.methodLink RX1 132 yX4_columns, Cond.instanceMethod yX4_columns, Cond.selects RX4 yX4_columns yX4_columns, Cond.code yX4_columns cX4_columns 2 (some .int), Cond.methodLink RX1 151 yX3_freeSides, Cond.instanceMethod yX3_freeSides, Cond.selects RX3 yX3_freeSides yX3_freeSides, Cond.code yX3_freeSides cX3_freeSides 3 (some .int)]
def wsX5_parted_r6 : List Cond := [Cond.methodLink RX3 23 yX3_line, Cond.methodLink RX3 31 yJ6_bitCount_0f7a4, Cond.static yJ6_bitCount_0f7a4, Cond.initialized RJ6, Cond.code yJ6_bitCount_0f7a4 cJ6_bitCount_0f7a4 1 (some .int), Cond.constant RJ6 265 (1431655765), Cond.constant RJ6 266 (858993459), Cond.constant RJ6 267 (252645135), Cond.methodLink RX1 75 yX1_giveNumber, Cond.instanceMethod yX1_giveNumber, Cond.selects RX1 yX1_giveNumber yX1_giveNumber, Cond.code yX1_giveNumber cX1_giveNumber 3 none, Cond.fieldLink RX1 38 "BlobRuns$Parting" "number" "[I", Cond.fieldLink RX1 41 "BlobRuns$Parting" "partGroup" "[I", Cond.fieldLink RX1 44 "BlobRuns$Parting" "holeGroup" "[I"]
def wsX5_parted : List Cond := .code yX5_parted cX5_parted 1 (some (.object "BlobRuns$Parting")) :: ((wsX5_parted_r1 ++ (wsX5_parted_r2 ++ (wsX5_parted_r3 ++ (wsX5_parted_r4 ++ (wsX5_parted_r5 ++ wsX5_parted_r6))))) ++ wsX50 ++ wsX10 ++ wsX40 ++ wsX30)
def wsX5_told_r1 : List Cond := [Cond.fieldLink RX5 12 "BlobRuns" "picture" "LBlobRuns$Picture;", Cond.fieldLink RX5 33 "BlobRuns" "past" "LBlobRuns$Past;", Cond.constant RX5 87 (-1000000002), Cond.methodLink RX5 55 yX3_darkDots, Cond.instanceMethod yX3_darkDots, Cond.selects RX3 yX3_darkDots yX3_darkDots, Cond.initialized RX3, Cond.code yX3_darkDots cX3_darkDots 3 (some .int), Cond.fieldLink RX3 9 "BlobRuns$Picture" "rows" "[I", Cond.methodLink RX3 31 yJ6_bitCount_0f7a4, Cond.static yJ6_bitCount_0f7a4, Cond.initialized RJ6, Cond.code yJ6_bitCount_0f7a4 cJ6_bitCount_0f7a4 1 (some .int), Cond.constant RJ6 265 (1431655765), Cond.constant RJ6 266 (858993459), Cond.constant RJ6 267 (252645135), Cond.methodLink RX5 59 yX5_parted, Cond.instanceMethod yX5_parted, Cond.selects RX5 yX5_parted yX5_parted, Cond.initialized RX5, Cond.code yX5_parted cX5_parted 1 (some (.object "BlobRuns$Parting")), Cond.fieldLink RX5 48 "BlobRuns" "stale" "Z", Cond.fieldLink RX5 19 "BlobRuns" "parting" "LBlobRuns$Parting;", Cond.methodLink RX5 235 yX1_read]
def wsX5_told_r2 : List Cond := [Cond.instanceMethod yX1_read, Cond.selects RX1 yX1_read yX1_read, Cond.initialized RX1, Cond.code yX1_read cX1_read 3 none, Cond.fieldLink RX1 12 "BlobRuns$Parting" "runs" "LBlobRuns$Runs;", Cond.fieldLink RX1 50 "BlobRuns$Parting" "partCount" "I", Cond.fieldLink RX1 54 "BlobRuns$Parting" "holeCount" "I", Cond.fieldLink RX1 57 "BlobRuns$Parting" "lightCount" "I", Cond.methodLink RX1 60 yX4_read, Cond.instanceMethod yX4_read, Cond.selects RX4 yX4_read yX4_read, Cond.initialized RX4, Cond.code yX4_read cX4_read 4 none, Cond.fieldLink RX4 34 "BlobRuns$Runs" "count" "I", Cond.fieldLink RX4 9 "BlobRuns$Runs" "first" "[I", Cond.fieldLink RX4 15 "BlobRuns$Runs" "changes" "[I", Cond.constant RX4 44 (65534), Cond.methodLink RX4 38 yX3_line, Cond.instanceMethod yX3_line, Cond.selects RX3 yX3_line yX3_line, Cond.code yX3_line cX3_line 2 (some .int), Cond.methodLink RX4 45 yX4_cut, Cond.instanceMethod yX4_cut, Cond.selects RX4 yX4_cut yX4_cut]
def wsX5_told_r3 : List Cond := [Cond.code yX4_cut cX4_cut 5 none, Cond.methodLink RX4 71 yX4_add, Cond.instanceMethod yX4_add, Cond.selects RX4 yX4_add yX4_add, Cond.code yX4_add cX4_add 6 none, Cond.fieldLink RX4 24 "BlobRuns$Runs" "rowOf" "[I", Cond.fieldLink RX4 18 "BlobRuns$Runs" "startOf" "[I", Cond.fieldLink RX4 21 "BlobRuns$Runs" "endOf" "[I", Cond.fieldLink RX4 27 "BlobRuns$Runs" "dark" "[Z", Cond.fieldLink RX4 31 "BlobRuns$Runs" "towards" "[I", Cond.methodLink RX4 49 yX3_cornersJoin, Cond.instanceMethod yX3_cornersJoin, Cond.selects RX3 yX3_cornersJoin yX3_cornersJoin, Cond.code yX3_cornersJoin cX3_cornersJoin 1 (some .boolean), Cond.fieldLink RX3 18 "BlobRuns$Picture" "joinedBy" "I", Cond.methodLink RX4 53 yX4_joinToRowAbove, Cond.instanceMethod yX4_joinToRowAbove, Cond.selects RX4 yX4_joinToRowAbove yX4_joinToRowAbove, Cond.code yX4_joinToRowAbove cX4_joinToRowAbove 8 none, Cond.methodLink RX4 75 yX4_firstOfColour, Cond.instanceMethod yX4_firstOfColour, Cond.selects RX4 yX4_firstOfColour yX4_firstOfColour, Cond.code yX4_firstOfColour cX4_firstOfColour 4 (some .int), Cond.methodLink RX4 82 yX4_isDark]
def wsX5_told_r4 : List Cond := [Cond.instanceMethod yX4_isDark, Cond.selects RX4 yX4_isDark yX4_isDark, Cond.code yX4_isDark cX4_isDark 2 (some .boolean), Cond.methodLink RX4 63 yX4_start, Cond.instanceMethod yX4_start, Cond.selects RX4 yX4_start yX4_start, Cond.code yX4_start cX4_start 2 (some .int), Cond.methodLink RX4 60 yX4_end, Cond.instanceMethod yX4_end, Cond.selects RX4 yX4_end yX4_end, Cond.code yX4_end cX4_end 2 (some .int), Cond.methodLink RX4 79 yX4_join, Cond.instanceMethod yX4_join, Cond.selects RX4 yX4_join yX4_join, Cond.code yX4_join cX4_join 5 none, Cond.methodLink RX4 89 Lib.Math.max.name, Cond.static Lib.Math.max.name, Cond.initialized "java/lang/Math", Cond.code Lib.Math.max.name Lib.Math.max.code 2 (some .int), Cond.methodLink RX4 95 Lib.Math.min.name, Cond.static Lib.Math.min.name, Cond.code Lib.Math.min.name Lib.Math.min.code 2 (some .int), Cond.methodLink RX4 86 yX4_leastKnown, Cond.instanceMethod yX4_leastKnown]
def wsX5_told_r5 : List Cond := [Cond.selects RX4 yX4_leastKnown yX4_leastKnown, Cond.code yX4_leastKnown cX4_leastKnown 4 (some .int), Cond.methodLink RX4 57 yX4_settle, Cond.instanceMethod yX4_settle, Cond.selects RX4 yX4_settle yX4_settle, Cond.code yX4_settle cX4_settle 2 none, Cond.methodLink RX4 98 yX4_groupOf, Cond.instanceMethod yX4_groupOf, Cond.selects RX4 yX4_groupOf yX4_groupOf, Cond.code yX4_groupOf cX4_groupOf 2 (some .int), Cond.methodLink RX1 67 yX1_measure, Cond.instanceMethod yX1_measure, Cond.selects RX1 yX1_measure yX1_measure, Cond.code yX1_measure cX1_measure 7 none, Cond.fieldLink RX1 18 "BlobRuns$Parting" "size" "[I", Cond.fieldLink RX1 22 "BlobRuns$Parting" "rim" "[I", Cond.fieldLink RX1 25 "BlobRuns$Parting" "bottom" "[I", Cond.fieldLink RX1 28 "BlobRuns$Parting" "left" "[I", Cond.methodLink RX1 154 Lib.Math.min.name, Cond.fieldLink RX1 31 "BlobRuns$Parting" "right" "[I", Cond.methodLink RX1 114 Lib.Math.max.name, Cond.fieldLink RX1 34 "BlobRuns$Parting" "reachesRim" "[Z", Cond.methodLink RX1 79 yX4_lineOf, Cond.instanceMethod yX4_lineOf]
def wsX5_told_r6 : List Cond := [Cond.selects RX4 yX4_lineOf yX4_lineOf, Cond.code yX4_lineOf cX4_lineOf 2 (some .int), Cond.methodLink RX1 82 yX4_start, Cond.methodLink RX1 141 yX4_end, Cond.methodLink RX1 71 yX4_groupOf, Cond.methodLink RX1 144 yX1_clear, Cond.instanceMethod yX1_clear, Cond.selects RX1 yX1_clear yX1_clear, Cond.code yX1_clear cX1_clear 3 none, Cond.methodLink RX1 147 yX4_isDark, Cond.methodLink RX1 132 yX4_columns, Cond.instanceMethod yX4_columns, Cond.selects RX4 yX4_columns yX4_columns, Cond.code yX4_columns cX4_columns 2 (some .int), Cond.methodLink RX1 151 yX3_freeSides, Cond.instanceMethod yX3_freeSides, Cond.selects RX3 yX3_freeSides yX3_freeSides, Cond.code yX3_freeSides cX3_freeSides 3 (some .int), Cond.methodLink RX3 23 yX3_line, Cond.methodLink RX1 75 yX1_giveNumber, Cond.instanceMethod yX1_giveNumber, Cond.selects RX1 yX1_giveNumber yX1_giveNumber, Cond.code yX1_giveNumber cX1_giveNumber 3 none, Cond.fieldLink RX1 38 "BlobRuns$Parting" "number" "[I"]
def wsX5_told_r7 : List Cond := [Cond.fieldLink RX1 41 "BlobRuns$Parting" "partGroup" "[I", Cond.fieldLink RX1 44 "BlobRuns$Parting" "holeGroup" "[I", Cond.methodLink RX5 72 yX3_allRuns, Cond.instanceMethod yX3_allRuns, Cond.selects RX3 yX3_allRuns yX3_allRuns, Cond.code yX3_allRuns cX3_allRuns 3 (some .int), Cond.static yX5_runsOf, Cond.code yX5_runsOf cX5_runsOf 1 (some .int), Cond.methodLink RX5 230 yJ6_bitCount_0f7a4, Cond.methodLink RX5 75 yX1_allRims, Cond.instanceMethod yX1_allRims, Cond.selects RX1 yX1_allRims yX1_allRims, Cond.code yX1_allRims cX1_allRims 3 (some .int), Cond.methodLink RX1 89 yX1_groupOfPart, Cond.instanceMethod yX1_groupOfPart, Cond.selects RX1 yX1_groupOfPart yX1_groupOfPart, Cond.code yX1_groupOfPart cX1_groupOfPart 2 (some .int), Cond.methodLink RX1 108 yX1_rimOf, Cond.instanceMethod yX1_rimOf, Cond.selects RX1 yX1_rimOf yX1_rimOf, Cond.code yX1_rimOf cX1_rimOf 2 (some .int), Cond.methodLink RX5 78 yX1_deepest, Cond.instanceMethod yX1_deepest, Cond.selects RX1 yX1_deepest yX1_deepest]
def wsX5_told_r8 : List Cond := [Cond.code yX1_deepest cX1_deepest 3 (some .int), Cond.methodLink RX1 111 yX1_depthOf, Cond.instanceMethod yX1_depthOf, Cond.selects RX1 yX1_depthOf yX1_depthOf, Cond.code yX1_depthOf cX1_depthOf 4 (some .int), Cond.methodLink RX1 102 yX1_holeAround, Cond.instanceMethod yX1_holeAround, Cond.selects RX1 yX1_holeAround yX1_holeAround, Cond.code yX1_holeAround cX1_holeAround 3 (some .int), Cond.methodLink RX1 92 yX1_holeAt, Cond.instanceMethod yX1_holeAt, Cond.selects RX1 yX1_holeAt yX1_holeAt, Cond.code yX1_holeAt cX1_holeAt 3 (some .int), Cond.methodLink RX1 85 yX1_numberAt, Cond.instanceMethod yX1_numberAt, Cond.selects RX1 yX1_numberAt yX1_numberAt, Cond.code yX1_numberAt cX1_numberAt 5 (some .int), Cond.static yX5_isLine, Cond.code yX5_isLine cX5_isLine 1 (some .boolean), Cond.methodLink RX1 160 yX4_runAt, Cond.instanceMethod yX4_runAt, Cond.selects RX4 yX4_runAt yX4_runAt, Cond.code yX4_runAt cX4_runAt 3 (some .int), Cond.methodLink RX4 66 yJ6_bitCount_0f7a4]
def wsX5_told_r9 : List Cond := [Cond.methodLink RX1 105 yX1_partAround, Cond.instanceMethod yX1_partAround, Cond.selects RX1 yX1_partAround yX1_partAround, Cond.code yX1_partAround cX1_partAround 3 (some .int), Cond.methodLink RX1 96 yX1_groupOfHole, Cond.instanceMethod yX1_groupOfHole, Cond.selects RX1 yX1_groupOfHole yX1_groupOfHole, Cond.code yX1_groupOfHole cX1_groupOfHole 2 (some .int), Cond.methodLink RX1 99 yX1_partAt, Cond.instanceMethod yX1_partAt, Cond.selects RX1 yX1_partAt yX1_partAt, Cond.code yX1_partAt cX1_partAt 3 (some .int), Cond.methodLink RX5 81 yX1_largest, Cond.instanceMethod yX1_largest, Cond.selects RX1 yX1_largest yX1_largest, Cond.code yX1_largest cX1_largest 5 (some .int), Cond.methodLink RX1 119 yX1_sizeOf, Cond.instanceMethod yX1_sizeOf, Cond.selects RX1 yX1_sizeOf yX1_sizeOf, Cond.code yX1_sizeOf cX1_sizeOf 2 (some .int)]
def wsX5_told : List Cond := .code yX5_told cX5_told 2 (some .int) :: ((wsX5_told_r1 ++ (wsX5_told_r2 ++ (wsX5_told_r3 ++ (wsX5_told_r4 ++ (wsX5_told_r5 ++ (wsX5_told_r6 ++ (wsX5_told_r7 ++ (wsX5_told_r8 ++ wsX5_told_r9)))))))) ++ wsX50 ++ wsX30 ++ wsX10 ++ wsX20 ++ wsX40)
def wsX5_rowAt : List Cond := .code yX5_rowAt cX5_rowAt 3 (some .int) :: ([.constant RX5 92 (-1000000001), .fieldLink RX5 12 "BlobRuns" "picture" "LBlobRuns$Picture;", .constant RX5 87 (-1000000002), .methodLink RX5 88 yX5_isLine, .static yX5_isLine, .initialized RX5, .code yX5_isLine cX5_isLine 1 (some .boolean), .methodLink RX5 93 yX3_line, .instanceMethod yX3_line, .selects RX3 yX3_line yX3_line, .initialized RX3, .code yX3_line cX3_line 2 (some .int), .fieldLink RX3 9 "BlobRuns$Picture" "rows" "[I", .methodLink RX5 97 yX5_runsOf, .static yX5_runsOf, .code yX5_runsOf cX5_runsOf 1 (some .int), .methodLink RX5 230 yJ6_bitCount_0f7a4, .static yJ6_bitCount_0f7a4, .initialized RJ6, .code yJ6_bitCount_0f7a4 cJ6_bitCount_0f7a4 1 (some .int), .constant RJ6 265 (1431655765), .constant RJ6 266 (858993459), .constant RJ6 267 (252645135)] ++ wsX50 ++ wsX30)
def wsX5_splitsAt_r1 : List Cond := [Cond.fieldLink RX5 12 "BlobRuns" "picture" "LBlobRuns$Picture;", Cond.fieldLink RX5 26 "BlobRuns" "trial" "LBlobRuns$Runs;", Cond.methodLink RX5 179 yX3_flip, Cond.instanceMethod yX3_flip, Cond.selects RX3 yX3_flip yX3_flip, Cond.initialized RX3, Cond.code yX3_flip cX3_flip 3 none, Cond.methodLink RX3 23 yX3_line, Cond.instanceMethod yX3_line, Cond.selects RX3 yX3_line yX3_line, Cond.code yX3_line cX3_line 2 (some .int), Cond.fieldLink RX3 9 "BlobRuns$Picture" "rows" "[I", Cond.methodLink RX3 27 yX3_putLine, Cond.instanceMethod yX3_putLine, Cond.selects RX3 yX3_putLine yX3_putLine, Cond.code yX3_putLine cX3_putLine 3 none, Cond.constant RX3 22 (65535), Cond.methodLink RX5 248 yX4_read, Cond.instanceMethod yX4_read, Cond.selects RX4 yX4_read yX4_read, Cond.initialized RX4, Cond.code yX4_read cX4_read 4 none, Cond.fieldLink RX4 34 "BlobRuns$Runs" "count" "I", Cond.fieldLink RX4 9 "BlobRuns$Runs" "first" "[I"]
def wsX5_splitsAt_r2 : List Cond := [Cond.fieldLink RX4 15 "BlobRuns$Runs" "changes" "[I", Cond.constant RX4 44 (65534), Cond.methodLink RX4 38 yX3_line, Cond.methodLink RX4 45 yX4_cut, Cond.instanceMethod yX4_cut, Cond.selects RX4 yX4_cut yX4_cut, Cond.code yX4_cut cX4_cut 5 none, Cond.methodLink RX4 71 yX4_add, Cond.instanceMethod yX4_add, Cond.selects RX4 yX4_add yX4_add, Cond.code yX4_add cX4_add 6 none, Cond.fieldLink RX4 24 "BlobRuns$Runs" "rowOf" "[I", Cond.fieldLink RX4 18 "BlobRuns$Runs" "startOf" "[I", Cond.fieldLink RX4 21 "BlobRuns$Runs" "endOf" "[I", Cond.fieldLink RX4 27 "BlobRuns$Runs" "dark" "[Z", Cond.fieldLink RX4 31 "BlobRuns$Runs" "towards" "[I", Cond.methodLink RX4 49 yX3_cornersJoin, Cond.instanceMethod yX3_cornersJoin, Cond.selects RX3 yX3_cornersJoin yX3_cornersJoin, Cond.code yX3_cornersJoin cX3_cornersJoin 1 (some .boolean), Cond.fieldLink RX3 18 "BlobRuns$Picture" "joinedBy" "I", Cond.methodLink RX4 53 yX4_joinToRowAbove, Cond.instanceMethod yX4_joinToRowAbove, Cond.selects RX4 yX4_joinToRowAbove yX4_joinToRowAbove]
def wsX5_splitsAt_r3 : List Cond := [Cond.code yX4_joinToRowAbove cX4_joinToRowAbove 8 none, Cond.methodLink RX4 75 yX4_firstOfColour, Cond.instanceMethod yX4_firstOfColour, Cond.selects RX4 yX4_firstOfColour yX4_firstOfColour, Cond.code yX4_firstOfColour cX4_firstOfColour 4 (some .int), Cond.methodLink RX4 82 yX4_isDark, Cond.instanceMethod yX4_isDark, Cond.selects RX4 yX4_isDark yX4_isDark, Cond.code yX4_isDark cX4_isDark 2 (some .boolean), Cond.methodLink RX4 63 yX4_start, Cond.instanceMethod yX4_start, Cond.selects RX4 yX4_start yX4_start, Cond.code yX4_start cX4_start 2 (some .int), Cond.methodLink RX4 60 yX4_end, Cond.instanceMethod yX4_end, Cond.selects RX4 yX4_end yX4_end, Cond.code yX4_end cX4_end 2 (some .int), Cond.methodLink RX4 79 yX4_join, Cond.instanceMethod yX4_join, Cond.selects RX4 yX4_join yX4_join, Cond.code yX4_join cX4_join 5 none, Cond.methodLink RX4 89 Lib.Math.max.name, Cond.static Lib.Math.max.name, Cond.initialized "java/lang/Math"]
def wsX5_splitsAt_r4 : List Cond := [Cond.code Lib.Math.max.name Lib.Math.max.code 2 (some .int), Cond.methodLink RX4 95 Lib.Math.min.name, Cond.static Lib.Math.min.name, Cond.code Lib.Math.min.name Lib.Math.min.code 2 (some .int), Cond.methodLink RX4 86 yX4_leastKnown, Cond.instanceMethod yX4_leastKnown, Cond.selects RX4 yX4_leastKnown yX4_leastKnown, Cond.code yX4_leastKnown cX4_leastKnown 4 (some .int), Cond.methodLink RX4 57 yX4_settle, Cond.instanceMethod yX4_settle, Cond.selects RX4 yX4_settle yX4_settle, Cond.code yX4_settle cX4_settle 2 none, Cond.methodLink RX4 98 yX4_groupOf, Cond.instanceMethod yX4_groupOf, Cond.selects RX4 yX4_groupOf yX4_groupOf, Cond.code yX4_groupOf cX4_groupOf 2 (some .int), Cond.methodLink RX5 249 yX4_darkGroups, Cond.instanceMethod yX4_darkGroups, Cond.selects RX4 yX4_darkGroups yX4_darkGroups, Cond.code yX4_darkGroups cX4_darkGroups 3 (some .int)]
def wsX5_splitsAt : List Cond := .code yX5_splitsAt cX5_splitsAt 4 (some .int) :: ((wsX5_splitsAt_r1 ++ (wsX5_splitsAt_r2 ++ (wsX5_splitsAt_r3 ++ wsX5_splitsAt_r4))) ++ wsX50 ++ wsX30 ++ wsX40)
def wsX5_dot_r1 : List Cond := [Cond.constant RX5 92 (-1000000001), Cond.fieldLink RX5 12 "BlobRuns" "picture" "LBlobRuns$Picture;", Cond.constant RX5 87 (-1000000002), Cond.methodLink RX5 88 yX5_isLine, Cond.static yX5_isLine, Cond.initialized RX5, Cond.code yX5_isLine cX5_isLine 1 (some .boolean), Cond.methodLink RX5 100 yX3_isDark, Cond.instanceMethod yX3_isDark, Cond.selects RX3 yX3_isDark yX3_isDark, Cond.initialized RX3, Cond.code yX3_isDark cX3_isDark 3 (some .boolean), Cond.methodLink RX3 23 yX3_line, Cond.instanceMethod yX3_line, Cond.selects RX3 yX3_line yX3_line, Cond.code yX3_line cX3_line 2 (some .int), Cond.fieldLink RX3 9 "BlobRuns$Picture" "rows" "[I", Cond.methodLink RX5 59 yX5_parted, Cond.instanceMethod yX5_parted, Cond.selects RX5 yX5_parted yX5_parted, Cond.code yX5_parted cX5_parted 1 (some (.object "BlobRuns$Parting")), Cond.fieldLink RX5 48 "BlobRuns" "stale" "Z", Cond.fieldLink RX5 19 "BlobRuns" "parting" "LBlobRuns$Parting;", Cond.methodLink RX5 235 yX1_read]
def wsX5_dot_r2 : List Cond := [Cond.instanceMethod yX1_read, Cond.selects RX1 yX1_read yX1_read, Cond.initialized RX1, Cond.code yX1_read cX1_read 3 none, Cond.fieldLink RX1 12 "BlobRuns$Parting" "runs" "LBlobRuns$Runs;", Cond.fieldLink RX1 50 "BlobRuns$Parting" "partCount" "I", Cond.fieldLink RX1 54 "BlobRuns$Parting" "holeCount" "I", Cond.fieldLink RX1 57 "BlobRuns$Parting" "lightCount" "I", Cond.methodLink RX1 60 yX4_read, Cond.instanceMethod yX4_read, Cond.selects RX4 yX4_read yX4_read, Cond.initialized RX4, Cond.code yX4_read cX4_read 4 none, Cond.fieldLink RX4 34 "BlobRuns$Runs" "count" "I", Cond.fieldLink RX4 9 "BlobRuns$Runs" "first" "[I", Cond.fieldLink RX4 15 "BlobRuns$Runs" "changes" "[I", Cond.constant RX4 44 (65534), Cond.methodLink RX4 38 yX3_line, Cond.methodLink RX4 45 yX4_cut, Cond.instanceMethod yX4_cut, Cond.selects RX4 yX4_cut yX4_cut, Cond.code yX4_cut cX4_cut 5 none, Cond.methodLink RX4 71 yX4_add, Cond.instanceMethod yX4_add]
def wsX5_dot_r3 : List Cond := [Cond.selects RX4 yX4_add yX4_add, Cond.code yX4_add cX4_add 6 none, Cond.fieldLink RX4 24 "BlobRuns$Runs" "rowOf" "[I", Cond.fieldLink RX4 18 "BlobRuns$Runs" "startOf" "[I", Cond.fieldLink RX4 21 "BlobRuns$Runs" "endOf" "[I", Cond.fieldLink RX4 27 "BlobRuns$Runs" "dark" "[Z", Cond.fieldLink RX4 31 "BlobRuns$Runs" "towards" "[I", Cond.methodLink RX4 49 yX3_cornersJoin, Cond.instanceMethod yX3_cornersJoin, Cond.selects RX3 yX3_cornersJoin yX3_cornersJoin, Cond.code yX3_cornersJoin cX3_cornersJoin 1 (some .boolean), Cond.fieldLink RX3 18 "BlobRuns$Picture" "joinedBy" "I", Cond.methodLink RX4 53 yX4_joinToRowAbove, Cond.instanceMethod yX4_joinToRowAbove, Cond.selects RX4 yX4_joinToRowAbove yX4_joinToRowAbove, Cond.code yX4_joinToRowAbove cX4_joinToRowAbove 8 none, Cond.methodLink RX4 75 yX4_firstOfColour, Cond.instanceMethod yX4_firstOfColour, Cond.selects RX4 yX4_firstOfColour yX4_firstOfColour, Cond.code yX4_firstOfColour cX4_firstOfColour 4 (some .int), Cond.methodLink RX4 82 yX4_isDark, Cond.instanceMethod yX4_isDark, Cond.selects RX4 yX4_isDark yX4_isDark, Cond.code yX4_isDark cX4_isDark 2 (some .boolean)]
def wsX5_dot_r4 : List Cond := [Cond.methodLink RX4 63 yX4_start, Cond.instanceMethod yX4_start, Cond.selects RX4 yX4_start yX4_start, Cond.code yX4_start cX4_start 2 (some .int), Cond.methodLink RX4 60 yX4_end, Cond.instanceMethod yX4_end, Cond.selects RX4 yX4_end yX4_end, Cond.code yX4_end cX4_end 2 (some .int), Cond.methodLink RX4 79 yX4_join, Cond.instanceMethod yX4_join, Cond.selects RX4 yX4_join yX4_join, Cond.code yX4_join cX4_join 5 none, Cond.methodLink RX4 89 Lib.Math.max.name, Cond.static Lib.Math.max.name, Cond.initialized "java/lang/Math", Cond.code Lib.Math.max.name Lib.Math.max.code 2 (some .int), Cond.methodLink RX4 95 Lib.Math.min.name, Cond.static Lib.Math.min.name, Cond.code Lib.Math.min.name Lib.Math.min.code 2 (some .int), Cond.methodLink RX4 86 yX4_leastKnown, Cond.instanceMethod yX4_leastKnown, Cond.selects RX4 yX4_leastKnown yX4_leastKnown, Cond.code yX4_leastKnown cX4_leastKnown 4 (some .int), Cond.methodLink RX4 57 yX4_settle]
def wsX5_dot_r5 : List Cond := [Cond.instanceMethod yX4_settle, Cond.selects RX4 yX4_settle yX4_settle, Cond.code yX4_settle cX4_settle 2 none, Cond.methodLink RX4 98 yX4_groupOf, Cond.instanceMethod yX4_groupOf, Cond.selects RX4 yX4_groupOf yX4_groupOf, Cond.code yX4_groupOf cX4_groupOf 2 (some .int), Cond.methodLink RX1 67 yX1_measure, Cond.instanceMethod yX1_measure, Cond.selects RX1 yX1_measure yX1_measure, Cond.code yX1_measure cX1_measure 7 none, Cond.fieldLink RX1 18 "BlobRuns$Parting" "size" "[I", Cond.fieldLink RX1 22 "BlobRuns$Parting" "rim" "[I", Cond.fieldLink RX1 25 "BlobRuns$Parting" "bottom" "[I", Cond.fieldLink RX1 28 "BlobRuns$Parting" "left" "[I", Cond.methodLink RX1 154 Lib.Math.min.name, Cond.fieldLink RX1 31 "BlobRuns$Parting" "right" "[I", Cond.methodLink RX1 114 Lib.Math.max.name, Cond.fieldLink RX1 34 "BlobRuns$Parting" "reachesRim" "[Z", Cond.methodLink RX1 79 yX4_lineOf, Cond.instanceMethod yX4_lineOf, Cond.selects RX4 yX4_lineOf yX4_lineOf, Cond.code yX4_lineOf cX4_lineOf 2 (some .int), Cond.methodLink RX1 82 yX4_start]
def wsX5_dot_r6 : List Cond := [Cond.methodLink RX1 141 yX4_end, Cond.methodLink RX1 71 yX4_groupOf, Cond.methodLink RX1 144 yX1_clear, Cond.instanceMethod yX1_clear, Cond.selects RX1 yX1_clear yX1_clear, Cond.code yX1_clear cX1_clear 3 none, Cond.methodLink RX1 147 yX4_isDark, Cond.methodLink RX1 132 yX4_columns, Cond.instanceMethod yX4_columns, Cond.selects RX4 yX4_columns yX4_columns, Cond.code yX4_columns cX4_columns 2 (some .int), Cond.methodLink RX1 151 yX3_freeSides, Cond.instanceMethod yX3_freeSides, Cond.selects RX3 yX3_freeSides yX3_freeSides, Cond.code yX3_freeSides cX3_freeSides 3 (some .int), Cond.methodLink RX3 31 yJ6_bitCount_0f7a4, Cond.static yJ6_bitCount_0f7a4, Cond.initialized RJ6, Cond.code yJ6_bitCount_0f7a4 cJ6_bitCount_0f7a4 1 (some .int), Cond.constant RJ6 265 (1431655765), Cond.constant RJ6 266 (858993459), Cond.constant RJ6 267 (252645135), Cond.methodLink RX1 75 yX1_giveNumber, Cond.instanceMethod yX1_giveNumber]
def wsX5_dot_r7 : List Cond := [Cond.selects RX1 yX1_giveNumber yX1_giveNumber, Cond.code yX1_giveNumber cX1_giveNumber 3 none, Cond.fieldLink RX1 38 "BlobRuns$Parting" "number" "[I", Cond.fieldLink RX1 41 "BlobRuns$Parting" "partGroup" "[I", Cond.fieldLink RX1 44 "BlobRuns$Parting" "holeGroup" "[I", Cond.methodLink RX5 104 yX1_partAt, Cond.instanceMethod yX1_partAt, Cond.selects RX1 yX1_partAt yX1_partAt, Cond.code yX1_partAt cX1_partAt 3 (some .int), Cond.methodLink RX1 85 yX1_numberAt, Cond.instanceMethod yX1_numberAt, Cond.selects RX1 yX1_numberAt yX1_numberAt, Cond.code yX1_numberAt cX1_numberAt 5 (some .int), Cond.methodLink RX1 160 yX4_runAt, Cond.instanceMethod yX4_runAt, Cond.selects RX4 yX4_runAt yX4_runAt, Cond.code yX4_runAt cX4_runAt 3 (some .int), Cond.methodLink RX4 66 yJ6_bitCount_0f7a4, Cond.methodLink RX5 108 yX1_holeAt, Cond.instanceMethod yX1_holeAt, Cond.selects RX1 yX1_holeAt yX1_holeAt, Cond.code yX1_holeAt cX1_holeAt 3 (some .int), Cond.methodLink RX5 111 yX3_cornersJoin, Cond.methodLink RX5 115 yX1_joinsAt]
def wsX5_dot_r8 : List Cond := [Cond.instanceMethod yX1_joinsAt, Cond.selects RX1 yX1_joinsAt yX1_joinsAt, Cond.code yX1_joinsAt cX1_joinsAt 9 (some .int), Cond.fieldLink RX1 47 "BlobRuns$Parting" "touched" "[I", Cond.methodLink RX1 99 yX1_partAt, Cond.methodLink RX1 122 yX1_isTouched, Cond.instanceMethod yX1_isTouched, Cond.selects RX1 yX1_isTouched yX1_isTouched, Cond.code yX1_isTouched cX1_isTouched 4 (some .boolean), Cond.methodLink RX5 119 yX5_splitsAt, Cond.instanceMethod yX5_splitsAt, Cond.selects RX5 yX5_splitsAt yX5_splitsAt, Cond.code yX5_splitsAt cX5_splitsAt 4 (some .int), Cond.fieldLink RX5 26 "BlobRuns" "trial" "LBlobRuns$Runs;", Cond.methodLink RX5 179 yX3_flip, Cond.instanceMethod yX3_flip, Cond.selects RX3 yX3_flip yX3_flip, Cond.code yX3_flip cX3_flip 3 none, Cond.methodLink RX3 27 yX3_putLine, Cond.instanceMethod yX3_putLine, Cond.selects RX3 yX3_putLine yX3_putLine, Cond.code yX3_putLine cX3_putLine 3 none, Cond.constant RX3 22 (65535), Cond.methodLink RX5 248 yX4_read]
def wsX5_dot_r9 : List Cond := [Cond.methodLink RX5 249 yX4_darkGroups, Cond.instanceMethod yX4_darkGroups, Cond.selects RX4 yX4_darkGroups yX4_darkGroups, Cond.code yX4_darkGroups cX4_darkGroups 3 (some .int)]
def wsX5_dot : List Cond := .code yX5_dot cX5_dot 5 (some .int) :: ((wsX5_dot_r1 ++ (wsX5_dot_r2 ++ (wsX5_dot_r3 ++ (wsX5_dot_r4 ++ (wsX5_dot_r5 ++ (wsX5_dot_r6 ++ (wsX5_dot_r7 ++ (wsX5_dot_r8 ++ wsX5_dot_r9)))))))) ++ wsX50 ++ wsX10 ++ wsX30 ++ wsX40)
def wsX5_part_r1 : List Cond := [Cond.constant RX5 92 (-1000000001), Cond.constant RX5 87 (-1000000002), Cond.methodLink RX5 59 yX5_parted, Cond.instanceMethod yX5_parted, Cond.selects RX5 yX5_parted yX5_parted, Cond.initialized RX5, Cond.code yX5_parted cX5_parted 1 (some (.object "BlobRuns$Parting")), Cond.fieldLink RX5 48 "BlobRuns" "stale" "Z", Cond.fieldLink RX5 19 "BlobRuns" "parting" "LBlobRuns$Parting;", Cond.fieldLink RX5 12 "BlobRuns" "picture" "LBlobRuns$Picture;", Cond.methodLink RX5 235 yX1_read, Cond.instanceMethod yX1_read, Cond.selects RX1 yX1_read yX1_read, Cond.initialized RX1, Cond.code yX1_read cX1_read 3 none, Cond.fieldLink RX1 12 "BlobRuns$Parting" "runs" "LBlobRuns$Runs;", Cond.fieldLink RX1 50 "BlobRuns$Parting" "partCount" "I", Cond.fieldLink RX1 54 "BlobRuns$Parting" "holeCount" "I", Cond.fieldLink RX1 57 "BlobRuns$Parting" "lightCount" "I", Cond.methodLink RX1 60 yX4_read, Cond.instanceMethod yX4_read, Cond.selects RX4 yX4_read yX4_read, Cond.initialized RX4, Cond.code yX4_read cX4_read 4 none]
def wsX5_part_r2 : List Cond := [Cond.fieldLink RX4 34 "BlobRuns$Runs" "count" "I", Cond.fieldLink RX4 9 "BlobRuns$Runs" "first" "[I", Cond.fieldLink RX4 15 "BlobRuns$Runs" "changes" "[I", Cond.constant RX4 44 (65534), Cond.methodLink RX4 38 yX3_line, Cond.instanceMethod yX3_line, Cond.selects RX3 yX3_line yX3_line, Cond.initialized RX3, Cond.code yX3_line cX3_line 2 (some .int), Cond.fieldLink RX3 9 "BlobRuns$Picture" "rows" "[I", Cond.methodLink RX4 45 yX4_cut, Cond.instanceMethod yX4_cut, Cond.selects RX4 yX4_cut yX4_cut, Cond.code yX4_cut cX4_cut 5 none, Cond.methodLink RX4 71 yX4_add, Cond.instanceMethod yX4_add, Cond.selects RX4 yX4_add yX4_add, Cond.code yX4_add cX4_add 6 none, Cond.fieldLink RX4 24 "BlobRuns$Runs" "rowOf" "[I", Cond.fieldLink RX4 18 "BlobRuns$Runs" "startOf" "[I", Cond.fieldLink RX4 21 "BlobRuns$Runs" "endOf" "[I", Cond.fieldLink RX4 27 "BlobRuns$Runs" "dark" "[Z", Cond.fieldLink RX4 31 "BlobRuns$Runs" "towards" "[I", Cond.methodLink RX4 49 yX3_cornersJoin]
def wsX5_part_r3 : List Cond := [Cond.instanceMethod yX3_cornersJoin, Cond.selects RX3 yX3_cornersJoin yX3_cornersJoin, Cond.code yX3_cornersJoin cX3_cornersJoin 1 (some .boolean), Cond.fieldLink RX3 18 "BlobRuns$Picture" "joinedBy" "I", Cond.methodLink RX4 53 yX4_joinToRowAbove, Cond.instanceMethod yX4_joinToRowAbove, Cond.selects RX4 yX4_joinToRowAbove yX4_joinToRowAbove, Cond.code yX4_joinToRowAbove cX4_joinToRowAbove 8 none, Cond.methodLink RX4 75 yX4_firstOfColour, Cond.instanceMethod yX4_firstOfColour, Cond.selects RX4 yX4_firstOfColour yX4_firstOfColour, Cond.code yX4_firstOfColour cX4_firstOfColour 4 (some .int), Cond.methodLink RX4 82 yX4_isDark, Cond.instanceMethod yX4_isDark, Cond.selects RX4 yX4_isDark yX4_isDark, Cond.code yX4_isDark cX4_isDark 2 (some .boolean), Cond.methodLink RX4 63 yX4_start, Cond.instanceMethod yX4_start, Cond.selects RX4 yX4_start yX4_start, Cond.code yX4_start cX4_start 2 (some .int), Cond.methodLink RX4 60 yX4_end, Cond.instanceMethod yX4_end, Cond.selects RX4 yX4_end yX4_end, Cond.code yX4_end cX4_end 2 (some .int)]
def wsX5_part_r4 : List Cond := [Cond.methodLink RX4 79 yX4_join, Cond.instanceMethod yX4_join, Cond.selects RX4 yX4_join yX4_join, Cond.code yX4_join cX4_join 5 none, Cond.methodLink RX4 89 Lib.Math.max.name, Cond.static Lib.Math.max.name, Cond.initialized "java/lang/Math", Cond.code Lib.Math.max.name Lib.Math.max.code 2 (some .int), Cond.methodLink RX4 95 Lib.Math.min.name, Cond.static Lib.Math.min.name, Cond.code Lib.Math.min.name Lib.Math.min.code 2 (some .int), Cond.methodLink RX4 86 yX4_leastKnown, Cond.instanceMethod yX4_leastKnown, Cond.selects RX4 yX4_leastKnown yX4_leastKnown, Cond.code yX4_leastKnown cX4_leastKnown 4 (some .int), Cond.methodLink RX4 57 yX4_settle, Cond.instanceMethod yX4_settle, Cond.selects RX4 yX4_settle yX4_settle, Cond.code yX4_settle cX4_settle 2 none, Cond.methodLink RX4 98 yX4_groupOf, Cond.instanceMethod yX4_groupOf, Cond.selects RX4 yX4_groupOf yX4_groupOf, Cond.code yX4_groupOf cX4_groupOf 2 (some .int), Cond.methodLink RX1 67 yX1_measure]
def wsX5_part_r5 : List Cond := [Cond.instanceMethod yX1_measure, Cond.selects RX1 yX1_measure yX1_measure, Cond.code yX1_measure cX1_measure 7 none, Cond.fieldLink RX1 18 "BlobRuns$Parting" "size" "[I", Cond.fieldLink RX1 22 "BlobRuns$Parting" "rim" "[I", Cond.fieldLink RX1 25 "BlobRuns$Parting" "bottom" "[I", Cond.fieldLink RX1 28 "BlobRuns$Parting" "left" "[I", Cond.methodLink RX1 154 Lib.Math.min.name, Cond.fieldLink RX1 31 "BlobRuns$Parting" "right" "[I", Cond.methodLink RX1 114 Lib.Math.max.name, Cond.fieldLink RX1 34 "BlobRuns$Parting" "reachesRim" "[Z", Cond.methodLink RX1 79 yX4_lineOf, Cond.instanceMethod yX4_lineOf, Cond.selects RX4 yX4_lineOf yX4_lineOf, Cond.code yX4_lineOf cX4_lineOf 2 (some .int), Cond.methodLink RX1 82 yX4_start, Cond.methodLink RX1 141 yX4_end, Cond.methodLink RX1 71 yX4_groupOf, Cond.methodLink RX1 144 yX1_clear, Cond.instanceMethod yX1_clear, Cond.selects RX1 yX1_clear yX1_clear, Cond.code yX1_clear cX1_clear 3 none, Cond.methodLink RX1 147 yX4_isDark, Cond.methodLink RX1 132 yX4_columns]
def wsX5_part_r6 : List Cond := [Cond.instanceMethod yX4_columns, Cond.selects RX4 yX4_columns yX4_columns, Cond.code yX4_columns cX4_columns 2 (some .int), Cond.methodLink RX1 151 yX3_freeSides, Cond.instanceMethod yX3_freeSides, Cond.selects RX3 yX3_freeSides yX3_freeSides, Cond.code yX3_freeSides cX3_freeSides 3 (some .int), Cond.methodLink RX3 23 yX3_line, Cond.methodLink RX3 31 yJ6_bitCount_0f7a4, Cond.static yJ6_bitCount_0f7a4, Cond.initialized RJ6, Cond.code yJ6_bitCount_0f7a4 cJ6_bitCount_0f7a4 1 (some .int), Cond.constant RJ6 265 (1431655765), Cond.constant RJ6 266 (858993459), Cond.constant RJ6 267 (252645135), Cond.methodLink RX1 75 yX1_giveNumber, Cond.instanceMethod yX1_giveNumber, Cond.selects RX1 yX1_giveNumber yX1_giveNumber, Cond.code yX1_giveNumber cX1_giveNumber 3 none, Cond.fieldLink RX1 38 "BlobRuns$Parting" "number" "[I", Cond.fieldLink RX1 41 "BlobRuns$Parting" "partGroup" "[I", Cond.fieldLink RX1 44 "BlobRuns$Parting" "holeGroup" "[I", Cond.methodLink RX5 123 yX1_hasPart, Cond.instanceMethod yX1_hasPart]
def wsX5_part_r7 : List Cond := [Cond.selects RX1 yX1_hasPart yX1_hasPart, Cond.code yX1_hasPart cX1_hasPart 2 (some .boolean), Cond.methodLink RX5 126 yX1_groupOfPart, Cond.instanceMethod yX1_groupOfPart, Cond.selects RX1 yX1_groupOfPart yX1_groupOfPart, Cond.code yX1_groupOfPart cX1_groupOfPart 2 (some .int), Cond.methodLink RX5 129 yX1_sizeOf, Cond.instanceMethod yX1_sizeOf, Cond.selects RX1 yX1_sizeOf yX1_sizeOf, Cond.code yX1_sizeOf cX1_sizeOf 2 (some .int), Cond.methodLink RX5 132 yX1_rimOf, Cond.instanceMethod yX1_rimOf, Cond.selects RX1 yX1_rimOf yX1_rimOf, Cond.code yX1_rimOf cX1_rimOf 2 (some .int), Cond.methodLink RX5 135 yX1_topOf, Cond.instanceMethod yX1_topOf, Cond.selects RX1 yX1_topOf yX1_topOf, Cond.code yX1_topOf cX1_topOf 2 (some .int), Cond.methodLink RX5 138 yX1_bottomOf, Cond.instanceMethod yX1_bottomOf, Cond.selects RX1 yX1_bottomOf yX1_bottomOf, Cond.code yX1_bottomOf cX1_bottomOf 2 (some .int), Cond.methodLink RX5 141 yX1_leftOf, Cond.instanceMethod yX1_leftOf]
def wsX5_part_r8 : List Cond := [Cond.selects RX1 yX1_leftOf yX1_leftOf, Cond.code yX1_leftOf cX1_leftOf 2 (some .int), Cond.methodLink RX5 144 yX1_rightOf, Cond.instanceMethod yX1_rightOf, Cond.selects RX1 yX1_rightOf yX1_rightOf, Cond.code yX1_rightOf cX1_rightOf 2 (some .int), Cond.methodLink RX5 147 yX1_holesOfPart, Cond.instanceMethod yX1_holesOfPart, Cond.selects RX1 yX1_holesOfPart yX1_holesOfPart, Cond.code yX1_holesOfPart cX1_holesOfPart 4 (some .int), Cond.methodLink RX1 105 yX1_partAround, Cond.instanceMethod yX1_partAround, Cond.selects RX1 yX1_partAround yX1_partAround, Cond.code yX1_partAround cX1_partAround 3 (some .int), Cond.methodLink RX1 96 yX1_groupOfHole, Cond.instanceMethod yX1_groupOfHole, Cond.selects RX1 yX1_groupOfHole yX1_groupOfHole, Cond.code yX1_groupOfHole cX1_groupOfHole 2 (some .int), Cond.methodLink RX1 99 yX1_partAt, Cond.instanceMethod yX1_partAt, Cond.selects RX1 yX1_partAt yX1_partAt, Cond.code yX1_partAt cX1_partAt 3 (some .int), Cond.methodLink RX1 85 yX1_numberAt, Cond.instanceMethod yX1_numberAt]
def wsX5_part_r9 : List Cond := [Cond.selects RX1 yX1_numberAt yX1_numberAt, Cond.code yX1_numberAt cX1_numberAt 5 (some .int), Cond.static yX5_isLine, Cond.code yX5_isLine cX5_isLine 1 (some .boolean), Cond.methodLink RX1 160 yX4_runAt, Cond.instanceMethod yX4_runAt, Cond.selects RX4 yX4_runAt yX4_runAt, Cond.code yX4_runAt cX4_runAt 3 (some .int), Cond.methodLink RX4 66 yJ6_bitCount_0f7a4, Cond.methodLink RX5 150 yX1_holeAround, Cond.instanceMethod yX1_holeAround, Cond.selects RX1 yX1_holeAround yX1_holeAround, Cond.code yX1_holeAround cX1_holeAround 3 (some .int), Cond.methodLink RX1 89 yX1_groupOfPart, Cond.methodLink RX1 92 yX1_holeAt, Cond.instanceMethod yX1_holeAt, Cond.selects RX1 yX1_holeAt yX1_holeAt, Cond.code yX1_holeAt cX1_holeAt 3 (some .int), Cond.methodLink RX5 153 yX1_depthOf, Cond.instanceMethod yX1_depthOf, Cond.selects RX1 yX1_depthOf yX1_depthOf, Cond.code yX1_depthOf cX1_depthOf 4 (some .int), Cond.methodLink RX1 102 yX1_holeAround, Cond.methodLink RX5 156 yX1_leastPlaceOf]
def wsX5_part_r10 : List Cond := [Cond.instanceMethod yX1_leastPlaceOf, Cond.selects RX1 yX1_leastPlaceOf yX1_leastPlaceOf, Cond.code yX1_leastPlaceOf cX1_leastPlaceOf 2 (some .int)]
def wsX5_part : List Cond := .code yX5_part cX5_part 5 (some .int) :: ((wsX5_part_r1 ++ (wsX5_part_r2 ++ (wsX5_part_r3 ++ (wsX5_part_r4 ++ (wsX5_part_r5 ++ (wsX5_part_r6 ++ (wsX5_part_r7 ++ (wsX5_part_r8 ++ (wsX5_part_r9 ++ wsX5_part_r10))))))))) ++ wsX50 ++ wsX10 ++ wsX40 ++ wsX30)
def wsX5_hole_r1 : List Cond := [Cond.constant RX5 92 (-1000000001), Cond.constant RX5 87 (-1000000002), Cond.methodLink RX5 59 yX5_parted, Cond.instanceMethod yX5_parted, Cond.selects RX5 yX5_parted yX5_parted, Cond.initialized RX5, Cond.code yX5_parted cX5_parted 1 (some (.object "BlobRuns$Parting")), Cond.fieldLink RX5 48 "BlobRuns" "stale" "Z", Cond.fieldLink RX5 19 "BlobRuns" "parting" "LBlobRuns$Parting;", Cond.fieldLink RX5 12 "BlobRuns" "picture" "LBlobRuns$Picture;", Cond.methodLink RX5 235 yX1_read, Cond.instanceMethod yX1_read, Cond.selects RX1 yX1_read yX1_read, Cond.initialized RX1, Cond.code yX1_read cX1_read 3 none, Cond.fieldLink RX1 12 "BlobRuns$Parting" "runs" "LBlobRuns$Runs;", Cond.fieldLink RX1 50 "BlobRuns$Parting" "partCount" "I", Cond.fieldLink RX1 54 "BlobRuns$Parting" "holeCount" "I", Cond.fieldLink RX1 57 "BlobRuns$Parting" "lightCount" "I", Cond.methodLink RX1 60 yX4_read, Cond.instanceMethod yX4_read, Cond.selects RX4 yX4_read yX4_read, Cond.initialized RX4, Cond.code yX4_read cX4_read 4 none]
def wsX5_hole_r2 : List Cond := [Cond.fieldLink RX4 34 "BlobRuns$Runs" "count" "I", Cond.fieldLink RX4 9 "BlobRuns$Runs" "first" "[I", Cond.fieldLink RX4 15 "BlobRuns$Runs" "changes" "[I", Cond.constant RX4 44 (65534), Cond.methodLink RX4 38 yX3_line, Cond.instanceMethod yX3_line, Cond.selects RX3 yX3_line yX3_line, Cond.initialized RX3, Cond.code yX3_line cX3_line 2 (some .int), Cond.fieldLink RX3 9 "BlobRuns$Picture" "rows" "[I", Cond.methodLink RX4 45 yX4_cut, Cond.instanceMethod yX4_cut, Cond.selects RX4 yX4_cut yX4_cut, Cond.code yX4_cut cX4_cut 5 none, Cond.methodLink RX4 71 yX4_add, Cond.instanceMethod yX4_add, Cond.selects RX4 yX4_add yX4_add, Cond.code yX4_add cX4_add 6 none, Cond.fieldLink RX4 24 "BlobRuns$Runs" "rowOf" "[I", Cond.fieldLink RX4 18 "BlobRuns$Runs" "startOf" "[I", Cond.fieldLink RX4 21 "BlobRuns$Runs" "endOf" "[I", Cond.fieldLink RX4 27 "BlobRuns$Runs" "dark" "[Z", Cond.fieldLink RX4 31 "BlobRuns$Runs" "towards" "[I", Cond.methodLink RX4 49 yX3_cornersJoin]
def wsX5_hole_r3 : List Cond := [Cond.instanceMethod yX3_cornersJoin, Cond.selects RX3 yX3_cornersJoin yX3_cornersJoin, Cond.code yX3_cornersJoin cX3_cornersJoin 1 (some .boolean), Cond.fieldLink RX3 18 "BlobRuns$Picture" "joinedBy" "I", Cond.methodLink RX4 53 yX4_joinToRowAbove, Cond.instanceMethod yX4_joinToRowAbove, Cond.selects RX4 yX4_joinToRowAbove yX4_joinToRowAbove, Cond.code yX4_joinToRowAbove cX4_joinToRowAbove 8 none, Cond.methodLink RX4 75 yX4_firstOfColour, Cond.instanceMethod yX4_firstOfColour, Cond.selects RX4 yX4_firstOfColour yX4_firstOfColour, Cond.code yX4_firstOfColour cX4_firstOfColour 4 (some .int), Cond.methodLink RX4 82 yX4_isDark, Cond.instanceMethod yX4_isDark, Cond.selects RX4 yX4_isDark yX4_isDark, Cond.code yX4_isDark cX4_isDark 2 (some .boolean), Cond.methodLink RX4 63 yX4_start, Cond.instanceMethod yX4_start, Cond.selects RX4 yX4_start yX4_start, Cond.code yX4_start cX4_start 2 (some .int), Cond.methodLink RX4 60 yX4_end, Cond.instanceMethod yX4_end, Cond.selects RX4 yX4_end yX4_end, Cond.code yX4_end cX4_end 2 (some .int)]
def wsX5_hole_r4 : List Cond := [Cond.methodLink RX4 79 yX4_join, Cond.instanceMethod yX4_join, Cond.selects RX4 yX4_join yX4_join, Cond.code yX4_join cX4_join 5 none, Cond.methodLink RX4 89 Lib.Math.max.name, Cond.static Lib.Math.max.name, Cond.initialized "java/lang/Math", Cond.code Lib.Math.max.name Lib.Math.max.code 2 (some .int), Cond.methodLink RX4 95 Lib.Math.min.name, Cond.static Lib.Math.min.name, Cond.code Lib.Math.min.name Lib.Math.min.code 2 (some .int), Cond.methodLink RX4 86 yX4_leastKnown, Cond.instanceMethod yX4_leastKnown, Cond.selects RX4 yX4_leastKnown yX4_leastKnown, Cond.code yX4_leastKnown cX4_leastKnown 4 (some .int), Cond.methodLink RX4 57 yX4_settle, Cond.instanceMethod yX4_settle, Cond.selects RX4 yX4_settle yX4_settle, Cond.code yX4_settle cX4_settle 2 none, Cond.methodLink RX4 98 yX4_groupOf, Cond.instanceMethod yX4_groupOf, Cond.selects RX4 yX4_groupOf yX4_groupOf, Cond.code yX4_groupOf cX4_groupOf 2 (some .int), Cond.methodLink RX1 67 yX1_measure]
def wsX5_hole_r5 : List Cond := [Cond.instanceMethod yX1_measure, Cond.selects RX1 yX1_measure yX1_measure, Cond.code yX1_measure cX1_measure 7 none, Cond.fieldLink RX1 18 "BlobRuns$Parting" "size" "[I", Cond.fieldLink RX1 22 "BlobRuns$Parting" "rim" "[I", Cond.fieldLink RX1 25 "BlobRuns$Parting" "bottom" "[I", Cond.fieldLink RX1 28 "BlobRuns$Parting" "left" "[I", Cond.methodLink RX1 154 Lib.Math.min.name, Cond.fieldLink RX1 31 "BlobRuns$Parting" "right" "[I", Cond.methodLink RX1 114 Lib.Math.max.name, Cond.fieldLink RX1 34 "BlobRuns$Parting" "reachesRim" "[Z", Cond.methodLink RX1 79 yX4_lineOf, Cond.instanceMethod yX4_lineOf, Cond.selects RX4 yX4_lineOf yX4_lineOf, Cond.code yX4_lineOf cX4_lineOf 2 (some .int), Cond.methodLink RX1 82 yX4_start, Cond.methodLink RX1 141 yX4_end, Cond.methodLink RX1 71 yX4_groupOf, Cond.methodLink RX1 144 yX1_clear, Cond.instanceMethod yX1_clear, Cond.selects RX1 yX1_clear yX1_clear, Cond.code yX1_clear cX1_clear 3 none, Cond.methodLink RX1 147 yX4_isDark, Cond.methodLink RX1 132 yX4_columns]
def wsX5_hole_r6 : List Cond := [Cond.instanceMethod yX4_columns, Cond.selects RX4 yX4_columns yX4_columns, Cond.code yX4_columns cX4_columns 2 (some .int), Cond.methodLink RX1 151 yX3_freeSides, Cond.instanceMethod yX3_freeSides, Cond.selects RX3 yX3_freeSides yX3_freeSides, Cond.code yX3_freeSides cX3_freeSides 3 (some .int), Cond.methodLink RX3 23 yX3_line, Cond.methodLink RX3 31 yJ6_bitCount_0f7a4, Cond.static yJ6_bitCount_0f7a4, Cond.initialized RJ6, Cond.code yJ6_bitCount_0f7a4 cJ6_bitCount_0f7a4 1 (some .int), Cond.constant RJ6 265 (1431655765), Cond.constant RJ6 266 (858993459), Cond.constant RJ6 267 (252645135), Cond.methodLink RX1 75 yX1_giveNumber, Cond.instanceMethod yX1_giveNumber, Cond.selects RX1 yX1_giveNumber yX1_giveNumber, Cond.code yX1_giveNumber cX1_giveNumber 3 none, Cond.fieldLink RX1 38 "BlobRuns$Parting" "number" "[I", Cond.fieldLink RX1 41 "BlobRuns$Parting" "partGroup" "[I", Cond.fieldLink RX1 44 "BlobRuns$Parting" "holeGroup" "[I", Cond.methodLink RX5 159 yX1_hasHole, Cond.instanceMethod yX1_hasHole]
def wsX5_hole_r7 : List Cond := [Cond.selects RX1 yX1_hasHole yX1_hasHole, Cond.code yX1_hasHole cX1_hasHole 2 (some .boolean), Cond.methodLink RX5 162 yX1_groupOfHole, Cond.instanceMethod yX1_groupOfHole, Cond.selects RX1 yX1_groupOfHole yX1_groupOfHole, Cond.code yX1_groupOfHole cX1_groupOfHole 2 (some .int), Cond.methodLink RX5 129 yX1_sizeOf, Cond.instanceMethod yX1_sizeOf, Cond.selects RX1 yX1_sizeOf yX1_sizeOf, Cond.code yX1_sizeOf cX1_sizeOf 2 (some .int), Cond.methodLink RX5 165 yX1_partAround, Cond.instanceMethod yX1_partAround, Cond.selects RX1 yX1_partAround yX1_partAround, Cond.code yX1_partAround cX1_partAround 3 (some .int), Cond.methodLink RX1 96 yX1_groupOfHole, Cond.methodLink RX1 99 yX1_partAt, Cond.instanceMethod yX1_partAt, Cond.selects RX1 yX1_partAt yX1_partAt, Cond.code yX1_partAt cX1_partAt 3 (some .int), Cond.methodLink RX1 85 yX1_numberAt, Cond.instanceMethod yX1_numberAt, Cond.selects RX1 yX1_numberAt yX1_numberAt, Cond.code yX1_numberAt cX1_numberAt 5 (some .int), Cond.static yX5_isLine]
def wsX5_hole_r8 : List Cond := [Cond.code yX5_isLine cX5_isLine 1 (some .boolean), Cond.methodLink RX1 160 yX4_runAt, Cond.instanceMethod yX4_runAt, Cond.selects RX4 yX4_runAt yX4_runAt, Cond.code yX4_runAt cX4_runAt 3 (some .int), Cond.methodLink RX4 66 yJ6_bitCount_0f7a4, Cond.methodLink RX5 168 yX1_partsInHole, Cond.instanceMethod yX1_partsInHole, Cond.selects RX1 yX1_partsInHole yX1_partsInHole, Cond.code yX1_partsInHole cX1_partsInHole 4 (some .int), Cond.methodLink RX1 102 yX1_holeAround, Cond.instanceMethod yX1_holeAround, Cond.selects RX1 yX1_holeAround yX1_holeAround, Cond.code yX1_holeAround cX1_holeAround 3 (some .int), Cond.methodLink RX1 89 yX1_groupOfPart, Cond.instanceMethod yX1_groupOfPart, Cond.selects RX1 yX1_groupOfPart yX1_groupOfPart, Cond.code yX1_groupOfPart cX1_groupOfPart 2 (some .int), Cond.methodLink RX1 92 yX1_holeAt, Cond.instanceMethod yX1_holeAt, Cond.selects RX1 yX1_holeAt yX1_holeAt, Cond.code yX1_holeAt cX1_holeAt 3 (some .int), Cond.methodLink RX5 156 yX1_leastPlaceOf, Cond.instanceMethod yX1_leastPlaceOf]
def wsX5_hole_r9 : List Cond := [Cond.selects RX1 yX1_leastPlaceOf yX1_leastPlaceOf, Cond.code yX1_leastPlaceOf cX1_leastPlaceOf 2 (some .int)]
def wsX5_hole : List Cond := .code yX5_hole cX5_hole 5 (some .int) :: ((wsX5_hole_r1 ++ (wsX5_hole_r2 ++ (wsX5_hole_r3 ++ (wsX5_hole_r4 ++ (wsX5_hole_r5 ++ (wsX5_hole_r6 ++ (wsX5_hole_r7 ++ (wsX5_hole_r8 ++ wsX5_hole_r9)))))))) ++ wsX50 ++ wsX10 ++ wsX40 ++ wsX30)
def wsX5_remember_r1 : List Cond := [Cond.fieldLink RX5 33 "BlobRuns" "past" "LBlobRuns$Past;", Cond.fieldLink RX5 12 "BlobRuns" "picture" "LBlobRuns$Picture;", Cond.fieldLink RX5 48 "BlobRuns" "stale" "Z", Cond.methodLink RX5 239 yX2_push, Cond.instanceMethod yX2_push, Cond.selects RX2 yX2_push yX2_push, Cond.initialized RX2, Cond.code yX2_push cX2_push 2 none, Cond.fieldLink RX2 9 "BlobRuns$Past" "shelf" "[I", Cond.fieldLink RX2 15 "BlobRuns$Past" "next" "I", Cond.fieldLink RX2 19 "BlobRuns$Past" "count" "I", Cond.methodLink RX2 28 Lib.Math.min.name, Cond.static Lib.Math.min.name, Cond.initialized "java/lang/Math", Cond.code Lib.Math.min.name Lib.Math.min.code 2 (some .int), Cond.methodLink RX2 22 yX3_layBy, Cond.instanceMethod yX3_layBy, Cond.selects RX3 yX3_layBy yX3_layBy, Cond.initialized RX3, Cond.code yX3_layBy cX3_layBy 3 none, Cond.fieldLink RX3 9 "BlobRuns$Picture" "rows" "[I", Cond.methodLink RX3 56 arraycopyName, Cond.native arraycopyName, Cond.static arraycopyName]
def wsX5_remember_r2 : List Cond := [Cond.initialized "java/lang/System", Cond.fieldLink RX3 18 "BlobRuns$Picture" "joinedBy" "I"]
def wsX5_remember : List Cond := .code yX5_remember cX5_remember 1 none :: ((wsX5_remember_r1 ++ wsX5_remember_r2) ++ wsX50 ++ wsX20 ++ wsX30)
def wsX5_row_r1 : List Cond := [Cond.constant RX5 92 (-1000000001), Cond.constant RX5 171 (65535), Cond.constant RX5 87 (-1000000002), Cond.fieldLink RX5 12 "BlobRuns" "picture" "LBlobRuns$Picture;", Cond.methodLink RX5 88 yX5_isLine, Cond.static yX5_isLine, Cond.initialized RX5, Cond.code yX5_isLine cX5_isLine 1 (some .boolean), Cond.methodLink RX5 172 yX5_remember, Cond.instanceMethod yX5_remember, Cond.selects RX5 yX5_remember yX5_remember, Cond.code yX5_remember cX5_remember 1 none, Cond.fieldLink RX5 33 "BlobRuns" "past" "LBlobRuns$Past;", Cond.fieldLink RX5 48 "BlobRuns" "stale" "Z", Cond.methodLink RX5 239 yX2_push, Cond.instanceMethod yX2_push, Cond.selects RX2 yX2_push yX2_push, Cond.initialized RX2, Cond.code yX2_push cX2_push 2 none, Cond.fieldLink RX2 9 "BlobRuns$Past" "shelf" "[I", Cond.fieldLink RX2 15 "BlobRuns$Past" "next" "I", Cond.fieldLink RX2 19 "BlobRuns$Past" "count" "I", Cond.methodLink RX2 28 Lib.Math.min.name, Cond.static Lib.Math.min.name]
def wsX5_row_r2 : List Cond := [Cond.initialized "java/lang/Math", Cond.code Lib.Math.min.name Lib.Math.min.code 2 (some .int), Cond.methodLink RX2 22 yX3_layBy, Cond.instanceMethod yX3_layBy, Cond.selects RX3 yX3_layBy yX3_layBy, Cond.initialized RX3, Cond.code yX3_layBy cX3_layBy 3 none, Cond.fieldLink RX3 9 "BlobRuns$Picture" "rows" "[I", Cond.methodLink RX3 56 arraycopyName, Cond.native arraycopyName, Cond.static arraycopyName, Cond.initialized "java/lang/System", Cond.fieldLink RX3 18 "BlobRuns$Picture" "joinedBy" "I", Cond.methodLink RX5 175 yX3_putLine, Cond.instanceMethod yX3_putLine, Cond.selects RX3 yX3_putLine yX3_putLine, Cond.code yX3_putLine cX3_putLine 3 none, Cond.constant RX3 22 (65535), Cond.methodLink RX5 59 yX5_parted, Cond.instanceMethod yX5_parted, Cond.selects RX5 yX5_parted yX5_parted, Cond.code yX5_parted cX5_parted 1 (some (.object "BlobRuns$Parting")), Cond.fieldLink RX5 19 "BlobRuns" "parting" "LBlobRuns$Parting;", Cond.methodLink RX5 235 yX1_read]
def wsX5_row_r3 : List Cond := [Cond.instanceMethod yX1_read, Cond.selects RX1 yX1_read yX1_read, Cond.initialized RX1, Cond.code yX1_read cX1_read 3 none, Cond.fieldLink RX1 12 "BlobRuns$Parting" "runs" "LBlobRuns$Runs;", Cond.fieldLink RX1 50 "BlobRuns$Parting" "partCount" "I", Cond.fieldLink RX1 54 "BlobRuns$Parting" "holeCount" "I", Cond.fieldLink RX1 57 "BlobRuns$Parting" "lightCount" "I", Cond.methodLink RX1 60 yX4_read, Cond.instanceMethod yX4_read, Cond.selects RX4 yX4_read yX4_read, Cond.initialized RX4, Cond.code yX4_read cX4_read 4 none, Cond.fieldLink RX4 34 "BlobRuns$Runs" "count" "I", Cond.fieldLink RX4 9 "BlobRuns$Runs" "first" "[I", Cond.fieldLink RX4 15 "BlobRuns$Runs" "changes" "[I", Cond.constant RX4 44 (65534), Cond.methodLink RX4 38 yX3_line, Cond.instanceMethod yX3_line, Cond.selects RX3 yX3_line yX3_line, Cond.code yX3_line cX3_line 2 (some .int), Cond.methodLink RX4 45 yX4_cut, Cond.instanceMethod yX4_cut, Cond.selects RX4 yX4_cut yX4_cut]
def wsX5_row_r4 : List Cond := [Cond.code yX4_cut cX4_cut 5 none, Cond.methodLink RX4 71 yX4_add, Cond.instanceMethod yX4_add, Cond.selects RX4 yX4_add yX4_add, Cond.code yX4_add cX4_add 6 none, Cond.fieldLink RX4 24 "BlobRuns$Runs" "rowOf" "[I", Cond.fieldLink RX4 18 "BlobRuns$Runs" "startOf" "[I", Cond.fieldLink RX4 21 "BlobRuns$Runs" "endOf" "[I", Cond.fieldLink RX4 27 "BlobRuns$Runs" "dark" "[Z", Cond.fieldLink RX4 31 "BlobRuns$Runs" "towards" "[I", Cond.methodLink RX4 49 yX3_cornersJoin, Cond.instanceMethod yX3_cornersJoin, Cond.selects RX3 yX3_cornersJoin yX3_cornersJoin, Cond.code yX3_cornersJoin cX3_cornersJoin 1 (some .boolean), Cond.methodLink RX4 53 yX4_joinToRowAbove, Cond.instanceMethod yX4_joinToRowAbove, Cond.selects RX4 yX4_joinToRowAbove yX4_joinToRowAbove, Cond.code yX4_joinToRowAbove cX4_joinToRowAbove 8 none, Cond.methodLink RX4 75 yX4_firstOfColour, Cond.instanceMethod yX4_firstOfColour, Cond.selects RX4 yX4_firstOfColour yX4_firstOfColour, Cond.code yX4_firstOfColour cX4_firstOfColour 4 (some .int), Cond.methodLink RX4 82 yX4_isDark, Cond.instanceMethod yX4_isDark]
def wsX5_row_r5 : List Cond := [Cond.selects RX4 yX4_isDark yX4_isDark, Cond.code yX4_isDark cX4_isDark 2 (some .boolean), Cond.methodLink RX4 63 yX4_start, Cond.instanceMethod yX4_start, Cond.selects RX4 yX4_start yX4_start, Cond.code yX4_start cX4_start 2 (some .int), Cond.methodLink RX4 60 yX4_end, Cond.instanceMethod yX4_end, Cond.selects RX4 yX4_end yX4_end, Cond.code yX4_end cX4_end 2 (some .int), Cond.methodLink RX4 79 yX4_join, Cond.instanceMethod yX4_join, Cond.selects RX4 yX4_join yX4_join, Cond.code yX4_join cX4_join 5 none, Cond.methodLink RX4 89 Lib.Math.max.name, Cond.static Lib.Math.max.name, Cond.code Lib.Math.max.name Lib.Math.max.code 2 (some .int), Cond.methodLink RX4 95 Lib.Math.min.name, Cond.methodLink RX4 86 yX4_leastKnown, Cond.instanceMethod yX4_leastKnown, Cond.selects RX4 yX4_leastKnown yX4_leastKnown, Cond.code yX4_leastKnown cX4_leastKnown 4 (some .int), Cond.methodLink RX4 57 yX4_settle, Cond.instanceMethod yX4_settle]
def wsX5_row_r6 : List Cond := [Cond.selects RX4 yX4_settle yX4_settle, Cond.code yX4_settle cX4_settle 2 none, Cond.methodLink RX4 98 yX4_groupOf, Cond.instanceMethod yX4_groupOf, Cond.selects RX4 yX4_groupOf yX4_groupOf, Cond.code yX4_groupOf cX4_groupOf 2 (some .int), Cond.methodLink RX1 67 yX1_measure, Cond.instanceMethod yX1_measure, Cond.selects RX1 yX1_measure yX1_measure, Cond.code yX1_measure cX1_measure 7 none, Cond.fieldLink RX1 18 "BlobRuns$Parting" "size" "[I", Cond.fieldLink RX1 22 "BlobRuns$Parting" "rim" "[I", Cond.fieldLink RX1 25 "BlobRuns$Parting" "bottom" "[I", Cond.fieldLink RX1 28 "BlobRuns$Parting" "left" "[I", Cond.methodLink RX1 154 Lib.Math.min.name, Cond.fieldLink RX1 31 "BlobRuns$Parting" "right" "[I", Cond.methodLink RX1 114 Lib.Math.max.name, Cond.fieldLink RX1 34 "BlobRuns$Parting" "reachesRim" "[Z", Cond.methodLink RX1 79 yX4_lineOf, Cond.instanceMethod yX4_lineOf, Cond.selects RX4 yX4_lineOf yX4_lineOf, Cond.code yX4_lineOf cX4_lineOf 2 (some .int), Cond.methodLink RX1 82 yX4_start, Cond.methodLink RX1 141 yX4_end]
def wsX5_row_r7 : List Cond := [Cond.methodLink RX1 71 yX4_groupOf, Cond.methodLink RX1 144 yX1_clear, Cond.instanceMethod yX1_clear, Cond.selects RX1 yX1_clear yX1_clear, Cond.code yX1_clear cX1_clear 3 none, Cond.methodLink RX1 147 yX4_isDark, Cond.methodLink RX1 132 yX4_columns, Cond.instanceMethod yX4_columns, Cond.selects RX4 yX4_columns yX4_columns, Cond.code yX4_columns cX4_columns 2 (some .int), Cond.methodLink RX1 151 yX3_freeSides, Cond.instanceMethod yX3_freeSides, Cond.selects RX3 yX3_freeSides yX3_freeSides, Cond.code yX3_freeSides cX3_freeSides 3 (some .int), Cond.methodLink RX3 23 yX3_line, Cond.methodLink RX3 31 yJ6_bitCount_0f7a4, Cond.static yJ6_bitCount_0f7a4, Cond.initialized RJ6, Cond.code yJ6_bitCount_0f7a4 cJ6_bitCount_0f7a4 1 (some .int), Cond.constant RJ6 265 (1431655765), Cond.constant RJ6 266 (858993459), Cond.constant RJ6 267 (252645135), Cond.methodLink RX1 75 yX1_giveNumber, Cond.instanceMethod yX1_giveNumber]
def wsX5_row_r8 : List Cond := [Cond.selects RX1 yX1_giveNumber yX1_giveNumber, Cond.code yX1_giveNumber cX1_giveNumber 3 none, Cond.fieldLink RX1 38 "BlobRuns$Parting" "number" "[I", Cond.fieldLink RX1 41 "BlobRuns$Parting" "partGroup" "[I", Cond.fieldLink RX1 44 "BlobRuns$Parting" "holeGroup" "[I"]
def wsX5_row : List Cond := .code yX5_row cX5_row 3 (some .int) :: ((wsX5_row_r1 ++ (wsX5_row_r2 ++ (wsX5_row_r3 ++ (wsX5_row_r4 ++ (wsX5_row_r5 ++ (wsX5_row_r6 ++ (wsX5_row_r7 ++ wsX5_row_r8))))))) ++ wsX50 ++ wsX10 ++ wsX20 ++ wsX30 ++ wsX40)
def wsX5_turn_r1 : List Cond := [Cond.constant RX5 92 (-1000000001), Cond.fieldLink RX5 12 "BlobRuns" "picture" "LBlobRuns$Picture;", Cond.methodLink RX5 88 yX5_isLine, Cond.static yX5_isLine, Cond.initialized RX5, Cond.code yX5_isLine cX5_isLine 1 (some .boolean), Cond.methodLink RX5 172 yX5_remember, Cond.instanceMethod yX5_remember, Cond.selects RX5 yX5_remember yX5_remember, Cond.code yX5_remember cX5_remember 1 none, Cond.fieldLink RX5 33 "BlobRuns" "past" "LBlobRuns$Past;", Cond.fieldLink RX5 48 "BlobRuns" "stale" "Z", Cond.methodLink RX5 239 yX2_push, Cond.instanceMethod yX2_push, Cond.selects RX2 yX2_push yX2_push, Cond.initialized RX2, Cond.code yX2_push cX2_push 2 none, Cond.fieldLink RX2 9 "BlobRuns$Past" "shelf" "[I", Cond.fieldLink RX2 15 "BlobRuns$Past" "next" "I", Cond.fieldLink RX2 19 "BlobRuns$Past" "count" "I", Cond.methodLink RX2 28 Lib.Math.min.name, Cond.static Lib.Math.min.name, Cond.initialized "java/lang/Math", Cond.code Lib.Math.min.name Lib.Math.min.code 2 (some .int)]
def wsX5_turn_r2 : List Cond := [Cond.methodLink RX2 22 yX3_layBy, Cond.instanceMethod yX3_layBy, Cond.selects RX3 yX3_layBy yX3_layBy, Cond.initialized RX3, Cond.code yX3_layBy cX3_layBy 3 none, Cond.fieldLink RX3 9 "BlobRuns$Picture" "rows" "[I", Cond.methodLink RX3 56 arraycopyName, Cond.native arraycopyName, Cond.static arraycopyName, Cond.initialized "java/lang/System", Cond.fieldLink RX3 18 "BlobRuns$Picture" "joinedBy" "I", Cond.methodLink RX5 179 yX3_flip, Cond.instanceMethod yX3_flip, Cond.selects RX3 yX3_flip yX3_flip, Cond.code yX3_flip cX3_flip 3 none, Cond.methodLink RX3 23 yX3_line, Cond.instanceMethod yX3_line, Cond.selects RX3 yX3_line yX3_line, Cond.code yX3_line cX3_line 2 (some .int), Cond.methodLink RX3 27 yX3_putLine, Cond.instanceMethod yX3_putLine, Cond.selects RX3 yX3_putLine yX3_putLine, Cond.code yX3_putLine cX3_putLine 3 none, Cond.constant RX3 22 (65535)]
def wsX5_turn_r3 : List Cond := [Cond.methodLink RX5 100 yX3_isDark, Cond.instanceMethod yX3_isDark, Cond.selects RX3 yX3_isDark yX3_isDark, Cond.code yX3_isDark cX3_isDark 3 (some .boolean)]
def wsX5_turn : List Cond := .code yX5_turn cX5_turn 3 (some .int) :: ((wsX5_turn_r1 ++ (wsX5_turn_r2 ++ wsX5_turn_r3)) ++ wsX50 ++ wsX20 ++ wsX30)
def wsX5_flipGroup_r1 : List Cond := [Cond.fieldLink RX5 19 "BlobRuns" "parting" "LBlobRuns$Parting;", Cond.fieldLink RX5 12 "BlobRuns" "picture" "LBlobRuns$Picture;", Cond.methodLink RX5 172 yX5_remember, Cond.instanceMethod yX5_remember, Cond.selects RX5 yX5_remember yX5_remember, Cond.initialized RX5, Cond.code yX5_remember cX5_remember 1 none, Cond.fieldLink RX5 33 "BlobRuns" "past" "LBlobRuns$Past;", Cond.fieldLink RX5 48 "BlobRuns" "stale" "Z", Cond.methodLink RX5 239 yX2_push, Cond.instanceMethod yX2_push, Cond.selects RX2 yX2_push yX2_push, Cond.initialized RX2, Cond.code yX2_push cX2_push 2 none, Cond.fieldLink RX2 9 "BlobRuns$Past" "shelf" "[I", Cond.fieldLink RX2 15 "BlobRuns$Past" "next" "I", Cond.fieldLink RX2 19 "BlobRuns$Past" "count" "I", Cond.methodLink RX2 28 Lib.Math.min.name, Cond.static Lib.Math.min.name, Cond.initialized "java/lang/Math", Cond.code Lib.Math.min.name Lib.Math.min.code 2 (some .int), Cond.methodLink RX2 22 yX3_layBy, Cond.instanceMethod yX3_layBy, Cond.selects RX3 yX3_layBy yX3_layBy]
def wsX5_flipGroup_r2 : List Cond := [Cond.initialized RX3, Cond.code yX3_layBy cX3_layBy 3 none, Cond.fieldLink RX3 9 "BlobRuns$Picture" "rows" "[I", Cond.methodLink RX3 56 arraycopyName, Cond.native arraycopyName, Cond.static arraycopyName, Cond.initialized "java/lang/System", Cond.fieldLink RX3 18 "BlobRuns$Picture" "joinedBy" "I", Cond.methodLink RX5 242 yX1_flipDotsOf, Cond.instanceMethod yX1_flipDotsOf, Cond.selects RX1 yX1_flipDotsOf yX1_flipDotsOf, Cond.initialized RX1, Cond.code yX1_flipDotsOf cX1_flipDotsOf 4 none, Cond.fieldLink RX1 12 "BlobRuns$Parting" "runs" "LBlobRuns$Runs;", Cond.methodLink RX1 71 yX4_groupOf, Cond.instanceMethod yX4_groupOf, Cond.selects RX4 yX4_groupOf yX4_groupOf, Cond.initialized RX4, Cond.code yX4_groupOf cX4_groupOf 2 (some .int), Cond.fieldLink RX4 31 "BlobRuns$Runs" "towards" "[I", Cond.methodLink RX1 79 yX4_lineOf, Cond.instanceMethod yX4_lineOf, Cond.selects RX4 yX4_lineOf yX4_lineOf, Cond.code yX4_lineOf cX4_lineOf 2 (some .int)]
def wsX5_flipGroup_r3 : List Cond := [Cond.fieldLink RX4 24 "BlobRuns$Runs" "rowOf" "[I", Cond.methodLink RX1 132 yX4_columns, Cond.instanceMethod yX4_columns, Cond.selects RX4 yX4_columns yX4_columns, Cond.code yX4_columns cX4_columns 2 (some .int), Cond.methodLink RX4 60 yX4_end, Cond.instanceMethod yX4_end, Cond.selects RX4 yX4_end yX4_end, Cond.code yX4_end cX4_end 2 (some .int), Cond.fieldLink RX4 21 "BlobRuns$Runs" "endOf" "[I", Cond.methodLink RX4 63 yX4_start, Cond.instanceMethod yX4_start, Cond.selects RX4 yX4_start yX4_start, Cond.code yX4_start cX4_start 2 (some .int), Cond.fieldLink RX4 18 "BlobRuns$Runs" "startOf" "[I", Cond.methodLink RX1 135 yX3_flip, Cond.instanceMethod yX3_flip, Cond.selects RX3 yX3_flip yX3_flip, Cond.code yX3_flip cX3_flip 3 none, Cond.methodLink RX3 23 yX3_line, Cond.instanceMethod yX3_line, Cond.selects RX3 yX3_line yX3_line, Cond.code yX3_line cX3_line 2 (some .int), Cond.methodLink RX3 27 yX3_putLine]
def wsX5_flipGroup_r4 : List Cond := [Cond.instanceMethod yX3_putLine, Cond.selects RX3 yX3_putLine yX3_putLine, Cond.code yX3_putLine cX3_putLine 3 none, Cond.constant RX3 22 (65535), Cond.methodLink RX5 129 yX1_sizeOf, Cond.instanceMethod yX1_sizeOf, Cond.selects RX1 yX1_sizeOf yX1_sizeOf, Cond.code yX1_sizeOf cX1_sizeOf 2 (some .int), Cond.fieldLink RX1 18 "BlobRuns$Parting" "size" "[I"]
def wsX5_flipGroup : List Cond := .code yX5_flipGroup cX5_flipGroup 2 (some .int) :: ((wsX5_flipGroup_r1 ++ (wsX5_flipGroup_r2 ++ (wsX5_flipGroup_r3 ++ wsX5_flipGroup_r4))) ++ wsX50 ++ wsX20 ++ wsX30 ++ wsX10 ++ wsX40)
def wsX5_wipe_r1 : List Cond := [Cond.constant RX5 92 (-1000000001), Cond.methodLink RX5 59 yX5_parted, Cond.instanceMethod yX5_parted, Cond.selects RX5 yX5_parted yX5_parted, Cond.initialized RX5, Cond.code yX5_parted cX5_parted 1 (some (.object "BlobRuns$Parting")), Cond.fieldLink RX5 48 "BlobRuns" "stale" "Z", Cond.fieldLink RX5 19 "BlobRuns" "parting" "LBlobRuns$Parting;", Cond.fieldLink RX5 12 "BlobRuns" "picture" "LBlobRuns$Picture;", Cond.methodLink RX5 235 yX1_read, Cond.instanceMethod yX1_read, Cond.selects RX1 yX1_read yX1_read, Cond.initialized RX1, Cond.code yX1_read cX1_read 3 none, Cond.fieldLink RX1 12 "BlobRuns$Parting" "runs" "LBlobRuns$Runs;", Cond.fieldLink RX1 50 "BlobRuns$Parting" "partCount" "I", Cond.fieldLink RX1 54 "BlobRuns$Parting" "holeCount" "I", Cond.fieldLink RX1 57 "BlobRuns$Parting" "lightCount" "I", Cond.methodLink RX1 60 yX4_read, Cond.instanceMethod yX4_read, Cond.selects RX4 yX4_read yX4_read, Cond.initialized RX4, Cond.code yX4_read cX4_read 4 none, Cond.fieldLink RX4 34 "BlobRuns$Runs" "count" "I"]
def wsX5_wipe_r2 : List Cond := [Cond.fieldLink RX4 9 "BlobRuns$Runs" "first" "[I", Cond.fieldLink RX4 15 "BlobRuns$Runs" "changes" "[I", Cond.constant RX4 44 (65534), Cond.methodLink RX4 38 yX3_line, Cond.instanceMethod yX3_line, Cond.selects RX3 yX3_line yX3_line, Cond.initialized RX3, Cond.code yX3_line cX3_line 2 (some .int), Cond.fieldLink RX3 9 "BlobRuns$Picture" "rows" "[I", Cond.methodLink RX4 45 yX4_cut, Cond.instanceMethod yX4_cut, Cond.selects RX4 yX4_cut yX4_cut, Cond.code yX4_cut cX4_cut 5 none, Cond.methodLink RX4 71 yX4_add, Cond.instanceMethod yX4_add, Cond.selects RX4 yX4_add yX4_add, Cond.code yX4_add cX4_add 6 none, Cond.fieldLink RX4 24 "BlobRuns$Runs" "rowOf" "[I", Cond.fieldLink RX4 18 "BlobRuns$Runs" "startOf" "[I", Cond.fieldLink RX4 21 "BlobRuns$Runs" "endOf" "[I", Cond.fieldLink RX4 27 "BlobRuns$Runs" "dark" "[Z", Cond.fieldLink RX4 31 "BlobRuns$Runs" "towards" "[I", Cond.methodLink RX4 49 yX3_cornersJoin, Cond.instanceMethod yX3_cornersJoin]
def wsX5_wipe_r3 : List Cond := [Cond.selects RX3 yX3_cornersJoin yX3_cornersJoin, Cond.code yX3_cornersJoin cX3_cornersJoin 1 (some .boolean), Cond.fieldLink RX3 18 "BlobRuns$Picture" "joinedBy" "I", Cond.methodLink RX4 53 yX4_joinToRowAbove, Cond.instanceMethod yX4_joinToRowAbove, Cond.selects RX4 yX4_joinToRowAbove yX4_joinToRowAbove, Cond.code yX4_joinToRowAbove cX4_joinToRowAbove 8 none, Cond.methodLink RX4 75 yX4_firstOfColour, Cond.instanceMethod yX4_firstOfColour, Cond.selects RX4 yX4_firstOfColour yX4_firstOfColour, Cond.code yX4_firstOfColour cX4_firstOfColour 4 (some .int), Cond.methodLink RX4 82 yX4_isDark, Cond.instanceMethod yX4_isDark, Cond.selects RX4 yX4_isDark yX4_isDark, Cond.code yX4_isDark cX4_isDark 2 (some .boolean), Cond.methodLink RX4 63 yX4_start, Cond.instanceMethod yX4_start, Cond.selects RX4 yX4_start yX4_start, Cond.code yX4_start cX4_start 2 (some .int), Cond.methodLink RX4 60 yX4_end, Cond.instanceMethod yX4_end, Cond.selects RX4 yX4_end yX4_end, Cond.code yX4_end cX4_end 2 (some .int), Cond.methodLink RX4 79 yX4_join]
def wsX5_wipe_r4 : List Cond := [Cond.instanceMethod yX4_join, Cond.selects RX4 yX4_join yX4_join, Cond.code yX4_join cX4_join 5 none, Cond.methodLink RX4 89 Lib.Math.max.name, Cond.static Lib.Math.max.name, Cond.initialized "java/lang/Math", Cond.code Lib.Math.max.name Lib.Math.max.code 2 (some .int), Cond.methodLink RX4 95 Lib.Math.min.name, Cond.static Lib.Math.min.name, Cond.code Lib.Math.min.name Lib.Math.min.code 2 (some .int), Cond.methodLink RX4 86 yX4_leastKnown, Cond.instanceMethod yX4_leastKnown, Cond.selects RX4 yX4_leastKnown yX4_leastKnown, Cond.code yX4_leastKnown cX4_leastKnown 4 (some .int), Cond.methodLink RX4 57 yX4_settle, Cond.instanceMethod yX4_settle, Cond.selects RX4 yX4_settle yX4_settle, Cond.code yX4_settle cX4_settle 2 none, Cond.methodLink RX4 98 yX4_groupOf, Cond.instanceMethod yX4_groupOf, Cond.selects RX4 yX4_groupOf yX4_groupOf, Cond.code yX4_groupOf cX4_groupOf 2 (some .int), Cond.methodLink RX1 67 yX1_measure, Cond.instanceMethod yX1_measure]
def wsX5_wipe_r5 : List Cond := [Cond.selects RX1 yX1_measure yX1_measure, Cond.code yX1_measure cX1_measure 7 none, Cond.fieldLink RX1 18 "BlobRuns$Parting" "size" "[I", Cond.fieldLink RX1 22 "BlobRuns$Parting" "rim" "[I", Cond.fieldLink RX1 25 "BlobRuns$Parting" "bottom" "[I", Cond.fieldLink RX1 28 "BlobRuns$Parting" "left" "[I", Cond.methodLink RX1 154 Lib.Math.min.name, Cond.fieldLink RX1 31 "BlobRuns$Parting" "right" "[I", Cond.methodLink RX1 114 Lib.Math.max.name, Cond.fieldLink RX1 34 "BlobRuns$Parting" "reachesRim" "[Z", Cond.methodLink RX1 79 yX4_lineOf, Cond.instanceMethod yX4_lineOf, Cond.selects RX4 yX4_lineOf yX4_lineOf, Cond.code yX4_lineOf cX4_lineOf 2 (some .int), Cond.methodLink RX1 82 yX4_start, Cond.methodLink RX1 141 yX4_end, Cond.methodLink RX1 71 yX4_groupOf, Cond.methodLink RX1 144 yX1_clear, Cond.instanceMethod yX1_clear, Cond.selects RX1 yX1_clear yX1_clear, Cond.code yX1_clear cX1_clear 3 none, Cond.methodLink RX1 147 yX4_isDark, Cond.methodLink RX1 132 yX4_columns, Cond.instanceMethod yX4_columns]
def wsX5_wipe_r6 : List Cond := [Cond.selects RX4 yX4_columns yX4_columns, Cond.code yX4_columns cX4_columns 2 (some .int), Cond.methodLink RX1 151 yX3_freeSides, Cond.instanceMethod yX3_freeSides, Cond.selects RX3 yX3_freeSides yX3_freeSides, Cond.code yX3_freeSides cX3_freeSides 3 (some .int), Cond.methodLink RX3 23 yX3_line, Cond.methodLink RX3 31 yJ6_bitCount_0f7a4, Cond.static yJ6_bitCount_0f7a4, Cond.initialized RJ6, Cond.code yJ6_bitCount_0f7a4 cJ6_bitCount_0f7a4 1 (some .int), Cond.constant RJ6 265 (1431655765), Cond.constant RJ6 266 (858993459), Cond.constant RJ6 267 (252645135), Cond.methodLink RX1 75 yX1_giveNumber, Cond.instanceMethod yX1_giveNumber, Cond.selects RX1 yX1_giveNumber yX1_giveNumber, Cond.code yX1_giveNumber cX1_giveNumber 3 none, Cond.fieldLink RX1 38 "BlobRuns$Parting" "number" "[I", Cond.fieldLink RX1 41 "BlobRuns$Parting" "partGroup" "[I", Cond.fieldLink RX1 44 "BlobRuns$Parting" "holeGroup" "[I", Cond.methodLink RX5 123 yX1_hasPart, Cond.instanceMethod yX1_hasPart, Cond.selects RX1 yX1_hasPart yX1_hasPart]
def wsX5_wipe_r7 : List Cond := [Cond.code yX1_hasPart cX1_hasPart 2 (some .boolean), Cond.methodLink RX5 126 yX1_groupOfPart, Cond.instanceMethod yX1_groupOfPart, Cond.selects RX1 yX1_groupOfPart yX1_groupOfPart, Cond.code yX1_groupOfPart cX1_groupOfPart 2 (some .int), Cond.methodLink RX5 182 yX5_flipGroup, Cond.instanceMethod yX5_flipGroup, Cond.selects RX5 yX5_flipGroup yX5_flipGroup, Cond.code yX5_flipGroup cX5_flipGroup 2 (some .int), Cond.methodLink RX5 172 yX5_remember, Cond.instanceMethod yX5_remember, Cond.selects RX5 yX5_remember yX5_remember, Cond.code yX5_remember cX5_remember 1 none, Cond.fieldLink RX5 33 "BlobRuns" "past" "LBlobRuns$Past;", Cond.methodLink RX5 239 yX2_push, Cond.instanceMethod yX2_push, Cond.selects RX2 yX2_push yX2_push, Cond.initialized RX2, Cond.code yX2_push cX2_push 2 none, Cond.fieldLink RX2 9 "BlobRuns$Past" "shelf" "[I", Cond.fieldLink RX2 15 "BlobRuns$Past" "next" "I", Cond.fieldLink RX2 19 "BlobRuns$Past" "count" "I", Cond.methodLink RX2 28 Lib.Math.min.name, Cond.methodLink RX2 22 yX3_layBy]
def wsX5_wipe_r8 : List Cond := [Cond.instanceMethod yX3_layBy, Cond.selects RX3 yX3_layBy yX3_layBy, Cond.code yX3_layBy cX3_layBy 3 none, Cond.methodLink RX3 56 arraycopyName, Cond.native arraycopyName, Cond.static arraycopyName, Cond.initialized "java/lang/System", Cond.methodLink RX5 242 yX1_flipDotsOf, Cond.instanceMethod yX1_flipDotsOf, Cond.selects RX1 yX1_flipDotsOf yX1_flipDotsOf, Cond.code yX1_flipDotsOf cX1_flipDotsOf 4 none, Cond.methodLink RX1 135 yX3_flip, Cond.instanceMethod yX3_flip, Cond.selects RX3 yX3_flip yX3_flip, Cond.code yX3_flip cX3_flip 3 none, Cond.methodLink RX3 27 yX3_putLine, Cond.instanceMethod yX3_putLine, Cond.selects RX3 yX3_putLine yX3_putLine, Cond.code yX3_putLine cX3_putLine 3 none, Cond.constant RX3 22 (65535), Cond.methodLink RX5 129 yX1_sizeOf, Cond.instanceMethod yX1_sizeOf, Cond.selects RX1 yX1_sizeOf yX1_sizeOf, Cond.code yX1_sizeOf cX1_sizeOf 2 (some .int)]
def wsX5_wipe : List Cond := .code yX5_wipe cX5_wipe 3 (some .int) :: ((wsX5_wipe_r1 ++ (wsX5_wipe_r2 ++ (wsX5_wipe_r3 ++ (wsX5_wipe_r4 ++ (wsX5_wipe_r5 ++ (wsX5_wipe_r6 ++ (wsX5_wipe_r7 ++ wsX5_wipe_r8))))))) ++ wsX50 ++ wsX10 ++ wsX40 ++ wsX30 ++ wsX20)
def wsX5_fill_r1 : List Cond := [Cond.constant RX5 92 (-1000000001), Cond.methodLink RX5 59 yX5_parted, Cond.instanceMethod yX5_parted, Cond.selects RX5 yX5_parted yX5_parted, Cond.initialized RX5, Cond.code yX5_parted cX5_parted 1 (some (.object "BlobRuns$Parting")), Cond.fieldLink RX5 48 "BlobRuns" "stale" "Z", Cond.fieldLink RX5 19 "BlobRuns" "parting" "LBlobRuns$Parting;", Cond.fieldLink RX5 12 "BlobRuns" "picture" "LBlobRuns$Picture;", Cond.methodLink RX5 235 yX1_read, Cond.instanceMethod yX1_read, Cond.selects RX1 yX1_read yX1_read, Cond.initialized RX1, Cond.code yX1_read cX1_read 3 none, Cond.fieldLink RX1 12 "BlobRuns$Parting" "runs" "LBlobRuns$Runs;", Cond.fieldLink RX1 50 "BlobRuns$Parting" "partCount" "I", Cond.fieldLink RX1 54 "BlobRuns$Parting" "holeCount" "I", Cond.fieldLink RX1 57 "BlobRuns$Parting" "lightCount" "I", Cond.methodLink RX1 60 yX4_read, Cond.instanceMethod yX4_read, Cond.selects RX4 yX4_read yX4_read, Cond.initialized RX4, Cond.code yX4_read cX4_read 4 none, Cond.fieldLink RX4 34 "BlobRuns$Runs" "count" "I"]
def wsX5_fill_r2 : List Cond := [Cond.fieldLink RX4 9 "BlobRuns$Runs" "first" "[I", Cond.fieldLink RX4 15 "BlobRuns$Runs" "changes" "[I", Cond.constant RX4 44 (65534), Cond.methodLink RX4 38 yX3_line, Cond.instanceMethod yX3_line, Cond.selects RX3 yX3_line yX3_line, Cond.initialized RX3, Cond.code yX3_line cX3_line 2 (some .int), Cond.fieldLink RX3 9 "BlobRuns$Picture" "rows" "[I", Cond.methodLink RX4 45 yX4_cut, Cond.instanceMethod yX4_cut, Cond.selects RX4 yX4_cut yX4_cut, Cond.code yX4_cut cX4_cut 5 none, Cond.methodLink RX4 71 yX4_add, Cond.instanceMethod yX4_add, Cond.selects RX4 yX4_add yX4_add, Cond.code yX4_add cX4_add 6 none, Cond.fieldLink RX4 24 "BlobRuns$Runs" "rowOf" "[I", Cond.fieldLink RX4 18 "BlobRuns$Runs" "startOf" "[I", Cond.fieldLink RX4 21 "BlobRuns$Runs" "endOf" "[I", Cond.fieldLink RX4 27 "BlobRuns$Runs" "dark" "[Z", Cond.fieldLink RX4 31 "BlobRuns$Runs" "towards" "[I", Cond.methodLink RX4 49 yX3_cornersJoin, Cond.instanceMethod yX3_cornersJoin]
def wsX5_fill_r3 : List Cond := [Cond.selects RX3 yX3_cornersJoin yX3_cornersJoin, Cond.code yX3_cornersJoin cX3_cornersJoin 1 (some .boolean), Cond.fieldLink RX3 18 "BlobRuns$Picture" "joinedBy" "I", Cond.methodLink RX4 53 yX4_joinToRowAbove, Cond.instanceMethod yX4_joinToRowAbove, Cond.selects RX4 yX4_joinToRowAbove yX4_joinToRowAbove, Cond.code yX4_joinToRowAbove cX4_joinToRowAbove 8 none, Cond.methodLink RX4 75 yX4_firstOfColour, Cond.instanceMethod yX4_firstOfColour, Cond.selects RX4 yX4_firstOfColour yX4_firstOfColour, Cond.code yX4_firstOfColour cX4_firstOfColour 4 (some .int), Cond.methodLink RX4 82 yX4_isDark, Cond.instanceMethod yX4_isDark, Cond.selects RX4 yX4_isDark yX4_isDark, Cond.code yX4_isDark cX4_isDark 2 (some .boolean), Cond.methodLink RX4 63 yX4_start, Cond.instanceMethod yX4_start, Cond.selects RX4 yX4_start yX4_start, Cond.code yX4_start cX4_start 2 (some .int), Cond.methodLink RX4 60 yX4_end, Cond.instanceMethod yX4_end, Cond.selects RX4 yX4_end yX4_end, Cond.code yX4_end cX4_end 2 (some .int), Cond.methodLink RX4 79 yX4_join]
def wsX5_fill_r4 : List Cond := [Cond.instanceMethod yX4_join, Cond.selects RX4 yX4_join yX4_join, Cond.code yX4_join cX4_join 5 none, Cond.methodLink RX4 89 Lib.Math.max.name, Cond.static Lib.Math.max.name, Cond.initialized "java/lang/Math", Cond.code Lib.Math.max.name Lib.Math.max.code 2 (some .int), Cond.methodLink RX4 95 Lib.Math.min.name, Cond.static Lib.Math.min.name, Cond.code Lib.Math.min.name Lib.Math.min.code 2 (some .int), Cond.methodLink RX4 86 yX4_leastKnown, Cond.instanceMethod yX4_leastKnown, Cond.selects RX4 yX4_leastKnown yX4_leastKnown, Cond.code yX4_leastKnown cX4_leastKnown 4 (some .int), Cond.methodLink RX4 57 yX4_settle, Cond.instanceMethod yX4_settle, Cond.selects RX4 yX4_settle yX4_settle, Cond.code yX4_settle cX4_settle 2 none, Cond.methodLink RX4 98 yX4_groupOf, Cond.instanceMethod yX4_groupOf, Cond.selects RX4 yX4_groupOf yX4_groupOf, Cond.code yX4_groupOf cX4_groupOf 2 (some .int), Cond.methodLink RX1 67 yX1_measure, Cond.instanceMethod yX1_measure]
def wsX5_fill_r5 : List Cond := [Cond.selects RX1 yX1_measure yX1_measure, Cond.code yX1_measure cX1_measure 7 none, Cond.fieldLink RX1 18 "BlobRuns$Parting" "size" "[I", Cond.fieldLink RX1 22 "BlobRuns$Parting" "rim" "[I", Cond.fieldLink RX1 25 "BlobRuns$Parting" "bottom" "[I", Cond.fieldLink RX1 28 "BlobRuns$Parting" "left" "[I", Cond.methodLink RX1 154 Lib.Math.min.name, Cond.fieldLink RX1 31 "BlobRuns$Parting" "right" "[I", Cond.methodLink RX1 114 Lib.Math.max.name, Cond.fieldLink RX1 34 "BlobRuns$Parting" "reachesRim" "[Z", Cond.methodLink RX1 79 yX4_lineOf, Cond.instanceMethod yX4_lineOf, Cond.selects RX4 yX4_lineOf yX4_lineOf, Cond.code yX4_lineOf cX4_lineOf 2 (some .int), Cond.methodLink RX1 82 yX4_start, Cond.methodLink RX1 141 yX4_end, Cond.methodLink RX1 71 yX4_groupOf, Cond.methodLink RX1 144 yX1_clear, Cond.instanceMethod yX1_clear, Cond.selects RX1 yX1_clear yX1_clear, Cond.code yX1_clear cX1_clear 3 none, Cond.methodLink RX1 147 yX4_isDark, Cond.methodLink RX1 132 yX4_columns, Cond.instanceMethod yX4_columns]
def wsX5_fill_r6 : List Cond := [Cond.selects RX4 yX4_columns yX4_columns, Cond.code yX4_columns cX4_columns 2 (some .int), Cond.methodLink RX1 151 yX3_freeSides, Cond.instanceMethod yX3_freeSides, Cond.selects RX3 yX3_freeSides yX3_freeSides, Cond.code yX3_freeSides cX3_freeSides 3 (some .int), Cond.methodLink RX3 23 yX3_line, Cond.methodLink RX3 31 yJ6_bitCount_0f7a4, Cond.static yJ6_bitCount_0f7a4, Cond.initialized RJ6, Cond.code yJ6_bitCount_0f7a4 cJ6_bitCount_0f7a4 1 (some .int), Cond.constant RJ6 265 (1431655765), Cond.constant RJ6 266 (858993459), Cond.constant RJ6 267 (252645135), Cond.methodLink RX1 75 yX1_giveNumber, Cond.instanceMethod yX1_giveNumber, Cond.selects RX1 yX1_giveNumber yX1_giveNumber, Cond.code yX1_giveNumber cX1_giveNumber 3 none, Cond.fieldLink RX1 38 "BlobRuns$Parting" "number" "[I", Cond.fieldLink RX1 41 "BlobRuns$Parting" "partGroup" "[I", Cond.fieldLink RX1 44 "BlobRuns$Parting" "holeGroup" "[I", Cond.methodLink RX5 159 yX1_hasHole, Cond.instanceMethod yX1_hasHole, Cond.selects RX1 yX1_hasHole yX1_hasHole]
def wsX5_fill_r7 : List Cond := [Cond.code yX1_hasHole cX1_hasHole 2 (some .boolean), Cond.methodLink RX5 162 yX1_groupOfHole, Cond.instanceMethod yX1_groupOfHole, Cond.selects RX1 yX1_groupOfHole yX1_groupOfHole, Cond.code yX1_groupOfHole cX1_groupOfHole 2 (some .int), Cond.methodLink RX5 182 yX5_flipGroup, Cond.instanceMethod yX5_flipGroup, Cond.selects RX5 yX5_flipGroup yX5_flipGroup, Cond.code yX5_flipGroup cX5_flipGroup 2 (some .int), Cond.methodLink RX5 172 yX5_remember, Cond.instanceMethod yX5_remember, Cond.selects RX5 yX5_remember yX5_remember, Cond.code yX5_remember cX5_remember 1 none, Cond.fieldLink RX5 33 "BlobRuns" "past" "LBlobRuns$Past;", Cond.methodLink RX5 239 yX2_push, Cond.instanceMethod yX2_push, Cond.selects RX2 yX2_push yX2_push, Cond.initialized RX2, Cond.code yX2_push cX2_push 2 none, Cond.fieldLink RX2 9 "BlobRuns$Past" "shelf" "[I", Cond.fieldLink RX2 15 "BlobRuns$Past" "next" "I", Cond.fieldLink RX2 19 "BlobRuns$Past" "count" "I", Cond.methodLink RX2 28 Lib.Math.min.name, Cond.methodLink RX2 22 yX3_layBy]
def wsX5_fill_r8 : List Cond := [Cond.instanceMethod yX3_layBy, Cond.selects RX3 yX3_layBy yX3_layBy, Cond.code yX3_layBy cX3_layBy 3 none, Cond.methodLink RX3 56 arraycopyName, Cond.native arraycopyName, Cond.static arraycopyName, Cond.initialized "java/lang/System", Cond.methodLink RX5 242 yX1_flipDotsOf, Cond.instanceMethod yX1_flipDotsOf, Cond.selects RX1 yX1_flipDotsOf yX1_flipDotsOf, Cond.code yX1_flipDotsOf cX1_flipDotsOf 4 none, Cond.methodLink RX1 135 yX3_flip, Cond.instanceMethod yX3_flip, Cond.selects RX3 yX3_flip yX3_flip, Cond.code yX3_flip cX3_flip 3 none, Cond.methodLink RX3 27 yX3_putLine, Cond.instanceMethod yX3_putLine, Cond.selects RX3 yX3_putLine yX3_putLine, Cond.code yX3_putLine cX3_putLine 3 none, Cond.constant RX3 22 (65535), Cond.methodLink RX5 129 yX1_sizeOf, Cond.instanceMethod yX1_sizeOf, Cond.selects RX1 yX1_sizeOf yX1_sizeOf, Cond.code yX1_sizeOf cX1_sizeOf 2 (some .int)]
def wsX5_fill : List Cond := .code yX5_fill cX5_fill 3 (some .int) :: ((wsX5_fill_r1 ++ (wsX5_fill_r2 ++ (wsX5_fill_r3 ++ (wsX5_fill_r4 ++ (wsX5_fill_r5 ++ (wsX5_fill_r6 ++ (wsX5_fill_r7 ++ wsX5_fill_r8))))))) ++ wsX50 ++ wsX10 ++ wsX40 ++ wsX30 ++ wsX20)
def wsX5_grow_r1 : List Cond := [Cond.fieldLink RX5 12 "BlobRuns" "picture" "LBlobRuns$Picture;", Cond.methodLink RX5 172 yX5_remember, Cond.instanceMethod yX5_remember, Cond.selects RX5 yX5_remember yX5_remember, Cond.initialized RX5, Cond.code yX5_remember cX5_remember 1 none, Cond.fieldLink RX5 33 "BlobRuns" "past" "LBlobRuns$Past;", Cond.fieldLink RX5 48 "BlobRuns" "stale" "Z", Cond.methodLink RX5 239 yX2_push, Cond.instanceMethod yX2_push, Cond.selects RX2 yX2_push yX2_push, Cond.initialized RX2, Cond.code yX2_push cX2_push 2 none, Cond.fieldLink RX2 9 "BlobRuns$Past" "shelf" "[I", Cond.fieldLink RX2 15 "BlobRuns$Past" "next" "I", Cond.fieldLink RX2 19 "BlobRuns$Past" "count" "I", Cond.methodLink RX2 28 Lib.Math.min.name, Cond.static Lib.Math.min.name, Cond.initialized "java/lang/Math", Cond.code Lib.Math.min.name Lib.Math.min.code 2 (some .int), Cond.methodLink RX2 22 yX3_layBy, Cond.instanceMethod yX3_layBy, Cond.selects RX3 yX3_layBy yX3_layBy, Cond.initialized RX3]
def wsX5_grow_r2 : List Cond := [Cond.code yX3_layBy cX3_layBy 3 none, Cond.fieldLink RX3 9 "BlobRuns$Picture" "rows" "[I", Cond.methodLink RX3 56 arraycopyName, Cond.native arraycopyName, Cond.static arraycopyName, Cond.initialized "java/lang/System", Cond.fieldLink RX3 18 "BlobRuns$Picture" "joinedBy" "I", Cond.methodLink RX5 55 yX3_darkDots, Cond.instanceMethod yX3_darkDots, Cond.selects RX3 yX3_darkDots yX3_darkDots, Cond.code yX3_darkDots cX3_darkDots 3 (some .int), Cond.methodLink RX3 31 yJ6_bitCount_0f7a4, Cond.static yJ6_bitCount_0f7a4, Cond.initialized RJ6, Cond.code yJ6_bitCount_0f7a4 cJ6_bitCount_0f7a4 1 (some .int), Cond.constant RJ6 265 (1431655765), Cond.constant RJ6 266 (858993459), Cond.constant RJ6 267 (252645135), Cond.methodLink RX5 185 yX3_becomeGrown, Cond.instanceMethod yX3_becomeGrown, Cond.selects RX3 yX3_becomeGrown yX3_becomeGrown, Cond.code yX3_becomeGrown cX3_becomeGrown 3 none, Cond.fieldLink RX3 15 "BlobRuns$Picture" "next" "[I", Cond.methodLink RX3 23 yX3_line]
def wsX5_grow_r3 : List Cond := [Cond.instanceMethod yX3_line, Cond.selects RX3 yX3_line yX3_line, Cond.code yX3_line cX3_line 2 (some .int), Cond.methodLink RX3 39 yX3_cornersJoin, Cond.instanceMethod yX3_cornersJoin, Cond.selects RX3 yX3_cornersJoin yX3_cornersJoin, Cond.code yX3_cornersJoin cX3_cornersJoin 1 (some .boolean), Cond.methodLink RX3 43 yX3_widened, Cond.static yX3_widened, Cond.code yX3_widened cX3_widened 1 (some .int), Cond.constant RX3 22 (65535), Cond.methodLink RX3 46 yX3_becomeNext, Cond.instanceMethod yX3_becomeNext, Cond.selects RX3 yX3_becomeNext yX3_becomeNext, Cond.code yX3_becomeNext cX3_becomeNext 1 none]
def wsX5_grow : List Cond := .code yX5_grow cX5_grow 2 (some .int) :: ((wsX5_grow_r1 ++ (wsX5_grow_r2 ++ wsX5_grow_r3)) ++ wsX50 ++ wsX20 ++ wsX30)
def wsX5_shrink_r1 : List Cond := [Cond.fieldLink RX5 12 "BlobRuns" "picture" "LBlobRuns$Picture;", Cond.methodLink RX5 172 yX5_remember, Cond.instanceMethod yX5_remember, Cond.selects RX5 yX5_remember yX5_remember, Cond.initialized RX5, Cond.code yX5_remember cX5_remember 1 none, Cond.fieldLink RX5 33 "BlobRuns" "past" "LBlobRuns$Past;", Cond.fieldLink RX5 48 "BlobRuns" "stale" "Z", Cond.methodLink RX5 239 yX2_push, Cond.instanceMethod yX2_push, Cond.selects RX2 yX2_push yX2_push, Cond.initialized RX2, Cond.code yX2_push cX2_push 2 none, Cond.fieldLink RX2 9 "BlobRuns$Past" "shelf" "[I", Cond.fieldLink RX2 15 "BlobRuns$Past" "next" "I", Cond.fieldLink RX2 19 "BlobRuns$Past" "count" "I", Cond.methodLink RX2 28 Lib.Math.min.name, Cond.static Lib.Math.min.name, Cond.initialized "java/lang/Math", Cond.code Lib.Math.min.name Lib.Math.min.code 2 (some .int), Cond.methodLink RX2 22 yX3_layBy, Cond.instanceMethod yX3_layBy, Cond.selects RX3 yX3_layBy yX3_layBy, Cond.initialized RX3]
def wsX5_shrink_r2 : List Cond := [Cond.code yX3_layBy cX3_layBy 3 none, Cond.fieldLink RX3 9 "BlobRuns$Picture" "rows" "[I", Cond.methodLink RX3 56 arraycopyName, Cond.native arraycopyName, Cond.static arraycopyName, Cond.initialized "java/lang/System", Cond.fieldLink RX3 18 "BlobRuns$Picture" "joinedBy" "I", Cond.methodLink RX5 55 yX3_darkDots, Cond.instanceMethod yX3_darkDots, Cond.selects RX3 yX3_darkDots yX3_darkDots, Cond.code yX3_darkDots cX3_darkDots 3 (some .int), Cond.methodLink RX3 31 yJ6_bitCount_0f7a4, Cond.static yJ6_bitCount_0f7a4, Cond.initialized RJ6, Cond.code yJ6_bitCount_0f7a4 cJ6_bitCount_0f7a4 1 (some .int), Cond.constant RJ6 265 (1431655765), Cond.constant RJ6 266 (858993459), Cond.constant RJ6 267 (252645135), Cond.methodLink RX5 188 yX3_becomeShrunk, Cond.instanceMethod yX3_becomeShrunk, Cond.selects RX3 yX3_becomeShrunk yX3_becomeShrunk, Cond.code yX3_becomeShrunk cX3_becomeShrunk 3 none, Cond.fieldLink RX3 15 "BlobRuns$Picture" "next" "[I", Cond.methodLink RX3 23 yX3_line]
def wsX5_shrink_r3 : List Cond := [Cond.instanceMethod yX3_line, Cond.selects RX3 yX3_line yX3_line, Cond.code yX3_line cX3_line 2 (some .int), Cond.methodLink RX3 39 yX3_cornersJoin, Cond.instanceMethod yX3_cornersJoin, Cond.selects RX3 yX3_cornersJoin yX3_cornersJoin, Cond.code yX3_cornersJoin cX3_cornersJoin 1 (some .boolean), Cond.methodLink RX3 49 yX3_narrowed, Cond.static yX3_narrowed, Cond.code yX3_narrowed cX3_narrowed 1 (some .int), Cond.methodLink RX3 46 yX3_becomeNext, Cond.instanceMethod yX3_becomeNext, Cond.selects RX3 yX3_becomeNext yX3_becomeNext, Cond.code yX3_becomeNext cX3_becomeNext 1 none]
def wsX5_shrink : List Cond := .code yX5_shrink cX5_shrink 2 (some .int) :: ((wsX5_shrink_r1 ++ (wsX5_shrink_r2 ++ wsX5_shrink_r3)) ++ wsX50 ++ wsX20 ++ wsX30)
def wsX5_move_r1 : List Cond := [Cond.constant RX5 87 (-1000000002), Cond.fieldLink RX5 12 "BlobRuns" "picture" "LBlobRuns$Picture;", Cond.methodLink RX5 172 yX5_remember, Cond.instanceMethod yX5_remember, Cond.selects RX5 yX5_remember yX5_remember, Cond.initialized RX5, Cond.code yX5_remember cX5_remember 1 none, Cond.fieldLink RX5 33 "BlobRuns" "past" "LBlobRuns$Past;", Cond.fieldLink RX5 48 "BlobRuns" "stale" "Z", Cond.methodLink RX5 239 yX2_push, Cond.instanceMethod yX2_push, Cond.selects RX2 yX2_push yX2_push, Cond.initialized RX2, Cond.code yX2_push cX2_push 2 none, Cond.fieldLink RX2 9 "BlobRuns$Past" "shelf" "[I", Cond.fieldLink RX2 15 "BlobRuns$Past" "next" "I", Cond.fieldLink RX2 19 "BlobRuns$Past" "count" "I", Cond.methodLink RX2 28 Lib.Math.min.name, Cond.static Lib.Math.min.name, Cond.initialized "java/lang/Math", Cond.code Lib.Math.min.name Lib.Math.min.code 2 (some .int), Cond.methodLink RX2 22 yX3_layBy, Cond.instanceMethod yX3_layBy, Cond.selects RX3 yX3_layBy yX3_layBy]
def wsX5_move_r2 : List Cond := [Cond.initialized RX3, Cond.code yX3_layBy cX3_layBy 3 none, Cond.fieldLink RX3 9 "BlobRuns$Picture" "rows" "[I", Cond.methodLink RX3 56 arraycopyName, Cond.native arraycopyName, Cond.static arraycopyName, Cond.initialized "java/lang/System", Cond.fieldLink RX3 18 "BlobRuns$Picture" "joinedBy" "I", Cond.methodLink RX5 191 yX3_becomeMoved, Cond.instanceMethod yX3_becomeMoved, Cond.selects RX3 yX3_becomeMoved yX3_becomeMoved, Cond.code yX3_becomeMoved cX3_becomeMoved 4 none, Cond.fieldLink RX3 15 "BlobRuns$Picture" "next" "[I", Cond.methodLink RX3 23 yX3_line, Cond.instanceMethod yX3_line, Cond.selects RX3 yX3_line yX3_line, Cond.code yX3_line cX3_line 2 (some .int), Cond.methodLink RX3 52 yX3_slid, Cond.static yX3_slid, Cond.code yX3_slid cX3_slid 2 (some .int), Cond.constant RX3 22 (65535), Cond.methodLink RX3 46 yX3_becomeNext, Cond.instanceMethod yX3_becomeNext, Cond.selects RX3 yX3_becomeNext yX3_becomeNext]
def wsX5_move_r3 : List Cond := [Cond.code yX3_becomeNext cX3_becomeNext 1 none, Cond.methodLink RX5 55 yX3_darkDots, Cond.instanceMethod yX3_darkDots, Cond.selects RX3 yX3_darkDots yX3_darkDots, Cond.code yX3_darkDots cX3_darkDots 3 (some .int), Cond.methodLink RX3 31 yJ6_bitCount_0f7a4, Cond.static yJ6_bitCount_0f7a4, Cond.initialized RJ6, Cond.code yJ6_bitCount_0f7a4 cJ6_bitCount_0f7a4 1 (some .int), Cond.constant RJ6 265 (1431655765), Cond.constant RJ6 266 (858993459), Cond.constant RJ6 267 (252645135)]
def wsX5_move : List Cond := .code yX5_move cX5_move 3 (some .int) :: ((wsX5_move_r1 ++ (wsX5_move_r2 ++ wsX5_move_r3)) ++ wsX50 ++ wsX20 ++ wsX30)
def wsX5_over_r1 : List Cond := [Cond.fieldLink RX5 12 "BlobRuns" "picture" "LBlobRuns$Picture;", Cond.methodLink RX5 172 yX5_remember, Cond.instanceMethod yX5_remember, Cond.selects RX5 yX5_remember yX5_remember, Cond.initialized RX5, Cond.code yX5_remember cX5_remember 1 none, Cond.fieldLink RX5 33 "BlobRuns" "past" "LBlobRuns$Past;", Cond.fieldLink RX5 48 "BlobRuns" "stale" "Z", Cond.methodLink RX5 239 yX2_push, Cond.instanceMethod yX2_push, Cond.selects RX2 yX2_push yX2_push, Cond.initialized RX2, Cond.code yX2_push cX2_push 2 none, Cond.fieldLink RX2 9 "BlobRuns$Past" "shelf" "[I", Cond.fieldLink RX2 15 "BlobRuns$Past" "next" "I", Cond.fieldLink RX2 19 "BlobRuns$Past" "count" "I", Cond.methodLink RX2 28 Lib.Math.min.name, Cond.static Lib.Math.min.name, Cond.initialized "java/lang/Math", Cond.code Lib.Math.min.name Lib.Math.min.code 2 (some .int), Cond.methodLink RX2 22 yX3_layBy, Cond.instanceMethod yX3_layBy, Cond.selects RX3 yX3_layBy yX3_layBy, Cond.initialized RX3]
def wsX5_over_r2 : List Cond := [Cond.code yX3_layBy cX3_layBy 3 none, Cond.fieldLink RX3 9 "BlobRuns$Picture" "rows" "[I", Cond.methodLink RX3 56 arraycopyName, Cond.native arraycopyName, Cond.static arraycopyName, Cond.initialized "java/lang/System", Cond.fieldLink RX3 18 "BlobRuns$Picture" "joinedBy" "I", Cond.methodLink RX5 194 yX3_becomeOver, Cond.instanceMethod yX3_becomeOver, Cond.selects RX3 yX3_becomeOver yX3_becomeOver, Cond.code yX3_becomeOver cX3_becomeOver 2 none, Cond.constant RX3 22 (65535), Cond.methodLink RX5 55 yX3_darkDots, Cond.instanceMethod yX3_darkDots, Cond.selects RX3 yX3_darkDots yX3_darkDots, Cond.code yX3_darkDots cX3_darkDots 3 (some .int), Cond.methodLink RX3 31 yJ6_bitCount_0f7a4, Cond.static yJ6_bitCount_0f7a4, Cond.initialized RJ6, Cond.code yJ6_bitCount_0f7a4 cJ6_bitCount_0f7a4 1 (some .int), Cond.constant RJ6 265 (1431655765), Cond.constant RJ6 266 (858993459), Cond.constant RJ6 267 (252645135)]
def wsX5_over : List Cond := .code yX5_over cX5_over 1 (some .int) :: ((wsX5_over_r1 ++ wsX5_over_r2) ++ wsX50 ++ wsX20 ++ wsX30)
def wsX5_mode_r1 : List Cond := [Cond.constant RX5 87 (-1000000002), Cond.fieldLink RX5 12 "BlobRuns" "picture" "LBlobRuns$Picture;", Cond.constant RX5 197 (-1000000003), Cond.methodLink RX5 172 yX5_remember, Cond.instanceMethod yX5_remember, Cond.selects RX5 yX5_remember yX5_remember, Cond.initialized RX5, Cond.code yX5_remember cX5_remember 1 none, Cond.fieldLink RX5 33 "BlobRuns" "past" "LBlobRuns$Past;", Cond.fieldLink RX5 48 "BlobRuns" "stale" "Z", Cond.methodLink RX5 239 yX2_push, Cond.instanceMethod yX2_push, Cond.selects RX2 yX2_push yX2_push, Cond.initialized RX2, Cond.code yX2_push cX2_push 2 none, Cond.fieldLink RX2 9 "BlobRuns$Past" "shelf" "[I", Cond.fieldLink RX2 15 "BlobRuns$Past" "next" "I", Cond.fieldLink RX2 19 "BlobRuns$Past" "count" "I", Cond.methodLink RX2 28 Lib.Math.min.name, Cond.static Lib.Math.min.name, Cond.initialized "java/lang/Math", Cond.code Lib.Math.min.name Lib.Math.min.code 2 (some .int), Cond.methodLink RX2 22 yX3_layBy, Cond.instanceMethod yX3_layBy]
def wsX5_mode_r2 : List Cond := [Cond.selects RX3 yX3_layBy yX3_layBy, Cond.initialized RX3, Cond.code yX3_layBy cX3_layBy 3 none, Cond.fieldLink RX3 9 "BlobRuns$Picture" "rows" "[I", Cond.methodLink RX3 56 arraycopyName, Cond.native arraycopyName, Cond.static arraycopyName, Cond.initialized "java/lang/System", Cond.fieldLink RX3 18 "BlobRuns$Picture" "joinedBy" "I", Cond.methodLink RX5 59 yX5_parted, Cond.instanceMethod yX5_parted, Cond.selects RX5 yX5_parted yX5_parted, Cond.code yX5_parted cX5_parted 1 (some (.object "BlobRuns$Parting")), Cond.fieldLink RX5 19 "BlobRuns" "parting" "LBlobRuns$Parting;", Cond.methodLink RX5 235 yX1_read, Cond.instanceMethod yX1_read, Cond.selects RX1 yX1_read yX1_read, Cond.initialized RX1, Cond.code yX1_read cX1_read 3 none, Cond.fieldLink RX1 12 "BlobRuns$Parting" "runs" "LBlobRuns$Runs;", Cond.fieldLink RX1 50 "BlobRuns$Parting" "partCount" "I", Cond.fieldLink RX1 54 "BlobRuns$Parting" "holeCount" "I", Cond.fieldLink RX1 57 "BlobRuns$Parting" "lightCount" "I", Cond.methodLink RX1 60 yX4_read]
def wsX5_mode_r3 : List Cond := [Cond.instanceMethod yX4_read, Cond.selects RX4 yX4_read yX4_read, Cond.initialized RX4, Cond.code yX4_read cX4_read 4 none, Cond.fieldLink RX4 34 "BlobRuns$Runs" "count" "I", Cond.fieldLink RX4 9 "BlobRuns$Runs" "first" "[I", Cond.fieldLink RX4 15 "BlobRuns$Runs" "changes" "[I", Cond.constant RX4 44 (65534), Cond.methodLink RX4 38 yX3_line, Cond.instanceMethod yX3_line, Cond.selects RX3 yX3_line yX3_line, Cond.code yX3_line cX3_line 2 (some .int), Cond.methodLink RX4 45 yX4_cut, Cond.instanceMethod yX4_cut, Cond.selects RX4 yX4_cut yX4_cut, Cond.code yX4_cut cX4_cut 5 none, Cond.methodLink RX4 71 yX4_add, Cond.instanceMethod yX4_add, Cond.selects RX4 yX4_add yX4_add, Cond.code yX4_add cX4_add 6 none, Cond.fieldLink RX4 24 "BlobRuns$Runs" "rowOf" "[I", Cond.fieldLink RX4 18 "BlobRuns$Runs" "startOf" "[I", Cond.fieldLink RX4 21 "BlobRuns$Runs" "endOf" "[I", Cond.fieldLink RX4 27 "BlobRuns$Runs" "dark" "[Z"]
def wsX5_mode_r4 : List Cond := [Cond.fieldLink RX4 31 "BlobRuns$Runs" "towards" "[I", Cond.methodLink RX4 49 yX3_cornersJoin, Cond.instanceMethod yX3_cornersJoin, Cond.selects RX3 yX3_cornersJoin yX3_cornersJoin, Cond.code yX3_cornersJoin cX3_cornersJoin 1 (some .boolean), Cond.methodLink RX4 53 yX4_joinToRowAbove, Cond.instanceMethod yX4_joinToRowAbove, Cond.selects RX4 yX4_joinToRowAbove yX4_joinToRowAbove, Cond.code yX4_joinToRowAbove cX4_joinToRowAbove 8 none, Cond.methodLink RX4 75 yX4_firstOfColour, Cond.instanceMethod yX4_firstOfColour, Cond.selects RX4 yX4_firstOfColour yX4_firstOfColour, Cond.code yX4_firstOfColour cX4_firstOfColour 4 (some .int), Cond.methodLink RX4 82 yX4_isDark, Cond.instanceMethod yX4_isDark, Cond.selects RX4 yX4_isDark yX4_isDark, Cond.code yX4_isDark cX4_isDark 2 (some .boolean), Cond.methodLink RX4 63 yX4_start, Cond.instanceMethod yX4_start, Cond.selects RX4 yX4_start yX4_start, Cond.code yX4_start cX4_start 2 (some .int), Cond.methodLink RX4 60 yX4_end, Cond.instanceMethod yX4_end, Cond.selects RX4 yX4_end yX4_end]
def wsX5_mode_r5 : List Cond := [Cond.code yX4_end cX4_end 2 (some .int), Cond.methodLink RX4 79 yX4_join, Cond.instanceMethod yX4_join, Cond.selects RX4 yX4_join yX4_join, Cond.code yX4_join cX4_join 5 none, Cond.methodLink RX4 89 Lib.Math.max.name, Cond.static Lib.Math.max.name, Cond.code Lib.Math.max.name Lib.Math.max.code 2 (some .int), Cond.methodLink RX4 95 Lib.Math.min.name, Cond.methodLink RX4 86 yX4_leastKnown, Cond.instanceMethod yX4_leastKnown, Cond.selects RX4 yX4_leastKnown yX4_leastKnown, Cond.code yX4_leastKnown cX4_leastKnown 4 (some .int), Cond.methodLink RX4 57 yX4_settle, Cond.instanceMethod yX4_settle, Cond.selects RX4 yX4_settle yX4_settle, Cond.code yX4_settle cX4_settle 2 none, Cond.methodLink RX4 98 yX4_groupOf, Cond.instanceMethod yX4_groupOf, Cond.selects RX4 yX4_groupOf yX4_groupOf, Cond.code yX4_groupOf cX4_groupOf 2 (some .int), Cond.methodLink RX1 67 yX1_measure, Cond.instanceMethod yX1_measure, Cond.selects RX1 yX1_measure yX1_measure]
def wsX5_mode_r6 : List Cond := [Cond.code yX1_measure cX1_measure 7 none, Cond.fieldLink RX1 18 "BlobRuns$Parting" "size" "[I", Cond.fieldLink RX1 22 "BlobRuns$Parting" "rim" "[I", Cond.fieldLink RX1 25 "BlobRuns$Parting" "bottom" "[I", Cond.fieldLink RX1 28 "BlobRuns$Parting" "left" "[I", Cond.methodLink RX1 154 Lib.Math.min.name, Cond.fieldLink RX1 31 "BlobRuns$Parting" "right" "[I", Cond.methodLink RX1 114 Lib.Math.max.name, Cond.fieldLink RX1 34 "BlobRuns$Parting" "reachesRim" "[Z", Cond.methodLink RX1 79 yX4_lineOf, Cond.instanceMethod yX4_lineOf, Cond.selects RX4 yX4_lineOf yX4_lineOf, Cond.code yX4_lineOf cX4_lineOf 2 (some .int), Cond.methodLink RX1 82 yX4_start, Cond.methodLink RX1 141 yX4_end, Cond.methodLink RX1 71 yX4_groupOf, Cond.methodLink RX1 144 yX1_clear, Cond.instanceMethod yX1_clear, Cond.selects RX1 yX1_clear yX1_clear, Cond.code yX1_clear cX1_clear 3 none, Cond.methodLink RX1 147 yX4_isDark, Cond.methodLink RX1 132 yX4_columns, Cond.instanceMethod yX4_columns, Cond.selects RX4 yX4_columns yX4_columns]
def wsX5_mode_r7 : List Cond := [Cond.code yX4_columns cX4_columns 2 (some .int), Cond.methodLink RX1 151 yX3_freeSides, Cond.instanceMethod yX3_freeSides, Cond.selects RX3 yX3_freeSides yX3_freeSides, Cond.code yX3_freeSides cX3_freeSides 3 (some .int), Cond.methodLink RX3 23 yX3_line, Cond.methodLink RX3 31 yJ6_bitCount_0f7a4, Cond.static yJ6_bitCount_0f7a4, Cond.initialized RJ6, Cond.code yJ6_bitCount_0f7a4 cJ6_bitCount_0f7a4 1 (some .int), Cond.constant RJ6 265 (1431655765), Cond.constant RJ6 266 (858993459), Cond.constant RJ6 267 (252645135), Cond.methodLink RX1 75 yX1_giveNumber, Cond.instanceMethod yX1_giveNumber, Cond.selects RX1 yX1_giveNumber yX1_giveNumber, Cond.code yX1_giveNumber cX1_giveNumber 3 none, Cond.fieldLink RX1 38 "BlobRuns$Parting" "number" "[I", Cond.fieldLink RX1 41 "BlobRuns$Parting" "partGroup" "[I", Cond.fieldLink RX1 44 "BlobRuns$Parting" "holeGroup" "[I"]
def wsX5_mode : List Cond := .code yX5_mode cX5_mode 2 (some .int) :: ((wsX5_mode_r1 ++ (wsX5_mode_r2 ++ (wsX5_mode_r3 ++ (wsX5_mode_r4 ++ (wsX5_mode_r5 ++ (wsX5_mode_r6 ++ wsX5_mode_r7)))))) ++ wsX50 ++ wsX30 ++ wsX10 ++ wsX20 ++ wsX40)
def wsX5_drawPlace : List Cond := .code yX5_drawPlace cX5_drawPlace 1 (some .int) :: ([.fieldLink RX5 44 "BlobRuns" "theSeed" "I", .constant RX5 245 (1103515245), .constant RX5 246 (2147483647), .constant RX5 247 (65536)] ++ wsX50)
def wsX5_drift_r1 : List Cond := [Cond.constant RX5 87 (-1000000002), Cond.fieldLink RX5 12 "BlobRuns" "picture" "LBlobRuns$Picture;", Cond.methodLink RX5 198 yX5_drawPlace, Cond.instanceMethod yX5_drawPlace, Cond.selects RX5 yX5_drawPlace yX5_drawPlace, Cond.initialized RX5, Cond.code yX5_drawPlace cX5_drawPlace 1 (some .int), Cond.fieldLink RX5 44 "BlobRuns" "theSeed" "I", Cond.constant RX5 245 (1103515245), Cond.constant RX5 246 (2147483647), Cond.constant RX5 247 (65536), Cond.methodLink RX5 172 yX5_remember, Cond.instanceMethod yX5_remember, Cond.selects RX5 yX5_remember yX5_remember, Cond.code yX5_remember cX5_remember 1 none, Cond.fieldLink RX5 33 "BlobRuns" "past" "LBlobRuns$Past;", Cond.fieldLink RX5 48 "BlobRuns" "stale" "Z", Cond.methodLink RX5 239 yX2_push, Cond.instanceMethod yX2_push, Cond.selects RX2 yX2_push yX2_push, Cond.initialized RX2, Cond.code yX2_push cX2_push 2 none, Cond.fieldLink RX2 9 "BlobRuns$Past" "shelf" "[I", Cond.fieldLink RX2 15 "BlobRuns$Past" "next" "I"]
def wsX5_drift_r2 : List Cond := [Cond.fieldLink RX2 19 "BlobRuns$Past" "count" "I", Cond.methodLink RX2 28 Lib.Math.min.name, Cond.static Lib.Math.min.name, Cond.initialized "java/lang/Math", Cond.code Lib.Math.min.name Lib.Math.min.code 2 (some .int), Cond.methodLink RX2 22 yX3_layBy, Cond.instanceMethod yX3_layBy, Cond.selects RX3 yX3_layBy yX3_layBy, Cond.initialized RX3, Cond.code yX3_layBy cX3_layBy 3 none, Cond.fieldLink RX3 9 "BlobRuns$Picture" "rows" "[I", Cond.methodLink RX3 56 arraycopyName, Cond.native arraycopyName, Cond.static arraycopyName, Cond.initialized "java/lang/System", Cond.fieldLink RX3 18 "BlobRuns$Picture" "joinedBy" "I", Cond.methodLink RX5 179 yX3_flip, Cond.instanceMethod yX3_flip, Cond.selects RX3 yX3_flip yX3_flip, Cond.code yX3_flip cX3_flip 3 none, Cond.methodLink RX3 23 yX3_line, Cond.instanceMethod yX3_line, Cond.selects RX3 yX3_line yX3_line, Cond.code yX3_line cX3_line 2 (some .int)]
def wsX5_drift_r3 : List Cond := [Cond.methodLink RX3 27 yX3_putLine, Cond.instanceMethod yX3_putLine, Cond.selects RX3 yX3_putLine yX3_putLine, Cond.code yX3_putLine cX3_putLine 3 none, Cond.constant RX3 22 (65535), Cond.methodLink RX5 55 yX3_darkDots, Cond.instanceMethod yX3_darkDots, Cond.selects RX3 yX3_darkDots yX3_darkDots, Cond.code yX3_darkDots cX3_darkDots 3 (some .int), Cond.methodLink RX3 31 yJ6_bitCount_0f7a4, Cond.static yJ6_bitCount_0f7a4, Cond.initialized RJ6, Cond.code yJ6_bitCount_0f7a4 cJ6_bitCount_0f7a4 1 (some .int), Cond.constant RJ6 265 (1431655765), Cond.constant RJ6 266 (858993459), Cond.constant RJ6 267 (252645135)]
def wsX5_drift : List Cond := .code yX5_drift cX5_drift 4 (some .int) :: ((wsX5_drift_r1 ++ (wsX5_drift_r2 ++ wsX5_drift_r3)) ++ wsX50 ++ wsX20 ++ wsX30)
def wsX5_undo_r1 : List Cond := [Cond.constant RX5 87 (-1000000002), Cond.fieldLink RX5 33 "BlobRuns" "past" "LBlobRuns$Past;", Cond.constant RX5 197 (-1000000003), Cond.fieldLink RX5 12 "BlobRuns" "picture" "LBlobRuns$Picture;", Cond.fieldLink RX5 48 "BlobRuns" "stale" "Z", Cond.methodLink RX5 201 yX2_goBackBy, Cond.instanceMethod yX2_goBackBy, Cond.selects RX2 yX2_goBackBy yX2_goBackBy, Cond.initialized RX2, Cond.code yX2_goBackBy cX2_goBackBy 3 none, Cond.fieldLink RX2 15 "BlobRuns$Past" "next" "I", Cond.fieldLink RX2 19 "BlobRuns$Past" "count" "I", Cond.fieldLink RX2 9 "BlobRuns$Past" "shelf" "[I", Cond.methodLink RX2 34 yJ9_floorMod_7cf53, Cond.static yJ9_floorMod_7cf53, Cond.initialized RJ9, Cond.code yJ9_floorMod_7cf53 cJ9_floorMod_7cf53 3 (some .int), Cond.methodLink RX2 37 yX3_takeUp, Cond.instanceMethod yX3_takeUp, Cond.selects RX3 yX3_takeUp yX3_takeUp, Cond.initialized RX3, Cond.code yX3_takeUp cX3_takeUp 3 none, Cond.fieldLink RX3 9 "BlobRuns$Picture" "rows" "[I", Cond.methodLink RX3 56 arraycopyName]
def wsX5_undo_r2 : List Cond := [Cond.native arraycopyName, Cond.static arraycopyName, Cond.initialized "java/lang/System", Cond.fieldLink RX3 18 "BlobRuns$Picture" "joinedBy" "I", Cond.methodLink RX5 55 yX3_darkDots, Cond.instanceMethod yX3_darkDots, Cond.selects RX3 yX3_darkDots yX3_darkDots, Cond.code yX3_darkDots cX3_darkDots 3 (some .int), Cond.methodLink RX3 31 yJ6_bitCount_0f7a4, Cond.static yJ6_bitCount_0f7a4, Cond.initialized RJ6, Cond.code yJ6_bitCount_0f7a4 cJ6_bitCount_0f7a4 1 (some .int), Cond.constant RJ6 265 (1431655765), Cond.constant RJ6 266 (858993459), Cond.constant RJ6 267 (252645135)]
def wsX5_undo : List Cond := .code yX5_undo cX5_undo 2 (some .int) :: ((wsX5_undo_r1 ++ wsX5_undo_r2) ++ wsX50 ++ wsX20 ++ wsX30)
def wsX5_alike_r1 : List Cond := [Cond.constant RX5 92 (-1000000001), Cond.methodLink RX5 59 yX5_parted, Cond.instanceMethod yX5_parted, Cond.selects RX5 yX5_parted yX5_parted, Cond.initialized RX5, Cond.code yX5_parted cX5_parted 1 (some (.object "BlobRuns$Parting")), Cond.fieldLink RX5 48 "BlobRuns" "stale" "Z", Cond.fieldLink RX5 19 "BlobRuns" "parting" "LBlobRuns$Parting;", Cond.fieldLink RX5 12 "BlobRuns" "picture" "LBlobRuns$Picture;", Cond.methodLink RX5 235 yX1_read, Cond.instanceMethod yX1_read, Cond.selects RX1 yX1_read yX1_read, Cond.initialized RX1, Cond.code yX1_read cX1_read 3 none, Cond.fieldLink RX1 12 "BlobRuns$Parting" "runs" "LBlobRuns$Runs;", Cond.fieldLink RX1 50 "BlobRuns$Parting" "partCount" "I", Cond.fieldLink RX1 54 "BlobRuns$Parting" "holeCount" "I", Cond.fieldLink RX1 57 "BlobRuns$Parting" "lightCount" "I", Cond.methodLink RX1 60 yX4_read, Cond.instanceMethod yX4_read, Cond.selects RX4 yX4_read yX4_read, Cond.initialized RX4, Cond.code yX4_read cX4_read 4 none, Cond.fieldLink RX4 34 "BlobRuns$Runs" "count" "I"]
def wsX5_alike_r2 : List Cond := [Cond.fieldLink RX4 9 "BlobRuns$Runs" "first" "[I", Cond.fieldLink RX4 15 "BlobRuns$Runs" "changes" "[I", Cond.constant RX4 44 (65534), Cond.methodLink RX4 38 yX3_line, Cond.instanceMethod yX3_line, Cond.selects RX3 yX3_line yX3_line, Cond.initialized RX3, Cond.code yX3_line cX3_line 2 (some .int), Cond.fieldLink RX3 9 "BlobRuns$Picture" "rows" "[I", Cond.methodLink RX4 45 yX4_cut, Cond.instanceMethod yX4_cut, Cond.selects RX4 yX4_cut yX4_cut, Cond.code yX4_cut cX4_cut 5 none, Cond.methodLink RX4 71 yX4_add, Cond.instanceMethod yX4_add, Cond.selects RX4 yX4_add yX4_add, Cond.code yX4_add cX4_add 6 none, Cond.fieldLink RX4 24 "BlobRuns$Runs" "rowOf" "[I", Cond.fieldLink RX4 18 "BlobRuns$Runs" "startOf" "[I", Cond.fieldLink RX4 21 "BlobRuns$Runs" "endOf" "[I", Cond.fieldLink RX4 27 "BlobRuns$Runs" "dark" "[Z", Cond.fieldLink RX4 31 "BlobRuns$Runs" "towards" "[I", Cond.methodLink RX4 49 yX3_cornersJoin, Cond.instanceMethod yX3_cornersJoin]
def wsX5_alike_r3 : List Cond := [Cond.selects RX3 yX3_cornersJoin yX3_cornersJoin, Cond.code yX3_cornersJoin cX3_cornersJoin 1 (some .boolean), Cond.fieldLink RX3 18 "BlobRuns$Picture" "joinedBy" "I", Cond.methodLink RX4 53 yX4_joinToRowAbove, Cond.instanceMethod yX4_joinToRowAbove, Cond.selects RX4 yX4_joinToRowAbove yX4_joinToRowAbove, Cond.code yX4_joinToRowAbove cX4_joinToRowAbove 8 none, Cond.methodLink RX4 75 yX4_firstOfColour, Cond.instanceMethod yX4_firstOfColour, Cond.selects RX4 yX4_firstOfColour yX4_firstOfColour, Cond.code yX4_firstOfColour cX4_firstOfColour 4 (some .int), Cond.methodLink RX4 82 yX4_isDark, Cond.instanceMethod yX4_isDark, Cond.selects RX4 yX4_isDark yX4_isDark, Cond.code yX4_isDark cX4_isDark 2 (some .boolean), Cond.methodLink RX4 63 yX4_start, Cond.instanceMethod yX4_start, Cond.selects RX4 yX4_start yX4_start, Cond.code yX4_start cX4_start 2 (some .int), Cond.methodLink RX4 60 yX4_end, Cond.instanceMethod yX4_end, Cond.selects RX4 yX4_end yX4_end, Cond.code yX4_end cX4_end 2 (some .int), Cond.methodLink RX4 79 yX4_join]
def wsX5_alike_r4 : List Cond := [Cond.instanceMethod yX4_join, Cond.selects RX4 yX4_join yX4_join, Cond.code yX4_join cX4_join 5 none, Cond.methodLink RX4 89 Lib.Math.max.name, Cond.static Lib.Math.max.name, Cond.initialized "java/lang/Math", Cond.code Lib.Math.max.name Lib.Math.max.code 2 (some .int), Cond.methodLink RX4 95 Lib.Math.min.name, Cond.static Lib.Math.min.name, Cond.code Lib.Math.min.name Lib.Math.min.code 2 (some .int), Cond.methodLink RX4 86 yX4_leastKnown, Cond.instanceMethod yX4_leastKnown, Cond.selects RX4 yX4_leastKnown yX4_leastKnown, Cond.code yX4_leastKnown cX4_leastKnown 4 (some .int), Cond.methodLink RX4 57 yX4_settle, Cond.instanceMethod yX4_settle, Cond.selects RX4 yX4_settle yX4_settle, Cond.code yX4_settle cX4_settle 2 none, Cond.methodLink RX4 98 yX4_groupOf, Cond.instanceMethod yX4_groupOf, Cond.selects RX4 yX4_groupOf yX4_groupOf, Cond.code yX4_groupOf cX4_groupOf 2 (some .int), Cond.methodLink RX1 67 yX1_measure, Cond.instanceMethod yX1_measure]
def wsX5_alike_r5 : List Cond := [Cond.selects RX1 yX1_measure yX1_measure, Cond.code yX1_measure cX1_measure 7 none, Cond.fieldLink RX1 18 "BlobRuns$Parting" "size" "[I", Cond.fieldLink RX1 22 "BlobRuns$Parting" "rim" "[I", Cond.fieldLink RX1 25 "BlobRuns$Parting" "bottom" "[I", Cond.fieldLink RX1 28 "BlobRuns$Parting" "left" "[I", Cond.methodLink RX1 154 Lib.Math.min.name, Cond.fieldLink RX1 31 "BlobRuns$Parting" "right" "[I", Cond.methodLink RX1 114 Lib.Math.max.name, Cond.fieldLink RX1 34 "BlobRuns$Parting" "reachesRim" "[Z", Cond.methodLink RX1 79 yX4_lineOf, Cond.instanceMethod yX4_lineOf, Cond.selects RX4 yX4_lineOf yX4_lineOf, Cond.code yX4_lineOf cX4_lineOf 2 (some .int), Cond.methodLink RX1 82 yX4_start, Cond.methodLink RX1 141 yX4_end, Cond.methodLink RX1 71 yX4_groupOf, Cond.methodLink RX1 144 yX1_clear, Cond.instanceMethod yX1_clear, Cond.selects RX1 yX1_clear yX1_clear, Cond.code yX1_clear cX1_clear 3 none, Cond.methodLink RX1 147 yX4_isDark, Cond.methodLink RX1 132 yX4_columns, Cond.instanceMethod yX4_columns]
def wsX5_alike_r6 : List Cond := [Cond.selects RX4 yX4_columns yX4_columns, Cond.code yX4_columns cX4_columns 2 (some .int), Cond.methodLink RX1 151 yX3_freeSides, Cond.instanceMethod yX3_freeSides, Cond.selects RX3 yX3_freeSides yX3_freeSides, Cond.code yX3_freeSides cX3_freeSides 3 (some .int), Cond.methodLink RX3 23 yX3_line, Cond.methodLink RX3 31 yJ6_bitCount_0f7a4, Cond.static yJ6_bitCount_0f7a4, Cond.initialized RJ6, Cond.code yJ6_bitCount_0f7a4 cJ6_bitCount_0f7a4 1 (some .int), Cond.constant RJ6 265 (1431655765), Cond.constant RJ6 266 (858993459), Cond.constant RJ6 267 (252645135), Cond.methodLink RX1 75 yX1_giveNumber, Cond.instanceMethod yX1_giveNumber, Cond.selects RX1 yX1_giveNumber yX1_giveNumber, Cond.code yX1_giveNumber cX1_giveNumber 3 none, Cond.fieldLink RX1 38 "BlobRuns$Parting" "number" "[I", Cond.fieldLink RX1 41 "BlobRuns$Parting" "partGroup" "[I", Cond.fieldLink RX1 44 "BlobRuns$Parting" "holeGroup" "[I", Cond.methodLink RX5 123 yX1_hasPart, Cond.instanceMethod yX1_hasPart, Cond.selects RX1 yX1_hasPart yX1_hasPart]
def wsX5_alike_r7 : List Cond := [Cond.code yX1_hasPart cX1_hasPart 2 (some .boolean), Cond.methodLink RX5 126 yX1_groupOfPart, Cond.instanceMethod yX1_groupOfPart, Cond.selects RX1 yX1_groupOfPart yX1_groupOfPart, Cond.code yX1_groupOfPart cX1_groupOfPart 2 (some .int), Cond.methodLink RX5 205 yX1_sameMoved, Cond.instanceMethod yX1_sameMoved, Cond.selects RX1 yX1_sameMoved yX1_sameMoved, Cond.code yX1_sameMoved cX1_sameMoved 8 (some .boolean), Cond.methodLink RX1 119 yX1_sizeOf, Cond.instanceMethod yX1_sizeOf, Cond.selects RX1 yX1_sizeOf yX1_sizeOf, Cond.code yX1_sizeOf cX1_sizeOf 2 (some .int), Cond.methodLink RX1 126 yX4_length, Cond.instanceMethod yX4_length, Cond.selects RX4 yX4_length yX4_length, Cond.code yX4_length cX4_length 2 (some .int), Cond.methodLink RX1 129 yX1_nextOfGroup, Cond.instanceMethod yX1_nextOfGroup, Cond.selects RX1 yX1_nextOfGroup yX1_nextOfGroup, Cond.code yX1_nextOfGroup cX1_nextOfGroup 4 (some .int)]
def wsX5_alike : List Cond := .code yX5_alike cX5_alike 4 (some .int) :: ((wsX5_alike_r1 ++ (wsX5_alike_r2 ++ (wsX5_alike_r3 ++ (wsX5_alike_r4 ++ (wsX5_alike_r5 ++ (wsX5_alike_r6 ++ wsX5_alike_r7)))))) ++ wsX50 ++ wsX10 ++ wsX40 ++ wsX30)
def wsX5_small_r1 : List Cond := [Cond.constant RX5 87 (-1000000002), Cond.methodLink RX5 59 yX5_parted, Cond.instanceMethod yX5_parted, Cond.selects RX5 yX5_parted yX5_parted, Cond.initialized RX5, Cond.code yX5_parted cX5_parted 1 (some (.object "BlobRuns$Parting")), Cond.fieldLink RX5 48 "BlobRuns" "stale" "Z", Cond.fieldLink RX5 19 "BlobRuns" "parting" "LBlobRuns$Parting;", Cond.fieldLink RX5 12 "BlobRuns" "picture" "LBlobRuns$Picture;", Cond.methodLink RX5 235 yX1_read, Cond.instanceMethod yX1_read, Cond.selects RX1 yX1_read yX1_read, Cond.initialized RX1, Cond.code yX1_read cX1_read 3 none, Cond.fieldLink RX1 12 "BlobRuns$Parting" "runs" "LBlobRuns$Runs;", Cond.fieldLink RX1 50 "BlobRuns$Parting" "partCount" "I", Cond.fieldLink RX1 54 "BlobRuns$Parting" "holeCount" "I", Cond.fieldLink RX1 57 "BlobRuns$Parting" "lightCount" "I", Cond.methodLink RX1 60 yX4_read, Cond.instanceMethod yX4_read, Cond.selects RX4 yX4_read yX4_read, Cond.initialized RX4, Cond.code yX4_read cX4_read 4 none, Cond.fieldLink RX4 34 "BlobRuns$Runs" "count" "I"]
def wsX5_small_r2 : List Cond := [Cond.fieldLink RX4 9 "BlobRuns$Runs" "first" "[I", Cond.fieldLink RX4 15 "BlobRuns$Runs" "changes" "[I", Cond.constant RX4 44 (65534), Cond.methodLink RX4 38 yX3_line, Cond.instanceMethod yX3_line, Cond.selects RX3 yX3_line yX3_line, Cond.initialized RX3, Cond.code yX3_line cX3_line 2 (some .int), Cond.fieldLink RX3 9 "BlobRuns$Picture" "rows" "[I", Cond.methodLink RX4 45 yX4_cut, Cond.instanceMethod yX4_cut, Cond.selects RX4 yX4_cut yX4_cut, Cond.code yX4_cut cX4_cut 5 none, Cond.methodLink RX4 71 yX4_add, Cond.instanceMethod yX4_add, Cond.selects RX4 yX4_add yX4_add, Cond.code yX4_add cX4_add 6 none, Cond.fieldLink RX4 24 "BlobRuns$Runs" "rowOf" "[I", Cond.fieldLink RX4 18 "BlobRuns$Runs" "startOf" "[I", Cond.fieldLink RX4 21 "BlobRuns$Runs" "endOf" "[I", Cond.fieldLink RX4 27 "BlobRuns$Runs" "dark" "[Z", Cond.fieldLink RX4 31 "BlobRuns$Runs" "towards" "[I", Cond.methodLink RX4 49 yX3_cornersJoin, Cond.instanceMethod yX3_cornersJoin]
def wsX5_small_r3 : List Cond := [Cond.selects RX3 yX3_cornersJoin yX3_cornersJoin, Cond.code yX3_cornersJoin cX3_cornersJoin 1 (some .boolean), Cond.fieldLink RX3 18 "BlobRuns$Picture" "joinedBy" "I", Cond.methodLink RX4 53 yX4_joinToRowAbove, Cond.instanceMethod yX4_joinToRowAbove, Cond.selects RX4 yX4_joinToRowAbove yX4_joinToRowAbove, Cond.code yX4_joinToRowAbove cX4_joinToRowAbove 8 none, Cond.methodLink RX4 75 yX4_firstOfColour, Cond.instanceMethod yX4_firstOfColour, Cond.selects RX4 yX4_firstOfColour yX4_firstOfColour, Cond.code yX4_firstOfColour cX4_firstOfColour 4 (some .int), Cond.methodLink RX4 82 yX4_isDark, Cond.instanceMethod yX4_isDark, Cond.selects RX4 yX4_isDark yX4_isDark, Cond.code yX4_isDark cX4_isDark 2 (some .boolean), Cond.methodLink RX4 63 yX4_start, Cond.instanceMethod yX4_start, Cond.selects RX4 yX4_start yX4_start, Cond.code yX4_start cX4_start 2 (some .int), Cond.methodLink RX4 60 yX4_end, Cond.instanceMethod yX4_end, Cond.selects RX4 yX4_end yX4_end, Cond.code yX4_end cX4_end 2 (some .int), Cond.methodLink RX4 79 yX4_join]
def wsX5_small_r4 : List Cond := [Cond.instanceMethod yX4_join, Cond.selects RX4 yX4_join yX4_join, Cond.code yX4_join cX4_join 5 none, Cond.methodLink RX4 89 Lib.Math.max.name, Cond.static Lib.Math.max.name, Cond.initialized "java/lang/Math", Cond.code Lib.Math.max.name Lib.Math.max.code 2 (some .int), Cond.methodLink RX4 95 Lib.Math.min.name, Cond.static Lib.Math.min.name, Cond.code Lib.Math.min.name Lib.Math.min.code 2 (some .int), Cond.methodLink RX4 86 yX4_leastKnown, Cond.instanceMethod yX4_leastKnown, Cond.selects RX4 yX4_leastKnown yX4_leastKnown, Cond.code yX4_leastKnown cX4_leastKnown 4 (some .int), Cond.methodLink RX4 57 yX4_settle, Cond.instanceMethod yX4_settle, Cond.selects RX4 yX4_settle yX4_settle, Cond.code yX4_settle cX4_settle 2 none, Cond.methodLink RX4 98 yX4_groupOf, Cond.instanceMethod yX4_groupOf, Cond.selects RX4 yX4_groupOf yX4_groupOf, Cond.code yX4_groupOf cX4_groupOf 2 (some .int), Cond.methodLink RX1 67 yX1_measure, Cond.instanceMethod yX1_measure]
def wsX5_small_r5 : List Cond := [Cond.selects RX1 yX1_measure yX1_measure, Cond.code yX1_measure cX1_measure 7 none, Cond.fieldLink RX1 18 "BlobRuns$Parting" "size" "[I", Cond.fieldLink RX1 22 "BlobRuns$Parting" "rim" "[I", Cond.fieldLink RX1 25 "BlobRuns$Parting" "bottom" "[I", Cond.fieldLink RX1 28 "BlobRuns$Parting" "left" "[I", Cond.methodLink RX1 154 Lib.Math.min.name, Cond.fieldLink RX1 31 "BlobRuns$Parting" "right" "[I", Cond.methodLink RX1 114 Lib.Math.max.name, Cond.fieldLink RX1 34 "BlobRuns$Parting" "reachesRim" "[Z", Cond.methodLink RX1 79 yX4_lineOf, Cond.instanceMethod yX4_lineOf, Cond.selects RX4 yX4_lineOf yX4_lineOf, Cond.code yX4_lineOf cX4_lineOf 2 (some .int), Cond.methodLink RX1 82 yX4_start, Cond.methodLink RX1 141 yX4_end, Cond.methodLink RX1 71 yX4_groupOf, Cond.methodLink RX1 144 yX1_clear, Cond.instanceMethod yX1_clear, Cond.selects RX1 yX1_clear yX1_clear, Cond.code yX1_clear cX1_clear 3 none, Cond.methodLink RX1 147 yX4_isDark, Cond.methodLink RX1 132 yX4_columns, Cond.instanceMethod yX4_columns]
def wsX5_small_r6 : List Cond := [Cond.selects RX4 yX4_columns yX4_columns, Cond.code yX4_columns cX4_columns 2 (some .int), Cond.methodLink RX1 151 yX3_freeSides, Cond.instanceMethod yX3_freeSides, Cond.selects RX3 yX3_freeSides yX3_freeSides, Cond.code yX3_freeSides cX3_freeSides 3 (some .int), Cond.methodLink RX3 23 yX3_line, Cond.methodLink RX3 31 yJ6_bitCount_0f7a4, Cond.static yJ6_bitCount_0f7a4, Cond.initialized RJ6, Cond.code yJ6_bitCount_0f7a4 cJ6_bitCount_0f7a4 1 (some .int), Cond.constant RJ6 265 (1431655765), Cond.constant RJ6 266 (858993459), Cond.constant RJ6 267 (252645135), Cond.methodLink RX1 75 yX1_giveNumber, Cond.instanceMethod yX1_giveNumber, Cond.selects RX1 yX1_giveNumber yX1_giveNumber, Cond.code yX1_giveNumber cX1_giveNumber 3 none, Cond.fieldLink RX1 38 "BlobRuns$Parting" "number" "[I", Cond.fieldLink RX1 41 "BlobRuns$Parting" "partGroup" "[I", Cond.fieldLink RX1 44 "BlobRuns$Parting" "holeGroup" "[I", Cond.methodLink RX5 208 yX1_partsUpTo, Cond.instanceMethod yX1_partsUpTo, Cond.selects RX1 yX1_partsUpTo yX1_partsUpTo]
def wsX5_small_r7 : List Cond := [Cond.code yX1_partsUpTo cX1_partsUpTo 4 (some .int), Cond.methodLink RX1 89 yX1_groupOfPart, Cond.instanceMethod yX1_groupOfPart, Cond.selects RX1 yX1_groupOfPart yX1_groupOfPart, Cond.code yX1_groupOfPart cX1_groupOfPart 2 (some .int), Cond.methodLink RX1 119 yX1_sizeOf, Cond.instanceMethod yX1_sizeOf, Cond.selects RX1 yX1_sizeOf yX1_sizeOf, Cond.code yX1_sizeOf cX1_sizeOf 2 (some .int)]
def wsX5_small : List Cond := .code yX5_small cX5_small 2 (some .int) :: ((wsX5_small_r1 ++ (wsX5_small_r2 ++ (wsX5_small_r3 ++ (wsX5_small_r4 ++ (wsX5_small_r5 ++ (wsX5_small_r6 ++ wsX5_small_r7)))))) ++ wsX50 ++ wsX10 ++ wsX40 ++ wsX30)
def wsX5_seed : List Cond := .code yX5_seed cX5_seed 3 (some .int) :: ([.constant RX5 87 (-1000000002), .fieldLink RX5 44 "BlobRuns" "theSeed" "I"] ++ wsX50)
def wsX5_keep_r1 : List Cond := [Cond.constant RX5 92 (-1000000001), Cond.fieldLink RX5 40 "BlobRuns" "images" "LBlobRuns$Images;", Cond.fieldLink RX5 12 "BlobRuns" "picture" "LBlobRuns$Picture;", Cond.fieldLink RX5 44 "BlobRuns" "theSeed" "I", Cond.fieldLink RX5 33 "BlobRuns" "past" "LBlobRuns$Past;", Cond.methodLink RX5 211 yX5_isImage, Cond.static yX5_isImage, Cond.initialized RX5, Cond.code yX5_isImage cX5_isImage 1 (some .boolean), Cond.methodLink RX5 214 yX0_take, Cond.instanceMethod yX0_take, Cond.selects RX0 yX0_take yX0_take, Cond.initialized RX0, Cond.code yX0_take cX0_take 4 none, Cond.fieldLink RX0 9 "BlobRuns$Images" "shelf" "[I", Cond.fieldLink RX0 15 "BlobRuns$Images" "seeds" "[I", Cond.fieldLink RX0 18 "BlobRuns$Images" "taken" "[Z", Cond.methodLink RX0 26 yX3_layBy, Cond.instanceMethod yX3_layBy, Cond.selects RX3 yX3_layBy yX3_layBy, Cond.initialized RX3, Cond.code yX3_layBy cX3_layBy 3 none, Cond.fieldLink RX3 9 "BlobRuns$Picture" "rows" "[I", Cond.methodLink RX3 56 arraycopyName]
def wsX5_keep_r2 : List Cond := [Cond.native arraycopyName, Cond.static arraycopyName, Cond.initialized "java/lang/System", Cond.fieldLink RX3 18 "BlobRuns$Picture" "joinedBy" "I", Cond.methodLink RX5 218 yX2_forget, Cond.instanceMethod yX2_forget, Cond.selects RX2 yX2_forget yX2_forget, Cond.initialized RX2, Cond.code yX2_forget cX2_forget 1 none, Cond.fieldLink RX2 19 "BlobRuns$Past" "count" "I"]
def wsX5_keep : List Cond := .code yX5_keep cX5_keep 2 (some .int) :: ((wsX5_keep_r1 ++ wsX5_keep_r2) ++ wsX50 ++ wsX00 ++ wsX30 ++ wsX20)
def wsX5_goBack_r1 : List Cond := [Cond.constant RX5 92 (-1000000001), Cond.fieldLink RX5 40 "BlobRuns" "images" "LBlobRuns$Images;", Cond.constant RX5 197 (-1000000003), Cond.fieldLink RX5 12 "BlobRuns" "picture" "LBlobRuns$Picture;", Cond.fieldLink RX5 44 "BlobRuns" "theSeed" "I", Cond.fieldLink RX5 33 "BlobRuns" "past" "LBlobRuns$Past;", Cond.fieldLink RX5 48 "BlobRuns" "stale" "Z", Cond.methodLink RX5 211 yX5_isImage, Cond.static yX5_isImage, Cond.initialized RX5, Cond.code yX5_isImage cX5_isImage 1 (some .boolean), Cond.methodLink RX5 221 yX0_isTaken, Cond.instanceMethod yX0_isTaken, Cond.selects RX0 yX0_isTaken yX0_isTaken, Cond.initialized RX0, Cond.code yX0_isTaken cX0_isTaken 2 (some .boolean), Cond.fieldLink RX0 18 "BlobRuns$Images" "taken" "[Z", Cond.methodLink RX5 224 yX0_show, Cond.instanceMethod yX0_show, Cond.selects RX0 yX0_show yX0_show, Cond.code yX0_show cX0_show 3 none, Cond.fieldLink RX0 9 "BlobRuns$Images" "shelf" "[I", Cond.methodLink RX0 32 yX3_takeUp, Cond.instanceMethod yX3_takeUp]
def wsX5_goBack_r2 : List Cond := [Cond.selects RX3 yX3_takeUp yX3_takeUp, Cond.initialized RX3, Cond.code yX3_takeUp cX3_takeUp 3 none, Cond.fieldLink RX3 9 "BlobRuns$Picture" "rows" "[I", Cond.methodLink RX3 56 arraycopyName, Cond.native arraycopyName, Cond.static arraycopyName, Cond.initialized "java/lang/System", Cond.fieldLink RX3 18 "BlobRuns$Picture" "joinedBy" "I", Cond.methodLink RX5 227 yX0_seedOf, Cond.instanceMethod yX0_seedOf, Cond.selects RX0 yX0_seedOf yX0_seedOf, Cond.code yX0_seedOf cX0_seedOf 2 (some .int), Cond.fieldLink RX0 15 "BlobRuns$Images" "seeds" "[I", Cond.methodLink RX5 218 yX2_forget, Cond.instanceMethod yX2_forget, Cond.selects RX2 yX2_forget yX2_forget, Cond.initialized RX2, Cond.code yX2_forget cX2_forget 1 none, Cond.fieldLink RX2 19 "BlobRuns$Past" "count" "I"]
def wsX5_goBack : List Cond := .code yX5_goBack cX5_goBack 2 (some .int) :: ((wsX5_goBack_r1 ++ wsX5_goBack_r2) ++ wsX50 ++ wsX00 ++ wsX30 ++ wsX20)
def wsX6_init : List Cond := .code yX6_init cX6_init 1 none :: ([.methodLink RX6 1 objectInit, .instanceMethod objectInit, .code objectInit ⟨#[0xb1]⟩ 1 none, .arrayClass .int, .fieldLink RX6 7 "BlobRunsModel" "now" "[I", .fieldLink RX6 13 "BlobRunsModel" "tried" "[I", .fieldLink RX6 16 "BlobRunsModel" "numbers" "[I", .fieldLink RX6 19 "BlobRunsModel" "queue" "[I", .fieldLink RX6 22 "BlobRunsModel" "darkFirst" "[I", .fieldLink RX6 25 "BlobRunsModel" "lightFirst" "[I", .fieldLink RX6 28 "BlobRunsModel" "holeAs" "[I", .fieldLink RX6 31 "BlobRunsModel" "undos" "[I", .arrayClass .boolean, .fieldLink RX6 34 "BlobRunsModel" "isKept" "[Z", .fieldLink RX6 38 "BlobRunsModel" "kept" "[I", .fieldLink RX6 41 "BlobRunsModel" "keptSeeds" "[I"] ++ wsX60)
def wsX6_in : List Cond := .code yX6_in cX6_in 3 (some .boolean) :: ([])
def wsX6_has : List Cond := .code yX6_has cX6_has 2 (some .boolean) :: ([])
def wsX6_bits : List Cond := .code yX6_bits cX6_bits 3 (some .int) :: ([])
def wsX6_isDark : List Cond := .code yX6_isDark cX6_isDark 2 (some .boolean) :: ([.methodLink RX6 44 yX6_has, .static yX6_has, .initialized RX6, .code yX6_has cX6_has 2 (some .boolean)])
def wsX6_copies : List Cond := .code yX6_copies cX6_copies 3 none :: ([])
def wsX6_isOn : List Cond := .code yX6_isOn cX6_isOn 2 (some .boolean) :: ([.methodLink RX6 48 yX6_in, .static yX6_in, .initialized RX6, .code yX6_in cX6_in 3 (some .boolean)])
def wsX6_floods : List Cond := .code yX6_floods cX6_floods 16 (some .boolean) :: ([.fieldLink RX6 19 "BlobRunsModel" "queue" "[I", .fieldLink RX6 16 "BlobRunsModel" "numbers" "[I", .methodLink RX6 52 yX6_isDark, .static yX6_isDark, .initialized RX6, .code yX6_isDark cX6_isDark 2 (some .boolean), .methodLink RX6 44 yX6_has, .static yX6_has, .code yX6_has cX6_has 2 (some .boolean), .methodLink RX6 56 yX6_isOn, .static yX6_isOn, .code yX6_isOn cX6_isOn 2 (some .boolean), .methodLink RX6 48 yX6_in, .static yX6_in, .code yX6_in cX6_in 3 (some .boolean)] ++ wsX60)
def wsX6_parts_r1 : List Cond := [Cond.fieldLink RX6 59 "BlobRunsModel" "darkMany" "I", Cond.fieldLink RX6 63 "BlobRunsModel" "lightMany" "I", Cond.fieldLink RX6 66 "BlobRunsModel" "holeMany" "I", Cond.fieldLink RX6 16 "BlobRunsModel" "numbers" "[I", Cond.fieldLink RX6 22 "BlobRunsModel" "darkFirst" "[I", Cond.fieldLink RX6 25 "BlobRunsModel" "lightFirst" "[I", Cond.fieldLink RX6 28 "BlobRunsModel" "holeAs" "[I", Cond.methodLink RX6 52 yX6_isDark, Cond.static yX6_isDark, Cond.initialized RX6, Cond.code yX6_isDark cX6_isDark 2 (some .boolean), Cond.methodLink RX6 44 yX6_has, Cond.static yX6_has, Cond.code yX6_has cX6_has 2 (some .boolean), Cond.methodLink RX6 69 yX6_floods, Cond.instanceMethod yX6_floods, Cond.selects RX6 yX6_floods yX6_floods, Cond.code yX6_floods cX6_floods 16 (some .boolean), Cond.fieldLink RX6 19 "BlobRunsModel" "queue" "[I", Cond.methodLink RX6 56 yX6_isOn, Cond.static yX6_isOn, Cond.code yX6_isOn cX6_isOn 2 (some .boolean), Cond.methodLink RX6 48 yX6_in, Cond.static yX6_in]
def wsX6_parts_r2 : List Cond := [Cond.code yX6_in cX6_in 3 (some .boolean)]
def wsX6_parts : List Cond := .code yX6_parts cX6_parts 4 none :: ((wsX6_parts_r1 ++ wsX6_parts_r2) ++ wsX60)
def wsX6_partsOf_r1 : List Cond := [Cond.fieldLink RX6 59 "BlobRunsModel" "darkMany" "I", Cond.methodLink RX6 73 yX6_parts, Cond.instanceMethod yX6_parts, Cond.selects RX6 yX6_parts yX6_parts, Cond.initialized RX6, Cond.code yX6_parts cX6_parts 4 none, Cond.fieldLink RX6 63 "BlobRunsModel" "lightMany" "I", Cond.fieldLink RX6 66 "BlobRunsModel" "holeMany" "I", Cond.fieldLink RX6 16 "BlobRunsModel" "numbers" "[I", Cond.fieldLink RX6 22 "BlobRunsModel" "darkFirst" "[I", Cond.fieldLink RX6 25 "BlobRunsModel" "lightFirst" "[I", Cond.fieldLink RX6 28 "BlobRunsModel" "holeAs" "[I", Cond.methodLink RX6 52 yX6_isDark, Cond.static yX6_isDark, Cond.code yX6_isDark cX6_isDark 2 (some .boolean), Cond.methodLink RX6 44 yX6_has, Cond.static yX6_has, Cond.code yX6_has cX6_has 2 (some .boolean), Cond.methodLink RX6 69 yX6_floods, Cond.instanceMethod yX6_floods, Cond.selects RX6 yX6_floods yX6_floods, Cond.code yX6_floods cX6_floods 16 (some .boolean), Cond.fieldLink RX6 19 "BlobRunsModel" "queue" "[I", Cond.methodLink RX6 56 yX6_isOn]
def wsX6_partsOf_r2 : List Cond := [Cond.static yX6_isOn, Cond.code yX6_isOn cX6_isOn 2 (some .boolean), Cond.methodLink RX6 48 yX6_in, Cond.static yX6_in, Cond.code yX6_in cX6_in 3 (some .boolean)]
def wsX6_partsOf : List Cond := .code yX6_partsOf cX6_partsOf 2 (some .int) :: ((wsX6_partsOf_r1 ++ wsX6_partsOf_r2) ++ wsX60)
def wsX6_darkOf : List Cond := .code yX6_darkOf cX6_darkOf 4 (some .int) :: ([.methodLink RX6 77 yX6_bits, .static yX6_bits, .initialized RX6, .code yX6_bits cX6_bits 3 (some .int)])
def wsX6_lightOf : List Cond := .code yX6_lightOf cX6_lightOf 3 (some .int) :: ([.fieldLink RX6 28 "BlobRunsModel" "holeAs" "[I"] ++ wsX60)
def wsX6_isOf : List Cond := .code yX6_isOf cX6_isOf 4 (some .boolean) :: ([.fieldLink RX6 7 "BlobRunsModel" "now" "[I", .fieldLink RX6 16 "BlobRunsModel" "numbers" "[I", .methodLink RX6 52 yX6_isDark, .static yX6_isDark, .initialized RX6, .code yX6_isDark cX6_isDark 2 (some .boolean), .methodLink RX6 44 yX6_has, .static yX6_has, .code yX6_has cX6_has 2 (some .boolean)] ++ wsX60)
def wsX6_sizeOf : List Cond := .code yX6_sizeOf cX6_sizeOf 5 (some .int) :: ([.methodLink RX6 81 yX6_isOf, .instanceMethod yX6_isOf, .selects RX6 yX6_isOf yX6_isOf, .initialized RX6, .code yX6_isOf cX6_isOf 4 (some .boolean), .fieldLink RX6 7 "BlobRunsModel" "now" "[I", .fieldLink RX6 16 "BlobRunsModel" "numbers" "[I", .methodLink RX6 52 yX6_isDark, .static yX6_isDark, .code yX6_isDark cX6_isDark 2 (some .boolean), .methodLink RX6 44 yX6_has, .static yX6_has, .code yX6_has cX6_has 2 (some .boolean)] ++ wsX60)
def wsX6_liesIn : List Cond := .code yX6_liesIn cX6_liesIn 3 (some .int) :: ([.fieldLink RX6 22 "BlobRunsModel" "darkFirst" "[I", .fieldLink RX6 28 "BlobRunsModel" "holeAs" "[I", .fieldLink RX6 16 "BlobRunsModel" "numbers" "[I"] ++ wsX60)
def wsX6_partOf : List Cond := .code yX6_partOf cX6_partOf 2 (some .int) :: ([.fieldLink RX6 16 "BlobRunsModel" "numbers" "[I", .fieldLink RX6 25 "BlobRunsModel" "lightFirst" "[I", .methodLink RX6 85 yX6_lightOf, .instanceMethod yX6_lightOf, .selects RX6 yX6_lightOf yX6_lightOf, .initialized RX6, .code yX6_lightOf cX6_lightOf 3 (some .int), .fieldLink RX6 28 "BlobRunsModel" "holeAs" "[I"] ++ wsX60)
def wsX6_deep : List Cond := .code yX6_deep cX6_deep 4 (some .int) :: ([.methodLink RX6 88 yX6_liesIn, .instanceMethod yX6_liesIn, .selects RX6 yX6_liesIn yX6_liesIn, .initialized RX6, .code yX6_liesIn cX6_liesIn 3 (some .int), .fieldLink RX6 22 "BlobRunsModel" "darkFirst" "[I", .fieldLink RX6 28 "BlobRunsModel" "holeAs" "[I", .fieldLink RX6 16 "BlobRunsModel" "numbers" "[I", .methodLink RX6 91 yX6_partOf, .instanceMethod yX6_partOf, .selects RX6 yX6_partOf yX6_partOf, .code yX6_partOf cX6_partOf 2 (some .int), .fieldLink RX6 25 "BlobRunsModel" "lightFirst" "[I", .methodLink RX6 85 yX6_lightOf, .instanceMethod yX6_lightOf, .selects RX6 yX6_lightOf yX6_lightOf, .code yX6_lightOf cX6_lightOf 3 (some .int)] ++ wsX60)
def wsX6_isRim : List Cond := .code yX6_isRim cX6_isRim 3 (some .boolean) :: ([.methodLink RX6 56 yX6_isOn, .static yX6_isOn, .initialized RX6, .code yX6_isOn cX6_isOn 2 (some .boolean), .methodLink RX6 48 yX6_in, .static yX6_in, .code yX6_in cX6_in 3 (some .boolean), .methodLink RX6 44 yX6_has, .static yX6_has, .code yX6_has cX6_has 2 (some .boolean)])
def wsX6_sidesOf : List Cond := .code yX6_sidesOf cX6_sidesOf 4 (some .int) :: ([.fieldLink RX6 7 "BlobRunsModel" "now" "[I", .methodLink RX6 94 yX6_isRim, .static yX6_isRim, .initialized RX6, .code yX6_isRim cX6_isRim 3 (some .boolean), .methodLink RX6 56 yX6_isOn, .static yX6_isOn, .code yX6_isOn cX6_isOn 2 (some .boolean), .methodLink RX6 48 yX6_in, .static yX6_in, .code yX6_in cX6_in 3 (some .boolean), .methodLink RX6 44 yX6_has, .static yX6_has, .code yX6_has cX6_has 2 (some .boolean)] ++ wsX60)
def wsX6_rimOf_r1 : List Cond := [Cond.methodLink RX6 81 yX6_isOf, Cond.instanceMethod yX6_isOf, Cond.selects RX6 yX6_isOf yX6_isOf, Cond.initialized RX6, Cond.code yX6_isOf cX6_isOf 4 (some .boolean), Cond.fieldLink RX6 7 "BlobRunsModel" "now" "[I", Cond.fieldLink RX6 16 "BlobRunsModel" "numbers" "[I", Cond.methodLink RX6 52 yX6_isDark, Cond.static yX6_isDark, Cond.code yX6_isDark cX6_isDark 2 (some .boolean), Cond.methodLink RX6 44 yX6_has, Cond.static yX6_has, Cond.code yX6_has cX6_has 2 (some .boolean), Cond.methodLink RX6 97 yX6_sidesOf, Cond.instanceMethod yX6_sidesOf, Cond.selects RX6 yX6_sidesOf yX6_sidesOf, Cond.code yX6_sidesOf cX6_sidesOf 4 (some .int), Cond.methodLink RX6 94 yX6_isRim, Cond.static yX6_isRim, Cond.code yX6_isRim cX6_isRim 3 (some .boolean), Cond.methodLink RX6 56 yX6_isOn, Cond.static yX6_isOn, Cond.code yX6_isOn cX6_isOn 2 (some .boolean), Cond.methodLink RX6 48 yX6_in]
def wsX6_rimOf_r2 : List Cond := [Cond.static yX6_in, Cond.code yX6_in cX6_in 3 (some .boolean)]
def wsX6_rimOf : List Cond := .code yX6_rimOf cX6_rimOf 4 (some .int) :: ((wsX6_rimOf_r1 ++ wsX6_rimOf_r2) ++ wsX60)
def wsX6_edge : List Cond := .code yX6_edge cX6_edge 8 (some .int) :: ([.methodLink RX6 81 yX6_isOf, .instanceMethod yX6_isOf, .selects RX6 yX6_isOf yX6_isOf, .initialized RX6, .code yX6_isOf cX6_isOf 4 (some .boolean), .fieldLink RX6 7 "BlobRunsModel" "now" "[I", .fieldLink RX6 16 "BlobRunsModel" "numbers" "[I", .methodLink RX6 52 yX6_isDark, .static yX6_isDark, .code yX6_isDark cX6_isDark 2 (some .boolean), .methodLink RX6 44 yX6_has, .static yX6_has, .code yX6_has cX6_has 2 (some .boolean)] ++ wsX60)
def wsX6_holesOf : List Cond := .code yX6_holesOf cX6_holesOf 4 (some .int) :: ([.fieldLink RX6 66 "BlobRunsModel" "holeMany" "I", .methodLink RX6 91 yX6_partOf, .instanceMethod yX6_partOf, .selects RX6 yX6_partOf yX6_partOf, .initialized RX6, .code yX6_partOf cX6_partOf 2 (some .int), .fieldLink RX6 16 "BlobRunsModel" "numbers" "[I", .fieldLink RX6 25 "BlobRunsModel" "lightFirst" "[I", .methodLink RX6 85 yX6_lightOf, .instanceMethod yX6_lightOf, .selects RX6 yX6_lightOf yX6_lightOf, .code yX6_lightOf cX6_lightOf 3 (some .int), .fieldLink RX6 28 "BlobRunsModel" "holeAs" "[I"] ++ wsX60)
def wsX6_partsIn : List Cond := .code yX6_partsIn cX6_partsIn 4 (some .int) :: ([.fieldLink RX6 59 "BlobRunsModel" "darkMany" "I", .methodLink RX6 88 yX6_liesIn, .instanceMethod yX6_liesIn, .selects RX6 yX6_liesIn yX6_liesIn, .initialized RX6, .code yX6_liesIn cX6_liesIn 3 (some .int), .fieldLink RX6 22 "BlobRunsModel" "darkFirst" "[I", .fieldLink RX6 28 "BlobRunsModel" "holeAs" "[I", .fieldLink RX6 16 "BlobRunsModel" "numbers" "[I"] ++ wsX60)
def wsX6_runsOf : List Cond := .code yX6_runsOf cX6_runsOf 1 (some .int) :: ([.methodLink RX6 77 yX6_bits, .static yX6_bits, .initialized RX6, .code yX6_bits cX6_bits 3 (some .int)])
def wsX6_largest : List Cond := .code yX6_largest cX6_largest 5 (some .int) :: ([.fieldLink RX6 59 "BlobRunsModel" "darkMany" "I", .methodLink RX6 100 yX6_sizeOf, .instanceMethod yX6_sizeOf, .selects RX6 yX6_sizeOf yX6_sizeOf, .initialized RX6, .code yX6_sizeOf cX6_sizeOf 5 (some .int), .methodLink RX6 81 yX6_isOf, .instanceMethod yX6_isOf, .selects RX6 yX6_isOf yX6_isOf, .code yX6_isOf cX6_isOf 4 (some .boolean), .fieldLink RX6 7 "BlobRunsModel" "now" "[I", .fieldLink RX6 16 "BlobRunsModel" "numbers" "[I", .methodLink RX6 52 yX6_isDark, .static yX6_isDark, .code yX6_isDark cX6_isDark 2 (some .boolean), .methodLink RX6 44 yX6_has, .static yX6_has, .code yX6_has cX6_has 2 (some .boolean)] ++ wsX60)
def wsX6_told_r1 : List Cond := [Cond.fieldLink RX6 7 "BlobRunsModel" "now" "[I", Cond.fieldLink RX6 59 "BlobRunsModel" "darkMany" "I", Cond.fieldLink RX6 66 "BlobRunsModel" "holeMany" "I", Cond.fieldLink RX6 63 "BlobRunsModel" "lightMany" "I", Cond.fieldLink RX6 118 "BlobRunsModel" "undoMany" "I", Cond.constant RX6 121 (-1000000002), Cond.methodLink RX6 73 yX6_parts, Cond.instanceMethod yX6_parts, Cond.selects RX6 yX6_parts yX6_parts, Cond.initialized RX6, Cond.code yX6_parts cX6_parts 4 none, Cond.fieldLink RX6 16 "BlobRunsModel" "numbers" "[I", Cond.fieldLink RX6 22 "BlobRunsModel" "darkFirst" "[I", Cond.fieldLink RX6 25 "BlobRunsModel" "lightFirst" "[I", Cond.fieldLink RX6 28 "BlobRunsModel" "holeAs" "[I", Cond.methodLink RX6 52 yX6_isDark, Cond.static yX6_isDark, Cond.code yX6_isDark cX6_isDark 2 (some .boolean), Cond.methodLink RX6 44 yX6_has, Cond.static yX6_has, Cond.code yX6_has cX6_has 2 (some .boolean), Cond.methodLink RX6 69 yX6_floods, Cond.instanceMethod yX6_floods, Cond.selects RX6 yX6_floods yX6_floods]
def wsX6_told_r2 : List Cond := [Cond.code yX6_floods cX6_floods 16 (some .boolean), Cond.fieldLink RX6 19 "BlobRunsModel" "queue" "[I", Cond.methodLink RX6 56 yX6_isOn, Cond.static yX6_isOn, Cond.code yX6_isOn cX6_isOn 2 (some .boolean), Cond.methodLink RX6 48 yX6_in, Cond.static yX6_in, Cond.code yX6_in cX6_in 3 (some .boolean), Cond.methodLink RX6 104 yX6_darkOf, Cond.instanceMethod yX6_darkOf, Cond.selects RX6 yX6_darkOf yX6_darkOf, Cond.code yX6_darkOf cX6_darkOf 4 (some .int), Cond.methodLink RX6 77 yX6_bits, Cond.static yX6_bits, Cond.code yX6_bits cX6_bits 3 (some .int), Cond.methodLink RX6 108 yX6_runsOf, Cond.static yX6_runsOf, Cond.code yX6_runsOf cX6_runsOf 1 (some .int), Cond.methodLink RX6 97 yX6_sidesOf, Cond.instanceMethod yX6_sidesOf, Cond.selects RX6 yX6_sidesOf yX6_sidesOf, Cond.code yX6_sidesOf cX6_sidesOf 4 (some .int), Cond.methodLink RX6 94 yX6_isRim, Cond.static yX6_isRim]
def wsX6_told_r3 : List Cond := [Cond.code yX6_isRim cX6_isRim 3 (some .boolean), Cond.methodLink RX6 111 yX6_deep, Cond.instanceMethod yX6_deep, Cond.selects RX6 yX6_deep yX6_deep, Cond.code yX6_deep cX6_deep 4 (some .int), Cond.methodLink RX6 88 yX6_liesIn, Cond.instanceMethod yX6_liesIn, Cond.selects RX6 yX6_liesIn yX6_liesIn, Cond.code yX6_liesIn cX6_liesIn 3 (some .int), Cond.methodLink RX6 91 yX6_partOf, Cond.instanceMethod yX6_partOf, Cond.selects RX6 yX6_partOf yX6_partOf, Cond.code yX6_partOf cX6_partOf 2 (some .int), Cond.methodLink RX6 85 yX6_lightOf, Cond.instanceMethod yX6_lightOf, Cond.selects RX6 yX6_lightOf yX6_lightOf, Cond.code yX6_lightOf cX6_lightOf 3 (some .int), Cond.methodLink RX6 114 yX6_largest, Cond.instanceMethod yX6_largest, Cond.selects RX6 yX6_largest yX6_largest, Cond.code yX6_largest cX6_largest 5 (some .int), Cond.methodLink RX6 100 yX6_sizeOf, Cond.instanceMethod yX6_sizeOf, Cond.selects RX6 yX6_sizeOf yX6_sizeOf]
def wsX6_told_r4 : List Cond := [Cond.code yX6_sizeOf cX6_sizeOf 5 (some .int), Cond.methodLink RX6 81 yX6_isOf, Cond.instanceMethod yX6_isOf, Cond.selects RX6 yX6_isOf yX6_isOf, Cond.code yX6_isOf cX6_isOf 4 (some .boolean)]
def wsX6_told : List Cond := .code yX6_told cX6_told 4 (some .int) :: ((wsX6_told_r1 ++ (wsX6_told_r2 ++ (wsX6_told_r3 ++ wsX6_told_r4))) ++ wsX60)
def wsX6_rowAt : List Cond := .code yX6_rowAt cX6_rowAt 3 (some .int) :: ([.constant RX6 122 (-1000000001), .fieldLink RX6 7 "BlobRunsModel" "now" "[I", .constant RX6 121 (-1000000002), .methodLink RX6 48 yX6_in, .static yX6_in, .initialized RX6, .code yX6_in cX6_in 3 (some .boolean), .methodLink RX6 108 yX6_runsOf, .static yX6_runsOf, .code yX6_runsOf cX6_runsOf 1 (some .int), .methodLink RX6 77 yX6_bits, .static yX6_bits, .code yX6_bits cX6_bits 3 (some .int)] ++ wsX60)
def wsX6_partsTurned_r1 : List Cond := [Cond.fieldLink RX6 7 "BlobRunsModel" "now" "[I", Cond.fieldLink RX6 13 "BlobRunsModel" "tried" "[I", Cond.methodLink RX6 123 yX6_copies, Cond.static yX6_copies, Cond.initialized RX6, Cond.code yX6_copies cX6_copies 3 none, Cond.methodLink RX6 127 yX6_partsOf, Cond.instanceMethod yX6_partsOf, Cond.selects RX6 yX6_partsOf yX6_partsOf, Cond.code yX6_partsOf cX6_partsOf 2 (some .int), Cond.fieldLink RX6 59 "BlobRunsModel" "darkMany" "I", Cond.methodLink RX6 73 yX6_parts, Cond.instanceMethod yX6_parts, Cond.selects RX6 yX6_parts yX6_parts, Cond.code yX6_parts cX6_parts 4 none, Cond.fieldLink RX6 63 "BlobRunsModel" "lightMany" "I", Cond.fieldLink RX6 66 "BlobRunsModel" "holeMany" "I", Cond.fieldLink RX6 16 "BlobRunsModel" "numbers" "[I", Cond.fieldLink RX6 22 "BlobRunsModel" "darkFirst" "[I", Cond.fieldLink RX6 25 "BlobRunsModel" "lightFirst" "[I", Cond.fieldLink RX6 28 "BlobRunsModel" "holeAs" "[I", Cond.methodLink RX6 52 yX6_isDark, Cond.static yX6_isDark, Cond.code yX6_isDark cX6_isDark 2 (some .boolean)]
def wsX6_partsTurned_r2 : List Cond := [Cond.methodLink RX6 44 yX6_has, Cond.static yX6_has, Cond.code yX6_has cX6_has 2 (some .boolean), Cond.methodLink RX6 69 yX6_floods, Cond.instanceMethod yX6_floods, Cond.selects RX6 yX6_floods yX6_floods, Cond.code yX6_floods cX6_floods 16 (some .boolean), Cond.fieldLink RX6 19 "BlobRunsModel" "queue" "[I", Cond.methodLink RX6 56 yX6_isOn, Cond.static yX6_isOn, Cond.code yX6_isOn cX6_isOn 2 (some .boolean), Cond.methodLink RX6 48 yX6_in, Cond.static yX6_in, Cond.code yX6_in cX6_in 3 (some .boolean)]
def wsX6_partsTurned : List Cond := .code yX6_partsTurned cX6_partsTurned 2 (some .int) :: ((wsX6_partsTurned_r1 ++ wsX6_partsTurned_r2) ++ wsX60)
def wsX6_dot_r1 : List Cond := [Cond.constant RX6 122 (-1000000001), Cond.fieldLink RX6 7 "BlobRunsModel" "now" "[I", Cond.fieldLink RX6 16 "BlobRunsModel" "numbers" "[I", Cond.fieldLink RX6 28 "BlobRunsModel" "holeAs" "[I", Cond.fieldLink RX6 59 "BlobRunsModel" "darkMany" "I", Cond.constant RX6 121 (-1000000002), Cond.methodLink RX6 56 yX6_isOn, Cond.static yX6_isOn, Cond.initialized RX6, Cond.code yX6_isOn cX6_isOn 2 (some .boolean), Cond.methodLink RX6 48 yX6_in, Cond.static yX6_in, Cond.code yX6_in cX6_in 3 (some .boolean), Cond.methodLink RX6 52 yX6_isDark, Cond.static yX6_isDark, Cond.code yX6_isDark cX6_isDark 2 (some .boolean), Cond.methodLink RX6 44 yX6_has, Cond.static yX6_has, Cond.code yX6_has cX6_has 2 (some .boolean), Cond.methodLink RX6 130 yX6_partsTurned, Cond.instanceMethod yX6_partsTurned, Cond.selects RX6 yX6_partsTurned yX6_partsTurned, Cond.code yX6_partsTurned cX6_partsTurned 2 (some .int), Cond.fieldLink RX6 13 "BlobRunsModel" "tried" "[I"]
def wsX6_dot_r2 : List Cond := [Cond.methodLink RX6 123 yX6_copies, Cond.static yX6_copies, Cond.code yX6_copies cX6_copies 3 none, Cond.methodLink RX6 127 yX6_partsOf, Cond.instanceMethod yX6_partsOf, Cond.selects RX6 yX6_partsOf yX6_partsOf, Cond.code yX6_partsOf cX6_partsOf 2 (some .int), Cond.methodLink RX6 73 yX6_parts, Cond.instanceMethod yX6_parts, Cond.selects RX6 yX6_parts yX6_parts, Cond.code yX6_parts cX6_parts 4 none, Cond.fieldLink RX6 63 "BlobRunsModel" "lightMany" "I", Cond.fieldLink RX6 66 "BlobRunsModel" "holeMany" "I", Cond.fieldLink RX6 22 "BlobRunsModel" "darkFirst" "[I", Cond.fieldLink RX6 25 "BlobRunsModel" "lightFirst" "[I", Cond.methodLink RX6 69 yX6_floods, Cond.instanceMethod yX6_floods, Cond.selects RX6 yX6_floods yX6_floods, Cond.code yX6_floods cX6_floods 16 (some .boolean), Cond.fieldLink RX6 19 "BlobRunsModel" "queue" "[I"]
def wsX6_dot : List Cond := .code yX6_dot cX6_dot 7 (some .int) :: ((wsX6_dot_r1 ++ wsX6_dot_r2) ++ wsX60)
def wsX6_part_r1 : List Cond := [Cond.fieldLink RX6 7 "BlobRunsModel" "now" "[I", Cond.constant RX6 122 (-1000000001), Cond.fieldLink RX6 22 "BlobRunsModel" "darkFirst" "[I", Cond.constant RX6 121 (-1000000002), Cond.methodLink RX6 127 yX6_partsOf, Cond.instanceMethod yX6_partsOf, Cond.selects RX6 yX6_partsOf yX6_partsOf, Cond.initialized RX6, Cond.code yX6_partsOf cX6_partsOf 2 (some .int), Cond.fieldLink RX6 59 "BlobRunsModel" "darkMany" "I", Cond.methodLink RX6 73 yX6_parts, Cond.instanceMethod yX6_parts, Cond.selects RX6 yX6_parts yX6_parts, Cond.code yX6_parts cX6_parts 4 none, Cond.fieldLink RX6 63 "BlobRunsModel" "lightMany" "I", Cond.fieldLink RX6 66 "BlobRunsModel" "holeMany" "I", Cond.fieldLink RX6 16 "BlobRunsModel" "numbers" "[I", Cond.fieldLink RX6 25 "BlobRunsModel" "lightFirst" "[I", Cond.fieldLink RX6 28 "BlobRunsModel" "holeAs" "[I", Cond.methodLink RX6 52 yX6_isDark, Cond.static yX6_isDark, Cond.code yX6_isDark cX6_isDark 2 (some .boolean), Cond.methodLink RX6 44 yX6_has, Cond.static yX6_has]
def wsX6_part_r2 : List Cond := [Cond.code yX6_has cX6_has 2 (some .boolean), Cond.methodLink RX6 69 yX6_floods, Cond.instanceMethod yX6_floods, Cond.selects RX6 yX6_floods yX6_floods, Cond.code yX6_floods cX6_floods 16 (some .boolean), Cond.fieldLink RX6 19 "BlobRunsModel" "queue" "[I", Cond.methodLink RX6 56 yX6_isOn, Cond.static yX6_isOn, Cond.code yX6_isOn cX6_isOn 2 (some .boolean), Cond.methodLink RX6 48 yX6_in, Cond.static yX6_in, Cond.code yX6_in cX6_in 3 (some .boolean), Cond.methodLink RX6 100 yX6_sizeOf, Cond.instanceMethod yX6_sizeOf, Cond.selects RX6 yX6_sizeOf yX6_sizeOf, Cond.code yX6_sizeOf cX6_sizeOf 5 (some .int), Cond.methodLink RX6 81 yX6_isOf, Cond.instanceMethod yX6_isOf, Cond.selects RX6 yX6_isOf yX6_isOf, Cond.code yX6_isOf cX6_isOf 4 (some .boolean), Cond.methodLink RX6 133 yX6_rimOf, Cond.instanceMethod yX6_rimOf, Cond.selects RX6 yX6_rimOf yX6_rimOf, Cond.code yX6_rimOf cX6_rimOf 4 (some .int)]
def wsX6_part_r3 : List Cond := [Cond.methodLink RX6 97 yX6_sidesOf, Cond.instanceMethod yX6_sidesOf, Cond.selects RX6 yX6_sidesOf yX6_sidesOf, Cond.code yX6_sidesOf cX6_sidesOf 4 (some .int), Cond.methodLink RX6 94 yX6_isRim, Cond.static yX6_isRim, Cond.code yX6_isRim cX6_isRim 3 (some .boolean), Cond.methodLink RX6 136 yX6_edge, Cond.instanceMethod yX6_edge, Cond.selects RX6 yX6_edge yX6_edge, Cond.code yX6_edge cX6_edge 8 (some .int), Cond.methodLink RX6 140 yX6_holesOf, Cond.instanceMethod yX6_holesOf, Cond.selects RX6 yX6_holesOf yX6_holesOf, Cond.code yX6_holesOf cX6_holesOf 4 (some .int), Cond.methodLink RX6 91 yX6_partOf, Cond.instanceMethod yX6_partOf, Cond.selects RX6 yX6_partOf yX6_partOf, Cond.code yX6_partOf cX6_partOf 2 (some .int), Cond.methodLink RX6 85 yX6_lightOf, Cond.instanceMethod yX6_lightOf, Cond.selects RX6 yX6_lightOf yX6_lightOf, Cond.code yX6_lightOf cX6_lightOf 3 (some .int), Cond.methodLink RX6 88 yX6_liesIn]
def wsX6_part_r4 : List Cond := [Cond.instanceMethod yX6_liesIn, Cond.selects RX6 yX6_liesIn yX6_liesIn, Cond.code yX6_liesIn cX6_liesIn 3 (some .int), Cond.methodLink RX6 111 yX6_deep, Cond.instanceMethod yX6_deep, Cond.selects RX6 yX6_deep yX6_deep, Cond.code yX6_deep cX6_deep 4 (some .int)]
def wsX6_part : List Cond := .code yX6_part cX6_part 3 (some .int) :: ((wsX6_part_r1 ++ (wsX6_part_r2 ++ (wsX6_part_r3 ++ wsX6_part_r4))) ++ wsX60)
def wsX6_hole_r1 : List Cond := [Cond.fieldLink RX6 7 "BlobRunsModel" "now" "[I", Cond.fieldLink RX6 66 "BlobRunsModel" "holeMany" "I", Cond.constant RX6 122 (-1000000001), Cond.fieldLink RX6 25 "BlobRunsModel" "lightFirst" "[I", Cond.constant RX6 121 (-1000000002), Cond.methodLink RX6 73 yX6_parts, Cond.instanceMethod yX6_parts, Cond.selects RX6 yX6_parts yX6_parts, Cond.initialized RX6, Cond.code yX6_parts cX6_parts 4 none, Cond.fieldLink RX6 59 "BlobRunsModel" "darkMany" "I", Cond.fieldLink RX6 63 "BlobRunsModel" "lightMany" "I", Cond.fieldLink RX6 16 "BlobRunsModel" "numbers" "[I", Cond.fieldLink RX6 22 "BlobRunsModel" "darkFirst" "[I", Cond.fieldLink RX6 28 "BlobRunsModel" "holeAs" "[I", Cond.methodLink RX6 52 yX6_isDark, Cond.static yX6_isDark, Cond.code yX6_isDark cX6_isDark 2 (some .boolean), Cond.methodLink RX6 44 yX6_has, Cond.static yX6_has, Cond.code yX6_has cX6_has 2 (some .boolean), Cond.methodLink RX6 69 yX6_floods, Cond.instanceMethod yX6_floods, Cond.selects RX6 yX6_floods yX6_floods]
def wsX6_hole_r2 : List Cond := [Cond.code yX6_floods cX6_floods 16 (some .boolean), Cond.fieldLink RX6 19 "BlobRunsModel" "queue" "[I", Cond.methodLink RX6 56 yX6_isOn, Cond.static yX6_isOn, Cond.code yX6_isOn cX6_isOn 2 (some .boolean), Cond.methodLink RX6 48 yX6_in, Cond.static yX6_in, Cond.code yX6_in cX6_in 3 (some .boolean), Cond.methodLink RX6 85 yX6_lightOf, Cond.instanceMethod yX6_lightOf, Cond.selects RX6 yX6_lightOf yX6_lightOf, Cond.code yX6_lightOf cX6_lightOf 3 (some .int), Cond.methodLink RX6 100 yX6_sizeOf, Cond.instanceMethod yX6_sizeOf, Cond.selects RX6 yX6_sizeOf yX6_sizeOf, Cond.code yX6_sizeOf cX6_sizeOf 5 (some .int), Cond.methodLink RX6 81 yX6_isOf, Cond.instanceMethod yX6_isOf, Cond.selects RX6 yX6_isOf yX6_isOf, Cond.code yX6_isOf cX6_isOf 4 (some .boolean), Cond.methodLink RX6 91 yX6_partOf, Cond.instanceMethod yX6_partOf, Cond.selects RX6 yX6_partOf yX6_partOf, Cond.code yX6_partOf cX6_partOf 2 (some .int)]
def wsX6_hole_r3 : List Cond := [Cond.methodLink RX6 143 yX6_partsIn, Cond.instanceMethod yX6_partsIn, Cond.selects RX6 yX6_partsIn yX6_partsIn, Cond.code yX6_partsIn cX6_partsIn 4 (some .int), Cond.methodLink RX6 88 yX6_liesIn, Cond.instanceMethod yX6_liesIn, Cond.selects RX6 yX6_liesIn yX6_liesIn, Cond.code yX6_liesIn cX6_liesIn 3 (some .int)]
def wsX6_hole : List Cond := .code yX6_hole cX6_hole 3 (some .int) :: ((wsX6_hole_r1 ++ (wsX6_hole_r2 ++ wsX6_hole_r3)) ++ wsX60)
def wsX6_remember : List Cond := .code yX6_remember cX6_remember 2 none :: ([.fieldLink RX6 31 "BlobRunsModel" "undos" "[I", .fieldLink RX6 146 "BlobRunsModel" "undoAt" "I", .fieldLink RX6 7 "BlobRunsModel" "now" "[I", .fieldLink RX6 118 "BlobRunsModel" "undoMany" "I"] ++ wsX60)
def wsX6_row_r1 : List Cond := [Cond.constant RX6 122 (-1000000001), Cond.constant RX6 149 (65535), Cond.constant RX6 121 (-1000000002), Cond.fieldLink RX6 7 "BlobRunsModel" "now" "[I", Cond.methodLink RX6 48 yX6_in, Cond.static yX6_in, Cond.initialized RX6, Cond.code yX6_in cX6_in 3 (some .boolean), Cond.methodLink RX6 150 yX6_remember, Cond.instanceMethod yX6_remember, Cond.selects RX6 yX6_remember yX6_remember, Cond.code yX6_remember cX6_remember 2 none, Cond.fieldLink RX6 31 "BlobRunsModel" "undos" "[I", Cond.fieldLink RX6 146 "BlobRunsModel" "undoAt" "I", Cond.fieldLink RX6 118 "BlobRunsModel" "undoMany" "I", Cond.methodLink RX6 127 yX6_partsOf, Cond.instanceMethod yX6_partsOf, Cond.selects RX6 yX6_partsOf yX6_partsOf, Cond.code yX6_partsOf cX6_partsOf 2 (some .int), Cond.fieldLink RX6 59 "BlobRunsModel" "darkMany" "I", Cond.methodLink RX6 73 yX6_parts, Cond.instanceMethod yX6_parts, Cond.selects RX6 yX6_parts yX6_parts, Cond.code yX6_parts cX6_parts 4 none]
def wsX6_row_r2 : List Cond := [Cond.fieldLink RX6 63 "BlobRunsModel" "lightMany" "I", Cond.fieldLink RX6 66 "BlobRunsModel" "holeMany" "I", Cond.fieldLink RX6 16 "BlobRunsModel" "numbers" "[I", Cond.fieldLink RX6 22 "BlobRunsModel" "darkFirst" "[I", Cond.fieldLink RX6 25 "BlobRunsModel" "lightFirst" "[I", Cond.fieldLink RX6 28 "BlobRunsModel" "holeAs" "[I", Cond.methodLink RX6 52 yX6_isDark, Cond.static yX6_isDark, Cond.code yX6_isDark cX6_isDark 2 (some .boolean), Cond.methodLink RX6 44 yX6_has, Cond.static yX6_has, Cond.code yX6_has cX6_has 2 (some .boolean), Cond.methodLink RX6 69 yX6_floods, Cond.instanceMethod yX6_floods, Cond.selects RX6 yX6_floods yX6_floods, Cond.code yX6_floods cX6_floods 16 (some .boolean), Cond.fieldLink RX6 19 "BlobRunsModel" "queue" "[I", Cond.methodLink RX6 56 yX6_isOn, Cond.static yX6_isOn, Cond.code yX6_isOn cX6_isOn 2 (some .boolean)]
def wsX6_row : List Cond := .code yX6_row cX6_row 3 (some .int) :: ((wsX6_row_r1 ++ wsX6_row_r2) ++ wsX60)
def wsX6_turns : List Cond := .code yX6_turns cX6_turns 2 none :: ([.fieldLink RX6 7 "BlobRunsModel" "now" "[I", .methodLink RX6 150 yX6_remember, .instanceMethod yX6_remember, .selects RX6 yX6_remember yX6_remember, .initialized RX6, .code yX6_remember cX6_remember 2 none, .fieldLink RX6 31 "BlobRunsModel" "undos" "[I", .fieldLink RX6 146 "BlobRunsModel" "undoAt" "I", .fieldLink RX6 118 "BlobRunsModel" "undoMany" "I"] ++ wsX60)
def wsX6_turn : List Cond := .code yX6_turn cX6_turn 3 (some .int) :: ([.constant RX6 122 (-1000000001), .fieldLink RX6 7 "BlobRunsModel" "now" "[I", .methodLink RX6 56 yX6_isOn, .static yX6_isOn, .initialized RX6, .code yX6_isOn cX6_isOn 2 (some .boolean), .methodLink RX6 48 yX6_in, .static yX6_in, .code yX6_in cX6_in 3 (some .boolean), .methodLink RX6 153 yX6_turns, .instanceMethod yX6_turns, .selects RX6 yX6_turns yX6_turns, .code yX6_turns cX6_turns 2 none, .methodLink RX6 150 yX6_remember, .instanceMethod yX6_remember, .selects RX6 yX6_remember yX6_remember, .code yX6_remember cX6_remember 2 none, .fieldLink RX6 31 "BlobRunsModel" "undos" "[I", .fieldLink RX6 146 "BlobRunsModel" "undoAt" "I", .fieldLink RX6 118 "BlobRunsModel" "undoMany" "I", .methodLink RX6 44 yX6_has, .static yX6_has, .code yX6_has cX6_has 2 (some .boolean)] ++ wsX60)
def wsX6_turnsAll : List Cond := .code yX6_turnsAll cX6_turnsAll 5 (some .int) :: ([.fieldLink RX6 7 "BlobRunsModel" "now" "[I", .fieldLink RX6 13 "BlobRunsModel" "tried" "[I", .methodLink RX6 150 yX6_remember, .instanceMethod yX6_remember, .selects RX6 yX6_remember yX6_remember, .initialized RX6, .code yX6_remember cX6_remember 2 none, .fieldLink RX6 31 "BlobRunsModel" "undos" "[I", .fieldLink RX6 146 "BlobRunsModel" "undoAt" "I", .fieldLink RX6 118 "BlobRunsModel" "undoMany" "I", .methodLink RX6 123 yX6_copies, .static yX6_copies, .code yX6_copies cX6_copies 3 none, .methodLink RX6 81 yX6_isOf, .instanceMethod yX6_isOf, .selects RX6 yX6_isOf yX6_isOf, .code yX6_isOf cX6_isOf 4 (some .boolean), .fieldLink RX6 16 "BlobRunsModel" "numbers" "[I", .methodLink RX6 52 yX6_isDark, .static yX6_isDark, .code yX6_isDark cX6_isDark 2 (some .boolean), .methodLink RX6 44 yX6_has, .static yX6_has, .code yX6_has cX6_has 2 (some .boolean)] ++ wsX60)
def wsX6_wipe_r1 : List Cond := [Cond.fieldLink RX6 7 "BlobRunsModel" "now" "[I", Cond.constant RX6 122 (-1000000001), Cond.methodLink RX6 127 yX6_partsOf, Cond.instanceMethod yX6_partsOf, Cond.selects RX6 yX6_partsOf yX6_partsOf, Cond.initialized RX6, Cond.code yX6_partsOf cX6_partsOf 2 (some .int), Cond.fieldLink RX6 59 "BlobRunsModel" "darkMany" "I", Cond.methodLink RX6 73 yX6_parts, Cond.instanceMethod yX6_parts, Cond.selects RX6 yX6_parts yX6_parts, Cond.code yX6_parts cX6_parts 4 none, Cond.fieldLink RX6 63 "BlobRunsModel" "lightMany" "I", Cond.fieldLink RX6 66 "BlobRunsModel" "holeMany" "I", Cond.fieldLink RX6 16 "BlobRunsModel" "numbers" "[I", Cond.fieldLink RX6 22 "BlobRunsModel" "darkFirst" "[I", Cond.fieldLink RX6 25 "BlobRunsModel" "lightFirst" "[I", Cond.fieldLink RX6 28 "BlobRunsModel" "holeAs" "[I", Cond.methodLink RX6 52 yX6_isDark, Cond.static yX6_isDark, Cond.code yX6_isDark cX6_isDark 2 (some .boolean), Cond.methodLink RX6 44 yX6_has, Cond.static yX6_has, Cond.code yX6_has cX6_has 2 (some .boolean)]
def wsX6_wipe_r2 : List Cond := [Cond.methodLink RX6 69 yX6_floods, Cond.instanceMethod yX6_floods, Cond.selects RX6 yX6_floods yX6_floods, Cond.code yX6_floods cX6_floods 16 (some .boolean), Cond.fieldLink RX6 19 "BlobRunsModel" "queue" "[I", Cond.methodLink RX6 56 yX6_isOn, Cond.static yX6_isOn, Cond.code yX6_isOn cX6_isOn 2 (some .boolean), Cond.methodLink RX6 48 yX6_in, Cond.static yX6_in, Cond.code yX6_in cX6_in 3 (some .boolean), Cond.methodLink RX6 157 yX6_turnsAll, Cond.instanceMethod yX6_turnsAll, Cond.selects RX6 yX6_turnsAll yX6_turnsAll, Cond.code yX6_turnsAll cX6_turnsAll 5 (some .int), Cond.fieldLink RX6 13 "BlobRunsModel" "tried" "[I", Cond.methodLink RX6 150 yX6_remember, Cond.instanceMethod yX6_remember, Cond.selects RX6 yX6_remember yX6_remember, Cond.code yX6_remember cX6_remember 2 none, Cond.fieldLink RX6 31 "BlobRunsModel" "undos" "[I", Cond.fieldLink RX6 146 "BlobRunsModel" "undoAt" "I", Cond.fieldLink RX6 118 "BlobRunsModel" "undoMany" "I", Cond.methodLink RX6 123 yX6_copies]
def wsX6_wipe_r3 : List Cond := [Cond.static yX6_copies, Cond.code yX6_copies cX6_copies 3 none, Cond.methodLink RX6 81 yX6_isOf, Cond.instanceMethod yX6_isOf, Cond.selects RX6 yX6_isOf yX6_isOf, Cond.code yX6_isOf cX6_isOf 4 (some .boolean)]
def wsX6_wipe : List Cond := .code yX6_wipe cX6_wipe 2 (some .int) :: ((wsX6_wipe_r1 ++ (wsX6_wipe_r2 ++ wsX6_wipe_r3)) ++ wsX60)
def wsX6_fill_r1 : List Cond := [Cond.fieldLink RX6 7 "BlobRunsModel" "now" "[I", Cond.fieldLink RX6 66 "BlobRunsModel" "holeMany" "I", Cond.constant RX6 122 (-1000000001), Cond.methodLink RX6 73 yX6_parts, Cond.instanceMethod yX6_parts, Cond.selects RX6 yX6_parts yX6_parts, Cond.initialized RX6, Cond.code yX6_parts cX6_parts 4 none, Cond.fieldLink RX6 59 "BlobRunsModel" "darkMany" "I", Cond.fieldLink RX6 63 "BlobRunsModel" "lightMany" "I", Cond.fieldLink RX6 16 "BlobRunsModel" "numbers" "[I", Cond.fieldLink RX6 22 "BlobRunsModel" "darkFirst" "[I", Cond.fieldLink RX6 25 "BlobRunsModel" "lightFirst" "[I", Cond.fieldLink RX6 28 "BlobRunsModel" "holeAs" "[I", Cond.methodLink RX6 52 yX6_isDark, Cond.static yX6_isDark, Cond.code yX6_isDark cX6_isDark 2 (some .boolean), Cond.methodLink RX6 44 yX6_has, Cond.static yX6_has, Cond.code yX6_has cX6_has 2 (some .boolean), Cond.methodLink RX6 69 yX6_floods, Cond.instanceMethod yX6_floods, Cond.selects RX6 yX6_floods yX6_floods, Cond.code yX6_floods cX6_floods 16 (some .boolean)]
def wsX6_fill_r2 : List Cond := [Cond.fieldLink RX6 19 "BlobRunsModel" "queue" "[I", Cond.methodLink RX6 56 yX6_isOn, Cond.static yX6_isOn, Cond.code yX6_isOn cX6_isOn 2 (some .boolean), Cond.methodLink RX6 48 yX6_in, Cond.static yX6_in, Cond.code yX6_in cX6_in 3 (some .boolean), Cond.methodLink RX6 85 yX6_lightOf, Cond.instanceMethod yX6_lightOf, Cond.selects RX6 yX6_lightOf yX6_lightOf, Cond.code yX6_lightOf cX6_lightOf 3 (some .int), Cond.methodLink RX6 157 yX6_turnsAll, Cond.instanceMethod yX6_turnsAll, Cond.selects RX6 yX6_turnsAll yX6_turnsAll, Cond.code yX6_turnsAll cX6_turnsAll 5 (some .int), Cond.fieldLink RX6 13 "BlobRunsModel" "tried" "[I", Cond.methodLink RX6 150 yX6_remember, Cond.instanceMethod yX6_remember, Cond.selects RX6 yX6_remember yX6_remember, Cond.code yX6_remember cX6_remember 2 none, Cond.fieldLink RX6 31 "BlobRunsModel" "undos" "[I", Cond.fieldLink RX6 146 "BlobRunsModel" "undoAt" "I", Cond.fieldLink RX6 118 "BlobRunsModel" "undoMany" "I", Cond.methodLink RX6 123 yX6_copies]
def wsX6_fill_r3 : List Cond := [Cond.static yX6_copies, Cond.code yX6_copies cX6_copies 3 none, Cond.methodLink RX6 81 yX6_isOf, Cond.instanceMethod yX6_isOf, Cond.selects RX6 yX6_isOf yX6_isOf, Cond.code yX6_isOf cX6_isOf 4 (some .boolean)]
def wsX6_fill : List Cond := .code yX6_fill cX6_fill 2 (some .int) :: ((wsX6_fill_r1 ++ (wsX6_fill_r2 ++ wsX6_fill_r3)) ++ wsX60)
def wsX6_isNear : List Cond := .code yX6_isNear cX6_isNear 8 (some .boolean) :: ([.fieldLink RX6 7 "BlobRunsModel" "now" "[I", .methodLink RX6 56 yX6_isOn, .static yX6_isOn, .initialized RX6, .code yX6_isOn cX6_isOn 2 (some .boolean), .methodLink RX6 48 yX6_in, .static yX6_in, .code yX6_in cX6_in 3 (some .boolean), .methodLink RX6 44 yX6_has, .static yX6_has, .code yX6_has cX6_has 2 (some .boolean)] ++ wsX60)
def wsX6_turnsNear_r1 : List Cond := [Cond.fieldLink RX6 7 "BlobRunsModel" "now" "[I", Cond.fieldLink RX6 13 "BlobRunsModel" "tried" "[I", Cond.methodLink RX6 150 yX6_remember, Cond.instanceMethod yX6_remember, Cond.selects RX6 yX6_remember yX6_remember, Cond.initialized RX6, Cond.code yX6_remember cX6_remember 2 none, Cond.fieldLink RX6 31 "BlobRunsModel" "undos" "[I", Cond.fieldLink RX6 146 "BlobRunsModel" "undoAt" "I", Cond.fieldLink RX6 118 "BlobRunsModel" "undoMany" "I", Cond.methodLink RX6 123 yX6_copies, Cond.static yX6_copies, Cond.code yX6_copies cX6_copies 3 none, Cond.methodLink RX6 52 yX6_isDark, Cond.static yX6_isDark, Cond.code yX6_isDark cX6_isDark 2 (some .boolean), Cond.methodLink RX6 44 yX6_has, Cond.static yX6_has, Cond.code yX6_has cX6_has 2 (some .boolean), Cond.methodLink RX6 160 yX6_isNear, Cond.instanceMethod yX6_isNear, Cond.selects RX6 yX6_isNear yX6_isNear, Cond.code yX6_isNear cX6_isNear 8 (some .boolean), Cond.methodLink RX6 56 yX6_isOn]
def wsX6_turnsNear_r2 : List Cond := [Cond.static yX6_isOn, Cond.code yX6_isOn cX6_isOn 2 (some .boolean), Cond.methodLink RX6 48 yX6_in, Cond.static yX6_in, Cond.code yX6_in cX6_in 3 (some .boolean)]
def wsX6_turnsNear : List Cond := .code yX6_turnsNear cX6_turnsNear 4 (some .int) :: ((wsX6_turnsNear_r1 ++ wsX6_turnsNear_r2) ++ wsX60)
def wsX6_grow_r1 : List Cond := [Cond.methodLink RX6 164 yX6_turnsNear, Cond.instanceMethod yX6_turnsNear, Cond.selects RX6 yX6_turnsNear yX6_turnsNear, Cond.initialized RX6, Cond.code yX6_turnsNear cX6_turnsNear 4 (some .int), Cond.fieldLink RX6 7 "BlobRunsModel" "now" "[I", Cond.fieldLink RX6 13 "BlobRunsModel" "tried" "[I", Cond.methodLink RX6 150 yX6_remember, Cond.instanceMethod yX6_remember, Cond.selects RX6 yX6_remember yX6_remember, Cond.code yX6_remember cX6_remember 2 none, Cond.fieldLink RX6 31 "BlobRunsModel" "undos" "[I", Cond.fieldLink RX6 146 "BlobRunsModel" "undoAt" "I", Cond.fieldLink RX6 118 "BlobRunsModel" "undoMany" "I", Cond.methodLink RX6 123 yX6_copies, Cond.static yX6_copies, Cond.code yX6_copies cX6_copies 3 none, Cond.methodLink RX6 52 yX6_isDark, Cond.static yX6_isDark, Cond.code yX6_isDark cX6_isDark 2 (some .boolean), Cond.methodLink RX6 44 yX6_has, Cond.static yX6_has, Cond.code yX6_has cX6_has 2 (some .boolean), Cond.methodLink RX6 160 yX6_isNear]
def wsX6_grow_r2 : List Cond := [Cond.instanceMethod yX6_isNear, Cond.selects RX6 yX6_isNear yX6_isNear, Cond.code yX6_isNear cX6_isNear 8 (some .boolean), Cond.methodLink RX6 56 yX6_isOn, Cond.static yX6_isOn, Cond.code yX6_isOn cX6_isOn 2 (some .boolean), Cond.methodLink RX6 48 yX6_in, Cond.static yX6_in, Cond.code yX6_in cX6_in 3 (some .boolean)]
def wsX6_grow : List Cond := .code yX6_grow cX6_grow 1 (some .int) :: ((wsX6_grow_r1 ++ wsX6_grow_r2) ++ wsX60)
def wsX6_shrink_r1 : List Cond := [Cond.methodLink RX6 164 yX6_turnsNear, Cond.instanceMethod yX6_turnsNear, Cond.selects RX6 yX6_turnsNear yX6_turnsNear, Cond.initialized RX6, Cond.code yX6_turnsNear cX6_turnsNear 4 (some .int), Cond.fieldLink RX6 7 "BlobRunsModel" "now" "[I", Cond.fieldLink RX6 13 "BlobRunsModel" "tried" "[I", Cond.methodLink RX6 150 yX6_remember, Cond.instanceMethod yX6_remember, Cond.selects RX6 yX6_remember yX6_remember, Cond.code yX6_remember cX6_remember 2 none, Cond.fieldLink RX6 31 "BlobRunsModel" "undos" "[I", Cond.fieldLink RX6 146 "BlobRunsModel" "undoAt" "I", Cond.fieldLink RX6 118 "BlobRunsModel" "undoMany" "I", Cond.methodLink RX6 123 yX6_copies, Cond.static yX6_copies, Cond.code yX6_copies cX6_copies 3 none, Cond.methodLink RX6 52 yX6_isDark, Cond.static yX6_isDark, Cond.code yX6_isDark cX6_isDark 2 (some .boolean), Cond.methodLink RX6 44 yX6_has, Cond.static yX6_has, Cond.code yX6_has cX6_has 2 (some .boolean), Cond.methodLink RX6 160 yX6_isNear]
def wsX6_shrink_r2 : List Cond := [Cond.instanceMethod yX6_isNear, Cond.selects RX6 yX6_isNear yX6_isNear, Cond.code yX6_isNear cX6_isNear 8 (some .boolean), Cond.methodLink RX6 56 yX6_isOn, Cond.static yX6_isOn, Cond.code yX6_isOn cX6_isOn 2 (some .boolean), Cond.methodLink RX6 48 yX6_in, Cond.static yX6_in, Cond.code yX6_in cX6_in 3 (some .boolean)]
def wsX6_shrink : List Cond := .code yX6_shrink cX6_shrink 1 (some .int) :: ((wsX6_shrink_r1 ++ wsX6_shrink_r2) ++ wsX60)
def wsX6_move_r1 : List Cond := [Cond.constant RX6 121 (-1000000002), Cond.fieldLink RX6 7 "BlobRunsModel" "now" "[I", Cond.fieldLink RX6 13 "BlobRunsModel" "tried" "[I", Cond.constant RX6 149 (65535), Cond.methodLink RX6 48 yX6_in, Cond.static yX6_in, Cond.initialized RX6, Cond.code yX6_in cX6_in 3 (some .boolean), Cond.methodLink RX6 150 yX6_remember, Cond.instanceMethod yX6_remember, Cond.selects RX6 yX6_remember yX6_remember, Cond.code yX6_remember cX6_remember 2 none, Cond.fieldLink RX6 31 "BlobRunsModel" "undos" "[I", Cond.fieldLink RX6 146 "BlobRunsModel" "undoAt" "I", Cond.fieldLink RX6 118 "BlobRunsModel" "undoMany" "I", Cond.methodLink RX6 123 yX6_copies, Cond.static yX6_copies, Cond.code yX6_copies cX6_copies 3 none, Cond.methodLink RX6 104 yX6_darkOf, Cond.instanceMethod yX6_darkOf, Cond.selects RX6 yX6_darkOf yX6_darkOf, Cond.code yX6_darkOf cX6_darkOf 4 (some .int), Cond.methodLink RX6 77 yX6_bits, Cond.static yX6_bits]
def wsX6_move_r2 : List Cond := [Cond.code yX6_bits cX6_bits 3 (some .int)]
def wsX6_move : List Cond := .code yX6_move cX6_move 5 (some .int) :: ((wsX6_move_r1 ++ wsX6_move_r2) ++ wsX60)
def wsX6_over : List Cond := .code yX6_over cX6_over 2 (some .int) :: ([.fieldLink RX6 7 "BlobRunsModel" "now" "[I", .constant RX6 149 (65535), .methodLink RX6 150 yX6_remember, .instanceMethod yX6_remember, .selects RX6 yX6_remember yX6_remember, .initialized RX6, .code yX6_remember cX6_remember 2 none, .fieldLink RX6 31 "BlobRunsModel" "undos" "[I", .fieldLink RX6 146 "BlobRunsModel" "undoAt" "I", .fieldLink RX6 118 "BlobRunsModel" "undoMany" "I", .methodLink RX6 104 yX6_darkOf, .instanceMethod yX6_darkOf, .selects RX6 yX6_darkOf yX6_darkOf, .code yX6_darkOf cX6_darkOf 4 (some .int), .methodLink RX6 77 yX6_bits, .static yX6_bits, .code yX6_bits cX6_bits 3 (some .int)] ++ wsX60)
def wsX6_mode_r1 : List Cond := [Cond.constant RX6 121 (-1000000002), Cond.fieldLink RX6 7 "BlobRunsModel" "now" "[I", Cond.constant RX6 168 (-1000000003), Cond.methodLink RX6 150 yX6_remember, Cond.instanceMethod yX6_remember, Cond.selects RX6 yX6_remember yX6_remember, Cond.initialized RX6, Cond.code yX6_remember cX6_remember 2 none, Cond.fieldLink RX6 31 "BlobRunsModel" "undos" "[I", Cond.fieldLink RX6 146 "BlobRunsModel" "undoAt" "I", Cond.fieldLink RX6 118 "BlobRunsModel" "undoMany" "I", Cond.methodLink RX6 127 yX6_partsOf, Cond.instanceMethod yX6_partsOf, Cond.selects RX6 yX6_partsOf yX6_partsOf, Cond.code yX6_partsOf cX6_partsOf 2 (some .int), Cond.fieldLink RX6 59 "BlobRunsModel" "darkMany" "I", Cond.methodLink RX6 73 yX6_parts, Cond.instanceMethod yX6_parts, Cond.selects RX6 yX6_parts yX6_parts, Cond.code yX6_parts cX6_parts 4 none, Cond.fieldLink RX6 63 "BlobRunsModel" "lightMany" "I", Cond.fieldLink RX6 66 "BlobRunsModel" "holeMany" "I", Cond.fieldLink RX6 16 "BlobRunsModel" "numbers" "[I", Cond.fieldLink RX6 22 "BlobRunsModel" "darkFirst" "[I"]
def wsX6_mode_r2 : List Cond := [Cond.fieldLink RX6 25 "BlobRunsModel" "lightFirst" "[I", Cond.fieldLink RX6 28 "BlobRunsModel" "holeAs" "[I", Cond.methodLink RX6 52 yX6_isDark, Cond.static yX6_isDark, Cond.code yX6_isDark cX6_isDark 2 (some .boolean), Cond.methodLink RX6 44 yX6_has, Cond.static yX6_has, Cond.code yX6_has cX6_has 2 (some .boolean), Cond.methodLink RX6 69 yX6_floods, Cond.instanceMethod yX6_floods, Cond.selects RX6 yX6_floods yX6_floods, Cond.code yX6_floods cX6_floods 16 (some .boolean), Cond.fieldLink RX6 19 "BlobRunsModel" "queue" "[I", Cond.methodLink RX6 56 yX6_isOn, Cond.static yX6_isOn, Cond.code yX6_isOn cX6_isOn 2 (some .boolean), Cond.methodLink RX6 48 yX6_in, Cond.static yX6_in, Cond.code yX6_in cX6_in 3 (some .boolean)]
def wsX6_mode : List Cond := .code yX6_mode cX6_mode 2 (some .int) :: ((wsX6_mode_r1 ++ wsX6_mode_r2) ++ wsX60)
def wsX6_draw : List Cond := .code yX6_draw cX6_draw 2 (some .int) :: ([.fieldLink RX6 169 "BlobRunsModel" "seed" "I", .constantLong RX6 172 (1103515245), .constantLong RX6 174 (12345), .constantLong RX6 176 (2147483648), .constant RX6 178 (65536)] ++ wsX60)
def wsX6_drift_r1 : List Cond := [Cond.constant RX6 121 (-1000000002), Cond.fieldLink RX6 7 "BlobRunsModel" "now" "[I", Cond.methodLink RX6 48 yX6_in, Cond.static yX6_in, Cond.initialized RX6, Cond.code yX6_in cX6_in 3 (some .boolean), Cond.methodLink RX6 179 yX6_draw, Cond.instanceMethod yX6_draw, Cond.selects RX6 yX6_draw yX6_draw, Cond.code yX6_draw cX6_draw 2 (some .int), Cond.fieldLink RX6 169 "BlobRunsModel" "seed" "I", Cond.constantLong RX6 172 (1103515245), Cond.constantLong RX6 174 (12345), Cond.constantLong RX6 176 (2147483648), Cond.constant RX6 178 (65536), Cond.methodLink RX6 153 yX6_turns, Cond.instanceMethod yX6_turns, Cond.selects RX6 yX6_turns yX6_turns, Cond.code yX6_turns cX6_turns 2 none, Cond.methodLink RX6 150 yX6_remember, Cond.instanceMethod yX6_remember, Cond.selects RX6 yX6_remember yX6_remember, Cond.code yX6_remember cX6_remember 2 none, Cond.fieldLink RX6 31 "BlobRunsModel" "undos" "[I"]
def wsX6_drift_r2 : List Cond := [Cond.fieldLink RX6 146 "BlobRunsModel" "undoAt" "I", Cond.fieldLink RX6 118 "BlobRunsModel" "undoMany" "I", Cond.methodLink RX6 104 yX6_darkOf, Cond.instanceMethod yX6_darkOf, Cond.selects RX6 yX6_darkOf yX6_darkOf, Cond.code yX6_darkOf cX6_darkOf 4 (some .int), Cond.methodLink RX6 77 yX6_bits, Cond.static yX6_bits, Cond.code yX6_bits cX6_bits 3 (some .int)]
def wsX6_drift : List Cond := .code yX6_drift cX6_drift 3 (some .int) :: ((wsX6_drift_r1 ++ wsX6_drift_r2) ++ wsX60)
def wsX6_undo : List Cond := .code yX6_undo cX6_undo 3 (some .int) :: ([.constant RX6 121 (-1000000002), .fieldLink RX6 118 "BlobRunsModel" "undoMany" "I", .constant RX6 168 (-1000000003), .fieldLink RX6 146 "BlobRunsModel" "undoAt" "I", .fieldLink RX6 7 "BlobRunsModel" "now" "[I", .fieldLink RX6 31 "BlobRunsModel" "undos" "[I", .methodLink RX6 48 yX6_in, .static yX6_in, .initialized RX6, .code yX6_in cX6_in 3 (some .boolean), .methodLink RX6 104 yX6_darkOf, .instanceMethod yX6_darkOf, .selects RX6 yX6_darkOf yX6_darkOf, .code yX6_darkOf cX6_darkOf 4 (some .int), .methodLink RX6 77 yX6_bits, .static yX6_bits, .code yX6_bits cX6_bits 3 (some .int)] ++ wsX60)
def wsX6_alike_r1 : List Cond := [Cond.fieldLink RX6 7 "BlobRunsModel" "now" "[I", Cond.fieldLink RX6 59 "BlobRunsModel" "darkMany" "I", Cond.constant RX6 122 (-1000000001), Cond.fieldLink RX6 22 "BlobRunsModel" "darkFirst" "[I", Cond.methodLink RX6 73 yX6_parts, Cond.instanceMethod yX6_parts, Cond.selects RX6 yX6_parts yX6_parts, Cond.initialized RX6, Cond.code yX6_parts cX6_parts 4 none, Cond.fieldLink RX6 63 "BlobRunsModel" "lightMany" "I", Cond.fieldLink RX6 66 "BlobRunsModel" "holeMany" "I", Cond.fieldLink RX6 16 "BlobRunsModel" "numbers" "[I", Cond.fieldLink RX6 25 "BlobRunsModel" "lightFirst" "[I", Cond.fieldLink RX6 28 "BlobRunsModel" "holeAs" "[I", Cond.methodLink RX6 52 yX6_isDark, Cond.static yX6_isDark, Cond.code yX6_isDark cX6_isDark 2 (some .boolean), Cond.methodLink RX6 44 yX6_has, Cond.static yX6_has, Cond.code yX6_has cX6_has 2 (some .boolean), Cond.methodLink RX6 69 yX6_floods, Cond.instanceMethod yX6_floods, Cond.selects RX6 yX6_floods yX6_floods, Cond.code yX6_floods cX6_floods 16 (some .boolean)]
def wsX6_alike_r2 : List Cond := [Cond.fieldLink RX6 19 "BlobRunsModel" "queue" "[I", Cond.methodLink RX6 56 yX6_isOn, Cond.static yX6_isOn, Cond.code yX6_isOn cX6_isOn 2 (some .boolean), Cond.methodLink RX6 48 yX6_in, Cond.static yX6_in, Cond.code yX6_in cX6_in 3 (some .boolean), Cond.methodLink RX6 100 yX6_sizeOf, Cond.instanceMethod yX6_sizeOf, Cond.selects RX6 yX6_sizeOf yX6_sizeOf, Cond.code yX6_sizeOf cX6_sizeOf 5 (some .int), Cond.methodLink RX6 81 yX6_isOf, Cond.instanceMethod yX6_isOf, Cond.selects RX6 yX6_isOf yX6_isOf, Cond.code yX6_isOf cX6_isOf 4 (some .boolean)]
def wsX6_alike : List Cond := .code yX6_alike cX6_alike 9 (some .int) :: ((wsX6_alike_r1 ++ wsX6_alike_r2) ++ wsX60)
def wsX6_small_r1 : List Cond := [Cond.constant RX6 121 (-1000000002), Cond.fieldLink RX6 7 "BlobRunsModel" "now" "[I", Cond.fieldLink RX6 59 "BlobRunsModel" "darkMany" "I", Cond.methodLink RX6 48 yX6_in, Cond.static yX6_in, Cond.initialized RX6, Cond.code yX6_in cX6_in 3 (some .boolean), Cond.methodLink RX6 73 yX6_parts, Cond.instanceMethod yX6_parts, Cond.selects RX6 yX6_parts yX6_parts, Cond.code yX6_parts cX6_parts 4 none, Cond.fieldLink RX6 63 "BlobRunsModel" "lightMany" "I", Cond.fieldLink RX6 66 "BlobRunsModel" "holeMany" "I", Cond.fieldLink RX6 16 "BlobRunsModel" "numbers" "[I", Cond.fieldLink RX6 22 "BlobRunsModel" "darkFirst" "[I", Cond.fieldLink RX6 25 "BlobRunsModel" "lightFirst" "[I", Cond.fieldLink RX6 28 "BlobRunsModel" "holeAs" "[I", Cond.methodLink RX6 52 yX6_isDark, Cond.static yX6_isDark, Cond.code yX6_isDark cX6_isDark 2 (some .boolean), Cond.methodLink RX6 44 yX6_has, Cond.static yX6_has, Cond.code yX6_has cX6_has 2 (some .boolean), Cond.methodLink RX6 69 yX6_floods]
def wsX6_small_r2 : List Cond := [Cond.instanceMethod yX6_floods, Cond.selects RX6 yX6_floods yX6_floods, Cond.code yX6_floods cX6_floods 16 (some .boolean), Cond.fieldLink RX6 19 "BlobRunsModel" "queue" "[I", Cond.methodLink RX6 56 yX6_isOn, Cond.static yX6_isOn, Cond.code yX6_isOn cX6_isOn 2 (some .boolean), Cond.methodLink RX6 100 yX6_sizeOf, Cond.instanceMethod yX6_sizeOf, Cond.selects RX6 yX6_sizeOf yX6_sizeOf, Cond.code yX6_sizeOf cX6_sizeOf 5 (some .int), Cond.methodLink RX6 81 yX6_isOf, Cond.instanceMethod yX6_isOf, Cond.selects RX6 yX6_isOf yX6_isOf, Cond.code yX6_isOf cX6_isOf 4 (some .boolean)]
def wsX6_small : List Cond := .code yX6_small cX6_small 4 (some .int) :: ((wsX6_small_r1 ++ wsX6_small_r2) ++ wsX60)
def wsX6_seed : List Cond := .code yX6_seed cX6_seed 3 (some .int) :: ([.constant RX6 121 (-1000000002), .fieldLink RX6 169 "BlobRunsModel" "seed" "I"] ++ wsX60)
def wsX6_keep : List Cond := .code yX6_keep cX6_keep 3 (some .int) :: ([.constant RX6 122 (-1000000001), .fieldLink RX6 34 "BlobRunsModel" "isKept" "[Z", .fieldLink RX6 41 "BlobRunsModel" "keptSeeds" "[I", .fieldLink RX6 169 "BlobRunsModel" "seed" "I", .fieldLink RX6 38 "BlobRunsModel" "kept" "[I", .fieldLink RX6 7 "BlobRunsModel" "now" "[I", .fieldLink RX6 118 "BlobRunsModel" "undoMany" "I", .methodLink RX6 48 yX6_in, .static yX6_in, .initialized RX6, .code yX6_in cX6_in 3 (some .boolean)] ++ wsX60)
def wsX6_goBack : List Cond := .code yX6_goBack cX6_goBack 3 (some .int) :: ([.constant RX6 122 (-1000000001), .fieldLink RX6 34 "BlobRunsModel" "isKept" "[Z", .constant RX6 168 (-1000000003), .fieldLink RX6 41 "BlobRunsModel" "keptSeeds" "[I", .fieldLink RX6 169 "BlobRunsModel" "seed" "I", .fieldLink RX6 7 "BlobRunsModel" "now" "[I", .fieldLink RX6 38 "BlobRunsModel" "kept" "[I", .fieldLink RX6 118 "BlobRunsModel" "undoMany" "I", .methodLink RX6 48 yX6_in, .static yX6_in, .initialized RX6, .code yX6_in cX6_in 3 (some .boolean)] ++ wsX60)
def wsJ9_max_7cf53 : List Cond := .code yJ9_max_7cf53 cJ9_max_7cf53 2 (some .int) :: ([])
def wsJ9_min_7cf53 : List Cond := .code yJ9_min_7cf53 cJ9_min_7cf53 2 (some .int) :: ([])
def wsL_law_r1 : List Cond := [Cond.classLink RL 7 RX5, Cond.instantiable RX5 7, Cond.initialized RX5, Cond.classLink RL 10 RX6, Cond.instantiable RX6 17, Cond.initialized RX6, Cond.methodLink RL 9 yX5_init, Cond.instanceMethod yX5_init, Cond.code yX5_init cX5_init 1 none, Cond.methodLink RX5 3 objectInit, Cond.instanceMethod objectInit, Cond.code objectInit ⟨#[0xb1]⟩ 1 none, Cond.classLink RX5 9 RX3, Cond.instantiable RX3 3, Cond.initialized RX3, Cond.fieldLink RX5 12 "BlobRuns" "picture" "LBlobRuns$Picture;", Cond.classLink RX5 16 RX1, Cond.instantiable RX1 14, Cond.initialized RX1, Cond.fieldLink RX5 19 "BlobRuns" "parting" "LBlobRuns$Parting;", Cond.classLink RX5 23 RX4, Cond.instantiable RX4 8, Cond.initialized RX4, Cond.fieldLink RX5 26 "BlobRuns" "trial" "LBlobRuns$Runs;"]
def wsL_law_r2 : List Cond := [Cond.classLink RX5 30 RX2, Cond.instantiable RX2 3, Cond.initialized RX2, Cond.fieldLink RX5 33 "BlobRuns" "past" "LBlobRuns$Past;", Cond.classLink RX5 37 RX0, Cond.instantiable RX0 3, Cond.initialized RX0, Cond.fieldLink RX5 40 "BlobRuns" "images" "LBlobRuns$Images;", Cond.fieldLink RX5 44 "BlobRuns" "theSeed" "I", Cond.fieldLink RX5 48 "BlobRuns" "stale" "Z", Cond.instanceMethod yX3_init, Cond.code yX3_init cX3_init 1 none, Cond.methodLink RX3 3 objectInit, Cond.arrayClass .int, Cond.fieldLink RX3 9 "BlobRuns$Picture" "rows" "[I", Cond.fieldLink RX3 15 "BlobRuns$Picture" "next" "[I", Cond.fieldLink RX3 18 "BlobRuns$Picture" "joinedBy" "I", Cond.instanceMethod yX1_init, Cond.code yX1_init cX1_init 1 none, Cond.methodLink RX1 3 objectInit, Cond.classLink RX1 9 RX4, Cond.fieldLink RX1 12 "BlobRuns$Parting" "runs" "LBlobRuns$Runs;", Cond.fieldLink RX1 18 "BlobRuns$Parting" "size" "[I", Cond.fieldLink RX1 22 "BlobRuns$Parting" "rim" "[I"]
def wsL_law_r3 : List Cond := [Cond.fieldLink RX1 25 "BlobRuns$Parting" "bottom" "[I", Cond.fieldLink RX1 28 "BlobRuns$Parting" "left" "[I", Cond.fieldLink RX1 31 "BlobRuns$Parting" "right" "[I", Cond.arrayClass .boolean, Cond.fieldLink RX1 34 "BlobRuns$Parting" "reachesRim" "[Z", Cond.fieldLink RX1 38 "BlobRuns$Parting" "number" "[I", Cond.fieldLink RX1 41 "BlobRuns$Parting" "partGroup" "[I", Cond.fieldLink RX1 44 "BlobRuns$Parting" "holeGroup" "[I", Cond.fieldLink RX1 47 "BlobRuns$Parting" "touched" "[I", Cond.fieldLink RX1 50 "BlobRuns$Parting" "partCount" "I", Cond.fieldLink RX1 54 "BlobRuns$Parting" "holeCount" "I", Cond.fieldLink RX1 57 "BlobRuns$Parting" "lightCount" "I", Cond.instanceMethod yX4_init, Cond.code yX4_init cX4_init 1 none, Cond.methodLink RX4 3 objectInit, Cond.fieldLink RX4 9 "BlobRuns$Runs" "first" "[I", Cond.fieldLink RX4 15 "BlobRuns$Runs" "changes" "[I", Cond.fieldLink RX4 18 "BlobRuns$Runs" "startOf" "[I", Cond.fieldLink RX4 21 "BlobRuns$Runs" "endOf" "[I", Cond.fieldLink RX4 24 "BlobRuns$Runs" "rowOf" "[I", Cond.fieldLink RX4 27 "BlobRuns$Runs" "dark" "[Z", Cond.fieldLink RX4 31 "BlobRuns$Runs" "towards" "[I", Cond.fieldLink RX4 34 "BlobRuns$Runs" "count" "I", Cond.instanceMethod yX2_init]
def wsL_law_r4 : List Cond := [Cond.code yX2_init cX2_init 1 none, Cond.methodLink RX2 3 objectInit, Cond.fieldLink RX2 9 "BlobRuns$Past" "shelf" "[I", Cond.fieldLink RX2 15 "BlobRuns$Past" "next" "I", Cond.fieldLink RX2 19 "BlobRuns$Past" "count" "I", Cond.instanceMethod yX0_init, Cond.code yX0_init cX0_init 1 none, Cond.methodLink RX0 3 objectInit, Cond.fieldLink RX0 9 "BlobRuns$Images" "shelf" "[I", Cond.fieldLink RX0 15 "BlobRuns$Images" "seeds" "[I", Cond.fieldLink RX0 18 "BlobRuns$Images" "taken" "[Z", Cond.methodLink RL 12 yX6_init, Cond.instanceMethod yX6_init, Cond.code yX6_init cX6_init 1 none, Cond.methodLink RX6 1 objectInit, Cond.fieldLink RX6 7 "BlobRunsModel" "now" "[I", Cond.fieldLink RX6 13 "BlobRunsModel" "tried" "[I", Cond.fieldLink RX6 16 "BlobRunsModel" "numbers" "[I", Cond.fieldLink RX6 19 "BlobRunsModel" "queue" "[I", Cond.fieldLink RX6 22 "BlobRunsModel" "darkFirst" "[I", Cond.fieldLink RX6 25 "BlobRunsModel" "lightFirst" "[I", Cond.fieldLink RX6 28 "BlobRunsModel" "holeAs" "[I", Cond.fieldLink RX6 31 "BlobRunsModel" "undos" "[I", Cond.fieldLink RX6 34 "BlobRunsModel" "isKept" "[Z"]
def wsL_law_r5 : List Cond := [Cond.fieldLink RX6 38 "BlobRunsModel" "kept" "[I", Cond.fieldLink RX6 41 "BlobRunsModel" "keptSeeds" "[I", Cond.methodLink RL 13 yX5_told, Cond.instanceMethod yX5_told, Cond.selects RX5 yX5_told yX5_told, Cond.code yX5_told cX5_told 2 (some .int), Cond.constant RX5 87 (-1000000002), Cond.methodLink RX5 55 yX3_darkDots, Cond.instanceMethod yX3_darkDots, Cond.selects RX3 yX3_darkDots yX3_darkDots, Cond.code yX3_darkDots cX3_darkDots 3 (some .int), Cond.methodLink RX3 31 yJ6_bitCount_0f7a4, Cond.static yJ6_bitCount_0f7a4, Cond.initialized RJ6, Cond.code yJ6_bitCount_0f7a4 cJ6_bitCount_0f7a4 1 (some .int), Cond.constant RJ6 265 (1431655765), Cond.constant RJ6 266 (858993459), Cond.constant RJ6 267 (252645135), Cond.methodLink RX5 59 yX5_parted, Cond.instanceMethod yX5_parted, Cond.selects RX5 yX5_parted yX5_parted, Cond.code yX5_parted cX5_parted 1 (some (.object "BlobRuns$Parting")), Cond.methodLink RX5 235 yX1_read, Cond.instanceMethod yX1_read]
def wsL_law_r6 : List Cond := [Cond.selects RX1 yX1_read yX1_read, Cond.code yX1_read cX1_read 3 none, Cond.methodLink RX1 60 yX4_read, Cond.instanceMethod yX4_read, Cond.selects RX4 yX4_read yX4_read, Cond.code yX4_read cX4_read 4 none, Cond.constant RX4 44 (65534), Cond.methodLink RX4 38 yX3_line, Cond.instanceMethod yX3_line, Cond.selects RX3 yX3_line yX3_line, Cond.code yX3_line cX3_line 2 (some .int), Cond.methodLink RX4 45 yX4_cut, Cond.instanceMethod yX4_cut, Cond.selects RX4 yX4_cut yX4_cut, Cond.code yX4_cut cX4_cut 5 none, Cond.methodLink RX4 71 yX4_add, Cond.instanceMethod yX4_add, Cond.selects RX4 yX4_add yX4_add, Cond.code yX4_add cX4_add 6 none, Cond.methodLink RX4 49 yX3_cornersJoin, Cond.instanceMethod yX3_cornersJoin, Cond.selects RX3 yX3_cornersJoin yX3_cornersJoin, Cond.code yX3_cornersJoin cX3_cornersJoin 1 (some .boolean), Cond.methodLink RX4 53 yX4_joinToRowAbove]
def wsL_law_r7 : List Cond := [Cond.instanceMethod yX4_joinToRowAbove, Cond.selects RX4 yX4_joinToRowAbove yX4_joinToRowAbove, Cond.code yX4_joinToRowAbove cX4_joinToRowAbove 8 none, Cond.methodLink RX4 75 yX4_firstOfColour, Cond.instanceMethod yX4_firstOfColour, Cond.selects RX4 yX4_firstOfColour yX4_firstOfColour, Cond.code yX4_firstOfColour cX4_firstOfColour 4 (some .int), Cond.methodLink RX4 82 yX4_isDark, Cond.instanceMethod yX4_isDark, Cond.selects RX4 yX4_isDark yX4_isDark, Cond.code yX4_isDark cX4_isDark 2 (some .boolean), Cond.methodLink RX4 63 yX4_start, Cond.instanceMethod yX4_start, Cond.selects RX4 yX4_start yX4_start, Cond.code yX4_start cX4_start 2 (some .int), Cond.methodLink RX4 60 yX4_end, Cond.instanceMethod yX4_end, Cond.selects RX4 yX4_end yX4_end, Cond.code yX4_end cX4_end 2 (some .int), Cond.methodLink RX4 79 yX4_join, Cond.instanceMethod yX4_join, Cond.selects RX4 yX4_join yX4_join, Cond.code yX4_join cX4_join 5 none, Cond.methodLink RX4 89 Lib.Math.max.name]
def wsL_law_r8 : List Cond := [Cond.static Lib.Math.max.name, Cond.initialized "java/lang/Math", Cond.code Lib.Math.max.name Lib.Math.max.code 2 (some .int), Cond.methodLink RX4 95 Lib.Math.min.name, Cond.static Lib.Math.min.name, Cond.code Lib.Math.min.name Lib.Math.min.code 2 (some .int), Cond.methodLink RX4 86 yX4_leastKnown, Cond.instanceMethod yX4_leastKnown, Cond.selects RX4 yX4_leastKnown yX4_leastKnown, Cond.code yX4_leastKnown cX4_leastKnown 4 (some .int), Cond.methodLink RX4 57 yX4_settle, Cond.instanceMethod yX4_settle, Cond.selects RX4 yX4_settle yX4_settle, Cond.code yX4_settle cX4_settle 2 none, Cond.methodLink RX4 98 yX4_groupOf, Cond.instanceMethod yX4_groupOf, Cond.selects RX4 yX4_groupOf yX4_groupOf, Cond.code yX4_groupOf cX4_groupOf 2 (some .int), Cond.methodLink RX1 67 yX1_measure, Cond.instanceMethod yX1_measure, Cond.selects RX1 yX1_measure yX1_measure, Cond.code yX1_measure cX1_measure 7 none, Cond.methodLink RX1 154 Lib.Math.min.name, Cond.methodLink RX1 114 Lib.Math.max.name]
def wsL_law_r9 : List Cond := [Cond.methodLink RX1 79 yX4_lineOf, Cond.instanceMethod yX4_lineOf, Cond.selects RX4 yX4_lineOf yX4_lineOf, Cond.code yX4_lineOf cX4_lineOf 2 (some .int), Cond.methodLink RX1 82 yX4_start, Cond.methodLink RX1 141 yX4_end, Cond.methodLink RX1 71 yX4_groupOf, Cond.methodLink RX1 144 yX1_clear, Cond.instanceMethod yX1_clear, Cond.selects RX1 yX1_clear yX1_clear, Cond.code yX1_clear cX1_clear 3 none, Cond.methodLink RX1 147 yX4_isDark, Cond.methodLink RX1 132 yX4_columns, Cond.instanceMethod yX4_columns, Cond.selects RX4 yX4_columns yX4_columns, Cond.code yX4_columns cX4_columns 2 (some .int), Cond.methodLink RX1 151 yX3_freeSides, Cond.instanceMethod yX3_freeSides, Cond.selects RX3 yX3_freeSides yX3_freeSides, Cond.code yX3_freeSides cX3_freeSides 3 (some .int), Cond.methodLink RX3 23 yX3_line, Cond.methodLink RX1 75 yX1_giveNumber, Cond.instanceMethod yX1_giveNumber, Cond.selects RX1 yX1_giveNumber yX1_giveNumber]
def wsL_law_r10 : List Cond := [Cond.code yX1_giveNumber cX1_giveNumber 3 none, Cond.methodLink RX5 72 yX3_allRuns, Cond.instanceMethod yX3_allRuns, Cond.selects RX3 yX3_allRuns yX3_allRuns, Cond.code yX3_allRuns cX3_allRuns 3 (some .int), Cond.static yX5_runsOf, Cond.code yX5_runsOf cX5_runsOf 1 (some .int), Cond.methodLink RX5 230 yJ6_bitCount_0f7a4, Cond.methodLink RX5 75 yX1_allRims, Cond.instanceMethod yX1_allRims, Cond.selects RX1 yX1_allRims yX1_allRims, Cond.code yX1_allRims cX1_allRims 3 (some .int), Cond.methodLink RX1 89 yX1_groupOfPart, Cond.instanceMethod yX1_groupOfPart, Cond.selects RX1 yX1_groupOfPart yX1_groupOfPart, Cond.code yX1_groupOfPart cX1_groupOfPart 2 (some .int), Cond.methodLink RX1 108 yX1_rimOf, Cond.instanceMethod yX1_rimOf, Cond.selects RX1 yX1_rimOf yX1_rimOf, Cond.code yX1_rimOf cX1_rimOf 2 (some .int), Cond.methodLink RX5 78 yX1_deepest, Cond.instanceMethod yX1_deepest, Cond.selects RX1 yX1_deepest yX1_deepest, Cond.code yX1_deepest cX1_deepest 3 (some .int)]
def wsL_law_r11 : List Cond := [Cond.methodLink RX1 111 yX1_depthOf, Cond.instanceMethod yX1_depthOf, Cond.selects RX1 yX1_depthOf yX1_depthOf, Cond.code yX1_depthOf cX1_depthOf 4 (some .int), Cond.methodLink RX1 102 yX1_holeAround, Cond.instanceMethod yX1_holeAround, Cond.selects RX1 yX1_holeAround yX1_holeAround, Cond.code yX1_holeAround cX1_holeAround 3 (some .int), Cond.methodLink RX1 92 yX1_holeAt, Cond.instanceMethod yX1_holeAt, Cond.selects RX1 yX1_holeAt yX1_holeAt, Cond.code yX1_holeAt cX1_holeAt 3 (some .int), Cond.methodLink RX1 85 yX1_numberAt, Cond.instanceMethod yX1_numberAt, Cond.selects RX1 yX1_numberAt yX1_numberAt, Cond.code yX1_numberAt cX1_numberAt 5 (some .int), Cond.static yX5_isLine, Cond.code yX5_isLine cX5_isLine 1 (some .boolean), Cond.methodLink RX1 160 yX4_runAt, Cond.instanceMethod yX4_runAt, Cond.selects RX4 yX4_runAt yX4_runAt, Cond.code yX4_runAt cX4_runAt 3 (some .int), Cond.methodLink RX4 66 yJ6_bitCount_0f7a4, Cond.methodLink RX1 105 yX1_partAround]
def wsL_law_r12 : List Cond := [Cond.instanceMethod yX1_partAround, Cond.selects RX1 yX1_partAround yX1_partAround, Cond.code yX1_partAround cX1_partAround 3 (some .int), Cond.methodLink RX1 96 yX1_groupOfHole, Cond.instanceMethod yX1_groupOfHole, Cond.selects RX1 yX1_groupOfHole yX1_groupOfHole, Cond.code yX1_groupOfHole cX1_groupOfHole 2 (some .int), Cond.methodLink RX1 99 yX1_partAt, Cond.instanceMethod yX1_partAt, Cond.selects RX1 yX1_partAt yX1_partAt, Cond.code yX1_partAt cX1_partAt 3 (some .int), Cond.methodLink RX5 81 yX1_largest, Cond.instanceMethod yX1_largest, Cond.selects RX1 yX1_largest yX1_largest, Cond.code yX1_largest cX1_largest 5 (some .int), Cond.methodLink RX1 119 yX1_sizeOf, Cond.instanceMethod yX1_sizeOf, Cond.selects RX1 yX1_sizeOf yX1_sizeOf, Cond.code yX1_sizeOf cX1_sizeOf 2 (some .int), Cond.methodLink RL 17 yX6_told, Cond.instanceMethod yX6_told, Cond.selects RX6 yX6_told yX6_told, Cond.code yX6_told cX6_told 4 (some .int), Cond.fieldLink RX6 59 "BlobRunsModel" "darkMany" "I"]
def wsL_law_r13 : List Cond := [Cond.fieldLink RX6 66 "BlobRunsModel" "holeMany" "I", Cond.fieldLink RX6 63 "BlobRunsModel" "lightMany" "I", Cond.fieldLink RX6 118 "BlobRunsModel" "undoMany" "I", Cond.constant RX6 121 (-1000000002), Cond.methodLink RX6 73 yX6_parts, Cond.instanceMethod yX6_parts, Cond.selects RX6 yX6_parts yX6_parts, Cond.code yX6_parts cX6_parts 4 none, Cond.methodLink RX6 52 yX6_isDark, Cond.static yX6_isDark, Cond.code yX6_isDark cX6_isDark 2 (some .boolean), Cond.methodLink RX6 44 yX6_has, Cond.static yX6_has, Cond.code yX6_has cX6_has 2 (some .boolean), Cond.methodLink RX6 69 yX6_floods, Cond.instanceMethod yX6_floods, Cond.selects RX6 yX6_floods yX6_floods, Cond.code yX6_floods cX6_floods 16 (some .boolean), Cond.methodLink RX6 56 yX6_isOn, Cond.static yX6_isOn, Cond.code yX6_isOn cX6_isOn 2 (some .boolean), Cond.methodLink RX6 48 yX6_in, Cond.static yX6_in, Cond.code yX6_in cX6_in 3 (some .boolean)]
def wsL_law_r14 : List Cond := [Cond.methodLink RX6 104 yX6_darkOf, Cond.instanceMethod yX6_darkOf, Cond.selects RX6 yX6_darkOf yX6_darkOf, Cond.code yX6_darkOf cX6_darkOf 4 (some .int), Cond.methodLink RX6 77 yX6_bits, Cond.static yX6_bits, Cond.code yX6_bits cX6_bits 3 (some .int), Cond.methodLink RX6 108 yX6_runsOf, Cond.static yX6_runsOf, Cond.code yX6_runsOf cX6_runsOf 1 (some .int), Cond.methodLink RX6 97 yX6_sidesOf, Cond.instanceMethod yX6_sidesOf, Cond.selects RX6 yX6_sidesOf yX6_sidesOf, Cond.code yX6_sidesOf cX6_sidesOf 4 (some .int), Cond.methodLink RX6 94 yX6_isRim, Cond.static yX6_isRim, Cond.code yX6_isRim cX6_isRim 3 (some .boolean), Cond.methodLink RX6 111 yX6_deep, Cond.instanceMethod yX6_deep, Cond.selects RX6 yX6_deep yX6_deep, Cond.code yX6_deep cX6_deep 4 (some .int), Cond.methodLink RX6 88 yX6_liesIn, Cond.instanceMethod yX6_liesIn, Cond.selects RX6 yX6_liesIn yX6_liesIn]
def wsL_law_r15 : List Cond := [Cond.code yX6_liesIn cX6_liesIn 3 (some .int), Cond.methodLink RX6 91 yX6_partOf, Cond.instanceMethod yX6_partOf, Cond.selects RX6 yX6_partOf yX6_partOf, Cond.code yX6_partOf cX6_partOf 2 (some .int), Cond.methodLink RX6 85 yX6_lightOf, Cond.instanceMethod yX6_lightOf, Cond.selects RX6 yX6_lightOf yX6_lightOf, Cond.code yX6_lightOf cX6_lightOf 3 (some .int), Cond.methodLink RX6 114 yX6_largest, Cond.instanceMethod yX6_largest, Cond.selects RX6 yX6_largest yX6_largest, Cond.code yX6_largest cX6_largest 5 (some .int), Cond.methodLink RX6 100 yX6_sizeOf, Cond.instanceMethod yX6_sizeOf, Cond.selects RX6 yX6_sizeOf yX6_sizeOf, Cond.code yX6_sizeOf cX6_sizeOf 5 (some .int), Cond.methodLink RX6 81 yX6_isOf, Cond.instanceMethod yX6_isOf, Cond.selects RX6 yX6_isOf yX6_isOf, Cond.code yX6_isOf cX6_isOf 4 (some .boolean), Cond.methodLink RL 18 yX5_rowAt, Cond.instanceMethod yX5_rowAt, Cond.selects RX5 yX5_rowAt yX5_rowAt]
def wsL_law_r16 : List Cond := [Cond.code yX5_rowAt cX5_rowAt 3 (some .int), Cond.constant RX5 92 (-1000000001), Cond.methodLink RX5 88 yX5_isLine, Cond.methodLink RX5 93 yX3_line, Cond.methodLink RX5 97 yX5_runsOf, Cond.methodLink RL 22 yX6_rowAt, Cond.instanceMethod yX6_rowAt, Cond.selects RX6 yX6_rowAt yX6_rowAt, Cond.code yX6_rowAt cX6_rowAt 3 (some .int), Cond.constant RX6 122 (-1000000001), Cond.methodLink RL 23 yX5_dot, Cond.instanceMethod yX5_dot, Cond.selects RX5 yX5_dot yX5_dot, Cond.code yX5_dot cX5_dot 5 (some .int), Cond.methodLink RX5 100 yX3_isDark, Cond.instanceMethod yX3_isDark, Cond.selects RX3 yX3_isDark yX3_isDark, Cond.code yX3_isDark cX3_isDark 3 (some .boolean), Cond.methodLink RX5 104 yX1_partAt, Cond.methodLink RX5 108 yX1_holeAt, Cond.methodLink RX5 111 yX3_cornersJoin, Cond.methodLink RX5 115 yX1_joinsAt, Cond.instanceMethod yX1_joinsAt, Cond.selects RX1 yX1_joinsAt yX1_joinsAt]
def wsL_law_r17 : List Cond := [Cond.code yX1_joinsAt cX1_joinsAt 9 (some .int), Cond.methodLink RX1 122 yX1_isTouched, Cond.instanceMethod yX1_isTouched, Cond.selects RX1 yX1_isTouched yX1_isTouched, Cond.code yX1_isTouched cX1_isTouched 4 (some .boolean), Cond.methodLink RX5 119 yX5_splitsAt, Cond.instanceMethod yX5_splitsAt, Cond.selects RX5 yX5_splitsAt yX5_splitsAt, Cond.code yX5_splitsAt cX5_splitsAt 4 (some .int), Cond.methodLink RX5 179 yX3_flip, Cond.instanceMethod yX3_flip, Cond.selects RX3 yX3_flip yX3_flip, Cond.code yX3_flip cX3_flip 3 none, Cond.methodLink RX3 27 yX3_putLine, Cond.instanceMethod yX3_putLine, Cond.selects RX3 yX3_putLine yX3_putLine, Cond.code yX3_putLine cX3_putLine 3 none, Cond.constant RX3 22 (65535), Cond.methodLink RX5 248 yX4_read, Cond.methodLink RX5 249 yX4_darkGroups, Cond.instanceMethod yX4_darkGroups, Cond.selects RX4 yX4_darkGroups yX4_darkGroups, Cond.code yX4_darkGroups cX4_darkGroups 3 (some .int), Cond.methodLink RL 27 yX6_dot]
def wsL_law_r18 : List Cond := [Cond.instanceMethod yX6_dot, Cond.selects RX6 yX6_dot yX6_dot, Cond.code yX6_dot cX6_dot 7 (some .int), Cond.methodLink RX6 130 yX6_partsTurned, Cond.instanceMethod yX6_partsTurned, Cond.selects RX6 yX6_partsTurned yX6_partsTurned, Cond.code yX6_partsTurned cX6_partsTurned 2 (some .int), Cond.methodLink RX6 123 yX6_copies, Cond.static yX6_copies, Cond.code yX6_copies cX6_copies 3 none, Cond.methodLink RX6 127 yX6_partsOf, Cond.instanceMethod yX6_partsOf, Cond.selects RX6 yX6_partsOf yX6_partsOf, Cond.code yX6_partsOf cX6_partsOf 2 (some .int), Cond.methodLink RL 28 yX5_part, Cond.instanceMethod yX5_part, Cond.selects RX5 yX5_part yX5_part, Cond.code yX5_part cX5_part 5 (some .int), Cond.methodLink RX5 123 yX1_hasPart, Cond.instanceMethod yX1_hasPart, Cond.selects RX1 yX1_hasPart yX1_hasPart, Cond.code yX1_hasPart cX1_hasPart 2 (some .boolean), Cond.methodLink RX5 126 yX1_groupOfPart, Cond.methodLink RX5 129 yX1_sizeOf]
def wsL_law_r19 : List Cond := [Cond.methodLink RX5 132 yX1_rimOf, Cond.methodLink RX5 135 yX1_topOf, Cond.instanceMethod yX1_topOf, Cond.selects RX1 yX1_topOf yX1_topOf, Cond.code yX1_topOf cX1_topOf 2 (some .int), Cond.methodLink RX5 138 yX1_bottomOf, Cond.instanceMethod yX1_bottomOf, Cond.selects RX1 yX1_bottomOf yX1_bottomOf, Cond.code yX1_bottomOf cX1_bottomOf 2 (some .int), Cond.methodLink RX5 141 yX1_leftOf, Cond.instanceMethod yX1_leftOf, Cond.selects RX1 yX1_leftOf yX1_leftOf, Cond.code yX1_leftOf cX1_leftOf 2 (some .int), Cond.methodLink RX5 144 yX1_rightOf, Cond.instanceMethod yX1_rightOf, Cond.selects RX1 yX1_rightOf yX1_rightOf, Cond.code yX1_rightOf cX1_rightOf 2 (some .int), Cond.methodLink RX5 147 yX1_holesOfPart, Cond.instanceMethod yX1_holesOfPart, Cond.selects RX1 yX1_holesOfPart yX1_holesOfPart, Cond.code yX1_holesOfPart cX1_holesOfPart 4 (some .int), Cond.methodLink RX5 150 yX1_holeAround, Cond.methodLink RX5 153 yX1_depthOf, Cond.methodLink RX5 156 yX1_leastPlaceOf]
def wsL_law_r20 : List Cond := [Cond.instanceMethod yX1_leastPlaceOf, Cond.selects RX1 yX1_leastPlaceOf yX1_leastPlaceOf, Cond.code yX1_leastPlaceOf cX1_leastPlaceOf 2 (some .int), Cond.methodLink RL 31 yX6_part, Cond.instanceMethod yX6_part, Cond.selects RX6 yX6_part yX6_part, Cond.code yX6_part cX6_part 3 (some .int), Cond.methodLink RX6 133 yX6_rimOf, Cond.instanceMethod yX6_rimOf, Cond.selects RX6 yX6_rimOf yX6_rimOf, Cond.code yX6_rimOf cX6_rimOf 4 (some .int), Cond.methodLink RX6 136 yX6_edge, Cond.instanceMethod yX6_edge, Cond.selects RX6 yX6_edge yX6_edge, Cond.code yX6_edge cX6_edge 8 (some .int), Cond.methodLink RX6 140 yX6_holesOf, Cond.instanceMethod yX6_holesOf, Cond.selects RX6 yX6_holesOf yX6_holesOf, Cond.code yX6_holesOf cX6_holesOf 4 (some .int), Cond.methodLink RL 32 yX5_hole, Cond.instanceMethod yX5_hole, Cond.selects RX5 yX5_hole yX5_hole, Cond.code yX5_hole cX5_hole 5 (some .int), Cond.methodLink RX5 159 yX1_hasHole]
def wsL_law_r21 : List Cond := [Cond.instanceMethod yX1_hasHole, Cond.selects RX1 yX1_hasHole yX1_hasHole, Cond.code yX1_hasHole cX1_hasHole 2 (some .boolean), Cond.methodLink RX5 162 yX1_groupOfHole, Cond.methodLink RX5 165 yX1_partAround, Cond.methodLink RX5 168 yX1_partsInHole, Cond.instanceMethod yX1_partsInHole, Cond.selects RX1 yX1_partsInHole yX1_partsInHole, Cond.code yX1_partsInHole cX1_partsInHole 4 (some .int), Cond.methodLink RL 35 yX6_hole, Cond.instanceMethod yX6_hole, Cond.selects RX6 yX6_hole yX6_hole, Cond.code yX6_hole cX6_hole 3 (some .int), Cond.methodLink RX6 143 yX6_partsIn, Cond.instanceMethod yX6_partsIn, Cond.selects RX6 yX6_partsIn yX6_partsIn, Cond.code yX6_partsIn cX6_partsIn 4 (some .int), Cond.methodLink RL 36 yX5_row, Cond.instanceMethod yX5_row, Cond.selects RX5 yX5_row yX5_row, Cond.code yX5_row cX5_row 3 (some .int), Cond.constant RX5 171 (65535), Cond.methodLink RX5 172 yX5_remember, Cond.instanceMethod yX5_remember]
def wsL_law_r22 : List Cond := [Cond.selects RX5 yX5_remember yX5_remember, Cond.code yX5_remember cX5_remember 1 none, Cond.methodLink RX5 239 yX2_push, Cond.instanceMethod yX2_push, Cond.selects RX2 yX2_push yX2_push, Cond.code yX2_push cX2_push 2 none, Cond.methodLink RX2 28 Lib.Math.min.name, Cond.methodLink RX2 22 yX3_layBy, Cond.instanceMethod yX3_layBy, Cond.selects RX3 yX3_layBy yX3_layBy, Cond.code yX3_layBy cX3_layBy 3 none, Cond.methodLink RX3 56 arraycopyName, Cond.native arraycopyName, Cond.static arraycopyName, Cond.initialized "java/lang/System", Cond.methodLink RX5 175 yX3_putLine, Cond.methodLink RL 39 yX6_row, Cond.instanceMethod yX6_row, Cond.selects RX6 yX6_row yX6_row, Cond.code yX6_row cX6_row 3 (some .int), Cond.constant RX6 149 (65535), Cond.methodLink RX6 150 yX6_remember, Cond.instanceMethod yX6_remember, Cond.selects RX6 yX6_remember yX6_remember]
def wsL_law_r23 : List Cond := [Cond.code yX6_remember cX6_remember 2 none, Cond.fieldLink RX6 146 "BlobRunsModel" "undoAt" "I", Cond.methodLink RL 40 yX5_turn, Cond.instanceMethod yX5_turn, Cond.selects RX5 yX5_turn yX5_turn, Cond.code yX5_turn cX5_turn 3 (some .int), Cond.methodLink RL 43 yX6_turn, Cond.instanceMethod yX6_turn, Cond.selects RX6 yX6_turn yX6_turn, Cond.code yX6_turn cX6_turn 3 (some .int), Cond.methodLink RX6 153 yX6_turns, Cond.instanceMethod yX6_turns, Cond.selects RX6 yX6_turns yX6_turns, Cond.code yX6_turns cX6_turns 2 none, Cond.methodLink RL 44 yX5_wipe, Cond.instanceMethod yX5_wipe, Cond.selects RX5 yX5_wipe yX5_wipe, Cond.code yX5_wipe cX5_wipe 3 (some .int), Cond.methodLink RX5 182 yX5_flipGroup, Cond.instanceMethod yX5_flipGroup, Cond.selects RX5 yX5_flipGroup yX5_flipGroup, Cond.code yX5_flipGroup cX5_flipGroup 2 (some .int), Cond.methodLink RX5 242 yX1_flipDotsOf, Cond.instanceMethod yX1_flipDotsOf]
def wsL_law_r24 : List Cond := [Cond.selects RX1 yX1_flipDotsOf yX1_flipDotsOf, Cond.code yX1_flipDotsOf cX1_flipDotsOf 4 none, Cond.methodLink RX1 135 yX3_flip, Cond.methodLink RL 47 yX6_wipe, Cond.instanceMethod yX6_wipe, Cond.selects RX6 yX6_wipe yX6_wipe, Cond.code yX6_wipe cX6_wipe 2 (some .int), Cond.methodLink RX6 157 yX6_turnsAll, Cond.instanceMethod yX6_turnsAll, Cond.selects RX6 yX6_turnsAll yX6_turnsAll, Cond.code yX6_turnsAll cX6_turnsAll 5 (some .int), Cond.methodLink RL 48 yX5_fill, Cond.instanceMethod yX5_fill, Cond.selects RX5 yX5_fill yX5_fill, Cond.code yX5_fill cX5_fill 3 (some .int), Cond.methodLink RL 51 yX6_fill, Cond.instanceMethod yX6_fill, Cond.selects RX6 yX6_fill yX6_fill, Cond.code yX6_fill cX6_fill 2 (some .int), Cond.methodLink RL 52 yX5_grow, Cond.instanceMethod yX5_grow, Cond.selects RX5 yX5_grow yX5_grow, Cond.code yX5_grow cX5_grow 2 (some .int), Cond.methodLink RX5 185 yX3_becomeGrown]
def wsL_law_r25 : List Cond := [Cond.instanceMethod yX3_becomeGrown, Cond.selects RX3 yX3_becomeGrown yX3_becomeGrown, Cond.code yX3_becomeGrown cX3_becomeGrown 3 none, Cond.methodLink RX3 39 yX3_cornersJoin, Cond.methodLink RX3 43 yX3_widened, Cond.static yX3_widened, Cond.code yX3_widened cX3_widened 1 (some .int), Cond.methodLink RX3 46 yX3_becomeNext, Cond.instanceMethod yX3_becomeNext, Cond.selects RX3 yX3_becomeNext yX3_becomeNext, Cond.code yX3_becomeNext cX3_becomeNext 1 none, Cond.methodLink RL 56 yX6_grow, Cond.instanceMethod yX6_grow, Cond.selects RX6 yX6_grow yX6_grow, Cond.code yX6_grow cX6_grow 1 (some .int), Cond.methodLink RX6 164 yX6_turnsNear, Cond.instanceMethod yX6_turnsNear, Cond.selects RX6 yX6_turnsNear yX6_turnsNear, Cond.code yX6_turnsNear cX6_turnsNear 4 (some .int), Cond.methodLink RX6 160 yX6_isNear, Cond.instanceMethod yX6_isNear, Cond.selects RX6 yX6_isNear yX6_isNear, Cond.code yX6_isNear cX6_isNear 8 (some .boolean), Cond.methodLink RL 57 yX5_shrink]
def wsL_law_r26 : List Cond := [Cond.instanceMethod yX5_shrink, Cond.selects RX5 yX5_shrink yX5_shrink, Cond.code yX5_shrink cX5_shrink 2 (some .int), Cond.methodLink RX5 188 yX3_becomeShrunk, Cond.instanceMethod yX3_becomeShrunk, Cond.selects RX3 yX3_becomeShrunk yX3_becomeShrunk, Cond.code yX3_becomeShrunk cX3_becomeShrunk 3 none, Cond.methodLink RX3 49 yX3_narrowed, Cond.static yX3_narrowed, Cond.code yX3_narrowed cX3_narrowed 1 (some .int), Cond.methodLink RL 60 yX6_shrink, Cond.instanceMethod yX6_shrink, Cond.selects RX6 yX6_shrink yX6_shrink, Cond.code yX6_shrink cX6_shrink 1 (some .int), Cond.methodLink RL 61 yX5_move, Cond.instanceMethod yX5_move, Cond.selects RX5 yX5_move yX5_move, Cond.code yX5_move cX5_move 3 (some .int), Cond.methodLink RX5 191 yX3_becomeMoved, Cond.instanceMethod yX3_becomeMoved, Cond.selects RX3 yX3_becomeMoved yX3_becomeMoved, Cond.code yX3_becomeMoved cX3_becomeMoved 4 none, Cond.methodLink RX3 52 yX3_slid, Cond.static yX3_slid]
def wsL_law_r27 : List Cond := [Cond.code yX3_slid cX3_slid 2 (some .int), Cond.methodLink RL 64 yX6_move, Cond.instanceMethod yX6_move, Cond.selects RX6 yX6_move yX6_move, Cond.code yX6_move cX6_move 5 (some .int), Cond.methodLink RL 65 yX5_over, Cond.instanceMethod yX5_over, Cond.selects RX5 yX5_over yX5_over, Cond.code yX5_over cX5_over 1 (some .int), Cond.methodLink RX5 194 yX3_becomeOver, Cond.instanceMethod yX3_becomeOver, Cond.selects RX3 yX3_becomeOver yX3_becomeOver, Cond.code yX3_becomeOver cX3_becomeOver 2 none, Cond.methodLink RL 68 yX6_over, Cond.instanceMethod yX6_over, Cond.selects RX6 yX6_over yX6_over, Cond.code yX6_over cX6_over 2 (some .int), Cond.methodLink RL 69 yX5_mode, Cond.instanceMethod yX5_mode, Cond.selects RX5 yX5_mode yX5_mode, Cond.code yX5_mode cX5_mode 2 (some .int), Cond.constant RX5 197 (-1000000003), Cond.methodLink RL 72 yX6_mode, Cond.instanceMethod yX6_mode]
def wsL_law_r28 : List Cond := [Cond.selects RX6 yX6_mode yX6_mode, Cond.code yX6_mode cX6_mode 2 (some .int), Cond.constant RX6 168 (-1000000003), Cond.methodLink RL 73 yX5_drift, Cond.instanceMethod yX5_drift, Cond.selects RX5 yX5_drift yX5_drift, Cond.code yX5_drift cX5_drift 4 (some .int), Cond.methodLink RX5 198 yX5_drawPlace, Cond.instanceMethod yX5_drawPlace, Cond.selects RX5 yX5_drawPlace yX5_drawPlace, Cond.code yX5_drawPlace cX5_drawPlace 1 (some .int), Cond.constant RX5 245 (1103515245), Cond.constant RX5 246 (2147483647), Cond.constant RX5 247 (65536), Cond.methodLink RL 76 yX6_drift, Cond.instanceMethod yX6_drift, Cond.selects RX6 yX6_drift yX6_drift, Cond.code yX6_drift cX6_drift 3 (some .int), Cond.methodLink RX6 179 yX6_draw, Cond.instanceMethod yX6_draw, Cond.selects RX6 yX6_draw yX6_draw, Cond.code yX6_draw cX6_draw 2 (some .int), Cond.fieldLink RX6 169 "BlobRunsModel" "seed" "I", Cond.constantLong RX6 172 (1103515245)]
def wsL_law_r29 : List Cond := [Cond.constantLong RX6 174 (12345), Cond.constantLong RX6 176 (2147483648), Cond.constant RX6 178 (65536), Cond.methodLink RL 77 yX5_undo, Cond.instanceMethod yX5_undo, Cond.selects RX5 yX5_undo yX5_undo, Cond.code yX5_undo cX5_undo 2 (some .int), Cond.methodLink RX5 201 yX2_goBackBy, Cond.instanceMethod yX2_goBackBy, Cond.selects RX2 yX2_goBackBy yX2_goBackBy, Cond.code yX2_goBackBy cX2_goBackBy 3 none, Cond.methodLink RX2 34 yJ9_floorMod_7cf53, Cond.static yJ9_floorMod_7cf53, Cond.initialized RJ9, Cond.code yJ9_floorMod_7cf53 cJ9_floorMod_7cf53 3 (some .int), Cond.methodLink RX2 37 yX3_takeUp, Cond.instanceMethod yX3_takeUp, Cond.selects RX3 yX3_takeUp yX3_takeUp, Cond.code yX3_takeUp cX3_takeUp 3 none, Cond.methodLink RL 80 yX6_undo, Cond.instanceMethod yX6_undo, Cond.selects RX6 yX6_undo yX6_undo, Cond.code yX6_undo cX6_undo 3 (some .int), Cond.methodLink RL 81 yX5_alike]
def wsL_law_r30 : List Cond := [Cond.instanceMethod yX5_alike, Cond.selects RX5 yX5_alike yX5_alike, Cond.code yX5_alike cX5_alike 4 (some .int), Cond.methodLink RX5 205 yX1_sameMoved, Cond.instanceMethod yX1_sameMoved, Cond.selects RX1 yX1_sameMoved yX1_sameMoved, Cond.code yX1_sameMoved cX1_sameMoved 8 (some .boolean), Cond.methodLink RX1 126 yX4_length, Cond.instanceMethod yX4_length, Cond.selects RX4 yX4_length yX4_length, Cond.code yX4_length cX4_length 2 (some .int), Cond.methodLink RX1 129 yX1_nextOfGroup, Cond.instanceMethod yX1_nextOfGroup, Cond.selects RX1 yX1_nextOfGroup yX1_nextOfGroup, Cond.code yX1_nextOfGroup cX1_nextOfGroup 4 (some .int), Cond.methodLink RL 84 yX6_alike, Cond.instanceMethod yX6_alike, Cond.selects RX6 yX6_alike yX6_alike, Cond.code yX6_alike cX6_alike 9 (some .int), Cond.methodLink RL 85 yX5_small, Cond.instanceMethod yX5_small, Cond.selects RX5 yX5_small yX5_small, Cond.code yX5_small cX5_small 2 (some .int), Cond.methodLink RX5 208 yX1_partsUpTo]
def wsL_law_r31 : List Cond := [Cond.instanceMethod yX1_partsUpTo, Cond.selects RX1 yX1_partsUpTo yX1_partsUpTo, Cond.code yX1_partsUpTo cX1_partsUpTo 4 (some .int), Cond.methodLink RL 88 yX6_small, Cond.instanceMethod yX6_small, Cond.selects RX6 yX6_small yX6_small, Cond.code yX6_small cX6_small 4 (some .int), Cond.methodLink RL 89 yX5_seed, Cond.instanceMethod yX5_seed, Cond.selects RX5 yX5_seed yX5_seed, Cond.code yX5_seed cX5_seed 3 (some .int), Cond.methodLink RL 92 yX6_seed, Cond.instanceMethod yX6_seed, Cond.selects RX6 yX6_seed yX6_seed, Cond.code yX6_seed cX6_seed 3 (some .int), Cond.methodLink RL 93 yX5_keep, Cond.instanceMethod yX5_keep, Cond.selects RX5 yX5_keep yX5_keep, Cond.code yX5_keep cX5_keep 2 (some .int), Cond.methodLink RX5 211 yX5_isImage, Cond.static yX5_isImage, Cond.code yX5_isImage cX5_isImage 1 (some .boolean), Cond.methodLink RX5 214 yX0_take, Cond.instanceMethod yX0_take]
def wsL_law_r32 : List Cond := [Cond.selects RX0 yX0_take yX0_take, Cond.code yX0_take cX0_take 4 none, Cond.methodLink RX0 26 yX3_layBy, Cond.methodLink RX5 218 yX2_forget, Cond.instanceMethod yX2_forget, Cond.selects RX2 yX2_forget yX2_forget, Cond.code yX2_forget cX2_forget 1 none, Cond.methodLink RL 96 yX6_keep, Cond.instanceMethod yX6_keep, Cond.selects RX6 yX6_keep yX6_keep, Cond.code yX6_keep cX6_keep 3 (some .int), Cond.methodLink RL 97 yX5_goBack, Cond.instanceMethod yX5_goBack, Cond.selects RX5 yX5_goBack yX5_goBack, Cond.code yX5_goBack cX5_goBack 2 (some .int), Cond.methodLink RX5 221 yX0_isTaken, Cond.instanceMethod yX0_isTaken, Cond.selects RX0 yX0_isTaken yX0_isTaken, Cond.code yX0_isTaken cX0_isTaken 2 (some .boolean), Cond.methodLink RX5 224 yX0_show, Cond.instanceMethod yX0_show, Cond.selects RX0 yX0_show yX0_show, Cond.code yX0_show cX0_show 3 none, Cond.methodLink RX0 32 yX3_takeUp]
def wsL_law_r33 : List Cond := [Cond.methodLink RX5 227 yX0_seedOf, Cond.instanceMethod yX0_seedOf, Cond.selects RX0 yX0_seedOf yX0_seedOf, Cond.code yX0_seedOf cX0_seedOf 2 (some .int), Cond.methodLink RL 100 yX6_goBack, Cond.instanceMethod yX6_goBack, Cond.selects RX6 yX6_goBack yX6_goBack, Cond.code yX6_goBack cX6_goBack 3 (some .int)]
def wsL_law : List Cond := (wsL_law_r1 ++ (wsL_law_r2 ++ (wsL_law_r3 ++ (wsL_law_r4 ++ (wsL_law_r5 ++ (wsL_law_r6 ++ (wsL_law_r7 ++ (wsL_law_r8 ++ (wsL_law_r9 ++ (wsL_law_r10 ++ (wsL_law_r11 ++ (wsL_law_r12 ++ (wsL_law_r13 ++ (wsL_law_r14 ++ (wsL_law_r15 ++ (wsL_law_r16 ++ (wsL_law_r17 ++ (wsL_law_r18 ++ (wsL_law_r19 ++ (wsL_law_r20 ++ (wsL_law_r21 ++ (wsL_law_r22 ++ (wsL_law_r23 ++ (wsL_law_r24 ++ (wsL_law_r25 ++ (wsL_law_r26 ++ (wsL_law_r27 ++ (wsL_law_r28 ++ (wsL_law_r29 ++ (wsL_law_r30 ++ (wsL_law_r31 ++ (wsL_law_r32 ++ wsL_law_r33)))))))))))))))))))))))))))))))) ++ wsX50 ++ wsX60 ++ wsX30 ++ wsX10 ++ wsX40 ++ wsX20 ++ wsX00 ++ ([] : List Cond)
theorem inlX1 : ∀ w ∈ wsX10, w ∈ wsL_law := fun _ h => List.mem_append_left _ (List.mem_append_left _ (List.mem_append_left _ (List.mem_append_left _ (List.mem_append_right _ h))))
theorem inlX2 : ∀ w ∈ wsX20, w ∈ wsL_law := fun _ h => List.mem_append_left _ (List.mem_append_left _ (List.mem_append_right _ h))
theorem inlX3 : ∀ w ∈ wsX30, w ∈ wsL_law := fun _ h => List.mem_append_left _ (List.mem_append_left _ (List.mem_append_left _ (List.mem_append_left _ (List.mem_append_left _ (List.mem_append_right _ h)))))
theorem inlX4 : ∀ w ∈ wsX40, w ∈ wsL_law := fun _ h => List.mem_append_left _ (List.mem_append_left _ (List.mem_append_left _ (List.mem_append_right _ h)))
theorem inlX5 : ∀ w ∈ wsX50, w ∈ wsL_law := fun _ h => List.mem_append_left _ (List.mem_append_left _ (List.mem_append_left _ (List.mem_append_left _ (List.mem_append_left _ (List.mem_append_left _ (List.mem_append_left _ (List.mem_append_right _ h)))))))
theorem inlX6 : ∀ w ∈ wsX60, w ∈ wsL_law := fun _ h => List.mem_append_left _ (List.mem_append_left _ (List.mem_append_left _ (List.mem_append_left _ (List.mem_append_left _ (List.mem_append_left _ (List.mem_append_right _ h))))))
theorem inJ6 : ∀ w ∈ wsJ60, w ∈ lw_tbl := by decide +kernel
theorem inJ9 : ∀ w ∈ wsJ90, w ∈ lw_tbl := by decide +kernel
theorem inJ10 : ∀ w ∈ wsJ100, w ∈ lw_tbl := by decide +kernel
theorem dX0_init_0 : decode cX0_init 0 = .ok (.aload_n 0, 1) := by decide +kernel
theorem dX0_init_1 : decode cX0_init 1 = .ok (.invokespecial 3, 3) := by decide +kernel
theorem dX0_init_4 : decode cX0_init 4 = .ok (.aload_n 0, 1) := by decide +kernel
theorem dX0_init_5 : decode cX0_init 5 = .ok (.bipush 34, 2) := by decide +kernel
theorem dX0_init_7 : decode cX0_init 7 = .ok (.newarray .int, 2) := by decide +kernel
theorem dX0_init_9 : decode cX0_init 9 = .ok (.putfield 9, 3) := by decide +kernel
theorem dX0_init_12 : decode cX0_init 12 = .ok (.aload_n 0, 1) := by decide +kernel
theorem dX0_init_13 : decode cX0_init 13 = .ok (.iconst 2, 1) := by decide +kernel
theorem dX0_init_14 : decode cX0_init 14 = .ok (.newarray .int, 2) := by decide +kernel
theorem dX0_init_16 : decode cX0_init 16 = .ok (.putfield 15, 3) := by decide +kernel
theorem dX0_init_19 : decode cX0_init 19 = .ok (.aload_n 0, 1) := by decide +kernel
theorem dX0_init_20 : decode cX0_init 20 = .ok (.iconst 2, 1) := by decide +kernel
theorem dX0_init_21 : decode cX0_init 21 = .ok (.newarray .boolean, 2) := by decide +kernel
theorem dX0_init_23 : decode cX0_init 23 = .ok (.putfield 18, 3) := by decide +kernel
theorem dX0_init_26 : decode cX0_init 26 = .ok (.return_, 1) := by decide +kernel
set_option maxRecDepth 20000 in
theorem ggX0_isTaken_X5_isImage : GoodIn wsX0_isTaken wsX5_isImage := goodIn_r _ [4] (by decide +kernel) (by decide +kernel)
set_option maxRecDepth 20000 in
theorem gX0_isTaken_X5_isImage_n22 : GoodIn wsX0_isTaken (wsX5_isImage) := ggX0_isTaken_X5_isImage
theorem dX0_isTaken_0 : decode cX0_isTaken 0 = .ok (.iload_n 1, 1) := by decide +kernel
theorem dX0_isTaken_1 : decode cX0_isTaken 1 = .ok (.invokestatic 22, 3) := by decide +kernel
theorem dX0_isTaken_4 : decode cX0_isTaken 4 = .ok (.ifCond .eq 16, 3) := by decide +kernel
theorem dX0_isTaken_7 : decode cX0_isTaken 7 = .ok (.aload_n 0, 1) := by decide +kernel
theorem dX0_isTaken_8 : decode cX0_isTaken 8 = .ok (.getfield 18, 3) := by decide +kernel
theorem dX0_isTaken_11 : decode cX0_isTaken 11 = .ok (.iload_n 1, 1) := by decide +kernel
theorem dX0_isTaken_12 : decode cX0_isTaken 12 = .ok (.baload, 1) := by decide +kernel
theorem dX0_isTaken_13 : decode cX0_isTaken 13 = .ok (.ifCond .eq 7, 3) := by decide +kernel
theorem dX0_isTaken_16 : decode cX0_isTaken 16 = .ok (.iconst 1, 1) := by decide +kernel
theorem dX0_isTaken_17 : decode cX0_isTaken 17 = .ok (.goto 4, 3) := by decide +kernel
theorem dX0_isTaken_20 : decode cX0_isTaken 20 = .ok (.iconst 0, 1) := by decide +kernel
theorem dX0_isTaken_21 : decode cX0_isTaken 21 = .ok (.ireturn, 1) := by decide +kernel
set_option maxRecDepth 20000 in
theorem ggX0_seedOf_X5_isImage : GoodIn wsX0_seedOf wsX5_isImage := goodIn_r _ [4] (by decide +kernel) (by decide +kernel)
set_option maxRecDepth 20000 in
theorem gX0_seedOf_X5_isImage_n22 : GoodIn wsX0_seedOf (wsX5_isImage) := ggX0_seedOf_X5_isImage
theorem dX0_seedOf_0 : decode cX0_seedOf 0 = .ok (.iload_n 1, 1) := by decide +kernel
theorem dX0_seedOf_1 : decode cX0_seedOf 1 = .ok (.invokestatic 22, 3) := by decide +kernel
theorem dX0_seedOf_4 : decode cX0_seedOf 4 = .ok (.ifCond .eq 12, 3) := by decide +kernel
theorem dX0_seedOf_7 : decode cX0_seedOf 7 = .ok (.aload_n 0, 1) := by decide +kernel
theorem dX0_seedOf_8 : decode cX0_seedOf 8 = .ok (.getfield 15, 3) := by decide +kernel
theorem dX0_seedOf_11 : decode cX0_seedOf 11 = .ok (.iload_n 1, 1) := by decide +kernel
theorem dX0_seedOf_12 : decode cX0_seedOf 12 = .ok (.iaload, 1) := by decide +kernel
theorem dX0_seedOf_13 : decode cX0_seedOf 13 = .ok (.goto 4, 3) := by decide +kernel
theorem dX0_seedOf_16 : decode cX0_seedOf 16 = .ok (.iconst 0, 1) := by decide +kernel
theorem dX0_seedOf_17 : decode cX0_seedOf 17 = .ok (.ireturn, 1) := by decide +kernel
set_option maxRecDepth 20000 in
theorem ggX0_take_X5_isImage : GoodIn wsX0_take wsX5_isImage := goodIn_r _ [6] (by decide +kernel) (by decide +kernel)
set_option maxRecDepth 20000 in
theorem gX0_take_X5_isImage_n22 : GoodIn wsX0_take (wsX5_isImage) := ggX0_take_X5_isImage
set_option maxRecDepth 20000 in
theorem ggX0_take_X3_layBy : GoodIn wsX0_take wsX3_layBy := goodIn_r _ [11, 12, 13, 14, 15, 16, 17, 21, 22, 23] (by decide +kernel) (by decide +kernel)
set_option maxRecDepth 20000 in
theorem gX0_take_X3_layBy : GoodIn wsX0_take (wsV RX0 26 RX3 yX3_layBy wsX3_layBy) := goodIn_app (goodIn_of _ (by decide +kernel)) ggX0_take_X3_layBy
theorem dX0_take_0 : decode cX0_take 0 = .ok (.iload_n 1, 1) := by decide +kernel
theorem dX0_take_1 : decode cX0_take 1 = .ok (.invokestatic 22, 3) := by decide +kernel
theorem dX0_take_4 : decode cX0_take 4 = .ok (.ifCond .ne 4, 3) := by decide +kernel
theorem dX0_take_7 : decode cX0_take 7 = .ok (.return_, 1) := by decide +kernel
theorem dX0_take_8 : decode cX0_take 8 = .ok (.aload_n 2, 1) := by decide +kernel
theorem dX0_take_9 : decode cX0_take 9 = .ok (.aload_n 0, 1) := by decide +kernel
theorem dX0_take_10 : decode cX0_take 10 = .ok (.getfield 9, 3) := by decide +kernel
theorem dX0_take_13 : decode cX0_take 13 = .ok (.iload_n 1, 1) := by decide +kernel
theorem dX0_take_14 : decode cX0_take 14 = .ok (.bipush 17, 2) := by decide +kernel
theorem dX0_take_16 : decode cX0_take 16 = .ok (.imul, 1) := by decide +kernel
theorem dX0_take_17 : decode cX0_take 17 = .ok (.invokevirtual 26, 3) := by decide +kernel
theorem dX0_take_20 : decode cX0_take 20 = .ok (.aload_n 0, 1) := by decide +kernel
theorem dX0_take_21 : decode cX0_take 21 = .ok (.getfield 15, 3) := by decide +kernel
theorem dX0_take_24 : decode cX0_take 24 = .ok (.iload_n 1, 1) := by decide +kernel
theorem dX0_take_25 : decode cX0_take 25 = .ok (.iload_n 3, 1) := by decide +kernel
theorem dX0_take_26 : decode cX0_take 26 = .ok (.iastore, 1) := by decide +kernel
theorem dX0_take_27 : decode cX0_take 27 = .ok (.aload_n 0, 1) := by decide +kernel
theorem dX0_take_28 : decode cX0_take 28 = .ok (.getfield 18, 3) := by decide +kernel
theorem dX0_take_31 : decode cX0_take 31 = .ok (.iload_n 1, 1) := by decide +kernel
theorem dX0_take_32 : decode cX0_take 32 = .ok (.iconst 1, 1) := by decide +kernel
theorem dX0_take_33 : decode cX0_take 33 = .ok (.bastore, 1) := by decide +kernel
theorem dX0_take_34 : decode cX0_take 34 = .ok (.return_, 1) := by decide +kernel
set_option maxRecDepth 20000 in
theorem ggX0_show_X3_takeUp : GoodIn wsX0_show wsX3_takeUp := goodIn_r _ [6, 7, 8, 9, 10, 11, 12, 16, 17, 18] (by decide +kernel) (by decide +kernel)
set_option maxRecDepth 20000 in
theorem gX0_show_X3_takeUp : GoodIn wsX0_show (wsV RX0 32 RX3 yX3_takeUp wsX3_takeUp) := goodIn_app (goodIn_of _ (by decide +kernel)) ggX0_show_X3_takeUp
theorem dX0_show_0 : decode cX0_show 0 = .ok (.aload_n 2, 1) := by decide +kernel
theorem dX0_show_1 : decode cX0_show 1 = .ok (.aload_n 0, 1) := by decide +kernel
theorem dX0_show_2 : decode cX0_show 2 = .ok (.getfield 9, 3) := by decide +kernel
theorem dX0_show_5 : decode cX0_show 5 = .ok (.iload_n 1, 1) := by decide +kernel
theorem dX0_show_6 : decode cX0_show 6 = .ok (.bipush 17, 2) := by decide +kernel
theorem dX0_show_8 : decode cX0_show 8 = .ok (.imul, 1) := by decide +kernel
theorem dX0_show_9 : decode cX0_show 9 = .ok (.invokevirtual 32, 3) := by decide +kernel
theorem dX0_show_12 : decode cX0_show 12 = .ok (.return_, 1) := by decide +kernel
set_option maxRecDepth 20000 in
theorem ggX1_init_X4_init : GoodIn wsX1_init wsX4_init := goodIn_r _ [24, 25, 2, 3, 8, 26, 27, 28, 29, 30, 14, 31, 32, 33, 34, 35, 36, 37, 38, 39, 40, 41] (by decide +kernel) (by decide +kernel)
set_option maxRecDepth 20000 in
theorem gX1_init_X4_init_n11 : GoodIn wsX1_init (wsX4_init) := ggX1_init_X4_init
theorem dX1_init_0 : decode cX1_init 0 = .ok (.aload_n 0, 1) := by decide +kernel
theorem dX1_init_1 : decode cX1_init 1 = .ok (.invokespecial 3, 3) := by decide +kernel
theorem dX1_init_4 : decode cX1_init 4 = .ok (.aload_n 0, 1) := by decide +kernel
theorem dX1_init_5 : decode cX1_init 5 = .ok (.new 9, 3) := by decide +kernel
theorem dX1_init_8 : decode cX1_init 8 = .ok (.dup, 1) := by decide +kernel
theorem dX1_init_9 : decode cX1_init 9 = .ok (.invokespecial 11, 3) := by decide +kernel
theorem dX1_init_12 : decode cX1_init 12 = .ok (.putfield 12, 3) := by decide +kernel
theorem dX1_init_15 : decode cX1_init 15 = .ok (.aload_n 0, 1) := by decide +kernel
theorem dX1_init_16 : decode cX1_init 16 = .ok (.sipush 256, 3) := by decide +kernel
theorem dX1_init_19 : decode cX1_init 19 = .ok (.newarray .int, 2) := by decide +kernel
theorem dX1_init_21 : decode cX1_init 21 = .ok (.putfield 18, 3) := by decide +kernel
theorem dX1_init_24 : decode cX1_init 24 = .ok (.aload_n 0, 1) := by decide +kernel
theorem dX1_init_25 : decode cX1_init 25 = .ok (.sipush 256, 3) := by decide +kernel
theorem dX1_init_28 : decode cX1_init 28 = .ok (.newarray .int, 2) := by decide +kernel
theorem dX1_init_30 : decode cX1_init 30 = .ok (.putfield 22, 3) := by decide +kernel
theorem dX1_init_33 : decode cX1_init 33 = .ok (.aload_n 0, 1) := by decide +kernel
theorem dX1_init_34 : decode cX1_init 34 = .ok (.sipush 256, 3) := by decide +kernel
theorem dX1_init_37 : decode cX1_init 37 = .ok (.newarray .int, 2) := by decide +kernel
theorem dX1_init_39 : decode cX1_init 39 = .ok (.putfield 25, 3) := by decide +kernel
theorem dX1_init_42 : decode cX1_init 42 = .ok (.aload_n 0, 1) := by decide +kernel
theorem dX1_init_43 : decode cX1_init 43 = .ok (.sipush 256, 3) := by decide +kernel
theorem dX1_init_46 : decode cX1_init 46 = .ok (.newarray .int, 2) := by decide +kernel
theorem dX1_init_48 : decode cX1_init 48 = .ok (.putfield 28, 3) := by decide +kernel
theorem dX1_init_51 : decode cX1_init 51 = .ok (.aload_n 0, 1) := by decide +kernel
theorem dX1_init_52 : decode cX1_init 52 = .ok (.sipush 256, 3) := by decide +kernel
theorem dX1_init_55 : decode cX1_init 55 = .ok (.newarray .int, 2) := by decide +kernel
theorem dX1_init_57 : decode cX1_init 57 = .ok (.putfield 31, 3) := by decide +kernel
theorem dX1_init_60 : decode cX1_init 60 = .ok (.aload_n 0, 1) := by decide +kernel
theorem dX1_init_61 : decode cX1_init 61 = .ok (.sipush 256, 3) := by decide +kernel
theorem dX1_init_64 : decode cX1_init 64 = .ok (.newarray .boolean, 2) := by decide +kernel
theorem dX1_init_66 : decode cX1_init 66 = .ok (.putfield 34, 3) := by decide +kernel
theorem dX1_init_69 : decode cX1_init 69 = .ok (.aload_n 0, 1) := by decide +kernel
theorem dX1_init_70 : decode cX1_init 70 = .ok (.sipush 256, 3) := by decide +kernel
theorem dX1_init_73 : decode cX1_init 73 = .ok (.newarray .int, 2) := by decide +kernel
theorem dX1_init_75 : decode cX1_init 75 = .ok (.putfield 38, 3) := by decide +kernel
theorem dX1_init_78 : decode cX1_init 78 = .ok (.aload_n 0, 1) := by decide +kernel
theorem dX1_init_79 : decode cX1_init 79 = .ok (.sipush 256, 3) := by decide +kernel
theorem dX1_init_82 : decode cX1_init 82 = .ok (.newarray .int, 2) := by decide +kernel
theorem dX1_init_84 : decode cX1_init 84 = .ok (.putfield 41, 3) := by decide +kernel
theorem dX1_init_87 : decode cX1_init 87 = .ok (.aload_n 0, 1) := by decide +kernel
theorem dX1_init_88 : decode cX1_init 88 = .ok (.sipush 256, 3) := by decide +kernel
theorem dX1_init_91 : decode cX1_init 91 = .ok (.newarray .int, 2) := by decide +kernel
theorem dX1_init_93 : decode cX1_init 93 = .ok (.putfield 44, 3) := by decide +kernel
theorem dX1_init_96 : decode cX1_init 96 = .ok (.aload_n 0, 1) := by decide +kernel
theorem dX1_init_97 : decode cX1_init 97 = .ok (.bipush 8, 2) := by decide +kernel
theorem dX1_init_99 : decode cX1_init 99 = .ok (.newarray .int, 2) := by decide +kernel
theorem dX1_init_101 : decode cX1_init 101 = .ok (.putfield 47, 3) := by decide +kernel
theorem dX1_init_104 : decode cX1_init 104 = .ok (.aload_n 0, 1) := by decide +kernel
theorem dX1_init_105 : decode cX1_init 105 = .ok (.iconst 0, 1) := by decide +kernel
theorem dX1_init_106 : decode cX1_init 106 = .ok (.putfield 50, 3) := by decide +kernel
theorem dX1_init_109 : decode cX1_init 109 = .ok (.aload_n 0, 1) := by decide +kernel
theorem dX1_init_110 : decode cX1_init 110 = .ok (.iconst 0, 1) := by decide +kernel
theorem dX1_init_111 : decode cX1_init 111 = .ok (.putfield 54, 3) := by decide +kernel
theorem dX1_init_114 : decode cX1_init 114 = .ok (.aload_n 0, 1) := by decide +kernel
theorem dX1_init_115 : decode cX1_init 115 = .ok (.iconst 0, 1) := by decide +kernel
theorem dX1_init_116 : decode cX1_init 116 = .ok (.putfield 57, 3) := by decide +kernel
theorem dX1_init_119 : decode cX1_init 119 = .ok (.return_, 1) := by decide +kernel
set_option maxRecDepth 20000 in
theorem ggX1_read_X4_read : GoodIn wsX1_read wsX4_read := goodIn_r _ [9, 10, 11, 12, 13, 14, 15, 16, 17, 18, 19, 20, 21, 22, 8, 23, 24, 25, 26, 27, 28, 29, 30, 31, 32, 33, 34, 35, 36, 37, 38, 39, 40, 41, 42, 43, 44, 45, 46, 47, 48, 49, 50, 51, 52, 53, 54, 55, 56, 57, 58, 59, 60, 61, 62, 63, 64, 65, 66, 67, 68, 69, 70, 71, 72, 73, 74, 75, 76, 77, 78, 79, 80, 143, 144, 145, 146, 147, 148, 149, 150, 151, 152, 153] (by decide +kernel) (by decide +kernel)
set_option maxRecDepth 20000 in
theorem gX1_read_X4_read : GoodIn wsX1_read (wsV RX1 60 RX4 yX4_read wsX4_read) := goodIn_app (goodIn_of _ (by decide +kernel)) ggX1_read_X4_read
set_option maxRecDepth 20000 in
theorem ggX1_read_X1_measure : GoodIn wsX1_read wsX1_measure := goodIn_r _ [85, 1, 86, 87, 88, 89, 90, 67, 64, 68, 91, 92, 63, 65, 93, 94, 95, 96, 8, 97, 28, 98, 51, 52, 53, 29, 99, 55, 56, 57, 30, 100, 78, 79, 80, 32, 101, 102, 103, 84, 104, 105, 47, 48, 49, 31, 106, 107, 108, 109, 54, 50, 110, 111, 112, 17, 113, 114, 15, 16, 18, 19, 115, 116, 117, 118, 119, 120, 121, 129, 130, 131, 132, 133, 134, 135, 136, 137, 138, 139, 140, 141, 142, 143, 144, 145, 146, 147, 148, 149, 150, 151, 152, 153] (by decide +kernel) (by decide +kernel)
set_option maxRecDepth 20000 in
theorem gX1_read_X1_measure : GoodIn wsX1_read (wsV RX1 67 RX1 yX1_measure wsX1_measure) := goodIn_app (goodIn_of _ (by decide +kernel)) ggX1_read_X1_measure
set_option maxRecDepth 20000 in
theorem ggX1_read_X4_groupOf : GoodIn wsX1_read wsX4_groupOf := goodIn_r _ [80, 32, 143, 144, 145, 146, 147, 148, 149, 150] (by decide +kernel) (by decide +kernel)
set_option maxRecDepth 20000 in
theorem gX1_read_X4_groupOf : GoodIn wsX1_read (wsV RX1 71 RX4 yX4_groupOf wsX4_groupOf) := goodIn_app (goodIn_of _ (by decide +kernel)) ggX1_read_X4_groupOf
set_option maxRecDepth 20000 in
theorem ggX1_read_X1_giveNumber : GoodIn wsX1_read wsX1_giveNumber := goodIn_r _ [125, 126, 1, 2, 127, 4, 93, 3, 128, 105, 47, 48, 8, 49, 31, 129, 130, 131, 132, 133, 134, 135, 136, 137, 138, 139, 140, 141, 142, 143, 144, 145, 146, 147, 148, 149, 150] (by decide +kernel) (by decide +kernel)
set_option maxRecDepth 20000 in
theorem gX1_read_X1_giveNumber : GoodIn wsX1_read (wsV RX1 75 RX1 yX1_giveNumber wsX1_giveNumber) := goodIn_app (goodIn_of _ (by decide +kernel)) ggX1_read_X1_giveNumber
theorem dX1_read_0 : decode cX1_read 0 = .ok (.aload_n 0, 1) := by decide +kernel
theorem dX1_read_1 : decode cX1_read 1 = .ok (.getfield 12, 3) := by decide +kernel
theorem dX1_read_4 : decode cX1_read 4 = .ok (.aload_n 1, 1) := by decide +kernel
theorem dX1_read_5 : decode cX1_read 5 = .ok (.invokevirtual 60, 3) := by decide +kernel
theorem dX1_read_8 : decode cX1_read 8 = .ok (.iconst 0, 1) := by decide +kernel
theorem dX1_read_9 : decode cX1_read 9 = .ok (.istore_n 2, 1) := by decide +kernel
theorem dX1_read_10 : decode cX1_read 10 = .ok (.iload_n 2, 1) := by decide +kernel
theorem dX1_read_11 : decode cX1_read 11 = .ok (.aload_n 0, 1) := by decide +kernel
theorem dX1_read_12 : decode cX1_read 12 = .ok (.getfield 12, 3) := by decide +kernel
theorem dX1_read_15 : decode cX1_read 15 = .ok (.getfield 64, 3) := by decide +kernel
theorem dX1_read_18 : decode cX1_read 18 = .ok (.if_icmp .ge 22, 3) := by decide +kernel
theorem dX1_read_21 : decode cX1_read 21 = .ok (.iload_n 2, 1) := by decide +kernel
theorem dX1_read_22 : decode cX1_read 22 = .ok (.sipush 256, 3) := by decide +kernel
theorem dX1_read_25 : decode cX1_read 25 = .ok (.if_icmp .ge 15, 3) := by decide +kernel
theorem dX1_read_28 : decode cX1_read 28 = .ok (.aload_n 0, 1) := by decide +kernel
theorem dX1_read_29 : decode cX1_read 29 = .ok (.iload_n 2, 1) := by decide +kernel
theorem dX1_read_30 : decode cX1_read 30 = .ok (.aload_n 1, 1) := by decide +kernel
theorem dX1_read_31 : decode cX1_read 31 = .ok (.invokevirtual 67, 3) := by decide +kernel
theorem dX1_read_34 : decode cX1_read 34 = .ok (.iinc 2 1, 3) := by decide +kernel
theorem dX1_read_37 : decode cX1_read 37 = .ok (.goto (-27), 3) := by decide +kernel
theorem dX1_read_40 : decode cX1_read 40 = .ok (.aload_n 0, 1) := by decide +kernel
theorem dX1_read_41 : decode cX1_read 41 = .ok (.iconst 0, 1) := by decide +kernel
theorem dX1_read_42 : decode cX1_read 42 = .ok (.putfield 50, 3) := by decide +kernel
theorem dX1_read_45 : decode cX1_read 45 = .ok (.aload_n 0, 1) := by decide +kernel
theorem dX1_read_46 : decode cX1_read 46 = .ok (.iconst 0, 1) := by decide +kernel
theorem dX1_read_47 : decode cX1_read 47 = .ok (.putfield 54, 3) := by decide +kernel
theorem dX1_read_50 : decode cX1_read 50 = .ok (.aload_n 0, 1) := by decide +kernel
theorem dX1_read_51 : decode cX1_read 51 = .ok (.iconst 0, 1) := by decide +kernel
theorem dX1_read_52 : decode cX1_read 52 = .ok (.putfield 57, 3) := by decide +kernel
theorem dX1_read_55 : decode cX1_read 55 = .ok (.iconst 0, 1) := by decide +kernel
theorem dX1_read_56 : decode cX1_read 56 = .ok (.istore_n 2, 1) := by decide +kernel
theorem dX1_read_57 : decode cX1_read 57 = .ok (.iload_n 2, 1) := by decide +kernel
theorem dX1_read_58 : decode cX1_read 58 = .ok (.aload_n 0, 1) := by decide +kernel
theorem dX1_read_59 : decode cX1_read 59 = .ok (.getfield 12, 3) := by decide +kernel
theorem dX1_read_62 : decode cX1_read 62 = .ok (.getfield 64, 3) := by decide +kernel
theorem dX1_read_65 : decode cX1_read 65 = .ok (.if_icmp .ge 33, 3) := by decide +kernel
theorem dX1_read_68 : decode cX1_read 68 = .ok (.iload_n 2, 1) := by decide +kernel
theorem dX1_read_69 : decode cX1_read 69 = .ok (.sipush 256, 3) := by decide +kernel
theorem dX1_read_72 : decode cX1_read 72 = .ok (.if_icmp .ge 26, 3) := by decide +kernel
theorem dX1_read_75 : decode cX1_read 75 = .ok (.aload_n 0, 1) := by decide +kernel
theorem dX1_read_76 : decode cX1_read 76 = .ok (.getfield 12, 3) := by decide +kernel
theorem dX1_read_79 : decode cX1_read 79 = .ok (.iload_n 2, 1) := by decide +kernel
theorem dX1_read_80 : decode cX1_read 80 = .ok (.invokevirtual 71, 3) := by decide +kernel
theorem dX1_read_83 : decode cX1_read 83 = .ok (.iload_n 2, 1) := by decide +kernel
theorem dX1_read_84 : decode cX1_read 84 = .ok (.if_icmp .ne 8, 3) := by decide +kernel
theorem dX1_read_87 : decode cX1_read 87 = .ok (.aload_n 0, 1) := by decide +kernel
theorem dX1_read_88 : decode cX1_read 88 = .ok (.iload_n 2, 1) := by decide +kernel
theorem dX1_read_89 : decode cX1_read 89 = .ok (.invokevirtual 75, 3) := by decide +kernel
theorem dX1_read_92 : decode cX1_read 92 = .ok (.iinc 2 1, 3) := by decide +kernel
theorem dX1_read_95 : decode cX1_read 95 = .ok (.goto (-38), 3) := by decide +kernel
theorem dX1_read_98 : decode cX1_read 98 = .ok (.return_, 1) := by decide +kernel
theorem dX1_hasPart_0 : decode cX1_hasPart 0 = .ok (.iload_n 1, 1) := by decide +kernel
theorem dX1_hasPart_1 : decode cX1_hasPart 1 = .ok (.ifCond .lt 15, 3) := by decide +kernel
theorem dX1_hasPart_4 : decode cX1_hasPart 4 = .ok (.iload_n 1, 1) := by decide +kernel
theorem dX1_hasPart_5 : decode cX1_hasPart 5 = .ok (.aload_n 0, 1) := by decide +kernel
theorem dX1_hasPart_6 : decode cX1_hasPart 6 = .ok (.getfield 50, 3) := by decide +kernel
theorem dX1_hasPart_9 : decode cX1_hasPart 9 = .ok (.if_icmp .ge 7, 3) := by decide +kernel
theorem dX1_hasPart_12 : decode cX1_hasPart 12 = .ok (.iconst 1, 1) := by decide +kernel
theorem dX1_hasPart_13 : decode cX1_hasPart 13 = .ok (.goto 4, 3) := by decide +kernel
theorem dX1_hasPart_16 : decode cX1_hasPart 16 = .ok (.iconst 0, 1) := by decide +kernel
theorem dX1_hasPart_17 : decode cX1_hasPart 17 = .ok (.ireturn, 1) := by decide +kernel
theorem dX1_hasHole_0 : decode cX1_hasHole 0 = .ok (.iload_n 1, 1) := by decide +kernel
theorem dX1_hasHole_1 : decode cX1_hasHole 1 = .ok (.ifCond .lt 15, 3) := by decide +kernel
theorem dX1_hasHole_4 : decode cX1_hasHole 4 = .ok (.iload_n 1, 1) := by decide +kernel
theorem dX1_hasHole_5 : decode cX1_hasHole 5 = .ok (.aload_n 0, 1) := by decide +kernel
theorem dX1_hasHole_6 : decode cX1_hasHole 6 = .ok (.getfield 54, 3) := by decide +kernel
theorem dX1_hasHole_9 : decode cX1_hasHole 9 = .ok (.if_icmp .ge 7, 3) := by decide +kernel
theorem dX1_hasHole_12 : decode cX1_hasHole 12 = .ok (.iconst 1, 1) := by decide +kernel
theorem dX1_hasHole_13 : decode cX1_hasHole 13 = .ok (.goto 4, 3) := by decide +kernel
theorem dX1_hasHole_16 : decode cX1_hasHole 16 = .ok (.iconst 0, 1) := by decide +kernel
theorem dX1_hasHole_17 : decode cX1_hasHole 17 = .ok (.ireturn, 1) := by decide +kernel
theorem dX1_groupOfPart_0 : decode cX1_groupOfPart 0 = .ok (.aload_n 0, 1) := by decide +kernel
theorem dX1_groupOfPart_1 : decode cX1_groupOfPart 1 = .ok (.getfield 41, 3) := by decide +kernel
theorem dX1_groupOfPart_4 : decode cX1_groupOfPart 4 = .ok (.iload_n 1, 1) := by decide +kernel
theorem dX1_groupOfPart_5 : decode cX1_groupOfPart 5 = .ok (.sipush 255, 3) := by decide +kernel
theorem dX1_groupOfPart_8 : decode cX1_groupOfPart 8 = .ok (.iand, 1) := by decide +kernel
theorem dX1_groupOfPart_9 : decode cX1_groupOfPart 9 = .ok (.iaload, 1) := by decide +kernel
theorem dX1_groupOfPart_10 : decode cX1_groupOfPart 10 = .ok (.ireturn, 1) := by decide +kernel
theorem dX1_groupOfHole_0 : decode cX1_groupOfHole 0 = .ok (.aload_n 0, 1) := by decide +kernel
theorem dX1_groupOfHole_1 : decode cX1_groupOfHole 1 = .ok (.getfield 44, 3) := by decide +kernel
theorem dX1_groupOfHole_4 : decode cX1_groupOfHole 4 = .ok (.iload_n 1, 1) := by decide +kernel
theorem dX1_groupOfHole_5 : decode cX1_groupOfHole 5 = .ok (.sipush 255, 3) := by decide +kernel
theorem dX1_groupOfHole_8 : decode cX1_groupOfHole 8 = .ok (.iand, 1) := by decide +kernel
theorem dX1_groupOfHole_9 : decode cX1_groupOfHole 9 = .ok (.iaload, 1) := by decide +kernel
theorem dX1_groupOfHole_10 : decode cX1_groupOfHole 10 = .ok (.ireturn, 1) := by decide +kernel
theorem dX1_sizeOf_0 : decode cX1_sizeOf 0 = .ok (.aload_n 0, 1) := by decide +kernel
theorem dX1_sizeOf_1 : decode cX1_sizeOf 1 = .ok (.getfield 18, 3) := by decide +kernel
theorem dX1_sizeOf_4 : decode cX1_sizeOf 4 = .ok (.iload_n 1, 1) := by decide +kernel
theorem dX1_sizeOf_5 : decode cX1_sizeOf 5 = .ok (.sipush 255, 3) := by decide +kernel
theorem dX1_sizeOf_8 : decode cX1_sizeOf 8 = .ok (.iand, 1) := by decide +kernel
theorem dX1_sizeOf_9 : decode cX1_sizeOf 9 = .ok (.iaload, 1) := by decide +kernel
theorem dX1_sizeOf_10 : decode cX1_sizeOf 10 = .ok (.ireturn, 1) := by decide +kernel
theorem dX1_rimOf_0 : decode cX1_rimOf 0 = .ok (.aload_n 0, 1) := by decide +kernel
theorem dX1_rimOf_1 : decode cX1_rimOf 1 = .ok (.getfield 22, 3) := by decide +kernel
theorem dX1_rimOf_4 : decode cX1_rimOf 4 = .ok (.iload_n 1, 1) := by decide +kernel
theorem dX1_rimOf_5 : decode cX1_rimOf 5 = .ok (.sipush 255, 3) := by decide +kernel
theorem dX1_rimOf_8 : decode cX1_rimOf 8 = .ok (.iand, 1) := by decide +kernel
theorem dX1_rimOf_9 : decode cX1_rimOf 9 = .ok (.iaload, 1) := by decide +kernel
theorem dX1_rimOf_10 : decode cX1_rimOf 10 = .ok (.ireturn, 1) := by decide +kernel
set_option maxRecDepth 20000 in
theorem ggX1_topOf_X4_lineOf : GoodIn wsX1_topOf wsX4_lineOf := goodIn_r _ [6, 7, 22, 23, 24, 25, 26, 27, 28, 29] (by decide +kernel) (by decide +kernel)
set_option maxRecDepth 20000 in
theorem gX1_topOf_X4_lineOf : GoodIn wsX1_topOf (wsV RX1 79 RX4 yX4_lineOf wsX4_lineOf) := goodIn_app (goodIn_of _ (by decide +kernel)) ggX1_topOf_X4_lineOf
theorem dX1_topOf_0 : decode cX1_topOf 0 = .ok (.aload_n 0, 1) := by decide +kernel
theorem dX1_topOf_1 : decode cX1_topOf 1 = .ok (.getfield 12, 3) := by decide +kernel
theorem dX1_topOf_4 : decode cX1_topOf 4 = .ok (.iload_n 1, 1) := by decide +kernel
theorem dX1_topOf_5 : decode cX1_topOf 5 = .ok (.invokevirtual 79, 3) := by decide +kernel
theorem dX1_topOf_8 : decode cX1_topOf 8 = .ok (.ireturn, 1) := by decide +kernel
theorem dX1_bottomOf_0 : decode cX1_bottomOf 0 = .ok (.aload_n 0, 1) := by decide +kernel
theorem dX1_bottomOf_1 : decode cX1_bottomOf 1 = .ok (.getfield 25, 3) := by decide +kernel
theorem dX1_bottomOf_4 : decode cX1_bottomOf 4 = .ok (.iload_n 1, 1) := by decide +kernel
theorem dX1_bottomOf_5 : decode cX1_bottomOf 5 = .ok (.sipush 255, 3) := by decide +kernel
theorem dX1_bottomOf_8 : decode cX1_bottomOf 8 = .ok (.iand, 1) := by decide +kernel
theorem dX1_bottomOf_9 : decode cX1_bottomOf 9 = .ok (.iaload, 1) := by decide +kernel
theorem dX1_bottomOf_10 : decode cX1_bottomOf 10 = .ok (.ireturn, 1) := by decide +kernel
theorem dX1_leftOf_0 : decode cX1_leftOf 0 = .ok (.aload_n 0, 1) := by decide +kernel
theorem dX1_leftOf_1 : decode cX1_leftOf 1 = .ok (.getfield 28, 3) := by decide +kernel
theorem dX1_leftOf_4 : decode cX1_leftOf 4 = .ok (.iload_n 1, 1) := by decide +kernel
theorem dX1_leftOf_5 : decode cX1_leftOf 5 = .ok (.sipush 255, 3) := by decide +kernel
theorem dX1_leftOf_8 : decode cX1_leftOf 8 = .ok (.iand, 1) := by decide +kernel
theorem dX1_leftOf_9 : decode cX1_leftOf 9 = .ok (.iaload, 1) := by decide +kernel
theorem dX1_leftOf_10 : decode cX1_leftOf 10 = .ok (.ireturn, 1) := by decide +kernel
theorem dX1_rightOf_0 : decode cX1_rightOf 0 = .ok (.aload_n 0, 1) := by decide +kernel
theorem dX1_rightOf_1 : decode cX1_rightOf 1 = .ok (.getfield 31, 3) := by decide +kernel
theorem dX1_rightOf_4 : decode cX1_rightOf 4 = .ok (.iload_n 1, 1) := by decide +kernel
theorem dX1_rightOf_5 : decode cX1_rightOf 5 = .ok (.sipush 255, 3) := by decide +kernel
theorem dX1_rightOf_8 : decode cX1_rightOf 8 = .ok (.iand, 1) := by decide +kernel
theorem dX1_rightOf_9 : decode cX1_rightOf 9 = .ok (.iaload, 1) := by decide +kernel
theorem dX1_rightOf_10 : decode cX1_rightOf 10 = .ok (.ireturn, 1) := by decide +kernel
set_option maxRecDepth 20000 in
theorem ggX1_leastPlaceOf_X4_lineOf : GoodIn wsX1_leastPlaceOf wsX4_lineOf := goodIn_r _ [6, 7, 27, 28, 29, 30, 31, 32, 33, 34] (by decide +kernel) (by decide +kernel)
set_option maxRecDepth 20000 in
theorem gX1_leastPlaceOf_X4_lineOf : GoodIn wsX1_leastPlaceOf (wsV RX1 79 RX4 yX4_lineOf wsX4_lineOf) := goodIn_app (goodIn_of _ (by decide +kernel)) ggX1_leastPlaceOf_X4_lineOf
set_option maxRecDepth 20000 in
theorem ggX1_leastPlaceOf_X4_start : GoodIn wsX1_leastPlaceOf wsX4_start := goodIn_r _ [11, 12, 27, 28, 29, 30, 31, 32, 33, 34] (by decide +kernel) (by decide +kernel)
set_option maxRecDepth 20000 in
theorem gX1_leastPlaceOf_X4_start : GoodIn wsX1_leastPlaceOf (wsV RX1 82 RX4 yX4_start wsX4_start) := goodIn_app (goodIn_of _ (by decide +kernel)) ggX1_leastPlaceOf_X4_start
theorem dX1_leastPlaceOf_0 : decode cX1_leastPlaceOf 0 = .ok (.aload_n 0, 1) := by decide +kernel
theorem dX1_leastPlaceOf_1 : decode cX1_leastPlaceOf 1 = .ok (.getfield 12, 3) := by decide +kernel
theorem dX1_leastPlaceOf_4 : decode cX1_leastPlaceOf 4 = .ok (.iload_n 1, 1) := by decide +kernel
theorem dX1_leastPlaceOf_5 : decode cX1_leastPlaceOf 5 = .ok (.invokevirtual 79, 3) := by decide +kernel
theorem dX1_leastPlaceOf_8 : decode cX1_leastPlaceOf 8 = .ok (.bipush 16, 2) := by decide +kernel
theorem dX1_leastPlaceOf_10 : decode cX1_leastPlaceOf 10 = .ok (.imul, 1) := by decide +kernel
theorem dX1_leastPlaceOf_11 : decode cX1_leastPlaceOf 11 = .ok (.aload_n 0, 1) := by decide +kernel
theorem dX1_leastPlaceOf_12 : decode cX1_leastPlaceOf 12 = .ok (.getfield 12, 3) := by decide +kernel
theorem dX1_leastPlaceOf_15 : decode cX1_leastPlaceOf 15 = .ok (.iload_n 1, 1) := by decide +kernel
theorem dX1_leastPlaceOf_16 : decode cX1_leastPlaceOf 16 = .ok (.invokevirtual 82, 3) := by decide +kernel
theorem dX1_leastPlaceOf_19 : decode cX1_leastPlaceOf 19 = .ok (.iadd, 1) := by decide +kernel
theorem dX1_leastPlaceOf_20 : decode cX1_leastPlaceOf 20 = .ok (.ireturn, 1) := by decide +kernel
set_option maxRecDepth 20000 in
theorem ggX1_partAt_X1_numberAt : GoodIn wsX1_partAt wsX1_numberAt := goodIn_r _ [5, 6, 7, 8, 9, 10, 11, 12, 13, 14, 15, 16, 17, 18, 19, 20, 21, 22, 23, 24, 25, 26, 27, 28, 29, 30, 31, 32, 33, 34, 35, 36, 37, 38, 39, 40, 41, 42, 43, 44, 45, 46, 47, 48, 49, 50, 51, 52, 53, 54, 55, 56] (by decide +kernel) (by decide +kernel)
set_option maxRecDepth 20000 in
theorem gX1_partAt_X1_numberAt : GoodIn wsX1_partAt (wsV RX1 85 RX1 yX1_numberAt wsX1_numberAt) := goodIn_app (goodIn_of _ (by decide +kernel)) ggX1_partAt_X1_numberAt
theorem dX1_partAt_0 : decode cX1_partAt 0 = .ok (.aload_n 0, 1) := by decide +kernel
theorem dX1_partAt_1 : decode cX1_partAt 1 = .ok (.iload_n 1, 1) := by decide +kernel
theorem dX1_partAt_2 : decode cX1_partAt 2 = .ok (.iload_n 2, 1) := by decide +kernel
theorem dX1_partAt_3 : decode cX1_partAt 3 = .ok (.iconst 1, 1) := by decide +kernel
theorem dX1_partAt_4 : decode cX1_partAt 4 = .ok (.invokevirtual 85, 3) := by decide +kernel
theorem dX1_partAt_7 : decode cX1_partAt 7 = .ok (.ireturn, 1) := by decide +kernel
set_option maxRecDepth 20000 in
theorem ggX1_holeAt_X1_numberAt : GoodIn wsX1_holeAt wsX1_numberAt := goodIn_r _ [5, 6, 7, 8, 9, 10, 11, 12, 13, 14, 15, 16, 17, 18, 19, 20, 21, 22, 23, 24, 25, 26, 27, 28, 29, 30, 31, 32, 33, 34, 35, 36, 37, 38, 39, 40, 41, 42, 43, 44, 45, 46, 47, 48, 49, 50, 51, 52, 53, 54, 55, 56] (by decide +kernel) (by decide +kernel)
set_option maxRecDepth 20000 in
theorem gX1_holeAt_X1_numberAt : GoodIn wsX1_holeAt (wsV RX1 85 RX1 yX1_numberAt wsX1_numberAt) := goodIn_app (goodIn_of _ (by decide +kernel)) ggX1_holeAt_X1_numberAt
theorem dX1_holeAt_0 : decode cX1_holeAt 0 = .ok (.aload_n 0, 1) := by decide +kernel
theorem dX1_holeAt_1 : decode cX1_holeAt 1 = .ok (.iload_n 1, 1) := by decide +kernel
theorem dX1_holeAt_2 : decode cX1_holeAt 2 = .ok (.iload_n 2, 1) := by decide +kernel
theorem dX1_holeAt_3 : decode cX1_holeAt 3 = .ok (.iconst 0, 1) := by decide +kernel
theorem dX1_holeAt_4 : decode cX1_holeAt 4 = .ok (.invokevirtual 85, 3) := by decide +kernel
theorem dX1_holeAt_7 : decode cX1_holeAt 7 = .ok (.ireturn, 1) := by decide +kernel
set_option maxRecDepth 20000 in
theorem ggX1_holeAround_X1_groupOfPart : GoodIn wsX1_holeAround wsX1_groupOfPart := goodIn_r _ [6, 7, 54, 55, 56, 57, 58, 59, 60, 61, 62, 63, 64, 65, 66, 67] (by decide +kernel) (by decide +kernel)
set_option maxRecDepth 20000 in
theorem gX1_holeAround_X1_groupOfPart : GoodIn wsX1_holeAround (wsV RX1 89 RX1 yX1_groupOfPart wsX1_groupOfPart) := goodIn_app (goodIn_of _ (by decide +kernel)) ggX1_holeAround_X1_groupOfPart
set_option maxRecDepth 20000 in
theorem ggX1_holeAround_X4_lineOf : GoodIn wsX1_holeAround wsX4_lineOf := goodIn_r _ [12, 13, 68, 69, 70, 71, 72, 73, 74, 75] (by decide +kernel) (by decide +kernel)
set_option maxRecDepth 20000 in
theorem gX1_holeAround_X4_lineOf : GoodIn wsX1_holeAround (wsV RX1 79 RX4 yX4_lineOf wsX4_lineOf) := goodIn_app (goodIn_of _ (by decide +kernel)) ggX1_holeAround_X4_lineOf
set_option maxRecDepth 20000 in
theorem ggX1_holeAround_X4_start : GoodIn wsX1_holeAround wsX4_start := goodIn_r _ [17, 18, 68, 69, 70, 71, 72, 73, 74, 75] (by decide +kernel) (by decide +kernel)
set_option maxRecDepth 20000 in
theorem gX1_holeAround_X4_start : GoodIn wsX1_holeAround (wsV RX1 82 RX4 yX4_start wsX4_start) := goodIn_app (goodIn_of _ (by decide +kernel)) ggX1_holeAround_X4_start
set_option maxRecDepth 20000 in
theorem ggX1_holeAround_X1_holeAt : GoodIn wsX1_holeAround wsX1_holeAt := goodIn_r _ [22, 23, 24, 25, 5, 26, 1, 27, 28, 29, 30, 31, 32, 33, 11, 34, 35, 36, 37, 38, 39, 40, 41, 42, 43, 44, 45, 46, 47, 48, 49, 50, 51, 52, 53, 54, 55, 56, 57, 58, 59, 60, 61, 62, 63, 64, 65, 66, 67, 68, 69, 70, 71, 72, 73, 74, 75] (by decide +kernel) (by decide +kernel)
set_option maxRecDepth 20000 in
theorem gX1_holeAround_X1_holeAt : GoodIn wsX1_holeAround (wsV RX1 92 RX1 yX1_holeAt wsX1_holeAt) := goodIn_app (goodIn_of _ (by decide +kernel)) ggX1_holeAround_X1_holeAt
theorem dX1_holeAround_0 : decode cX1_holeAround 0 = .ok (.aload_n 0, 1) := by decide +kernel
theorem dX1_holeAround_1 : decode cX1_holeAround 1 = .ok (.iload_n 1, 1) := by decide +kernel
theorem dX1_holeAround_2 : decode cX1_holeAround 2 = .ok (.invokevirtual 89, 3) := by decide +kernel
theorem dX1_holeAround_5 : decode cX1_holeAround 5 = .ok (.istore_n 2, 1) := by decide +kernel
theorem dX1_holeAround_6 : decode cX1_holeAround 6 = .ok (.aload_n 0, 1) := by decide +kernel
theorem dX1_holeAround_7 : decode cX1_holeAround 7 = .ok (.aload_n 0, 1) := by decide +kernel
theorem dX1_holeAround_8 : decode cX1_holeAround 8 = .ok (.getfield 12, 3) := by decide +kernel
theorem dX1_holeAround_11 : decode cX1_holeAround 11 = .ok (.iload_n 2, 1) := by decide +kernel
theorem dX1_holeAround_12 : decode cX1_holeAround 12 = .ok (.invokevirtual 79, 3) := by decide +kernel
theorem dX1_holeAround_15 : decode cX1_holeAround 15 = .ok (.iconst 1, 1) := by decide +kernel
theorem dX1_holeAround_16 : decode cX1_holeAround 16 = .ok (.isub, 1) := by decide +kernel
theorem dX1_holeAround_17 : decode cX1_holeAround 17 = .ok (.aload_n 0, 1) := by decide +kernel
theorem dX1_holeAround_18 : decode cX1_holeAround 18 = .ok (.getfield 12, 3) := by decide +kernel
theorem dX1_holeAround_21 : decode cX1_holeAround 21 = .ok (.iload_n 2, 1) := by decide +kernel
theorem dX1_holeAround_22 : decode cX1_holeAround 22 = .ok (.invokevirtual 82, 3) := by decide +kernel
theorem dX1_holeAround_25 : decode cX1_holeAround 25 = .ok (.invokevirtual 92, 3) := by decide +kernel
theorem dX1_holeAround_28 : decode cX1_holeAround 28 = .ok (.ireturn, 1) := by decide +kernel
set_option maxRecDepth 20000 in
theorem ggX1_partAround_X1_groupOfHole : GoodIn wsX1_partAround wsX1_groupOfHole := goodIn_r _ [6, 7, 54, 55, 56, 57, 58, 59, 60, 61, 62, 63, 64, 65, 66, 67] (by decide +kernel) (by decide +kernel)
set_option maxRecDepth 20000 in
theorem gX1_partAround_X1_groupOfHole : GoodIn wsX1_partAround (wsV RX1 96 RX1 yX1_groupOfHole wsX1_groupOfHole) := goodIn_app (goodIn_of _ (by decide +kernel)) ggX1_partAround_X1_groupOfHole
set_option maxRecDepth 20000 in
theorem ggX1_partAround_X4_lineOf : GoodIn wsX1_partAround wsX4_lineOf := goodIn_r _ [12, 13, 68, 69, 70, 71, 72, 73, 74, 75] (by decide +kernel) (by decide +kernel)
set_option maxRecDepth 20000 in
theorem gX1_partAround_X4_lineOf : GoodIn wsX1_partAround (wsV RX1 79 RX4 yX4_lineOf wsX4_lineOf) := goodIn_app (goodIn_of _ (by decide +kernel)) ggX1_partAround_X4_lineOf
set_option maxRecDepth 20000 in
theorem ggX1_partAround_X4_start : GoodIn wsX1_partAround wsX4_start := goodIn_r _ [17, 18, 68, 69, 70, 71, 72, 73, 74, 75] (by decide +kernel) (by decide +kernel)
set_option maxRecDepth 20000 in
theorem gX1_partAround_X4_start : GoodIn wsX1_partAround (wsV RX1 82 RX4 yX4_start wsX4_start) := goodIn_app (goodIn_of _ (by decide +kernel)) ggX1_partAround_X4_start
set_option maxRecDepth 20000 in
theorem ggX1_partAround_X1_partAt : GoodIn wsX1_partAround wsX1_partAt := goodIn_r _ [22, 23, 24, 25, 5, 26, 1, 27, 28, 29, 30, 31, 32, 33, 11, 34, 35, 36, 37, 38, 39, 40, 41, 42, 43, 44, 45, 46, 47, 48, 49, 50, 51, 52, 53, 54, 55, 56, 57, 58, 59, 60, 61, 62, 63, 64, 65, 66, 67, 68, 69, 70, 71, 72, 73, 74, 75] (by decide +kernel) (by decide +kernel)
set_option maxRecDepth 20000 in
theorem gX1_partAround_X1_partAt : GoodIn wsX1_partAround (wsV RX1 99 RX1 yX1_partAt wsX1_partAt) := goodIn_app (goodIn_of _ (by decide +kernel)) ggX1_partAround_X1_partAt
theorem dX1_partAround_0 : decode cX1_partAround 0 = .ok (.aload_n 0, 1) := by decide +kernel
theorem dX1_partAround_1 : decode cX1_partAround 1 = .ok (.iload_n 1, 1) := by decide +kernel
theorem dX1_partAround_2 : decode cX1_partAround 2 = .ok (.invokevirtual 96, 3) := by decide +kernel
theorem dX1_partAround_5 : decode cX1_partAround 5 = .ok (.istore_n 2, 1) := by decide +kernel
theorem dX1_partAround_6 : decode cX1_partAround 6 = .ok (.aload_n 0, 1) := by decide +kernel
theorem dX1_partAround_7 : decode cX1_partAround 7 = .ok (.aload_n 0, 1) := by decide +kernel
theorem dX1_partAround_8 : decode cX1_partAround 8 = .ok (.getfield 12, 3) := by decide +kernel
theorem dX1_partAround_11 : decode cX1_partAround 11 = .ok (.iload_n 2, 1) := by decide +kernel
theorem dX1_partAround_12 : decode cX1_partAround 12 = .ok (.invokevirtual 79, 3) := by decide +kernel
theorem dX1_partAround_15 : decode cX1_partAround 15 = .ok (.iconst 1, 1) := by decide +kernel
theorem dX1_partAround_16 : decode cX1_partAround 16 = .ok (.isub, 1) := by decide +kernel
theorem dX1_partAround_17 : decode cX1_partAround 17 = .ok (.aload_n 0, 1) := by decide +kernel
theorem dX1_partAround_18 : decode cX1_partAround 18 = .ok (.getfield 12, 3) := by decide +kernel
theorem dX1_partAround_21 : decode cX1_partAround 21 = .ok (.iload_n 2, 1) := by decide +kernel
theorem dX1_partAround_22 : decode cX1_partAround 22 = .ok (.invokevirtual 82, 3) := by decide +kernel
theorem dX1_partAround_25 : decode cX1_partAround 25 = .ok (.invokevirtual 99, 3) := by decide +kernel
theorem dX1_partAround_28 : decode cX1_partAround 28 = .ok (.ireturn, 1) := by decide +kernel
set_option maxRecDepth 20000 in
theorem ggX1_depthOf_X1_holeAround : GoodIn wsX1_depthOf wsX1_holeAround := goodIn_r _ [5, 6, 7, 8, 9, 4, 10, 11, 12, 13, 14, 15, 16, 17, 18, 19, 20, 21, 22, 23, 24, 25, 26, 27, 28, 29, 30, 31, 32, 33, 34, 35, 36, 37, 38, 39, 40, 41, 42, 43, 44, 45, 46, 47, 48, 49, 50, 51, 52, 53, 54, 55, 56, 57, 71, 72, 73, 74, 75, 76, 77, 78, 79, 80, 81, 82, 83, 84, 85, 86, 87, 88, 89, 90, 91, 92] (by decide +kernel) (by decide +kernel)
set_option maxRecDepth 20000 in
theorem gX1_depthOf_X1_holeAround : GoodIn wsX1_depthOf (wsV RX1 102 RX1 yX1_holeAround wsX1_holeAround) := goodIn_app (goodIn_of _ (by decide +kernel)) ggX1_depthOf_X1_holeAround
set_option maxRecDepth 20000 in
theorem ggX1_depthOf_X1_partAround : GoodIn wsX1_depthOf wsX1_partAround := goodIn_r _ [61, 6, 62, 63, 64, 4, 65, 66, 12, 13, 14, 15, 16, 17, 18, 19, 20, 21, 22, 67, 68, 69, 70, 27, 28, 29, 30, 31, 32, 33, 34, 35, 36, 37, 38, 39, 40, 41, 42, 43, 44, 45, 46, 47, 48, 49, 50, 51, 52, 53, 54, 55, 56, 57, 71, 72, 73, 74, 75, 76, 77, 78, 79, 80, 81, 82, 83, 84, 85, 86, 87, 88, 89, 90, 91, 92] (by decide +kernel) (by decide +kernel)
set_option maxRecDepth 20000 in
theorem gX1_depthOf_X1_partAround : GoodIn wsX1_depthOf (wsV RX1 105 RX1 yX1_partAround wsX1_partAround) := goodIn_app (goodIn_of _ (by decide +kernel)) ggX1_depthOf_X1_partAround
theorem dX1_depthOf_0 : decode cX1_depthOf 0 = .ok (.iconst 0, 1) := by decide +kernel
theorem dX1_depthOf_1 : decode cX1_depthOf 1 = .ok (.istore_n 2, 1) := by decide +kernel
theorem dX1_depthOf_2 : decode cX1_depthOf 2 = .ok (.aload_n 0, 1) := by decide +kernel
theorem dX1_depthOf_3 : decode cX1_depthOf 3 = .ok (.iload_n 1, 1) := by decide +kernel
theorem dX1_depthOf_4 : decode cX1_depthOf 4 = .ok (.invokevirtual 102, 3) := by decide +kernel
theorem dX1_depthOf_7 : decode cX1_depthOf 7 = .ok (.istore_n 3, 1) := by decide +kernel
theorem dX1_depthOf_8 : decode cX1_depthOf 8 = .ok (.iload_n 3, 1) := by decide +kernel
theorem dX1_depthOf_9 : decode cX1_depthOf 9 = .ok (.iconst (-1), 1) := by decide +kernel
theorem dX1_depthOf_10 : decode cX1_depthOf 10 = .ok (.if_icmp .eq 26, 3) := by decide +kernel
theorem dX1_depthOf_13 : decode cX1_depthOf 13 = .ok (.iload_n 2, 1) := by decide +kernel
theorem dX1_depthOf_14 : decode cX1_depthOf 14 = .ok (.sipush 256, 3) := by decide +kernel
theorem dX1_depthOf_17 : decode cX1_depthOf 17 = .ok (.if_icmp .ge 19, 3) := by decide +kernel
theorem dX1_depthOf_20 : decode cX1_depthOf 20 = .ok (.iinc 2 1, 3) := by decide +kernel
theorem dX1_depthOf_23 : decode cX1_depthOf 23 = .ok (.aload_n 0, 1) := by decide +kernel
theorem dX1_depthOf_24 : decode cX1_depthOf 24 = .ok (.aload_n 0, 1) := by decide +kernel
theorem dX1_depthOf_25 : decode cX1_depthOf 25 = .ok (.iload_n 3, 1) := by decide +kernel
theorem dX1_depthOf_26 : decode cX1_depthOf 26 = .ok (.invokevirtual 105, 3) := by decide +kernel
theorem dX1_depthOf_29 : decode cX1_depthOf 29 = .ok (.invokevirtual 102, 3) := by decide +kernel
theorem dX1_depthOf_32 : decode cX1_depthOf 32 = .ok (.istore_n 3, 1) := by decide +kernel
theorem dX1_depthOf_33 : decode cX1_depthOf 33 = .ok (.goto (-25), 3) := by decide +kernel
theorem dX1_depthOf_36 : decode cX1_depthOf 36 = .ok (.iload_n 2, 1) := by decide +kernel
theorem dX1_depthOf_37 : decode cX1_depthOf 37 = .ok (.ireturn, 1) := by decide +kernel
set_option maxRecDepth 20000 in
theorem ggX1_holesOfPart_X1_partAround : GoodIn wsX1_holesOfPart wsX1_partAround := goodIn_r _ [6, 7, 8, 9, 10, 5, 11, 12, 13, 14, 15, 16, 17, 18, 19, 20, 21, 22, 23, 24, 25, 26, 27, 28, 29, 30, 31, 32, 33, 34, 35, 36, 37, 38, 39, 40, 41, 42, 43, 44, 45, 46, 47, 48, 49, 50, 51, 52, 53, 54, 55, 56, 57, 58, 59, 60, 61, 62, 63, 64, 65, 66, 67, 68, 69, 70, 71, 72, 73, 74, 75, 76, 77, 78, 79, 80] (by decide +kernel) (by decide +kernel)
set_option maxRecDepth 20000 in
theorem gX1_holesOfPart_X1_partAround : GoodIn wsX1_holesOfPart (wsV RX1 105 RX1 yX1_partAround wsX1_partAround) := goodIn_app (goodIn_of _ (by decide +kernel)) ggX1_holesOfPart_X1_partAround
theorem dX1_holesOfPart_0 : decode cX1_holesOfPart 0 = .ok (.iconst 0, 1) := by decide +kernel
theorem dX1_holesOfPart_1 : decode cX1_holesOfPart 1 = .ok (.istore_n 2, 1) := by decide +kernel
theorem dX1_holesOfPart_2 : decode cX1_holesOfPart 2 = .ok (.iconst 0, 1) := by decide +kernel
theorem dX1_holesOfPart_3 : decode cX1_holesOfPart 3 = .ok (.istore_n 3, 1) := by decide +kernel
theorem dX1_holesOfPart_4 : decode cX1_holesOfPart 4 = .ok (.iload_n 3, 1) := by decide +kernel
theorem dX1_holesOfPart_5 : decode cX1_holesOfPart 5 = .ok (.aload_n 0, 1) := by decide +kernel
theorem dX1_holesOfPart_6 : decode cX1_holesOfPart 6 = .ok (.getfield 54, 3) := by decide +kernel
theorem dX1_holesOfPart_9 : decode cX1_holesOfPart 9 = .ok (.if_icmp .ge 26, 3) := by decide +kernel
theorem dX1_holesOfPart_12 : decode cX1_holesOfPart 12 = .ok (.iload_n 2, 1) := by decide +kernel
theorem dX1_holesOfPart_13 : decode cX1_holesOfPart 13 = .ok (.aload_n 0, 1) := by decide +kernel
theorem dX1_holesOfPart_14 : decode cX1_holesOfPart 14 = .ok (.iload_n 3, 1) := by decide +kernel
theorem dX1_holesOfPart_15 : decode cX1_holesOfPart 15 = .ok (.invokevirtual 105, 3) := by decide +kernel
theorem dX1_holesOfPart_18 : decode cX1_holesOfPart 18 = .ok (.iload_n 1, 1) := by decide +kernel
theorem dX1_holesOfPart_19 : decode cX1_holesOfPart 19 = .ok (.if_icmp .ne 7, 3) := by decide +kernel
theorem dX1_holesOfPart_22 : decode cX1_holesOfPart 22 = .ok (.iconst 1, 1) := by decide +kernel
theorem dX1_holesOfPart_23 : decode cX1_holesOfPart 23 = .ok (.goto 4, 3) := by decide +kernel
theorem dX1_holesOfPart_26 : decode cX1_holesOfPart 26 = .ok (.iconst 0, 1) := by decide +kernel
theorem dX1_holesOfPart_27 : decode cX1_holesOfPart 27 = .ok (.iadd, 1) := by decide +kernel
theorem dX1_holesOfPart_28 : decode cX1_holesOfPart 28 = .ok (.istore_n 2, 1) := by decide +kernel
theorem dX1_holesOfPart_29 : decode cX1_holesOfPart 29 = .ok (.iinc 3 1, 3) := by decide +kernel
theorem dX1_holesOfPart_32 : decode cX1_holesOfPart 32 = .ok (.goto (-28), 3) := by decide +kernel
theorem dX1_holesOfPart_35 : decode cX1_holesOfPart 35 = .ok (.iload_n 2, 1) := by decide +kernel
theorem dX1_holesOfPart_36 : decode cX1_holesOfPart 36 = .ok (.ireturn, 1) := by decide +kernel
set_option maxRecDepth 20000 in
theorem ggX1_partsInHole_X1_holeAround : GoodIn wsX1_partsInHole wsX1_holeAround := goodIn_r _ [6, 7, 8, 9, 10, 5, 11, 12, 13, 14, 15, 16, 17, 18, 19, 20, 21, 22, 23, 24, 25, 26, 27, 28, 29, 30, 31, 32, 33, 34, 35, 36, 37, 38, 39, 40, 41, 42, 43, 44, 45, 46, 47, 48, 49, 50, 51, 52, 53, 54, 55, 56, 57, 58, 59, 60, 61, 62, 63, 64, 65, 66, 67, 68, 69, 70, 71, 72, 73, 74, 75, 76, 77, 78, 79, 80] (by decide +kernel) (by decide +kernel)
set_option maxRecDepth 20000 in
theorem gX1_partsInHole_X1_holeAround : GoodIn wsX1_partsInHole (wsV RX1 102 RX1 yX1_holeAround wsX1_holeAround) := goodIn_app (goodIn_of _ (by decide +kernel)) ggX1_partsInHole_X1_holeAround
theorem dX1_partsInHole_0 : decode cX1_partsInHole 0 = .ok (.iconst 0, 1) := by decide +kernel
theorem dX1_partsInHole_1 : decode cX1_partsInHole 1 = .ok (.istore_n 2, 1) := by decide +kernel
theorem dX1_partsInHole_2 : decode cX1_partsInHole 2 = .ok (.iconst 0, 1) := by decide +kernel
theorem dX1_partsInHole_3 : decode cX1_partsInHole 3 = .ok (.istore_n 3, 1) := by decide +kernel
theorem dX1_partsInHole_4 : decode cX1_partsInHole 4 = .ok (.iload_n 3, 1) := by decide +kernel
theorem dX1_partsInHole_5 : decode cX1_partsInHole 5 = .ok (.aload_n 0, 1) := by decide +kernel
theorem dX1_partsInHole_6 : decode cX1_partsInHole 6 = .ok (.getfield 50, 3) := by decide +kernel
theorem dX1_partsInHole_9 : decode cX1_partsInHole 9 = .ok (.if_icmp .ge 26, 3) := by decide +kernel
theorem dX1_partsInHole_12 : decode cX1_partsInHole 12 = .ok (.iload_n 2, 1) := by decide +kernel
theorem dX1_partsInHole_13 : decode cX1_partsInHole 13 = .ok (.aload_n 0, 1) := by decide +kernel
theorem dX1_partsInHole_14 : decode cX1_partsInHole 14 = .ok (.iload_n 3, 1) := by decide +kernel
theorem dX1_partsInHole_15 : decode cX1_partsInHole 15 = .ok (.invokevirtual 102, 3) := by decide +kernel
theorem dX1_partsInHole_18 : decode cX1_partsInHole 18 = .ok (.iload_n 1, 1) := by decide +kernel
theorem dX1_partsInHole_19 : decode cX1_partsInHole 19 = .ok (.if_icmp .ne 7, 3) := by decide +kernel
theorem dX1_partsInHole_22 : decode cX1_partsInHole 22 = .ok (.iconst 1, 1) := by decide +kernel
theorem dX1_partsInHole_23 : decode cX1_partsInHole 23 = .ok (.goto 4, 3) := by decide +kernel
theorem dX1_partsInHole_26 : decode cX1_partsInHole 26 = .ok (.iconst 0, 1) := by decide +kernel
theorem dX1_partsInHole_27 : decode cX1_partsInHole 27 = .ok (.iadd, 1) := by decide +kernel
theorem dX1_partsInHole_28 : decode cX1_partsInHole 28 = .ok (.istore_n 2, 1) := by decide +kernel
theorem dX1_partsInHole_29 : decode cX1_partsInHole 29 = .ok (.iinc 3 1, 3) := by decide +kernel
theorem dX1_partsInHole_32 : decode cX1_partsInHole 32 = .ok (.goto (-28), 3) := by decide +kernel
theorem dX1_partsInHole_35 : decode cX1_partsInHole 35 = .ok (.iload_n 2, 1) := by decide +kernel
theorem dX1_partsInHole_36 : decode cX1_partsInHole 36 = .ok (.ireturn, 1) := by decide +kernel
set_option maxRecDepth 20000 in
theorem ggX1_allRims_X1_groupOfPart : GoodIn wsX1_allRims wsX1_groupOfPart := goodIn_r _ [6, 7, 13, 14, 15, 16, 17, 18, 19, 20, 21, 22, 23, 24, 25, 26] (by decide +kernel) (by decide +kernel)
set_option maxRecDepth 20000 in
theorem gX1_allRims_X1_groupOfPart : GoodIn wsX1_allRims (wsV RX1 89 RX1 yX1_groupOfPart wsX1_groupOfPart) := goodIn_app (goodIn_of _ (by decide +kernel)) ggX1_allRims_X1_groupOfPart
set_option maxRecDepth 20000 in
theorem ggX1_allRims_X1_rimOf : GoodIn wsX1_allRims wsX1_rimOf := goodIn_r _ [11, 12, 13, 14, 15, 16, 17, 18, 19, 20, 21, 22, 23, 24, 25, 26] (by decide +kernel) (by decide +kernel)
set_option maxRecDepth 20000 in
theorem gX1_allRims_X1_rimOf : GoodIn wsX1_allRims (wsV RX1 108 RX1 yX1_rimOf wsX1_rimOf) := goodIn_app (goodIn_of _ (by decide +kernel)) ggX1_allRims_X1_rimOf
theorem dX1_allRims_0 : decode cX1_allRims 0 = .ok (.iconst 0, 1) := by decide +kernel
theorem dX1_allRims_1 : decode cX1_allRims 1 = .ok (.istore_n 1, 1) := by decide +kernel
theorem dX1_allRims_2 : decode cX1_allRims 2 = .ok (.iconst 0, 1) := by decide +kernel
theorem dX1_allRims_3 : decode cX1_allRims 3 = .ok (.istore_n 2, 1) := by decide +kernel
theorem dX1_allRims_4 : decode cX1_allRims 4 = .ok (.iload_n 2, 1) := by decide +kernel
theorem dX1_allRims_5 : decode cX1_allRims 5 = .ok (.aload_n 0, 1) := by decide +kernel
theorem dX1_allRims_6 : decode cX1_allRims 6 = .ok (.getfield 50, 3) := by decide +kernel
theorem dX1_allRims_9 : decode cX1_allRims 9 = .ok (.if_icmp .ge 21, 3) := by decide +kernel
theorem dX1_allRims_12 : decode cX1_allRims 12 = .ok (.iload_n 1, 1) := by decide +kernel
theorem dX1_allRims_13 : decode cX1_allRims 13 = .ok (.aload_n 0, 1) := by decide +kernel
theorem dX1_allRims_14 : decode cX1_allRims 14 = .ok (.aload_n 0, 1) := by decide +kernel
theorem dX1_allRims_15 : decode cX1_allRims 15 = .ok (.iload_n 2, 1) := by decide +kernel
theorem dX1_allRims_16 : decode cX1_allRims 16 = .ok (.invokevirtual 89, 3) := by decide +kernel
theorem dX1_allRims_19 : decode cX1_allRims 19 = .ok (.invokevirtual 108, 3) := by decide +kernel
theorem dX1_allRims_22 : decode cX1_allRims 22 = .ok (.iadd, 1) := by decide +kernel
theorem dX1_allRims_23 : decode cX1_allRims 23 = .ok (.istore_n 1, 1) := by decide +kernel
theorem dX1_allRims_24 : decode cX1_allRims 24 = .ok (.iinc 2 1, 3) := by decide +kernel
theorem dX1_allRims_27 : decode cX1_allRims 27 = .ok (.goto (-23), 3) := by decide +kernel
theorem dX1_allRims_30 : decode cX1_allRims 30 = .ok (.iload_n 1, 1) := by decide +kernel
theorem dX1_allRims_31 : decode cX1_allRims 31 = .ok (.ireturn, 1) := by decide +kernel
set_option maxRecDepth 20000 in
theorem ggX1_deepest_X1_depthOf : GoodIn wsX1_deepest wsX1_depthOf := goodIn_r _ [10, 11, 12, 13, 9, 14, 15, 16, 17, 18, 19, 20, 21, 22, 23, 24, 25, 26, 27, 28, 29, 30, 31, 32, 33, 34, 35, 36, 37, 38, 39, 40, 41, 42, 43, 44, 45, 46, 47, 48, 49, 50, 51, 52, 53, 54, 55, 56, 57, 58, 59, 60, 61, 62, 63, 64, 65, 66, 67, 68, 69, 70, 71, 72, 73, 74, 75, 76, 77, 78, 79, 80, 81, 82, 83, 84, 85, 86, 87, 88, 89, 90, 91, 92, 93, 94, 95, 96, 97, 98, 99, 100, 101] (by decide +kernel) (by decide +kernel)
set_option maxRecDepth 20000 in
theorem gX1_deepest_X1_depthOf : GoodIn wsX1_deepest (wsV RX1 111 RX1 yX1_depthOf wsX1_depthOf) := goodIn_app (goodIn_of _ (by decide +kernel)) ggX1_deepest_X1_depthOf
theorem dX1_deepest_0 : decode cX1_deepest 0 = .ok (.iconst (-1), 1) := by decide +kernel
theorem dX1_deepest_1 : decode cX1_deepest 1 = .ok (.istore_n 1, 1) := by decide +kernel
theorem dX1_deepest_2 : decode cX1_deepest 2 = .ok (.iconst 0, 1) := by decide +kernel
theorem dX1_deepest_3 : decode cX1_deepest 3 = .ok (.istore_n 2, 1) := by decide +kernel
theorem dX1_deepest_4 : decode cX1_deepest 4 = .ok (.iload_n 2, 1) := by decide +kernel
theorem dX1_deepest_5 : decode cX1_deepest 5 = .ok (.aload_n 0, 1) := by decide +kernel
theorem dX1_deepest_6 : decode cX1_deepest 6 = .ok (.getfield 50, 3) := by decide +kernel
theorem dX1_deepest_9 : decode cX1_deepest 9 = .ok (.if_icmp .ge 19, 3) := by decide +kernel
end
section
theorem dX1_deepest_12 : decode cX1_deepest 12 = .ok (.iload_n 1, 1) := by decide +kernel
theorem dX1_deepest_13 : decode cX1_deepest 13 = .ok (.aload_n 0, 1) := by decide +kernel
theorem dX1_deepest_14 : decode cX1_deepest 14 = .ok (.iload_n 2, 1) := by decide +kernel
theorem dX1_deepest_15 : decode cX1_deepest 15 = .ok (.invokevirtual 111, 3) := by decide +kernel
theorem dX1_deepest_18 : decode cX1_deepest 18 = .ok (.invokestatic 114, 3) := by decide +kernel
theorem dX1_deepest_21 : decode cX1_deepest 21 = .ok (.istore_n 1, 1) := by decide +kernel
theorem dX1_deepest_22 : decode cX1_deepest 22 = .ok (.iinc 2 1, 3) := by decide +kernel
theorem dX1_deepest_25 : decode cX1_deepest 25 = .ok (.goto (-21), 3) := by decide +kernel
theorem dX1_deepest_28 : decode cX1_deepest 28 = .ok (.iload_n 1, 1) := by decide +kernel
theorem dX1_deepest_29 : decode cX1_deepest 29 = .ok (.ireturn, 1) := by decide +kernel
set_option maxRecDepth 20000 in
theorem ggX1_largest_X1_groupOfPart : GoodIn wsX1_largest wsX1_groupOfPart := goodIn_r _ [6, 7, 13, 14, 15, 16, 17, 18, 19, 20, 21, 22, 23, 24, 25, 26] (by decide +kernel) (by decide +kernel)
set_option maxRecDepth 20000 in
theorem gX1_largest_X1_groupOfPart : GoodIn wsX1_largest (wsV RX1 89 RX1 yX1_groupOfPart wsX1_groupOfPart) := goodIn_app (goodIn_of _ (by decide +kernel)) ggX1_largest_X1_groupOfPart
set_option maxRecDepth 20000 in
theorem ggX1_largest_X1_sizeOf : GoodIn wsX1_largest wsX1_sizeOf := goodIn_r _ [11, 12, 13, 14, 15, 16, 17, 18, 19, 20, 21, 22, 23, 24, 25, 26] (by decide +kernel) (by decide +kernel)
set_option maxRecDepth 20000 in
theorem gX1_largest_X1_sizeOf : GoodIn wsX1_largest (wsV RX1 119 RX1 yX1_sizeOf wsX1_sizeOf) := goodIn_app (goodIn_of _ (by decide +kernel)) ggX1_largest_X1_sizeOf
theorem dX1_largest_0 : decode cX1_largest 0 = .ok (.iconst (-1), 1) := by decide +kernel
theorem dX1_largest_1 : decode cX1_largest 1 = .ok (.istore_n 1, 1) := by decide +kernel
theorem dX1_largest_2 : decode cX1_largest 2 = .ok (.iconst 0, 1) := by decide +kernel
theorem dX1_largest_3 : decode cX1_largest 3 = .ok (.istore_n 2, 1) := by decide +kernel
theorem dX1_largest_4 : decode cX1_largest 4 = .ok (.iconst 0, 1) := by decide +kernel
theorem dX1_largest_5 : decode cX1_largest 5 = .ok (.istore_n 3, 1) := by decide +kernel
theorem dX1_largest_6 : decode cX1_largest 6 = .ok (.iload_n 3, 1) := by decide +kernel
theorem dX1_largest_7 : decode cX1_largest 7 = .ok (.aload_n 0, 1) := by decide +kernel
theorem dX1_largest_8 : decode cX1_largest 8 = .ok (.getfield 50, 3) := by decide +kernel
theorem dX1_largest_11 : decode cX1_largest 11 = .ok (.if_icmp .ge 31, 3) := by decide +kernel
theorem dX1_largest_14 : decode cX1_largest 14 = .ok (.aload_n 0, 1) := by decide +kernel
theorem dX1_largest_15 : decode cX1_largest 15 = .ok (.aload_n 0, 1) := by decide +kernel
theorem dX1_largest_16 : decode cX1_largest 16 = .ok (.iload_n 3, 1) := by decide +kernel
theorem dX1_largest_17 : decode cX1_largest 17 = .ok (.invokevirtual 89, 3) := by decide +kernel
theorem dX1_largest_20 : decode cX1_largest 20 = .ok (.invokevirtual 119, 3) := by decide +kernel
theorem dX1_largest_23 : decode cX1_largest 23 = .ok (.istore 4, 2) := by decide +kernel
theorem dX1_largest_25 : decode cX1_largest 25 = .ok (.iload 4, 2) := by decide +kernel
theorem dX1_largest_27 : decode cX1_largest 27 = .ok (.iload_n 2, 1) := by decide +kernel
theorem dX1_largest_28 : decode cX1_largest 28 = .ok (.if_icmp .le 8, 3) := by decide +kernel
theorem dX1_largest_31 : decode cX1_largest 31 = .ok (.iload_n 3, 1) := by decide +kernel
theorem dX1_largest_32 : decode cX1_largest 32 = .ok (.istore_n 1, 1) := by decide +kernel
theorem dX1_largest_33 : decode cX1_largest 33 = .ok (.iload 4, 2) := by decide +kernel
theorem dX1_largest_35 : decode cX1_largest 35 = .ok (.istore_n 2, 1) := by decide +kernel
theorem dX1_largest_36 : decode cX1_largest 36 = .ok (.iinc 3 1, 3) := by decide +kernel
theorem dX1_largest_39 : decode cX1_largest 39 = .ok (.goto (-33), 3) := by decide +kernel
theorem dX1_largest_42 : decode cX1_largest 42 = .ok (.iload_n 1, 1) := by decide +kernel
theorem dX1_largest_43 : decode cX1_largest 43 = .ok (.ireturn, 1) := by decide +kernel
set_option maxRecDepth 20000 in
theorem ggX1_partsUpTo_X1_groupOfPart : GoodIn wsX1_partsUpTo wsX1_groupOfPart := goodIn_r _ [6, 7, 13, 14, 15, 16, 17, 18, 19, 20, 21, 22, 23, 24, 25, 26] (by decide +kernel) (by decide +kernel)
set_option maxRecDepth 20000 in
theorem gX1_partsUpTo_X1_groupOfPart : GoodIn wsX1_partsUpTo (wsV RX1 89 RX1 yX1_groupOfPart wsX1_groupOfPart) := goodIn_app (goodIn_of _ (by decide +kernel)) ggX1_partsUpTo_X1_groupOfPart
set_option maxRecDepth 20000 in
theorem ggX1_partsUpTo_X1_sizeOf : GoodIn wsX1_partsUpTo wsX1_sizeOf := goodIn_r _ [11, 12, 13, 14, 15, 16, 17, 18, 19, 20, 21, 22, 23, 24, 25, 26] (by decide +kernel) (by decide +kernel)
set_option maxRecDepth 20000 in
theorem gX1_partsUpTo_X1_sizeOf : GoodIn wsX1_partsUpTo (wsV RX1 119 RX1 yX1_sizeOf wsX1_sizeOf) := goodIn_app (goodIn_of _ (by decide +kernel)) ggX1_partsUpTo_X1_sizeOf
theorem dX1_partsUpTo_0 : decode cX1_partsUpTo 0 = .ok (.iconst 0, 1) := by decide +kernel
theorem dX1_partsUpTo_1 : decode cX1_partsUpTo 1 = .ok (.istore_n 2, 1) := by decide +kernel
theorem dX1_partsUpTo_2 : decode cX1_partsUpTo 2 = .ok (.iconst 0, 1) := by decide +kernel
theorem dX1_partsUpTo_3 : decode cX1_partsUpTo 3 = .ok (.istore_n 3, 1) := by decide +kernel
theorem dX1_partsUpTo_4 : decode cX1_partsUpTo 4 = .ok (.iload_n 3, 1) := by decide +kernel
theorem dX1_partsUpTo_5 : decode cX1_partsUpTo 5 = .ok (.aload_n 0, 1) := by decide +kernel
theorem dX1_partsUpTo_6 : decode cX1_partsUpTo 6 = .ok (.getfield 50, 3) := by decide +kernel
theorem dX1_partsUpTo_9 : decode cX1_partsUpTo 9 = .ok (.if_icmp .ge 30, 3) := by decide +kernel
theorem dX1_partsUpTo_12 : decode cX1_partsUpTo 12 = .ok (.iload_n 2, 1) := by decide +kernel
theorem dX1_partsUpTo_13 : decode cX1_partsUpTo 13 = .ok (.aload_n 0, 1) := by decide +kernel
theorem dX1_partsUpTo_14 : decode cX1_partsUpTo 14 = .ok (.aload_n 0, 1) := by decide +kernel
theorem dX1_partsUpTo_15 : decode cX1_partsUpTo 15 = .ok (.iload_n 3, 1) := by decide +kernel
theorem dX1_partsUpTo_16 : decode cX1_partsUpTo 16 = .ok (.invokevirtual 89, 3) := by decide +kernel
theorem dX1_partsUpTo_19 : decode cX1_partsUpTo 19 = .ok (.invokevirtual 119, 3) := by decide +kernel
theorem dX1_partsUpTo_22 : decode cX1_partsUpTo 22 = .ok (.iload_n 1, 1) := by decide +kernel
theorem dX1_partsUpTo_23 : decode cX1_partsUpTo 23 = .ok (.if_icmp .gt 7, 3) := by decide +kernel
theorem dX1_partsUpTo_26 : decode cX1_partsUpTo 26 = .ok (.iconst 1, 1) := by decide +kernel
theorem dX1_partsUpTo_27 : decode cX1_partsUpTo 27 = .ok (.goto 4, 3) := by decide +kernel
theorem dX1_partsUpTo_30 : decode cX1_partsUpTo 30 = .ok (.iconst 0, 1) := by decide +kernel
theorem dX1_partsUpTo_31 : decode cX1_partsUpTo 31 = .ok (.iadd, 1) := by decide +kernel
theorem dX1_partsUpTo_32 : decode cX1_partsUpTo 32 = .ok (.istore_n 2, 1) := by decide +kernel
theorem dX1_partsUpTo_33 : decode cX1_partsUpTo 33 = .ok (.iinc 3 1, 3) := by decide +kernel
theorem dX1_partsUpTo_36 : decode cX1_partsUpTo 36 = .ok (.goto (-32), 3) := by decide +kernel
theorem dX1_partsUpTo_39 : decode cX1_partsUpTo 39 = .ok (.iload_n 2, 1) := by decide +kernel
theorem dX1_partsUpTo_40 : decode cX1_partsUpTo 40 = .ok (.ireturn, 1) := by decide +kernel
set_option maxRecDepth 20000 in
theorem ggX1_joinsAt_X1_partAt : GoodIn wsX1_joinsAt wsX1_partAt := goodIn_r _ [6, 7, 8, 9, 5, 10, 11, 12, 13, 14, 15, 16, 17, 18, 19, 20, 21, 22, 23, 24, 25, 26, 27, 28, 29, 30, 31, 32, 33, 34, 35, 36, 37, 38, 39, 44, 45, 46, 47, 48, 49, 50, 51, 52, 53, 54, 55, 56, 57, 58, 59, 60, 61, 62, 63, 64, 65] (by decide +kernel) (by decide +kernel)
set_option maxRecDepth 20000 in
theorem gX1_joinsAt_X1_partAt : GoodIn wsX1_joinsAt (wsV RX1 99 RX1 yX1_partAt wsX1_partAt) := goodIn_app (goodIn_of _ (by decide +kernel)) ggX1_joinsAt_X1_partAt
set_option maxRecDepth 20000 in
theorem ggX1_joinsAt_X1_isTouched : GoodIn wsX1_joinsAt wsX1_isTouched := goodIn_r _ [43, 1, 44, 45, 46, 47, 48, 49, 50, 51, 52, 53, 54, 55, 56, 57] (by decide +kernel) (by decide +kernel)
set_option maxRecDepth 20000 in
theorem gX1_joinsAt_X1_isTouched : GoodIn wsX1_joinsAt (wsV RX1 122 RX1 yX1_isTouched wsX1_isTouched) := goodIn_app (goodIn_of _ (by decide +kernel)) ggX1_joinsAt_X1_isTouched
theorem dX1_joinsAt_0 : decode cX1_joinsAt 0 = .ok (.iconst 0, 1) := by decide +kernel
theorem dX1_joinsAt_1 : decode cX1_joinsAt 1 = .ok (.istore 4, 2) := by decide +kernel
theorem dX1_joinsAt_3 : decode cX1_joinsAt 3 = .ok (.iload_n 1, 1) := by decide +kernel
theorem dX1_joinsAt_4 : decode cX1_joinsAt 4 = .ok (.iconst 1, 1) := by decide +kernel
theorem dX1_joinsAt_5 : decode cX1_joinsAt 5 = .ok (.isub, 1) := by decide +kernel
theorem dX1_joinsAt_6 : decode cX1_joinsAt 6 = .ok (.istore 5, 2) := by decide +kernel
theorem dX1_joinsAt_8 : decode cX1_joinsAt 8 = .ok (.iload 5, 2) := by decide +kernel
theorem dX1_joinsAt_10 : decode cX1_joinsAt 10 = .ok (.iload_n 1, 1) := by decide +kernel
theorem dX1_joinsAt_11 : decode cX1_joinsAt 11 = .ok (.iconst 1, 1) := by decide +kernel
theorem dX1_joinsAt_12 : decode cX1_joinsAt 12 = .ok (.iadd, 1) := by decide +kernel
theorem dX1_joinsAt_13 : decode cX1_joinsAt 13 = .ok (.if_icmp .gt 109, 3) := by decide +kernel
theorem dX1_joinsAt_16 : decode cX1_joinsAt 16 = .ok (.iload_n 2, 1) := by decide +kernel
theorem dX1_joinsAt_17 : decode cX1_joinsAt 17 = .ok (.iconst 1, 1) := by decide +kernel
theorem dX1_joinsAt_18 : decode cX1_joinsAt 18 = .ok (.isub, 1) := by decide +kernel
theorem dX1_joinsAt_19 : decode cX1_joinsAt 19 = .ok (.istore 6, 2) := by decide +kernel
theorem dX1_joinsAt_21 : decode cX1_joinsAt 21 = .ok (.iload 6, 2) := by decide +kernel
theorem dX1_joinsAt_23 : decode cX1_joinsAt 23 = .ok (.iload_n 2, 1) := by decide +kernel
theorem dX1_joinsAt_24 : decode cX1_joinsAt 24 = .ok (.iconst 1, 1) := by decide +kernel
theorem dX1_joinsAt_25 : decode cX1_joinsAt 25 = .ok (.iadd, 1) := by decide +kernel
theorem dX1_joinsAt_26 : decode cX1_joinsAt 26 = .ok (.if_icmp .gt 90, 3) := by decide +kernel
theorem dX1_joinsAt_29 : decode cX1_joinsAt 29 = .ok (.iload_n 3, 1) := by decide +kernel
theorem dX1_joinsAt_30 : decode cX1_joinsAt 30 = .ok (.ifCond .ne 15, 3) := by decide +kernel
theorem dX1_joinsAt_33 : decode cX1_joinsAt 33 = .ok (.iload 5, 2) := by decide +kernel
theorem dX1_joinsAt_35 : decode cX1_joinsAt 35 = .ok (.iload_n 1, 1) := by decide +kernel
theorem dX1_joinsAt_36 : decode cX1_joinsAt 36 = .ok (.if_icmp .eq 9, 3) := by decide +kernel
theorem dX1_joinsAt_39 : decode cX1_joinsAt 39 = .ok (.iload 6, 2) := by decide +kernel
theorem dX1_joinsAt_41 : decode cX1_joinsAt 41 = .ok (.iload_n 2, 1) := by decide +kernel
theorem dX1_joinsAt_42 : decode cX1_joinsAt 42 = .ok (.if_icmp .ne 7, 3) := by decide +kernel
theorem dX1_joinsAt_45 : decode cX1_joinsAt 45 = .ok (.iconst 1, 1) := by decide +kernel
theorem dX1_joinsAt_46 : decode cX1_joinsAt 46 = .ok (.goto 4, 3) := by decide +kernel
theorem dX1_joinsAt_49 : decode cX1_joinsAt 49 = .ok (.iconst 0, 1) := by decide +kernel
theorem dX1_joinsAt_50 : decode cX1_joinsAt 50 = .ok (.istore 7, 2) := by decide +kernel
theorem dX1_joinsAt_52 : decode cX1_joinsAt 52 = .ok (.iload 7, 2) := by decide +kernel
theorem dX1_joinsAt_54 : decode cX1_joinsAt 54 = .ok (.ifCond .eq 14, 3) := by decide +kernel
theorem dX1_joinsAt_57 : decode cX1_joinsAt 57 = .ok (.aload_n 0, 1) := by decide +kernel
theorem dX1_joinsAt_58 : decode cX1_joinsAt 58 = .ok (.iload 5, 2) := by decide +kernel
theorem dX1_joinsAt_60 : decode cX1_joinsAt 60 = .ok (.iload 6, 2) := by decide +kernel
theorem dX1_joinsAt_62 : decode cX1_joinsAt 62 = .ok (.invokevirtual 99, 3) := by decide +kernel
theorem dX1_joinsAt_65 : decode cX1_joinsAt 65 = .ok (.goto 4, 3) := by decide +kernel
theorem dX1_joinsAt_68 : decode cX1_joinsAt 68 = .ok (.iconst (-1), 1) := by decide +kernel
theorem dX1_joinsAt_69 : decode cX1_joinsAt 69 = .ok (.istore 8, 2) := by decide +kernel
theorem dX1_joinsAt_71 : decode cX1_joinsAt 71 = .ok (.iload 8, 2) := by decide +kernel
theorem dX1_joinsAt_73 : decode cX1_joinsAt 73 = .ok (.iconst (-1), 1) := by decide +kernel
theorem dX1_joinsAt_74 : decode cX1_joinsAt 74 = .ok (.if_icmp .eq 36, 3) := by decide +kernel
theorem dX1_joinsAt_77 : decode cX1_joinsAt 77 = .ok (.iload 4, 2) := by decide +kernel
theorem dX1_joinsAt_79 : decode cX1_joinsAt 79 = .ok (.aload_n 0, 1) := by decide +kernel
theorem dX1_joinsAt_80 : decode cX1_joinsAt 80 = .ok (.getfield 47, 3) := by decide +kernel
theorem dX1_joinsAt_83 : decode cX1_joinsAt 83 = .ok (.arraylength, 1) := by decide +kernel
theorem dX1_joinsAt_84 : decode cX1_joinsAt 84 = .ok (.if_icmp .ge 26, 3) := by decide +kernel
theorem dX1_joinsAt_87 : decode cX1_joinsAt 87 = .ok (.aload_n 0, 1) := by decide +kernel
theorem dX1_joinsAt_88 : decode cX1_joinsAt 88 = .ok (.iload 8, 2) := by decide +kernel
theorem dX1_joinsAt_90 : decode cX1_joinsAt 90 = .ok (.iload 4, 2) := by decide +kernel
theorem dX1_joinsAt_92 : decode cX1_joinsAt 92 = .ok (.invokevirtual 122, 3) := by decide +kernel
theorem dX1_joinsAt_95 : decode cX1_joinsAt 95 = .ok (.ifCond .ne 15, 3) := by decide +kernel
theorem dX1_joinsAt_98 : decode cX1_joinsAt 98 = .ok (.aload_n 0, 1) := by decide +kernel
theorem dX1_joinsAt_99 : decode cX1_joinsAt 99 = .ok (.getfield 47, 3) := by decide +kernel
theorem dX1_joinsAt_102 : decode cX1_joinsAt 102 = .ok (.iload 4, 2) := by decide +kernel
theorem dX1_joinsAt_104 : decode cX1_joinsAt 104 = .ok (.iload 8, 2) := by decide +kernel
theorem dX1_joinsAt_106 : decode cX1_joinsAt 106 = .ok (.iastore, 1) := by decide +kernel
theorem dX1_joinsAt_107 : decode cX1_joinsAt 107 = .ok (.iinc 4 1, 3) := by decide +kernel
theorem dX1_joinsAt_110 : decode cX1_joinsAt 110 = .ok (.iinc 6 1, 3) := by decide +kernel
theorem dX1_joinsAt_113 : decode cX1_joinsAt 113 = .ok (.goto (-92), 3) := by decide +kernel
theorem dX1_joinsAt_116 : decode cX1_joinsAt 116 = .ok (.iinc 5 1, 3) := by decide +kernel
theorem dX1_joinsAt_119 : decode cX1_joinsAt 119 = .ok (.goto (-111), 3) := by decide +kernel
theorem dX1_joinsAt_122 : decode cX1_joinsAt 122 = .ok (.iload 4, 2) := by decide +kernel
theorem dX1_joinsAt_124 : decode cX1_joinsAt 124 = .ok (.ireturn, 1) := by decide +kernel
set_option maxRecDepth 20000 in
theorem ggX1_sameMoved_X1_sizeOf : GoodIn wsX1_sameMoved wsX1_sizeOf := goodIn_r _ [6, 7, 38, 39, 40, 41, 42, 43, 44, 45, 46, 47, 48, 49, 50, 51] (by decide +kernel) (by decide +kernel)
set_option maxRecDepth 20000 in
theorem gX1_sameMoved_X1_sizeOf : GoodIn wsX1_sameMoved (wsV RX1 119 RX1 yX1_sizeOf wsX1_sizeOf) := goodIn_app (goodIn_of _ (by decide +kernel)) ggX1_sameMoved_X1_sizeOf
set_option maxRecDepth 20000 in
theorem ggX1_sameMoved_X4_lineOf : GoodIn wsX1_sameMoved wsX4_lineOf := goodIn_r _ [12, 13, 52, 53, 54, 55, 56, 57, 58, 59] (by decide +kernel) (by decide +kernel)
set_option maxRecDepth 20000 in
theorem gX1_sameMoved_X4_lineOf : GoodIn wsX1_sameMoved (wsV RX1 79 RX4 yX4_lineOf wsX4_lineOf) := goodIn_app (goodIn_of _ (by decide +kernel)) ggX1_sameMoved_X4_lineOf
set_option maxRecDepth 20000 in
theorem ggX1_sameMoved_X4_start : GoodIn wsX1_sameMoved wsX4_start := goodIn_r _ [17, 18, 52, 53, 54, 55, 56, 57, 58, 59] (by decide +kernel) (by decide +kernel)
set_option maxRecDepth 20000 in
theorem gX1_sameMoved_X4_start : GoodIn wsX1_sameMoved (wsV RX1 82 RX4 yX4_start wsX4_start) := goodIn_app (goodIn_of _ (by decide +kernel)) ggX1_sameMoved_X4_start
set_option maxRecDepth 20000 in
theorem ggX1_sameMoved_X4_length : GoodIn wsX1_sameMoved wsX4_length := goodIn_r _ [22, 23, 24, 25, 11, 26, 27, 28, 15, 16, 17, 18, 52, 53, 54, 55, 56, 57, 58, 59] (by decide +kernel) (by decide +kernel)
set_option maxRecDepth 20000 in
theorem gX1_sameMoved_X4_length : GoodIn wsX1_sameMoved (wsV RX1 126 RX4 yX4_length wsX4_length) := goodIn_app (goodIn_of _ (by decide +kernel)) ggX1_sameMoved_X4_length
set_option maxRecDepth 20000 in
theorem ggX1_sameMoved_X1_nextOfGroup : GoodIn wsX1_sameMoved wsX1_nextOfGroup := goodIn_r _ [32, 1, 33, 34, 35, 11, 36, 37, 38, 39, 40, 41, 42, 43, 44, 45, 46, 47, 48, 49, 50, 51, 52, 53, 54, 55, 56, 57, 58, 59] (by decide +kernel) (by decide +kernel)
set_option maxRecDepth 20000 in
theorem gX1_sameMoved_X1_nextOfGroup : GoodIn wsX1_sameMoved (wsV RX1 129 RX1 yX1_nextOfGroup wsX1_nextOfGroup) := goodIn_app (goodIn_of _ (by decide +kernel)) ggX1_sameMoved_X1_nextOfGroup
theorem dX1_sameMoved_0 : decode cX1_sameMoved 0 = .ok (.aload_n 0, 1) := by decide +kernel
theorem dX1_sameMoved_1 : decode cX1_sameMoved 1 = .ok (.iload_n 1, 1) := by decide +kernel
theorem dX1_sameMoved_2 : decode cX1_sameMoved 2 = .ok (.invokevirtual 119, 3) := by decide +kernel
theorem dX1_sameMoved_5 : decode cX1_sameMoved 5 = .ok (.aload_n 0, 1) := by decide +kernel
theorem dX1_sameMoved_6 : decode cX1_sameMoved 6 = .ok (.iload_n 2, 1) := by decide +kernel
theorem dX1_sameMoved_7 : decode cX1_sameMoved 7 = .ok (.invokevirtual 119, 3) := by decide +kernel
theorem dX1_sameMoved_10 : decode cX1_sameMoved 10 = .ok (.if_icmp .eq 5, 3) := by decide +kernel
theorem dX1_sameMoved_13 : decode cX1_sameMoved 13 = .ok (.iconst 0, 1) := by decide +kernel
theorem dX1_sameMoved_14 : decode cX1_sameMoved 14 = .ok (.ireturn, 1) := by decide +kernel
theorem dX1_sameMoved_15 : decode cX1_sameMoved 15 = .ok (.iload_n 1, 1) := by decide +kernel
theorem dX1_sameMoved_16 : decode cX1_sameMoved 16 = .ok (.istore_n 3, 1) := by decide +kernel
theorem dX1_sameMoved_17 : decode cX1_sameMoved 17 = .ok (.iload_n 2, 1) := by decide +kernel
theorem dX1_sameMoved_18 : decode cX1_sameMoved 18 = .ok (.istore 4, 2) := by decide +kernel
theorem dX1_sameMoved_20 : decode cX1_sameMoved 20 = .ok (.iconst 0, 1) := by decide +kernel
theorem dX1_sameMoved_21 : decode cX1_sameMoved 21 = .ok (.istore 5, 2) := by decide +kernel
theorem dX1_sameMoved_23 : decode cX1_sameMoved 23 = .ok (.iload 5, 2) := by decide +kernel
theorem dX1_sameMoved_25 : decode cX1_sameMoved 25 = .ok (.sipush 256, 3) := by decide +kernel
theorem dX1_sameMoved_28 : decode cX1_sameMoved 28 = .ok (.if_icmp .ge 170, 3) := by decide +kernel
theorem dX1_sameMoved_31 : decode cX1_sameMoved 31 = .ok (.iload_n 3, 1) := by decide +kernel
theorem dX1_sameMoved_32 : decode cX1_sameMoved 32 = .ok (.aload_n 0, 1) := by decide +kernel
theorem dX1_sameMoved_33 : decode cX1_sameMoved 33 = .ok (.getfield 12, 3) := by decide +kernel
theorem dX1_sameMoved_36 : decode cX1_sameMoved 36 = .ok (.getfield 64, 3) := by decide +kernel
theorem dX1_sameMoved_39 : decode cX1_sameMoved 39 = .ok (.if_icmp .ge 159, 3) := by decide +kernel
theorem dX1_sameMoved_42 : decode cX1_sameMoved 42 = .ok (.iload 4, 2) := by decide +kernel
theorem dX1_sameMoved_44 : decode cX1_sameMoved 44 = .ok (.aload_n 0, 1) := by decide +kernel
theorem dX1_sameMoved_45 : decode cX1_sameMoved 45 = .ok (.getfield 12, 3) := by decide +kernel
theorem dX1_sameMoved_48 : decode cX1_sameMoved 48 = .ok (.getfield 64, 3) := by decide +kernel
theorem dX1_sameMoved_51 : decode cX1_sameMoved 51 = .ok (.if_icmp .ge 147, 3) := by decide +kernel
theorem dX1_sameMoved_54 : decode cX1_sameMoved 54 = .ok (.aload_n 0, 1) := by decide +kernel
theorem dX1_sameMoved_55 : decode cX1_sameMoved 55 = .ok (.getfield 12, 3) := by decide +kernel
theorem dX1_sameMoved_58 : decode cX1_sameMoved 58 = .ok (.iload_n 3, 1) := by decide +kernel
theorem dX1_sameMoved_59 : decode cX1_sameMoved 59 = .ok (.invokevirtual 79, 3) := by decide +kernel
theorem dX1_sameMoved_62 : decode cX1_sameMoved 62 = .ok (.aload_n 0, 1) := by decide +kernel
theorem dX1_sameMoved_63 : decode cX1_sameMoved 63 = .ok (.getfield 12, 3) := by decide +kernel
theorem dX1_sameMoved_66 : decode cX1_sameMoved 66 = .ok (.iload_n 1, 1) := by decide +kernel
theorem dX1_sameMoved_67 : decode cX1_sameMoved 67 = .ok (.invokevirtual 79, 3) := by decide +kernel
theorem dX1_sameMoved_70 : decode cX1_sameMoved 70 = .ok (.isub, 1) := by decide +kernel
theorem dX1_sameMoved_71 : decode cX1_sameMoved 71 = .ok (.aload_n 0, 1) := by decide +kernel
theorem dX1_sameMoved_72 : decode cX1_sameMoved 72 = .ok (.getfield 12, 3) := by decide +kernel
theorem dX1_sameMoved_75 : decode cX1_sameMoved 75 = .ok (.iload 4, 2) := by decide +kernel
theorem dX1_sameMoved_77 : decode cX1_sameMoved 77 = .ok (.invokevirtual 79, 3) := by decide +kernel
theorem dX1_sameMoved_80 : decode cX1_sameMoved 80 = .ok (.aload_n 0, 1) := by decide +kernel
theorem dX1_sameMoved_81 : decode cX1_sameMoved 81 = .ok (.getfield 12, 3) := by decide +kernel
theorem dX1_sameMoved_84 : decode cX1_sameMoved 84 = .ok (.iload_n 2, 1) := by decide +kernel
theorem dX1_sameMoved_85 : decode cX1_sameMoved 85 = .ok (.invokevirtual 79, 3) := by decide +kernel
theorem dX1_sameMoved_88 : decode cX1_sameMoved 88 = .ok (.isub, 1) := by decide +kernel
theorem dX1_sameMoved_89 : decode cX1_sameMoved 89 = .ok (.if_icmp .ne 7, 3) := by decide +kernel
theorem dX1_sameMoved_92 : decode cX1_sameMoved 92 = .ok (.iconst 1, 1) := by decide +kernel
theorem dX1_sameMoved_93 : decode cX1_sameMoved 93 = .ok (.goto 4, 3) := by decide +kernel
theorem dX1_sameMoved_96 : decode cX1_sameMoved 96 = .ok (.iconst 0, 1) := by decide +kernel
theorem dX1_sameMoved_97 : decode cX1_sameMoved 97 = .ok (.istore 6, 2) := by decide +kernel
theorem dX1_sameMoved_99 : decode cX1_sameMoved 99 = .ok (.aload_n 0, 1) := by decide +kernel
theorem dX1_sameMoved_100 : decode cX1_sameMoved 100 = .ok (.getfield 12, 3) := by decide +kernel
theorem dX1_sameMoved_103 : decode cX1_sameMoved 103 = .ok (.iload_n 3, 1) := by decide +kernel
theorem dX1_sameMoved_104 : decode cX1_sameMoved 104 = .ok (.invokevirtual 82, 3) := by decide +kernel
theorem dX1_sameMoved_107 : decode cX1_sameMoved 107 = .ok (.aload_n 0, 1) := by decide +kernel
theorem dX1_sameMoved_108 : decode cX1_sameMoved 108 = .ok (.getfield 12, 3) := by decide +kernel
theorem dX1_sameMoved_111 : decode cX1_sameMoved 111 = .ok (.iload_n 1, 1) := by decide +kernel
theorem dX1_sameMoved_112 : decode cX1_sameMoved 112 = .ok (.invokevirtual 82, 3) := by decide +kernel
theorem dX1_sameMoved_115 : decode cX1_sameMoved 115 = .ok (.isub, 1) := by decide +kernel
theorem dX1_sameMoved_116 : decode cX1_sameMoved 116 = .ok (.aload_n 0, 1) := by decide +kernel
theorem dX1_sameMoved_117 : decode cX1_sameMoved 117 = .ok (.getfield 12, 3) := by decide +kernel
theorem dX1_sameMoved_120 : decode cX1_sameMoved 120 = .ok (.iload 4, 2) := by decide +kernel
theorem dX1_sameMoved_122 : decode cX1_sameMoved 122 = .ok (.invokevirtual 82, 3) := by decide +kernel
theorem dX1_sameMoved_125 : decode cX1_sameMoved 125 = .ok (.aload_n 0, 1) := by decide +kernel
theorem dX1_sameMoved_126 : decode cX1_sameMoved 126 = .ok (.getfield 12, 3) := by decide +kernel
theorem dX1_sameMoved_129 : decode cX1_sameMoved 129 = .ok (.iload_n 2, 1) := by decide +kernel
theorem dX1_sameMoved_130 : decode cX1_sameMoved 130 = .ok (.invokevirtual 82, 3) := by decide +kernel
theorem dX1_sameMoved_133 : decode cX1_sameMoved 133 = .ok (.isub, 1) := by decide +kernel
theorem dX1_sameMoved_134 : decode cX1_sameMoved 134 = .ok (.if_icmp .ne 7, 3) := by decide +kernel
theorem dX1_sameMoved_137 : decode cX1_sameMoved 137 = .ok (.iconst 1, 1) := by decide +kernel
theorem dX1_sameMoved_138 : decode cX1_sameMoved 138 = .ok (.goto 4, 3) := by decide +kernel
theorem dX1_sameMoved_141 : decode cX1_sameMoved 141 = .ok (.iconst 0, 1) := by decide +kernel
theorem dX1_sameMoved_142 : decode cX1_sameMoved 142 = .ok (.istore 7, 2) := by decide +kernel
theorem dX1_sameMoved_144 : decode cX1_sameMoved 144 = .ok (.iload 6, 2) := by decide +kernel
theorem dX1_sameMoved_146 : decode cX1_sameMoved 146 = .ok (.ifCond .eq 28, 3) := by decide +kernel
theorem dX1_sameMoved_149 : decode cX1_sameMoved 149 = .ok (.iload 7, 2) := by decide +kernel
theorem dX1_sameMoved_151 : decode cX1_sameMoved 151 = .ok (.ifCond .eq 23, 3) := by decide +kernel
theorem dX1_sameMoved_154 : decode cX1_sameMoved 154 = .ok (.aload_n 0, 1) := by decide +kernel
theorem dX1_sameMoved_155 : decode cX1_sameMoved 155 = .ok (.getfield 12, 3) := by decide +kernel
theorem dX1_sameMoved_158 : decode cX1_sameMoved 158 = .ok (.iload_n 3, 1) := by decide +kernel
theorem dX1_sameMoved_159 : decode cX1_sameMoved 159 = .ok (.invokevirtual 126, 3) := by decide +kernel
theorem dX1_sameMoved_162 : decode cX1_sameMoved 162 = .ok (.aload_n 0, 1) := by decide +kernel
theorem dX1_sameMoved_163 : decode cX1_sameMoved 163 = .ok (.getfield 12, 3) := by decide +kernel
theorem dX1_sameMoved_166 : decode cX1_sameMoved 166 = .ok (.iload 4, 2) := by decide +kernel
theorem dX1_sameMoved_168 : decode cX1_sameMoved 168 = .ok (.invokevirtual 126, 3) := by decide +kernel
theorem dX1_sameMoved_171 : decode cX1_sameMoved 171 = .ok (.if_icmp .eq 5, 3) := by decide +kernel
theorem dX1_sameMoved_174 : decode cX1_sameMoved 174 = .ok (.iconst 0, 1) := by decide +kernel
theorem dX1_sameMoved_175 : decode cX1_sameMoved 175 = .ok (.ireturn, 1) := by decide +kernel
theorem dX1_sameMoved_176 : decode cX1_sameMoved 176 = .ok (.aload_n 0, 1) := by decide +kernel
theorem dX1_sameMoved_177 : decode cX1_sameMoved 177 = .ok (.iload_n 3, 1) := by decide +kernel
theorem dX1_sameMoved_178 : decode cX1_sameMoved 178 = .ok (.iload_n 1, 1) := by decide +kernel
theorem dX1_sameMoved_179 : decode cX1_sameMoved 179 = .ok (.invokevirtual 129, 3) := by decide +kernel
theorem dX1_sameMoved_182 : decode cX1_sameMoved 182 = .ok (.istore_n 3, 1) := by decide +kernel
theorem dX1_sameMoved_183 : decode cX1_sameMoved 183 = .ok (.aload_n 0, 1) := by decide +kernel
theorem dX1_sameMoved_184 : decode cX1_sameMoved 184 = .ok (.iload 4, 2) := by decide +kernel
theorem dX1_sameMoved_186 : decode cX1_sameMoved 186 = .ok (.iload_n 2, 1) := by decide +kernel
theorem dX1_sameMoved_187 : decode cX1_sameMoved 187 = .ok (.invokevirtual 129, 3) := by decide +kernel
theorem dX1_sameMoved_190 : decode cX1_sameMoved 190 = .ok (.istore 4, 2) := by decide +kernel
theorem dX1_sameMoved_192 : decode cX1_sameMoved 192 = .ok (.iinc 5 1, 3) := by decide +kernel
theorem dX1_sameMoved_195 : decode cX1_sameMoved 195 = .ok (.goto (-172), 3) := by decide +kernel
theorem dX1_sameMoved_198 : decode cX1_sameMoved 198 = .ok (.iconst 1, 1) := by decide +kernel
theorem dX1_sameMoved_199 : decode cX1_sameMoved 199 = .ok (.ireturn, 1) := by decide +kernel
set_option maxRecDepth 20000 in
theorem ggX1_flipDotsOf_X4_groupOf : GoodIn wsX1_flipDotsOf wsX4_groupOf := goodIn_r _ [6, 7, 56, 57, 58, 59, 60, 61, 62, 63] (by decide +kernel) (by decide +kernel)
set_option maxRecDepth 20000 in
theorem gX1_flipDotsOf_X4_groupOf : GoodIn wsX1_flipDotsOf (wsV RX1 71 RX4 yX4_groupOf wsX4_groupOf) := goodIn_app (goodIn_of _ (by decide +kernel)) ggX1_flipDotsOf_X4_groupOf
set_option maxRecDepth 20000 in
theorem ggX1_flipDotsOf_X4_lineOf : GoodIn wsX1_flipDotsOf wsX4_lineOf := goodIn_r _ [11, 12, 56, 57, 58, 59, 60, 61, 62, 63] (by decide +kernel) (by decide +kernel)
set_option maxRecDepth 20000 in
theorem gX1_flipDotsOf_X4_lineOf : GoodIn wsX1_flipDotsOf (wsV RX1 79 RX4 yX4_lineOf wsX4_lineOf) := goodIn_app (goodIn_of _ (by decide +kernel)) ggX1_flipDotsOf_X4_lineOf
set_option maxRecDepth 20000 in
theorem ggX1_flipDotsOf_X4_columns : GoodIn wsX1_flipDotsOf wsX4_columns := goodIn_r _ [16, 17, 18, 19, 5, 20, 21, 22, 23, 24, 25, 26, 56, 57, 58, 59, 60, 61, 62, 63] (by decide +kernel) (by decide +kernel)
set_option maxRecDepth 20000 in
theorem gX1_flipDotsOf_X4_columns : GoodIn wsX1_flipDotsOf (wsV RX1 132 RX4 yX4_columns wsX4_columns) := goodIn_app (goodIn_of _ (by decide +kernel)) ggX1_flipDotsOf_X4_columns
set_option maxRecDepth 20000 in
theorem ggX1_flipDotsOf_X3_flip : GoodIn wsX1_flipDotsOf wsX3_flip := goodIn_r _ [31, 32, 33, 34, 30, 35, 36, 37, 38, 39, 40, 41, 64, 65, 66] (by decide +kernel) (by decide +kernel)
set_option maxRecDepth 20000 in
theorem gX1_flipDotsOf_X3_flip : GoodIn wsX1_flipDotsOf (wsV RX1 135 RX3 yX3_flip wsX3_flip) := goodIn_app (goodIn_of _ (by decide +kernel)) ggX1_flipDotsOf_X3_flip
theorem dX1_flipDotsOf_0 : decode cX1_flipDotsOf 0 = .ok (.iconst 0, 1) := by decide +kernel
theorem dX1_flipDotsOf_1 : decode cX1_flipDotsOf 1 = .ok (.istore_n 3, 1) := by decide +kernel
theorem dX1_flipDotsOf_2 : decode cX1_flipDotsOf 2 = .ok (.iload_n 3, 1) := by decide +kernel
theorem dX1_flipDotsOf_3 : decode cX1_flipDotsOf 3 = .ok (.aload_n 0, 1) := by decide +kernel
theorem dX1_flipDotsOf_4 : decode cX1_flipDotsOf 4 = .ok (.getfield 12, 3) := by decide +kernel
theorem dX1_flipDotsOf_7 : decode cX1_flipDotsOf 7 = .ok (.getfield 64, 3) := by decide +kernel
theorem dX1_flipDotsOf_10 : decode cX1_flipDotsOf 10 = .ok (.if_icmp .ge 41, 3) := by decide +kernel
theorem dX1_flipDotsOf_13 : decode cX1_flipDotsOf 13 = .ok (.aload_n 0, 1) := by decide +kernel
theorem dX1_flipDotsOf_14 : decode cX1_flipDotsOf 14 = .ok (.getfield 12, 3) := by decide +kernel
theorem dX1_flipDotsOf_17 : decode cX1_flipDotsOf 17 = .ok (.iload_n 3, 1) := by decide +kernel
theorem dX1_flipDotsOf_18 : decode cX1_flipDotsOf 18 = .ok (.invokevirtual 71, 3) := by decide +kernel
theorem dX1_flipDotsOf_21 : decode cX1_flipDotsOf 21 = .ok (.iload_n 1, 1) := by decide +kernel
theorem dX1_flipDotsOf_22 : decode cX1_flipDotsOf 22 = .ok (.if_icmp .ne 23, 3) := by decide +kernel
theorem dX1_flipDotsOf_25 : decode cX1_flipDotsOf 25 = .ok (.aload_n 2, 1) := by decide +kernel
theorem dX1_flipDotsOf_26 : decode cX1_flipDotsOf 26 = .ok (.aload_n 0, 1) := by decide +kernel
theorem dX1_flipDotsOf_27 : decode cX1_flipDotsOf 27 = .ok (.getfield 12, 3) := by decide +kernel
theorem dX1_flipDotsOf_30 : decode cX1_flipDotsOf 30 = .ok (.iload_n 3, 1) := by decide +kernel
theorem dX1_flipDotsOf_31 : decode cX1_flipDotsOf 31 = .ok (.invokevirtual 79, 3) := by decide +kernel
theorem dX1_flipDotsOf_34 : decode cX1_flipDotsOf 34 = .ok (.aload_n 0, 1) := by decide +kernel
theorem dX1_flipDotsOf_35 : decode cX1_flipDotsOf 35 = .ok (.getfield 12, 3) := by decide +kernel
theorem dX1_flipDotsOf_38 : decode cX1_flipDotsOf 38 = .ok (.iload_n 3, 1) := by decide +kernel
theorem dX1_flipDotsOf_39 : decode cX1_flipDotsOf 39 = .ok (.invokevirtual 132, 3) := by decide +kernel
theorem dX1_flipDotsOf_42 : decode cX1_flipDotsOf 42 = .ok (.invokevirtual 135, 3) := by decide +kernel
theorem dX1_flipDotsOf_45 : decode cX1_flipDotsOf 45 = .ok (.iinc 3 1, 3) := by decide +kernel
theorem dX1_flipDotsOf_48 : decode cX1_flipDotsOf 48 = .ok (.goto (-46), 3) := by decide +kernel
theorem dX1_flipDotsOf_51 : decode cX1_flipDotsOf 51 = .ok (.return_, 1) := by decide +kernel
set_option maxRecDepth 20000 in
theorem ggX1_measure_X4_lineOf : GoodIn wsX1_measure wsX4_lineOf := goodIn_r _ [19, 20, 83, 84, 85, 86, 87, 88, 89, 90] (by decide +kernel) (by decide +kernel)
set_option maxRecDepth 20000 in
theorem gX1_measure_X4_lineOf : GoodIn wsX1_measure (wsV RX1 79 RX4 yX4_lineOf wsX4_lineOf) := goodIn_app (goodIn_of _ (by decide +kernel)) ggX1_measure_X4_lineOf
set_option maxRecDepth 20000 in
theorem ggX1_measure_X4_start : GoodIn wsX1_measure wsX4_start := goodIn_r _ [24, 25, 83, 84, 85, 86, 87, 88, 89, 90] (by decide +kernel) (by decide +kernel)
set_option maxRecDepth 20000 in
theorem gX1_measure_X4_start : GoodIn wsX1_measure (wsV RX1 82 RX4 yX4_start wsX4_start) := goodIn_app (goodIn_of _ (by decide +kernel)) ggX1_measure_X4_start
set_option maxRecDepth 20000 in
theorem ggX1_measure_X4_end : GoodIn wsX1_measure wsX4_end := goodIn_r _ [29, 30, 83, 84, 85, 86, 87, 88, 89, 90] (by decide +kernel) (by decide +kernel)
set_option maxRecDepth 20000 in
theorem gX1_measure_X4_end : GoodIn wsX1_measure (wsV RX1 141 RX4 yX4_end wsX4_end) := goodIn_app (goodIn_of _ (by decide +kernel)) ggX1_measure_X4_end
set_option maxRecDepth 20000 in
theorem ggX1_measure_X4_groupOf : GoodIn wsX1_measure wsX4_groupOf := goodIn_r _ [34, 35, 83, 84, 85, 86, 87, 88, 89, 90] (by decide +kernel) (by decide +kernel)
set_option maxRecDepth 20000 in
theorem gX1_measure_X4_groupOf : GoodIn wsX1_measure (wsV RX1 71 RX4 yX4_groupOf wsX4_groupOf) := goodIn_app (goodIn_of _ (by decide +kernel)) ggX1_measure_X4_groupOf
set_option maxRecDepth 20000 in
theorem ggX1_measure_X1_clear : GoodIn wsX1_measure wsX1_clear := goodIn_r _ [40, 2, 3, 5, 10, 14, 69, 70, 71, 72, 73, 74, 75, 76, 77, 78, 79, 80, 81, 82] (by decide +kernel) (by decide +kernel)
set_option maxRecDepth 20000 in
theorem gX1_measure_X1_clear : GoodIn wsX1_measure (wsV RX1 144 RX1 yX1_clear wsX1_clear) := goodIn_app (goodIn_of _ (by decide +kernel)) ggX1_measure_X1_clear
set_option maxRecDepth 20000 in
theorem ggX1_measure_X4_isDark : GoodIn wsX1_measure wsX4_isDark := goodIn_r _ [44, 45, 83, 84, 85, 86, 87, 88, 89, 90] (by decide +kernel) (by decide +kernel)
set_option maxRecDepth 20000 in
theorem gX1_measure_X4_isDark : GoodIn wsX1_measure (wsV RX1 147 RX4 yX4_isDark wsX4_isDark) := goodIn_app (goodIn_of _ (by decide +kernel)) ggX1_measure_X4_isDark
set_option maxRecDepth 20000 in
theorem ggX1_measure_X4_columns : GoodIn wsX1_measure wsX4_columns := goodIn_r _ [49, 50, 27, 28, 18, 29, 30, 51, 22, 23, 24, 25, 83, 84, 85, 86, 87, 88, 89, 90] (by decide +kernel) (by decide +kernel)
set_option maxRecDepth 20000 in
theorem gX1_measure_X4_columns : GoodIn wsX1_measure (wsV RX1 132 RX4 yX4_columns wsX4_columns) := goodIn_app (goodIn_of _ (by decide +kernel)) ggX1_measure_X4_columns
set_option maxRecDepth 20000 in
theorem ggX1_measure_X3_freeSides : GoodIn wsX1_measure wsX3_freeSides := goodIn_r _ [56, 57, 58, 59, 55, 60, 61, 62, 63, 64, 65, 66, 67, 68, 91, 92, 93] (by decide +kernel) (by decide +kernel)
set_option maxRecDepth 20000 in
theorem gX1_measure_X3_freeSides : GoodIn wsX1_measure (wsV RX1 151 RX3 yX3_freeSides wsX3_freeSides) := goodIn_app (goodIn_of _ (by decide +kernel)) ggX1_measure_X3_freeSides
theorem dX1_measure_0 : decode cX1_measure 0 = .ok (.aload_n 0, 1) := by decide +kernel
theorem dX1_measure_1 : decode cX1_measure 1 = .ok (.getfield 12, 3) := by decide +kernel
theorem dX1_measure_4 : decode cX1_measure 4 = .ok (.iload_n 1, 1) := by decide +kernel
theorem dX1_measure_5 : decode cX1_measure 5 = .ok (.invokevirtual 79, 3) := by decide +kernel
theorem dX1_measure_8 : decode cX1_measure 8 = .ok (.istore_n 3, 1) := by decide +kernel
theorem dX1_measure_9 : decode cX1_measure 9 = .ok (.aload_n 0, 1) := by decide +kernel
theorem dX1_measure_10 : decode cX1_measure 10 = .ok (.getfield 12, 3) := by decide +kernel
theorem dX1_measure_13 : decode cX1_measure 13 = .ok (.iload_n 1, 1) := by decide +kernel
theorem dX1_measure_14 : decode cX1_measure 14 = .ok (.invokevirtual 82, 3) := by decide +kernel
theorem dX1_measure_17 : decode cX1_measure 17 = .ok (.istore 4, 2) := by decide +kernel
theorem dX1_measure_19 : decode cX1_measure 19 = .ok (.aload_n 0, 1) := by decide +kernel
theorem dX1_measure_20 : decode cX1_measure 20 = .ok (.getfield 12, 3) := by decide +kernel
theorem dX1_measure_23 : decode cX1_measure 23 = .ok (.iload_n 1, 1) := by decide +kernel
theorem dX1_measure_24 : decode cX1_measure 24 = .ok (.invokevirtual 141, 3) := by decide +kernel
theorem dX1_measure_27 : decode cX1_measure 27 = .ok (.istore 5, 2) := by decide +kernel
theorem dX1_measure_29 : decode cX1_measure 29 = .ok (.aload_n 0, 1) := by decide +kernel
theorem dX1_measure_30 : decode cX1_measure 30 = .ok (.getfield 12, 3) := by decide +kernel
theorem dX1_measure_33 : decode cX1_measure 33 = .ok (.iload_n 1, 1) := by decide +kernel
theorem dX1_measure_34 : decode cX1_measure 34 = .ok (.invokevirtual 71, 3) := by decide +kernel
theorem dX1_measure_37 : decode cX1_measure 37 = .ok (.sipush 255, 3) := by decide +kernel
theorem dX1_measure_40 : decode cX1_measure 40 = .ok (.iand, 1) := by decide +kernel
theorem dX1_measure_41 : decode cX1_measure 41 = .ok (.istore 6, 2) := by decide +kernel
theorem dX1_measure_43 : decode cX1_measure 43 = .ok (.iload 6, 2) := by decide +kernel
theorem dX1_measure_45 : decode cX1_measure 45 = .ok (.iload_n 1, 1) := by decide +kernel
theorem dX1_measure_46 : decode cX1_measure 46 = .ok (.if_icmp .ne 9, 3) := by decide +kernel
theorem dX1_measure_49 : decode cX1_measure 49 = .ok (.aload_n 0, 1) := by decide +kernel
theorem dX1_measure_50 : decode cX1_measure 50 = .ok (.iload 6, 2) := by decide +kernel
theorem dX1_measure_52 : decode cX1_measure 52 = .ok (.invokevirtual 144, 3) := by decide +kernel
theorem dX1_measure_55 : decode cX1_measure 55 = .ok (.aload_n 0, 1) := by decide +kernel
theorem dX1_measure_56 : decode cX1_measure 56 = .ok (.getfield 18, 3) := by decide +kernel
theorem dX1_measure_59 : decode cX1_measure 59 = .ok (.iload 6, 2) := by decide +kernel
theorem dX1_measure_61 : decode cX1_measure 61 = .ok (.dup2, 1) := by decide +kernel
theorem dX1_measure_62 : decode cX1_measure 62 = .ok (.iaload, 1) := by decide +kernel
theorem dX1_measure_63 : decode cX1_measure 63 = .ok (.iload 5, 2) := by decide +kernel
theorem dX1_measure_65 : decode cX1_measure 65 = .ok (.iload 4, 2) := by decide +kernel
theorem dX1_measure_67 : decode cX1_measure 67 = .ok (.isub, 1) := by decide +kernel
theorem dX1_measure_68 : decode cX1_measure 68 = .ok (.iconst 1, 1) := by decide +kernel
theorem dX1_measure_69 : decode cX1_measure 69 = .ok (.iadd, 1) := by decide +kernel
theorem dX1_measure_70 : decode cX1_measure 70 = .ok (.iadd, 1) := by decide +kernel
theorem dX1_measure_71 : decode cX1_measure 71 = .ok (.iastore, 1) := by decide +kernel
theorem dX1_measure_72 : decode cX1_measure 72 = .ok (.aload_n 0, 1) := by decide +kernel
theorem dX1_measure_73 : decode cX1_measure 73 = .ok (.getfield 22, 3) := by decide +kernel
theorem dX1_measure_76 : decode cX1_measure 76 = .ok (.iload 6, 2) := by decide +kernel
theorem dX1_measure_78 : decode cX1_measure 78 = .ok (.dup2, 1) := by decide +kernel
theorem dX1_measure_79 : decode cX1_measure 79 = .ok (.iaload, 1) := by decide +kernel
theorem dX1_measure_80 : decode cX1_measure 80 = .ok (.aload_n 0, 1) := by decide +kernel
theorem dX1_measure_81 : decode cX1_measure 81 = .ok (.getfield 12, 3) := by decide +kernel
theorem dX1_measure_84 : decode cX1_measure 84 = .ok (.iload_n 1, 1) := by decide +kernel
theorem dX1_measure_85 : decode cX1_measure 85 = .ok (.invokevirtual 147, 3) := by decide +kernel
theorem dX1_measure_88 : decode cX1_measure 88 = .ok (.ifCond .eq 19, 3) := by decide +kernel
theorem dX1_measure_91 : decode cX1_measure 91 = .ok (.aload_n 2, 1) := by decide +kernel
theorem dX1_measure_92 : decode cX1_measure 92 = .ok (.iload_n 3, 1) := by decide +kernel
theorem dX1_measure_93 : decode cX1_measure 93 = .ok (.aload_n 0, 1) := by decide +kernel
theorem dX1_measure_94 : decode cX1_measure 94 = .ok (.getfield 12, 3) := by decide +kernel
theorem dX1_measure_97 : decode cX1_measure 97 = .ok (.iload_n 1, 1) := by decide +kernel
theorem dX1_measure_98 : decode cX1_measure 98 = .ok (.invokevirtual 132, 3) := by decide +kernel
theorem dX1_measure_101 : decode cX1_measure 101 = .ok (.invokevirtual 151, 3) := by decide +kernel
theorem dX1_measure_104 : decode cX1_measure 104 = .ok (.goto 4, 3) := by decide +kernel
theorem dX1_measure_107 : decode cX1_measure 107 = .ok (.iconst 0, 1) := by decide +kernel
theorem dX1_measure_108 : decode cX1_measure 108 = .ok (.iadd, 1) := by decide +kernel
theorem dX1_measure_109 : decode cX1_measure 109 = .ok (.iastore, 1) := by decide +kernel
theorem dX1_measure_110 : decode cX1_measure 110 = .ok (.aload_n 0, 1) := by decide +kernel
theorem dX1_measure_111 : decode cX1_measure 111 = .ok (.getfield 25, 3) := by decide +kernel
theorem dX1_measure_114 : decode cX1_measure 114 = .ok (.iload 6, 2) := by decide +kernel
theorem dX1_measure_116 : decode cX1_measure 116 = .ok (.iload_n 3, 1) := by decide +kernel
theorem dX1_measure_117 : decode cX1_measure 117 = .ok (.iastore, 1) := by decide +kernel
theorem dX1_measure_118 : decode cX1_measure 118 = .ok (.aload_n 0, 1) := by decide +kernel
theorem dX1_measure_119 : decode cX1_measure 119 = .ok (.getfield 28, 3) := by decide +kernel
theorem dX1_measure_122 : decode cX1_measure 122 = .ok (.iload 6, 2) := by decide +kernel
theorem dX1_measure_124 : decode cX1_measure 124 = .ok (.aload_n 0, 1) := by decide +kernel
theorem dX1_measure_125 : decode cX1_measure 125 = .ok (.getfield 28, 3) := by decide +kernel
theorem dX1_measure_128 : decode cX1_measure 128 = .ok (.iload 6, 2) := by decide +kernel
theorem dX1_measure_130 : decode cX1_measure 130 = .ok (.iaload, 1) := by decide +kernel
theorem dX1_measure_131 : decode cX1_measure 131 = .ok (.iload 4, 2) := by decide +kernel
theorem dX1_measure_133 : decode cX1_measure 133 = .ok (.invokestatic 154, 3) := by decide +kernel
theorem dX1_measure_136 : decode cX1_measure 136 = .ok (.iastore, 1) := by decide +kernel
theorem dX1_measure_137 : decode cX1_measure 137 = .ok (.aload_n 0, 1) := by decide +kernel
theorem dX1_measure_138 : decode cX1_measure 138 = .ok (.getfield 31, 3) := by decide +kernel
theorem dX1_measure_141 : decode cX1_measure 141 = .ok (.iload 6, 2) := by decide +kernel
theorem dX1_measure_143 : decode cX1_measure 143 = .ok (.aload_n 0, 1) := by decide +kernel
theorem dX1_measure_144 : decode cX1_measure 144 = .ok (.getfield 31, 3) := by decide +kernel
theorem dX1_measure_147 : decode cX1_measure 147 = .ok (.iload 6, 2) := by decide +kernel
theorem dX1_measure_149 : decode cX1_measure 149 = .ok (.iaload, 1) := by decide +kernel
theorem dX1_measure_150 : decode cX1_measure 150 = .ok (.iload 5, 2) := by decide +kernel
theorem dX1_measure_152 : decode cX1_measure 152 = .ok (.invokestatic 114, 3) := by decide +kernel
theorem dX1_measure_155 : decode cX1_measure 155 = .ok (.iastore, 1) := by decide +kernel
theorem dX1_measure_156 : decode cX1_measure 156 = .ok (.aload_n 0, 1) := by decide +kernel
theorem dX1_measure_157 : decode cX1_measure 157 = .ok (.getfield 34, 3) := by decide +kernel
theorem dX1_measure_160 : decode cX1_measure 160 = .ok (.iload 6, 2) := by decide +kernel
theorem dX1_measure_162 : decode cX1_measure 162 = .ok (.aload_n 0, 1) := by decide +kernel
theorem dX1_measure_163 : decode cX1_measure 163 = .ok (.getfield 34, 3) := by decide +kernel
theorem dX1_measure_166 : decode cX1_measure 166 = .ok (.iload 6, 2) := by decide +kernel
theorem dX1_measure_168 : decode cX1_measure 168 = .ok (.baload, 1) := by decide +kernel
theorem dX1_measure_169 : decode cX1_measure 169 = .ok (.ifCond .ne 25, 3) := by decide +kernel
theorem dX1_measure_172 : decode cX1_measure 172 = .ok (.iload_n 3, 1) := by decide +kernel
theorem dX1_measure_173 : decode cX1_measure 173 = .ok (.ifCond .eq 21, 3) := by decide +kernel
theorem dX1_measure_176 : decode cX1_measure 176 = .ok (.iload_n 3, 1) := by decide +kernel
theorem dX1_measure_177 : decode cX1_measure 177 = .ok (.bipush 15, 2) := by decide +kernel
theorem dX1_measure_179 : decode cX1_measure 179 = .ok (.if_icmp .eq 15, 3) := by decide +kernel
theorem dX1_measure_182 : decode cX1_measure 182 = .ok (.iload 4, 2) := by decide +kernel
theorem dX1_measure_184 : decode cX1_measure 184 = .ok (.ifCond .eq 10, 3) := by decide +kernel
theorem dX1_measure_187 : decode cX1_measure 187 = .ok (.iload 5, 2) := by decide +kernel
theorem dX1_measure_189 : decode cX1_measure 189 = .ok (.bipush 15, 2) := by decide +kernel
theorem dX1_measure_191 : decode cX1_measure 191 = .ok (.if_icmp .ne 7, 3) := by decide +kernel
theorem dX1_measure_194 : decode cX1_measure 194 = .ok (.iconst 1, 1) := by decide +kernel
theorem dX1_measure_195 : decode cX1_measure 195 = .ok (.goto 4, 3) := by decide +kernel
theorem dX1_measure_198 : decode cX1_measure 198 = .ok (.iconst 0, 1) := by decide +kernel
theorem dX1_measure_199 : decode cX1_measure 199 = .ok (.bastore, 1) := by decide +kernel
theorem dX1_measure_200 : decode cX1_measure 200 = .ok (.return_, 1) := by decide +kernel
theorem dX1_clear_0 : decode cX1_clear 0 = .ok (.iload_n 1, 1) := by decide +kernel
theorem dX1_clear_1 : decode cX1_clear 1 = .ok (.sipush 255, 3) := by decide +kernel
theorem dX1_clear_4 : decode cX1_clear 4 = .ok (.iand, 1) := by decide +kernel
theorem dX1_clear_5 : decode cX1_clear 5 = .ok (.istore_n 2, 1) := by decide +kernel
theorem dX1_clear_6 : decode cX1_clear 6 = .ok (.aload_n 0, 1) := by decide +kernel
theorem dX1_clear_7 : decode cX1_clear 7 = .ok (.getfield 18, 3) := by decide +kernel
theorem dX1_clear_10 : decode cX1_clear 10 = .ok (.iload_n 2, 1) := by decide +kernel
theorem dX1_clear_11 : decode cX1_clear 11 = .ok (.iconst 0, 1) := by decide +kernel
theorem dX1_clear_12 : decode cX1_clear 12 = .ok (.iastore, 1) := by decide +kernel
theorem dX1_clear_13 : decode cX1_clear 13 = .ok (.aload_n 0, 1) := by decide +kernel
theorem dX1_clear_14 : decode cX1_clear 14 = .ok (.getfield 22, 3) := by decide +kernel
theorem dX1_clear_17 : decode cX1_clear 17 = .ok (.iload_n 2, 1) := by decide +kernel
theorem dX1_clear_18 : decode cX1_clear 18 = .ok (.iconst 0, 1) := by decide +kernel
theorem dX1_clear_19 : decode cX1_clear 19 = .ok (.iastore, 1) := by decide +kernel
theorem dX1_clear_20 : decode cX1_clear 20 = .ok (.aload_n 0, 1) := by decide +kernel
theorem dX1_clear_21 : decode cX1_clear 21 = .ok (.getfield 28, 3) := by decide +kernel
theorem dX1_clear_24 : decode cX1_clear 24 = .ok (.iload_n 2, 1) := by decide +kernel
theorem dX1_clear_25 : decode cX1_clear 25 = .ok (.bipush 15, 2) := by decide +kernel
theorem dX1_clear_27 : decode cX1_clear 27 = .ok (.iastore, 1) := by decide +kernel
theorem dX1_clear_28 : decode cX1_clear 28 = .ok (.aload_n 0, 1) := by decide +kernel
theorem dX1_clear_29 : decode cX1_clear 29 = .ok (.getfield 31, 3) := by decide +kernel
theorem dX1_clear_32 : decode cX1_clear 32 = .ok (.iload_n 2, 1) := by decide +kernel
theorem dX1_clear_33 : decode cX1_clear 33 = .ok (.iconst 0, 1) := by decide +kernel
theorem dX1_clear_34 : decode cX1_clear 34 = .ok (.iastore, 1) := by decide +kernel
theorem dX1_clear_35 : decode cX1_clear 35 = .ok (.aload_n 0, 1) := by decide +kernel
theorem dX1_clear_36 : decode cX1_clear 36 = .ok (.getfield 34, 3) := by decide +kernel
theorem dX1_clear_39 : decode cX1_clear 39 = .ok (.iload_n 2, 1) := by decide +kernel
theorem dX1_clear_40 : decode cX1_clear 40 = .ok (.iconst 0, 1) := by decide +kernel
theorem dX1_clear_41 : decode cX1_clear 41 = .ok (.bastore, 1) := by decide +kernel
theorem dX1_clear_42 : decode cX1_clear 42 = .ok (.return_, 1) := by decide +kernel
set_option maxRecDepth 20000 in
theorem ggX1_giveNumber_X4_isDark : GoodIn wsX1_giveNumber wsX4_isDark := goodIn_r _ [13, 14, 29, 30, 31, 32, 33, 34, 35, 36] (by decide +kernel) (by decide +kernel)
set_option maxRecDepth 20000 in
theorem gX1_giveNumber_X4_isDark : GoodIn wsX1_giveNumber (wsV RX1 147 RX4 yX4_isDark wsX4_isDark) := goodIn_app (goodIn_of _ (by decide +kernel)) ggX1_giveNumber_X4_isDark
theorem dX1_giveNumber_0 : decode cX1_giveNumber 0 = .ok (.iload_n 1, 1) := by decide +kernel
theorem dX1_giveNumber_1 : decode cX1_giveNumber 1 = .ok (.sipush 255, 3) := by decide +kernel
theorem dX1_giveNumber_4 : decode cX1_giveNumber 4 = .ok (.iand, 1) := by decide +kernel
theorem dX1_giveNumber_5 : decode cX1_giveNumber 5 = .ok (.istore_n 2, 1) := by decide +kernel
theorem dX1_giveNumber_6 : decode cX1_giveNumber 6 = .ok (.aload_n 0, 1) := by decide +kernel
theorem dX1_giveNumber_7 : decode cX1_giveNumber 7 = .ok (.getfield 38, 3) := by decide +kernel
theorem dX1_giveNumber_10 : decode cX1_giveNumber 10 = .ok (.iload_n 2, 1) := by decide +kernel
theorem dX1_giveNumber_11 : decode cX1_giveNumber 11 = .ok (.iconst (-1), 1) := by decide +kernel
theorem dX1_giveNumber_12 : decode cX1_giveNumber 12 = .ok (.iastore, 1) := by decide +kernel
theorem dX1_giveNumber_13 : decode cX1_giveNumber 13 = .ok (.aload_n 0, 1) := by decide +kernel
theorem dX1_giveNumber_14 : decode cX1_giveNumber 14 = .ok (.getfield 12, 3) := by decide +kernel
theorem dX1_giveNumber_17 : decode cX1_giveNumber 17 = .ok (.iload_n 2, 1) := by decide +kernel
theorem dX1_giveNumber_18 : decode cX1_giveNumber 18 = .ok (.invokevirtual 147, 3) := by decide +kernel
theorem dX1_giveNumber_21 : decode cX1_giveNumber 21 = .ok (.ifCond .eq 38, 3) := by decide +kernel
theorem dX1_giveNumber_24 : decode cX1_giveNumber 24 = .ok (.aload_n 0, 1) := by decide +kernel
theorem dX1_giveNumber_25 : decode cX1_giveNumber 25 = .ok (.getfield 38, 3) := by decide +kernel
theorem dX1_giveNumber_28 : decode cX1_giveNumber 28 = .ok (.iload_n 2, 1) := by decide +kernel
theorem dX1_giveNumber_29 : decode cX1_giveNumber 29 = .ok (.aload_n 0, 1) := by decide +kernel
theorem dX1_giveNumber_30 : decode cX1_giveNumber 30 = .ok (.getfield 50, 3) := by decide +kernel
theorem dX1_giveNumber_33 : decode cX1_giveNumber 33 = .ok (.iastore, 1) := by decide +kernel
theorem dX1_giveNumber_34 : decode cX1_giveNumber 34 = .ok (.aload_n 0, 1) := by decide +kernel
theorem dX1_giveNumber_35 : decode cX1_giveNumber 35 = .ok (.getfield 41, 3) := by decide +kernel
theorem dX1_giveNumber_38 : decode cX1_giveNumber 38 = .ok (.aload_n 0, 1) := by decide +kernel
theorem dX1_giveNumber_39 : decode cX1_giveNumber 39 = .ok (.getfield 50, 3) := by decide +kernel
theorem dX1_giveNumber_42 : decode cX1_giveNumber 42 = .ok (.sipush 255, 3) := by decide +kernel
theorem dX1_giveNumber_45 : decode cX1_giveNumber 45 = .ok (.iand, 1) := by decide +kernel
theorem dX1_giveNumber_46 : decode cX1_giveNumber 46 = .ok (.iload_n 2, 1) := by decide +kernel
theorem dX1_giveNumber_47 : decode cX1_giveNumber 47 = .ok (.iastore, 1) := by decide +kernel
theorem dX1_giveNumber_48 : decode cX1_giveNumber 48 = .ok (.aload_n 0, 1) := by decide +kernel
theorem dX1_giveNumber_49 : decode cX1_giveNumber 49 = .ok (.dup, 1) := by decide +kernel
theorem dX1_giveNumber_50 : decode cX1_giveNumber 50 = .ok (.getfield 50, 3) := by decide +kernel
theorem dX1_giveNumber_53 : decode cX1_giveNumber 53 = .ok (.iconst 1, 1) := by decide +kernel
theorem dX1_giveNumber_54 : decode cX1_giveNumber 54 = .ok (.iadd, 1) := by decide +kernel
theorem dX1_giveNumber_55 : decode cX1_giveNumber 55 = .ok (.putfield 50, 3) := by decide +kernel
theorem dX1_giveNumber_58 : decode cX1_giveNumber 58 = .ok (.return_, 1) := by decide +kernel
theorem dX1_giveNumber_59 : decode cX1_giveNumber 59 = .ok (.aload_n 0, 1) := by decide +kernel
theorem dX1_giveNumber_60 : decode cX1_giveNumber 60 = .ok (.dup, 1) := by decide +kernel
theorem dX1_giveNumber_61 : decode cX1_giveNumber 61 = .ok (.getfield 57, 3) := by decide +kernel
theorem dX1_giveNumber_64 : decode cX1_giveNumber 64 = .ok (.iconst 1, 1) := by decide +kernel
theorem dX1_giveNumber_65 : decode cX1_giveNumber 65 = .ok (.iadd, 1) := by decide +kernel
theorem dX1_giveNumber_66 : decode cX1_giveNumber 66 = .ok (.putfield 57, 3) := by decide +kernel
theorem dX1_giveNumber_69 : decode cX1_giveNumber 69 = .ok (.aload_n 0, 1) := by decide +kernel
theorem dX1_giveNumber_70 : decode cX1_giveNumber 70 = .ok (.getfield 34, 3) := by decide +kernel
theorem dX1_giveNumber_73 : decode cX1_giveNumber 73 = .ok (.iload_n 2, 1) := by decide +kernel
theorem dX1_giveNumber_74 : decode cX1_giveNumber 74 = .ok (.baload, 1) := by decide +kernel
theorem dX1_giveNumber_75 : decode cX1_giveNumber 75 = .ok (.ifCond .ne 37, 3) := by decide +kernel
theorem dX1_giveNumber_78 : decode cX1_giveNumber 78 = .ok (.aload_n 0, 1) := by decide +kernel
theorem dX1_giveNumber_79 : decode cX1_giveNumber 79 = .ok (.getfield 38, 3) := by decide +kernel
theorem dX1_giveNumber_82 : decode cX1_giveNumber 82 = .ok (.iload_n 2, 1) := by decide +kernel
theorem dX1_giveNumber_83 : decode cX1_giveNumber 83 = .ok (.aload_n 0, 1) := by decide +kernel
theorem dX1_giveNumber_84 : decode cX1_giveNumber 84 = .ok (.getfield 54, 3) := by decide +kernel
theorem dX1_giveNumber_87 : decode cX1_giveNumber 87 = .ok (.iastore, 1) := by decide +kernel
theorem dX1_giveNumber_88 : decode cX1_giveNumber 88 = .ok (.aload_n 0, 1) := by decide +kernel
theorem dX1_giveNumber_89 : decode cX1_giveNumber 89 = .ok (.getfield 44, 3) := by decide +kernel
theorem dX1_giveNumber_92 : decode cX1_giveNumber 92 = .ok (.aload_n 0, 1) := by decide +kernel
theorem dX1_giveNumber_93 : decode cX1_giveNumber 93 = .ok (.getfield 54, 3) := by decide +kernel
theorem dX1_giveNumber_96 : decode cX1_giveNumber 96 = .ok (.sipush 255, 3) := by decide +kernel
theorem dX1_giveNumber_99 : decode cX1_giveNumber 99 = .ok (.iand, 1) := by decide +kernel
theorem dX1_giveNumber_100 : decode cX1_giveNumber 100 = .ok (.iload_n 2, 1) := by decide +kernel
theorem dX1_giveNumber_101 : decode cX1_giveNumber 101 = .ok (.iastore, 1) := by decide +kernel
theorem dX1_giveNumber_102 : decode cX1_giveNumber 102 = .ok (.aload_n 0, 1) := by decide +kernel
theorem dX1_giveNumber_103 : decode cX1_giveNumber 103 = .ok (.dup, 1) := by decide +kernel
theorem dX1_giveNumber_104 : decode cX1_giveNumber 104 = .ok (.getfield 54, 3) := by decide +kernel
theorem dX1_giveNumber_107 : decode cX1_giveNumber 107 = .ok (.iconst 1, 1) := by decide +kernel
theorem dX1_giveNumber_108 : decode cX1_giveNumber 108 = .ok (.iadd, 1) := by decide +kernel
theorem dX1_giveNumber_109 : decode cX1_giveNumber 109 = .ok (.putfield 54, 3) := by decide +kernel
theorem dX1_giveNumber_112 : decode cX1_giveNumber 112 = .ok (.return_, 1) := by decide +kernel
set_option maxRecDepth 20000 in
theorem ggX1_numberAt_X5_isLine : GoodIn wsX1_numberAt wsX5_isLine := goodIn_r _ [5] (by decide +kernel) (by decide +kernel)
set_option maxRecDepth 20000 in
theorem gX1_numberAt_X5_isLine_n157 : GoodIn wsX1_numberAt (wsX5_isLine) := ggX1_numberAt_X5_isLine
set_option maxRecDepth 20000 in
theorem ggX1_numberAt_X4_runAt : GoodIn wsX1_numberAt wsX4_runAt := goodIn_r _ [10, 11, 12, 13, 14, 15, 16, 17, 18, 19, 44, 45, 46, 47, 48, 49, 50, 51] (by decide +kernel) (by decide +kernel)
set_option maxRecDepth 20000 in
theorem gX1_numberAt_X4_runAt : GoodIn wsX1_numberAt (wsV RX1 160 RX4 yX4_runAt wsX4_runAt) := goodIn_app (goodIn_of _ (by decide +kernel)) ggX1_numberAt_X4_runAt
set_option maxRecDepth 20000 in
theorem ggX1_numberAt_X4_isDark : GoodIn wsX1_numberAt wsX4_isDark := goodIn_r _ [23, 24, 44, 45, 46, 47, 48, 49, 50, 51] (by decide +kernel) (by decide +kernel)
set_option maxRecDepth 20000 in
theorem gX1_numberAt_X4_isDark : GoodIn wsX1_numberAt (wsV RX1 147 RX4 yX4_isDark wsX4_isDark) := goodIn_app (goodIn_of _ (by decide +kernel)) ggX1_numberAt_X4_isDark
set_option maxRecDepth 20000 in
theorem ggX1_numberAt_X4_groupOf : GoodIn wsX1_numberAt wsX4_groupOf := goodIn_r _ [28, 29, 44, 45, 46, 47, 48, 49, 50, 51] (by decide +kernel) (by decide +kernel)
set_option maxRecDepth 20000 in
theorem gX1_numberAt_X4_groupOf : GoodIn wsX1_numberAt (wsV RX1 71 RX4 yX4_groupOf wsX4_groupOf) := goodIn_app (goodIn_of _ (by decide +kernel)) ggX1_numberAt_X4_groupOf
theorem dX1_numberAt_0 : decode cX1_numberAt 0 = .ok (.iload_n 1, 1) := by decide +kernel
theorem dX1_numberAt_1 : decode cX1_numberAt 1 = .ok (.invokestatic 157, 3) := by decide +kernel
theorem dX1_numberAt_4 : decode cX1_numberAt 4 = .ok (.ifCond .eq 10, 3) := by decide +kernel
theorem dX1_numberAt_7 : decode cX1_numberAt 7 = .ok (.iload_n 2, 1) := by decide +kernel
theorem dX1_numberAt_8 : decode cX1_numberAt 8 = .ok (.invokestatic 157, 3) := by decide +kernel
theorem dX1_numberAt_11 : decode cX1_numberAt 11 = .ok (.ifCond .ne 5, 3) := by decide +kernel
theorem dX1_numberAt_14 : decode cX1_numberAt 14 = .ok (.iconst (-1), 1) := by decide +kernel
theorem dX1_numberAt_15 : decode cX1_numberAt 15 = .ok (.ireturn, 1) := by decide +kernel
theorem dX1_numberAt_16 : decode cX1_numberAt 16 = .ok (.aload_n 0, 1) := by decide +kernel
theorem dX1_numberAt_17 : decode cX1_numberAt 17 = .ok (.getfield 12, 3) := by decide +kernel
theorem dX1_numberAt_20 : decode cX1_numberAt 20 = .ok (.iload_n 1, 1) := by decide +kernel
theorem dX1_numberAt_21 : decode cX1_numberAt 21 = .ok (.iload_n 2, 1) := by decide +kernel
theorem dX1_numberAt_22 : decode cX1_numberAt 22 = .ok (.invokevirtual 160, 3) := by decide +kernel
theorem dX1_numberAt_25 : decode cX1_numberAt 25 = .ok (.istore 4, 2) := by decide +kernel
theorem dX1_numberAt_27 : decode cX1_numberAt 27 = .ok (.aload_n 0, 1) := by decide +kernel
theorem dX1_numberAt_28 : decode cX1_numberAt 28 = .ok (.getfield 12, 3) := by decide +kernel
theorem dX1_numberAt_31 : decode cX1_numberAt 31 = .ok (.iload 4, 2) := by decide +kernel
theorem dX1_numberAt_33 : decode cX1_numberAt 33 = .ok (.invokevirtual 147, 3) := by decide +kernel
theorem dX1_numberAt_36 : decode cX1_numberAt 36 = .ok (.iload_n 3, 1) := by decide +kernel
theorem dX1_numberAt_37 : decode cX1_numberAt 37 = .ok (.if_icmp .ne 24, 3) := by decide +kernel
theorem dX1_numberAt_40 : decode cX1_numberAt 40 = .ok (.aload_n 0, 1) := by decide +kernel
theorem dX1_numberAt_41 : decode cX1_numberAt 41 = .ok (.getfield 38, 3) := by decide +kernel
theorem dX1_numberAt_44 : decode cX1_numberAt 44 = .ok (.aload_n 0, 1) := by decide +kernel
theorem dX1_numberAt_45 : decode cX1_numberAt 45 = .ok (.getfield 12, 3) := by decide +kernel
theorem dX1_numberAt_48 : decode cX1_numberAt 48 = .ok (.iload 4, 2) := by decide +kernel
theorem dX1_numberAt_50 : decode cX1_numberAt 50 = .ok (.invokevirtual 71, 3) := by decide +kernel
theorem dX1_numberAt_53 : decode cX1_numberAt 53 = .ok (.sipush 255, 3) := by decide +kernel
theorem dX1_numberAt_56 : decode cX1_numberAt 56 = .ok (.iand, 1) := by decide +kernel
theorem dX1_numberAt_57 : decode cX1_numberAt 57 = .ok (.iaload, 1) := by decide +kernel
theorem dX1_numberAt_58 : decode cX1_numberAt 58 = .ok (.goto 4, 3) := by decide +kernel
theorem dX1_numberAt_61 : decode cX1_numberAt 61 = .ok (.iconst (-1), 1) := by decide +kernel
theorem dX1_numberAt_62 : decode cX1_numberAt 62 = .ok (.ireturn, 1) := by decide +kernel
theorem dX1_isTouched_0 : decode cX1_isTouched 0 = .ok (.iconst 0, 1) := by decide +kernel
theorem dX1_isTouched_1 : decode cX1_isTouched 1 = .ok (.istore_n 3, 1) := by decide +kernel
theorem dX1_isTouched_2 : decode cX1_isTouched 2 = .ok (.iload_n 3, 1) := by decide +kernel
theorem dX1_isTouched_3 : decode cX1_isTouched 3 = .ok (.iload_n 2, 1) := by decide +kernel
theorem dX1_isTouched_4 : decode cX1_isTouched 4 = .ok (.if_icmp .ge 30, 3) := by decide +kernel
theorem dX1_isTouched_7 : decode cX1_isTouched 7 = .ok (.iload_n 3, 1) := by decide +kernel
theorem dX1_isTouched_8 : decode cX1_isTouched 8 = .ok (.aload_n 0, 1) := by decide +kernel
theorem dX1_isTouched_9 : decode cX1_isTouched 9 = .ok (.getfield 47, 3) := by decide +kernel
theorem dX1_isTouched_12 : decode cX1_isTouched 12 = .ok (.arraylength, 1) := by decide +kernel
theorem dX1_isTouched_13 : decode cX1_isTouched 13 = .ok (.if_icmp .ge 21, 3) := by decide +kernel
theorem dX1_isTouched_16 : decode cX1_isTouched 16 = .ok (.aload_n 0, 1) := by decide +kernel
theorem dX1_isTouched_17 : decode cX1_isTouched 17 = .ok (.getfield 47, 3) := by decide +kernel
theorem dX1_isTouched_20 : decode cX1_isTouched 20 = .ok (.iload_n 3, 1) := by decide +kernel
theorem dX1_isTouched_21 : decode cX1_isTouched 21 = .ok (.iaload, 1) := by decide +kernel
theorem dX1_isTouched_22 : decode cX1_isTouched 22 = .ok (.iload_n 1, 1) := by decide +kernel
theorem dX1_isTouched_23 : decode cX1_isTouched 23 = .ok (.if_icmp .ne 5, 3) := by decide +kernel
theorem dX1_isTouched_26 : decode cX1_isTouched 26 = .ok (.iconst 1, 1) := by decide +kernel
theorem dX1_isTouched_27 : decode cX1_isTouched 27 = .ok (.ireturn, 1) := by decide +kernel
theorem dX1_isTouched_28 : decode cX1_isTouched 28 = .ok (.iinc 3 1, 3) := by decide +kernel
theorem dX1_isTouched_31 : decode cX1_isTouched 31 = .ok (.goto (-29), 3) := by decide +kernel
theorem dX1_isTouched_34 : decode cX1_isTouched 34 = .ok (.iconst 0, 1) := by decide +kernel
theorem dX1_isTouched_35 : decode cX1_isTouched 35 = .ok (.ireturn, 1) := by decide +kernel
set_option maxRecDepth 20000 in
theorem ggX1_nextOfGroup_X4_groupOf : GoodIn wsX1_nextOfGroup wsX4_groupOf := goodIn_r _ [6, 7, 22, 23, 24, 25, 26, 27, 28, 29] (by decide +kernel) (by decide +kernel)
set_option maxRecDepth 20000 in
theorem gX1_nextOfGroup_X4_groupOf : GoodIn wsX1_nextOfGroup (wsV RX1 71 RX4 yX4_groupOf wsX4_groupOf) := goodIn_app (goodIn_of _ (by decide +kernel)) ggX1_nextOfGroup_X4_groupOf
theorem dX1_nextOfGroup_0 : decode cX1_nextOfGroup 0 = .ok (.iload_n 1, 1) := by decide +kernel
theorem dX1_nextOfGroup_1 : decode cX1_nextOfGroup 1 = .ok (.iconst 1, 1) := by decide +kernel
theorem dX1_nextOfGroup_2 : decode cX1_nextOfGroup 2 = .ok (.iadd, 1) := by decide +kernel
theorem dX1_nextOfGroup_3 : decode cX1_nextOfGroup 3 = .ok (.istore_n 3, 1) := by decide +kernel
theorem dX1_nextOfGroup_4 : decode cX1_nextOfGroup 4 = .ok (.iload_n 3, 1) := by decide +kernel
theorem dX1_nextOfGroup_5 : decode cX1_nextOfGroup 5 = .ok (.aload_n 0, 1) := by decide +kernel
theorem dX1_nextOfGroup_6 : decode cX1_nextOfGroup 6 = .ok (.getfield 12, 3) := by decide +kernel
theorem dX1_nextOfGroup_9 : decode cX1_nextOfGroup 9 = .ok (.getfield 64, 3) := by decide +kernel
theorem dX1_nextOfGroup_12 : decode cX1_nextOfGroup 12 = .ok (.if_icmp .ge 21, 3) := by decide +kernel
theorem dX1_nextOfGroup_15 : decode cX1_nextOfGroup 15 = .ok (.aload_n 0, 1) := by decide +kernel
theorem dX1_nextOfGroup_16 : decode cX1_nextOfGroup 16 = .ok (.getfield 12, 3) := by decide +kernel
theorem dX1_nextOfGroup_19 : decode cX1_nextOfGroup 19 = .ok (.iload_n 3, 1) := by decide +kernel
theorem dX1_nextOfGroup_20 : decode cX1_nextOfGroup 20 = .ok (.invokevirtual 71, 3) := by decide +kernel
theorem dX1_nextOfGroup_23 : decode cX1_nextOfGroup 23 = .ok (.iload_n 2, 1) := by decide +kernel
theorem dX1_nextOfGroup_24 : decode cX1_nextOfGroup 24 = .ok (.if_icmp .eq 9, 3) := by decide +kernel
theorem dX1_nextOfGroup_27 : decode cX1_nextOfGroup 27 = .ok (.iinc 3 1, 3) := by decide +kernel
theorem dX1_nextOfGroup_30 : decode cX1_nextOfGroup 30 = .ok (.goto (-26), 3) := by decide +kernel
theorem dX1_nextOfGroup_33 : decode cX1_nextOfGroup 33 = .ok (.iload_n 3, 1) := by decide +kernel
theorem dX1_nextOfGroup_34 : decode cX1_nextOfGroup 34 = .ok (.ireturn, 1) := by decide +kernel
theorem dX2_init_0 : decode cX2_init 0 = .ok (.aload_n 0, 1) := by decide +kernel
theorem dX2_init_1 : decode cX2_init 1 = .ok (.invokespecial 3, 3) := by decide +kernel
theorem dX2_init_4 : decode cX2_init 4 = .ok (.aload_n 0, 1) := by decide +kernel
theorem dX2_init_5 : decode cX2_init 5 = .ok (.sipush 510, 3) := by decide +kernel
theorem dX2_init_8 : decode cX2_init 8 = .ok (.newarray .int, 2) := by decide +kernel
theorem dX2_init_10 : decode cX2_init 10 = .ok (.putfield 9, 3) := by decide +kernel
theorem dX2_init_13 : decode cX2_init 13 = .ok (.aload_n 0, 1) := by decide +kernel
theorem dX2_init_14 : decode cX2_init 14 = .ok (.iconst 0, 1) := by decide +kernel
theorem dX2_init_15 : decode cX2_init 15 = .ok (.putfield 15, 3) := by decide +kernel
theorem dX2_init_18 : decode cX2_init 18 = .ok (.aload_n 0, 1) := by decide +kernel
theorem dX2_init_19 : decode cX2_init 19 = .ok (.iconst 0, 1) := by decide +kernel
theorem dX2_init_20 : decode cX2_init 20 = .ok (.putfield 19, 3) := by decide +kernel
theorem dX2_init_23 : decode cX2_init 23 = .ok (.return_, 1) := by decide +kernel
set_option maxRecDepth 20000 in
theorem ggX2_push_X3_layBy : GoodIn wsX2_push wsX3_layBy := goodIn_r _ [12, 13, 14, 15, 16, 17, 18, 22, 23, 24] (by decide +kernel) (by decide +kernel)
set_option maxRecDepth 20000 in
theorem gX2_push_X3_layBy : GoodIn wsX2_push (wsV RX2 22 RX3 yX3_layBy wsX3_layBy) := goodIn_app (goodIn_of _ (by decide +kernel)) ggX2_push_X3_layBy
theorem dX2_push_0 : decode cX2_push 0 = .ok (.aload_n 1, 1) := by decide +kernel
theorem dX2_push_1 : decode cX2_push 1 = .ok (.aload_n 0, 1) := by decide +kernel
theorem dX2_push_2 : decode cX2_push 2 = .ok (.getfield 9, 3) := by decide +kernel
theorem dX2_push_5 : decode cX2_push 5 = .ok (.aload_n 0, 1) := by decide +kernel
theorem dX2_push_6 : decode cX2_push 6 = .ok (.getfield 15, 3) := by decide +kernel
theorem dX2_push_9 : decode cX2_push 9 = .ok (.bipush 17, 2) := by decide +kernel
theorem dX2_push_11 : decode cX2_push 11 = .ok (.imul, 1) := by decide +kernel
theorem dX2_push_12 : decode cX2_push 12 = .ok (.invokevirtual 22, 3) := by decide +kernel
theorem dX2_push_15 : decode cX2_push 15 = .ok (.aload_n 0, 1) := by decide +kernel
theorem dX2_push_16 : decode cX2_push 16 = .ok (.aload_n 0, 1) := by decide +kernel
theorem dX2_push_17 : decode cX2_push 17 = .ok (.getfield 15, 3) := by decide +kernel
theorem dX2_push_20 : decode cX2_push 20 = .ok (.iconst 1, 1) := by decide +kernel
theorem dX2_push_21 : decode cX2_push 21 = .ok (.iadd, 1) := by decide +kernel
theorem dX2_push_22 : decode cX2_push 22 = .ok (.bipush 30, 2) := by decide +kernel
theorem dX2_push_24 : decode cX2_push 24 = .ok (.irem, 1) := by decide +kernel
theorem dX2_push_25 : decode cX2_push 25 = .ok (.putfield 15, 3) := by decide +kernel
theorem dX2_push_28 : decode cX2_push 28 = .ok (.aload_n 0, 1) := by decide +kernel
theorem dX2_push_29 : decode cX2_push 29 = .ok (.aload_n 0, 1) := by decide +kernel
theorem dX2_push_30 : decode cX2_push 30 = .ok (.getfield 19, 3) := by decide +kernel
theorem dX2_push_33 : decode cX2_push 33 = .ok (.iconst 1, 1) := by decide +kernel
theorem dX2_push_34 : decode cX2_push 34 = .ok (.iadd, 1) := by decide +kernel
theorem dX2_push_35 : decode cX2_push 35 = .ok (.bipush 30, 2) := by decide +kernel
theorem dX2_push_37 : decode cX2_push 37 = .ok (.invokestatic 28, 3) := by decide +kernel
theorem dX2_push_40 : decode cX2_push 40 = .ok (.putfield 19, 3) := by decide +kernel
theorem dX2_push_43 : decode cX2_push 43 = .ok (.return_, 1) := by decide +kernel
set_option maxRecDepth 20000 in
theorem ggX2_goBackBy_J9_floorMod_7cf53 : GoodIn wsX2_goBackBy wsJ9_floorMod_7cf53 := goodIn_r _ [7] (by decide +kernel) (by decide +kernel)
set_option maxRecDepth 20000 in
theorem gX2_goBackBy_J9_floorMod_7cf53 : GoodIn wsX2_goBackBy (va_wsS RX2 34 yJ9_floorMod_7cf53 wsJ9_floorMod_7cf53) := goodIn_app (goodIn_of _ (by decide +kernel)) ggX2_goBackBy_J9_floorMod_7cf53
set_option maxRecDepth 20000 in
theorem ggX2_goBackBy_X3_takeUp : GoodIn wsX2_goBackBy wsX3_takeUp := goodIn_r _ [12, 13, 14, 15, 16, 17, 18, 22, 23, 24] (by decide +kernel) (by decide +kernel)
set_option maxRecDepth 20000 in
theorem gX2_goBackBy_X3_takeUp : GoodIn wsX2_goBackBy (wsV RX2 37 RX3 yX3_takeUp wsX3_takeUp) := goodIn_app (goodIn_of _ (by decide +kernel)) ggX2_goBackBy_X3_takeUp
theorem dX2_goBackBy_0 : decode cX2_goBackBy 0 = .ok (.aload_n 0, 1) := by decide +kernel
theorem dX2_goBackBy_1 : decode cX2_goBackBy 1 = .ok (.aload_n 0, 1) := by decide +kernel
theorem dX2_goBackBy_2 : decode cX2_goBackBy 2 = .ok (.getfield 15, 3) := by decide +kernel
theorem dX2_goBackBy_5 : decode cX2_goBackBy 5 = .ok (.iload_n 1, 1) := by decide +kernel
theorem dX2_goBackBy_6 : decode cX2_goBackBy 6 = .ok (.isub, 1) := by decide +kernel
theorem dX2_goBackBy_7 : decode cX2_goBackBy 7 = .ok (.bipush 30, 2) := by decide +kernel
theorem dX2_goBackBy_9 : decode cX2_goBackBy 9 = .ok (.invokestatic 34, 3) := by decide +kernel
theorem dX2_goBackBy_12 : decode cX2_goBackBy 12 = .ok (.putfield 15, 3) := by decide +kernel
theorem dX2_goBackBy_15 : decode cX2_goBackBy 15 = .ok (.aload_n 0, 1) := by decide +kernel
theorem dX2_goBackBy_16 : decode cX2_goBackBy 16 = .ok (.dup, 1) := by decide +kernel
theorem dX2_goBackBy_17 : decode cX2_goBackBy 17 = .ok (.getfield 19, 3) := by decide +kernel
theorem dX2_goBackBy_20 : decode cX2_goBackBy 20 = .ok (.iload_n 1, 1) := by decide +kernel
theorem dX2_goBackBy_21 : decode cX2_goBackBy 21 = .ok (.isub, 1) := by decide +kernel
theorem dX2_goBackBy_22 : decode cX2_goBackBy 22 = .ok (.putfield 19, 3) := by decide +kernel
theorem dX2_goBackBy_25 : decode cX2_goBackBy 25 = .ok (.aload_n 2, 1) := by decide +kernel
theorem dX2_goBackBy_26 : decode cX2_goBackBy 26 = .ok (.aload_n 0, 1) := by decide +kernel
theorem dX2_goBackBy_27 : decode cX2_goBackBy 27 = .ok (.getfield 9, 3) := by decide +kernel
theorem dX2_goBackBy_30 : decode cX2_goBackBy 30 = .ok (.aload_n 0, 1) := by decide +kernel
theorem dX2_goBackBy_31 : decode cX2_goBackBy 31 = .ok (.getfield 15, 3) := by decide +kernel
theorem dX2_goBackBy_34 : decode cX2_goBackBy 34 = .ok (.bipush 17, 2) := by decide +kernel
theorem dX2_goBackBy_36 : decode cX2_goBackBy 36 = .ok (.imul, 1) := by decide +kernel
theorem dX2_goBackBy_37 : decode cX2_goBackBy 37 = .ok (.invokevirtual 37, 3) := by decide +kernel
theorem dX2_goBackBy_40 : decode cX2_goBackBy 40 = .ok (.return_, 1) := by decide +kernel
theorem dX2_forget_0 : decode cX2_forget 0 = .ok (.aload_n 0, 1) := by decide +kernel
theorem dX2_forget_1 : decode cX2_forget 1 = .ok (.iconst 0, 1) := by decide +kernel
theorem dX2_forget_2 : decode cX2_forget 2 = .ok (.putfield 19, 3) := by decide +kernel
theorem dX2_forget_5 : decode cX2_forget 5 = .ok (.return_, 1) := by decide +kernel
theorem dX3_init_0 : decode cX3_init 0 = .ok (.aload_n 0, 1) := by decide +kernel
theorem dX3_init_1 : decode cX3_init 1 = .ok (.invokespecial 3, 3) := by decide +kernel
theorem dX3_init_4 : decode cX3_init 4 = .ok (.aload_n 0, 1) := by decide +kernel
theorem dX3_init_5 : decode cX3_init 5 = .ok (.bipush 16, 2) := by decide +kernel
theorem dX3_init_7 : decode cX3_init 7 = .ok (.newarray .int, 2) := by decide +kernel
theorem dX3_init_9 : decode cX3_init 9 = .ok (.putfield 9, 3) := by decide +kernel
theorem dX3_init_12 : decode cX3_init 12 = .ok (.aload_n 0, 1) := by decide +kernel
theorem dX3_init_13 : decode cX3_init 13 = .ok (.bipush 16, 2) := by decide +kernel
theorem dX3_init_15 : decode cX3_init 15 = .ok (.newarray .int, 2) := by decide +kernel
theorem dX3_init_17 : decode cX3_init 17 = .ok (.putfield 15, 3) := by decide +kernel
theorem dX3_init_20 : decode cX3_init 20 = .ok (.aload_n 0, 1) := by decide +kernel
theorem dX3_init_21 : decode cX3_init 21 = .ok (.iconst 4, 1) := by decide +kernel
theorem dX3_init_22 : decode cX3_init 22 = .ok (.putfield 18, 3) := by decide +kernel
theorem dX3_init_25 : decode cX3_init 25 = .ok (.return_, 1) := by decide +kernel
theorem dX3_cornersJoin_0 : decode cX3_cornersJoin 0 = .ok (.aload_n 0, 1) := by decide +kernel
theorem dX3_cornersJoin_1 : decode cX3_cornersJoin 1 = .ok (.getfield 18, 3) := by decide +kernel
theorem dX3_cornersJoin_4 : decode cX3_cornersJoin 4 = .ok (.bipush 8, 2) := by decide +kernel
theorem dX3_cornersJoin_6 : decode cX3_cornersJoin 6 = .ok (.if_icmp .ne 7, 3) := by decide +kernel
theorem dX3_cornersJoin_9 : decode cX3_cornersJoin 9 = .ok (.iconst 1, 1) := by decide +kernel
theorem dX3_cornersJoin_10 : decode cX3_cornersJoin 10 = .ok (.goto 4, 3) := by decide +kernel
theorem dX3_cornersJoin_13 : decode cX3_cornersJoin 13 = .ok (.iconst 0, 1) := by decide +kernel
theorem dX3_cornersJoin_14 : decode cX3_cornersJoin 14 = .ok (.ireturn, 1) := by decide +kernel
theorem dX3_line_0 : decode cX3_line 0 = .ok (.iload_n 1, 1) := by decide +kernel
theorem dX3_line_1 : decode cX3_line 1 = .ok (.ifCond .lt 18, 3) := by decide +kernel
theorem dX3_line_4 : decode cX3_line 4 = .ok (.iload_n 1, 1) := by decide +kernel
theorem dX3_line_5 : decode cX3_line 5 = .ok (.bipush 16, 2) := by decide +kernel
theorem dX3_line_7 : decode cX3_line 7 = .ok (.if_icmp .ge 12, 3) := by decide +kernel
theorem dX3_line_10 : decode cX3_line 10 = .ok (.aload_n 0, 1) := by decide +kernel
theorem dX3_line_11 : decode cX3_line 11 = .ok (.getfield 9, 3) := by decide +kernel
theorem dX3_line_14 : decode cX3_line 14 = .ok (.iload_n 1, 1) := by decide +kernel
theorem dX3_line_15 : decode cX3_line 15 = .ok (.iaload, 1) := by decide +kernel
theorem dX3_line_16 : decode cX3_line 16 = .ok (.goto 4, 3) := by decide +kernel
theorem dX3_line_19 : decode cX3_line 19 = .ok (.iconst 0, 1) := by decide +kernel
theorem dX3_line_20 : decode cX3_line 20 = .ok (.ireturn, 1) := by decide +kernel
theorem dX3_putLine_0 : decode cX3_putLine 0 = .ok (.iload_n 1, 1) := by decide +kernel
theorem dX3_putLine_1 : decode cX3_putLine 1 = .ok (.ifCond .lt 19, 3) := by decide +kernel
theorem dX3_putLine_4 : decode cX3_putLine 4 = .ok (.iload_n 1, 1) := by decide +kernel
theorem dX3_putLine_5 : decode cX3_putLine 5 = .ok (.bipush 16, 2) := by decide +kernel
theorem dX3_putLine_7 : decode cX3_putLine 7 = .ok (.if_icmp .ge 13, 3) := by decide +kernel
theorem dX3_putLine_10 : decode cX3_putLine 10 = .ok (.aload_n 0, 1) := by decide +kernel
theorem dX3_putLine_11 : decode cX3_putLine 11 = .ok (.getfield 9, 3) := by decide +kernel
theorem dX3_putLine_14 : decode cX3_putLine 14 = .ok (.iload_n 1, 1) := by decide +kernel
theorem dX3_putLine_15 : decode cX3_putLine 15 = .ok (.iload_n 2, 1) := by decide +kernel
theorem dX3_putLine_16 : decode cX3_putLine 16 = .ok (.ldc 22, 2) := by decide +kernel
theorem dX3_putLine_18 : decode cX3_putLine 18 = .ok (.iand, 1) := by decide +kernel
theorem dX3_putLine_19 : decode cX3_putLine 19 = .ok (.iastore, 1) := by decide +kernel
theorem dX3_putLine_20 : decode cX3_putLine 20 = .ok (.return_, 1) := by decide +kernel
set_option maxRecDepth 20000 in
theorem ggX3_isDark_X3_line : GoodIn wsX3_isDark wsX3_line := goodIn_r _ [5, 6, 7, 8, 9] (by decide +kernel) (by decide +kernel)
set_option maxRecDepth 20000 in
theorem gX3_isDark_X3_line : GoodIn wsX3_isDark (wsV RX3 23 RX3 yX3_line wsX3_line) := goodIn_app (goodIn_of _ (by decide +kernel)) ggX3_isDark_X3_line
theorem dX3_isDark_0 : decode cX3_isDark 0 = .ok (.iload_n 2, 1) := by decide +kernel
theorem dX3_isDark_1 : decode cX3_isDark 1 = .ok (.ifCond .lt 26, 3) := by decide +kernel
theorem dX3_isDark_4 : decode cX3_isDark 4 = .ok (.iload_n 2, 1) := by decide +kernel
theorem dX3_isDark_5 : decode cX3_isDark 5 = .ok (.bipush 16, 2) := by decide +kernel
theorem dX3_isDark_7 : decode cX3_isDark 7 = .ok (.if_icmp .ge 20, 3) := by decide +kernel
theorem dX3_isDark_10 : decode cX3_isDark 10 = .ok (.aload_n 0, 1) := by decide +kernel
theorem dX3_isDark_11 : decode cX3_isDark 11 = .ok (.iload_n 1, 1) := by decide +kernel
theorem dX3_isDark_12 : decode cX3_isDark 12 = .ok (.invokevirtual 23, 3) := by decide +kernel
theorem dX3_isDark_15 : decode cX3_isDark 15 = .ok (.iload_n 2, 1) := by decide +kernel
theorem dX3_isDark_16 : decode cX3_isDark 16 = .ok (.ishr, 1) := by decide +kernel
theorem dX3_isDark_17 : decode cX3_isDark 17 = .ok (.iconst 1, 1) := by decide +kernel
theorem dX3_isDark_18 : decode cX3_isDark 18 = .ok (.iand, 1) := by decide +kernel
theorem dX3_isDark_19 : decode cX3_isDark 19 = .ok (.iconst 1, 1) := by decide +kernel
theorem dX3_isDark_20 : decode cX3_isDark 20 = .ok (.if_icmp .ne 7, 3) := by decide +kernel
theorem dX3_isDark_23 : decode cX3_isDark 23 = .ok (.iconst 1, 1) := by decide +kernel
theorem dX3_isDark_24 : decode cX3_isDark 24 = .ok (.goto 4, 3) := by decide +kernel
theorem dX3_isDark_27 : decode cX3_isDark 27 = .ok (.iconst 0, 1) := by decide +kernel
theorem dX3_isDark_28 : decode cX3_isDark 28 = .ok (.ireturn, 1) := by decide +kernel
set_option maxRecDepth 20000 in
theorem ggX3_flip_X3_line : GoodIn wsX3_flip wsX3_line := goodIn_r _ [5, 6, 12, 13, 14] (by decide +kernel) (by decide +kernel)
set_option maxRecDepth 20000 in
theorem gX3_flip_X3_line : GoodIn wsX3_flip (wsV RX3 23 RX3 yX3_line wsX3_line) := goodIn_app (goodIn_of _ (by decide +kernel)) ggX3_flip_X3_line
set_option maxRecDepth 20000 in
theorem ggX3_flip_X3_putLine : GoodIn wsX3_flip wsX3_putLine := goodIn_r _ [10, 6, 11, 12, 13, 14] (by decide +kernel) (by decide +kernel)
set_option maxRecDepth 20000 in
theorem gX3_flip_X3_putLine : GoodIn wsX3_flip (wsV RX3 27 RX3 yX3_putLine wsX3_putLine) := goodIn_app (goodIn_of _ (by decide +kernel)) ggX3_flip_X3_putLine
theorem dX3_flip_0 : decode cX3_flip 0 = .ok (.aload_n 0, 1) := by decide +kernel
theorem dX3_flip_1 : decode cX3_flip 1 = .ok (.iload_n 1, 1) := by decide +kernel
theorem dX3_flip_2 : decode cX3_flip 2 = .ok (.aload_n 0, 1) := by decide +kernel
theorem dX3_flip_3 : decode cX3_flip 3 = .ok (.iload_n 1, 1) := by decide +kernel
theorem dX3_flip_4 : decode cX3_flip 4 = .ok (.invokevirtual 23, 3) := by decide +kernel
theorem dX3_flip_7 : decode cX3_flip 7 = .ok (.iload_n 2, 1) := by decide +kernel
theorem dX3_flip_8 : decode cX3_flip 8 = .ok (.ixor, 1) := by decide +kernel
theorem dX3_flip_9 : decode cX3_flip 9 = .ok (.invokevirtual 27, 3) := by decide +kernel
theorem dX3_flip_12 : decode cX3_flip 12 = .ok (.return_, 1) := by decide +kernel
set_option maxRecDepth 20000 in
theorem ggX3_darkDots_J6_bitCount_0f7a4 : GoodIn wsX3_darkDots wsJ6_bitCount_0f7a4 := goodIn_r _ [5, 6, 7, 8] (by decide +kernel) (by decide +kernel)
set_option maxRecDepth 20000 in
theorem gX3_darkDots_J6_bitCount_0f7a4 : GoodIn wsX3_darkDots (va_wsS RX3 31 yJ6_bitCount_0f7a4 wsJ6_bitCount_0f7a4) := goodIn_app (goodIn_of _ (by decide +kernel)) ggX3_darkDots_J6_bitCount_0f7a4
theorem dX3_darkDots_0 : decode cX3_darkDots 0 = .ok (.iconst 0, 1) := by decide +kernel
theorem dX3_darkDots_1 : decode cX3_darkDots 1 = .ok (.istore_n 1, 1) := by decide +kernel
theorem dX3_darkDots_2 : decode cX3_darkDots 2 = .ok (.iconst 0, 1) := by decide +kernel
theorem dX3_darkDots_3 : decode cX3_darkDots 3 = .ok (.istore_n 2, 1) := by decide +kernel
theorem dX3_darkDots_4 : decode cX3_darkDots 4 = .ok (.iload_n 2, 1) := by decide +kernel
theorem dX3_darkDots_5 : decode cX3_darkDots 5 = .ok (.bipush 16, 2) := by decide +kernel
theorem dX3_darkDots_7 : decode cX3_darkDots 7 = .ok (.if_icmp .ge 21, 3) := by decide +kernel
theorem dX3_darkDots_10 : decode cX3_darkDots 10 = .ok (.iload_n 1, 1) := by decide +kernel
theorem dX3_darkDots_11 : decode cX3_darkDots 11 = .ok (.aload_n 0, 1) := by decide +kernel
theorem dX3_darkDots_12 : decode cX3_darkDots 12 = .ok (.getfield 9, 3) := by decide +kernel
theorem dX3_darkDots_15 : decode cX3_darkDots 15 = .ok (.iload_n 2, 1) := by decide +kernel
theorem dX3_darkDots_16 : decode cX3_darkDots 16 = .ok (.iaload, 1) := by decide +kernel
theorem dX3_darkDots_17 : decode cX3_darkDots 17 = .ok (.invokestatic 31, 3) := by decide +kernel
theorem dX3_darkDots_20 : decode cX3_darkDots 20 = .ok (.iadd, 1) := by decide +kernel
theorem dX3_darkDots_21 : decode cX3_darkDots 21 = .ok (.istore_n 1, 1) := by decide +kernel
theorem dX3_darkDots_22 : decode cX3_darkDots 22 = .ok (.iinc 2 1, 3) := by decide +kernel
theorem dX3_darkDots_25 : decode cX3_darkDots 25 = .ok (.goto (-21), 3) := by decide +kernel
theorem dX3_darkDots_28 : decode cX3_darkDots 28 = .ok (.iload_n 1, 1) := by decide +kernel
theorem dX3_darkDots_29 : decode cX3_darkDots 29 = .ok (.ireturn, 1) := by decide +kernel
set_option maxRecDepth 20000 in
theorem ggX3_allRuns_X5_runsOf : GoodIn wsX3_allRuns wsX5_runsOf := goodIn_r _ [4, 5, 6, 7, 8, 9, 10, 11] (by decide +kernel) (by decide +kernel)
set_option maxRecDepth 20000 in
theorem gX3_allRuns_X5_runsOf_n36 : GoodIn wsX3_allRuns (wsX5_runsOf) := ggX3_allRuns_X5_runsOf
theorem dX3_allRuns_0 : decode cX3_allRuns 0 = .ok (.iconst 0, 1) := by decide +kernel
theorem dX3_allRuns_1 : decode cX3_allRuns 1 = .ok (.istore_n 1, 1) := by decide +kernel
theorem dX3_allRuns_2 : decode cX3_allRuns 2 = .ok (.iconst 0, 1) := by decide +kernel
theorem dX3_allRuns_3 : decode cX3_allRuns 3 = .ok (.istore_n 2, 1) := by decide +kernel
theorem dX3_allRuns_4 : decode cX3_allRuns 4 = .ok (.iload_n 2, 1) := by decide +kernel
theorem dX3_allRuns_5 : decode cX3_allRuns 5 = .ok (.bipush 16, 2) := by decide +kernel
theorem dX3_allRuns_7 : decode cX3_allRuns 7 = .ok (.if_icmp .ge 21, 3) := by decide +kernel
theorem dX3_allRuns_10 : decode cX3_allRuns 10 = .ok (.iload_n 1, 1) := by decide +kernel
theorem dX3_allRuns_11 : decode cX3_allRuns 11 = .ok (.aload_n 0, 1) := by decide +kernel
theorem dX3_allRuns_12 : decode cX3_allRuns 12 = .ok (.getfield 9, 3) := by decide +kernel
theorem dX3_allRuns_15 : decode cX3_allRuns 15 = .ok (.iload_n 2, 1) := by decide +kernel
theorem dX3_allRuns_16 : decode cX3_allRuns 16 = .ok (.iaload, 1) := by decide +kernel
theorem dX3_allRuns_17 : decode cX3_allRuns 17 = .ok (.invokestatic 36, 3) := by decide +kernel
theorem dX3_allRuns_20 : decode cX3_allRuns 20 = .ok (.iadd, 1) := by decide +kernel
theorem dX3_allRuns_21 : decode cX3_allRuns 21 = .ok (.istore_n 1, 1) := by decide +kernel
theorem dX3_allRuns_22 : decode cX3_allRuns 22 = .ok (.iinc 2 1, 3) := by decide +kernel
theorem dX3_allRuns_25 : decode cX3_allRuns 25 = .ok (.goto (-21), 3) := by decide +kernel
theorem dX3_allRuns_28 : decode cX3_allRuns 28 = .ok (.iload_n 1, 1) := by decide +kernel
theorem dX3_allRuns_29 : decode cX3_allRuns 29 = .ok (.ireturn, 1) := by decide +kernel
set_option maxRecDepth 20000 in
theorem ggX3_freeSides_X3_line : GoodIn wsX3_freeSides wsX3_line := goodIn_r _ [5, 6, 14, 15, 16] (by decide +kernel) (by decide +kernel)
set_option maxRecDepth 20000 in
theorem gX3_freeSides_X3_line : GoodIn wsX3_freeSides (wsV RX3 23 RX3 yX3_line wsX3_line) := goodIn_app (goodIn_of _ (by decide +kernel)) ggX3_freeSides_X3_line
set_option maxRecDepth 20000 in
theorem ggX3_freeSides_J6_bitCount_0f7a4 : GoodIn wsX3_freeSides wsJ6_bitCount_0f7a4 := goodIn_r _ [10, 11, 12, 13] (by decide +kernel) (by decide +kernel)
set_option maxRecDepth 20000 in
theorem gX3_freeSides_J6_bitCount_0f7a4 : GoodIn wsX3_freeSides (va_wsS RX3 31 yJ6_bitCount_0f7a4 wsJ6_bitCount_0f7a4) := goodIn_app (goodIn_of _ (by decide +kernel)) ggX3_freeSides_J6_bitCount_0f7a4
theorem dX3_freeSides_0 : decode cX3_freeSides 0 = .ok (.iconst 2, 1) := by decide +kernel
theorem dX3_freeSides_1 : decode cX3_freeSides 1 = .ok (.iload_n 2, 1) := by decide +kernel
theorem dX3_freeSides_2 : decode cX3_freeSides 2 = .ok (.aload_n 0, 1) := by decide +kernel
theorem dX3_freeSides_3 : decode cX3_freeSides 3 = .ok (.iload_n 1, 1) := by decide +kernel
theorem dX3_freeSides_4 : decode cX3_freeSides 4 = .ok (.iconst 1, 1) := by decide +kernel
theorem dX3_freeSides_5 : decode cX3_freeSides 5 = .ok (.isub, 1) := by decide +kernel
theorem dX3_freeSides_6 : decode cX3_freeSides 6 = .ok (.invokevirtual 23, 3) := by decide +kernel
theorem dX3_freeSides_9 : decode cX3_freeSides 9 = .ok (.iconst (-1), 1) := by decide +kernel
theorem dX3_freeSides_10 : decode cX3_freeSides 10 = .ok (.ixor, 1) := by decide +kernel
theorem dX3_freeSides_11 : decode cX3_freeSides 11 = .ok (.iand, 1) := by decide +kernel
theorem dX3_freeSides_12 : decode cX3_freeSides 12 = .ok (.invokestatic 31, 3) := by decide +kernel
theorem dX3_freeSides_15 : decode cX3_freeSides 15 = .ok (.iadd, 1) := by decide +kernel
theorem dX3_freeSides_16 : decode cX3_freeSides 16 = .ok (.iload_n 2, 1) := by decide +kernel
theorem dX3_freeSides_17 : decode cX3_freeSides 17 = .ok (.aload_n 0, 1) := by decide +kernel
theorem dX3_freeSides_18 : decode cX3_freeSides 18 = .ok (.iload_n 1, 1) := by decide +kernel
theorem dX3_freeSides_19 : decode cX3_freeSides 19 = .ok (.iconst 1, 1) := by decide +kernel
theorem dX3_freeSides_20 : decode cX3_freeSides 20 = .ok (.iadd, 1) := by decide +kernel
theorem dX3_freeSides_21 : decode cX3_freeSides 21 = .ok (.invokevirtual 23, 3) := by decide +kernel
theorem dX3_freeSides_24 : decode cX3_freeSides 24 = .ok (.iconst (-1), 1) := by decide +kernel
theorem dX3_freeSides_25 : decode cX3_freeSides 25 = .ok (.ixor, 1) := by decide +kernel
theorem dX3_freeSides_26 : decode cX3_freeSides 26 = .ok (.iand, 1) := by decide +kernel
theorem dX3_freeSides_27 : decode cX3_freeSides 27 = .ok (.invokestatic 31, 3) := by decide +kernel
theorem dX3_freeSides_30 : decode cX3_freeSides 30 = .ok (.iadd, 1) := by decide +kernel
theorem dX3_freeSides_31 : decode cX3_freeSides 31 = .ok (.ireturn, 1) := by decide +kernel
set_option maxRecDepth 20000 in
theorem ggX3_becomeGrown_X3_line : GoodIn wsX3_becomeGrown wsX3_line := goodIn_r _ [7, 2, 25, 26, 27] (by decide +kernel) (by decide +kernel)
set_option maxRecDepth 20000 in
theorem gX3_becomeGrown_X3_line : GoodIn wsX3_becomeGrown (wsV RX3 23 RX3 yX3_line wsX3_line) := goodIn_app (goodIn_of _ (by decide +kernel)) ggX3_becomeGrown_X3_line
set_option maxRecDepth 20000 in
theorem ggX3_becomeGrown_X3_cornersJoin : GoodIn wsX3_becomeGrown wsX3_cornersJoin := goodIn_r _ [11, 12, 25, 26, 27] (by decide +kernel) (by decide +kernel)
set_option maxRecDepth 20000 in
theorem gX3_becomeGrown_X3_cornersJoin : GoodIn wsX3_becomeGrown (wsV RX3 39 RX3 yX3_cornersJoin wsX3_cornersJoin) := goodIn_app (goodIn_of _ (by decide +kernel)) ggX3_becomeGrown_X3_cornersJoin
set_option maxRecDepth 20000 in
theorem ggX3_becomeGrown_X3_widened : GoodIn wsX3_becomeGrown wsX3_widened := goodIn_r _ [15, 16] (by decide +kernel) (by decide +kernel)
set_option maxRecDepth 20000 in
theorem gX3_becomeGrown_X3_widened : GoodIn wsX3_becomeGrown (va_wsS RX3 43 yX3_widened wsX3_widened) := goodIn_app (goodIn_of _ (by decide +kernel)) ggX3_becomeGrown_X3_widened
set_option maxRecDepth 20000 in
theorem ggX3_becomeGrown_X3_becomeNext : GoodIn wsX3_becomeGrown wsX3_becomeNext := goodIn_r _ [20, 1, 2, 21, 22, 23, 24, 25, 26, 27] (by decide +kernel) (by decide +kernel)
set_option maxRecDepth 20000 in
theorem gX3_becomeGrown_X3_becomeNext : GoodIn wsX3_becomeGrown (wsV RX3 46 RX3 yX3_becomeNext wsX3_becomeNext) := goodIn_app (goodIn_of _ (by decide +kernel)) ggX3_becomeGrown_X3_becomeNext
theorem dX3_becomeGrown_0 : decode cX3_becomeGrown 0 = .ok (.iconst 0, 1) := by decide +kernel
theorem dX3_becomeGrown_1 : decode cX3_becomeGrown 1 = .ok (.istore_n 1, 1) := by decide +kernel
theorem dX3_becomeGrown_2 : decode cX3_becomeGrown 2 = .ok (.iload_n 1, 1) := by decide +kernel
theorem dX3_becomeGrown_3 : decode cX3_becomeGrown 3 = .ok (.bipush 16, 2) := by decide +kernel
theorem dX3_becomeGrown_5 : decode cX3_becomeGrown 5 = .ok (.if_icmp .ge 63, 3) := by decide +kernel
theorem dX3_becomeGrown_8 : decode cX3_becomeGrown 8 = .ok (.aload_n 0, 1) := by decide +kernel
theorem dX3_becomeGrown_9 : decode cX3_becomeGrown 9 = .ok (.iload_n 1, 1) := by decide +kernel
theorem dX3_becomeGrown_10 : decode cX3_becomeGrown 10 = .ok (.iconst 1, 1) := by decide +kernel
theorem dX3_becomeGrown_11 : decode cX3_becomeGrown 11 = .ok (.isub, 1) := by decide +kernel
theorem dX3_becomeGrown_12 : decode cX3_becomeGrown 12 = .ok (.invokevirtual 23, 3) := by decide +kernel
theorem dX3_becomeGrown_15 : decode cX3_becomeGrown 15 = .ok (.aload_n 0, 1) := by decide +kernel
theorem dX3_becomeGrown_16 : decode cX3_becomeGrown 16 = .ok (.iload_n 1, 1) := by decide +kernel
theorem dX3_becomeGrown_17 : decode cX3_becomeGrown 17 = .ok (.iconst 1, 1) := by decide +kernel
theorem dX3_becomeGrown_18 : decode cX3_becomeGrown 18 = .ok (.iadd, 1) := by decide +kernel
theorem dX3_becomeGrown_19 : decode cX3_becomeGrown 19 = .ok (.invokevirtual 23, 3) := by decide +kernel
theorem dX3_becomeGrown_22 : decode cX3_becomeGrown 22 = .ok (.ior, 1) := by decide +kernel
theorem dX3_becomeGrown_23 : decode cX3_becomeGrown 23 = .ok (.istore_n 2, 1) := by decide +kernel
theorem dX3_becomeGrown_24 : decode cX3_becomeGrown 24 = .ok (.aload_n 0, 1) := by decide +kernel
theorem dX3_becomeGrown_25 : decode cX3_becomeGrown 25 = .ok (.getfield 15, 3) := by decide +kernel
theorem dX3_becomeGrown_28 : decode cX3_becomeGrown 28 = .ok (.iload_n 1, 1) := by decide +kernel
theorem dX3_becomeGrown_29 : decode cX3_becomeGrown 29 = .ok (.aload_n 0, 1) := by decide +kernel
theorem dX3_becomeGrown_30 : decode cX3_becomeGrown 30 = .ok (.invokevirtual 39, 3) := by decide +kernel
theorem dX3_becomeGrown_33 : decode cX3_becomeGrown 33 = .ok (.ifCond .eq 17, 3) := by decide +kernel
theorem dX3_becomeGrown_36 : decode cX3_becomeGrown 36 = .ok (.aload_n 0, 1) := by decide +kernel
theorem dX3_becomeGrown_37 : decode cX3_becomeGrown 37 = .ok (.getfield 9, 3) := by decide +kernel
theorem dX3_becomeGrown_40 : decode cX3_becomeGrown 40 = .ok (.iload_n 1, 1) := by decide +kernel
theorem dX3_becomeGrown_41 : decode cX3_becomeGrown 41 = .ok (.iaload, 1) := by decide +kernel
theorem dX3_becomeGrown_42 : decode cX3_becomeGrown 42 = .ok (.iload_n 2, 1) := by decide +kernel
theorem dX3_becomeGrown_43 : decode cX3_becomeGrown 43 = .ok (.ior, 1) := by decide +kernel
theorem dX3_becomeGrown_44 : decode cX3_becomeGrown 44 = .ok (.invokestatic 43, 3) := by decide +kernel
theorem dX3_becomeGrown_47 : decode cX3_becomeGrown 47 = .ok (.goto 14, 3) := by decide +kernel
theorem dX3_becomeGrown_50 : decode cX3_becomeGrown 50 = .ok (.aload_n 0, 1) := by decide +kernel
theorem dX3_becomeGrown_51 : decode cX3_becomeGrown 51 = .ok (.getfield 9, 3) := by decide +kernel
theorem dX3_becomeGrown_54 : decode cX3_becomeGrown 54 = .ok (.iload_n 1, 1) := by decide +kernel
theorem dX3_becomeGrown_55 : decode cX3_becomeGrown 55 = .ok (.iaload, 1) := by decide +kernel
theorem dX3_becomeGrown_56 : decode cX3_becomeGrown 56 = .ok (.invokestatic 43, 3) := by decide +kernel
theorem dX3_becomeGrown_59 : decode cX3_becomeGrown 59 = .ok (.iload_n 2, 1) := by decide +kernel
theorem dX3_becomeGrown_60 : decode cX3_becomeGrown 60 = .ok (.ior, 1) := by decide +kernel
theorem dX3_becomeGrown_61 : decode cX3_becomeGrown 61 = .ok (.iastore, 1) := by decide +kernel
theorem dX3_becomeGrown_62 : decode cX3_becomeGrown 62 = .ok (.iinc 1 1, 3) := by decide +kernel
theorem dX3_becomeGrown_65 : decode cX3_becomeGrown 65 = .ok (.goto (-63), 3) := by decide +kernel
theorem dX3_becomeGrown_68 : decode cX3_becomeGrown 68 = .ok (.aload_n 0, 1) := by decide +kernel
theorem dX3_becomeGrown_69 : decode cX3_becomeGrown 69 = .ok (.invokevirtual 46, 3) := by decide +kernel
theorem dX3_becomeGrown_72 : decode cX3_becomeGrown 72 = .ok (.return_, 1) := by decide +kernel
set_option maxRecDepth 20000 in
theorem ggX3_becomeShrunk_X3_line : GoodIn wsX3_becomeShrunk wsX3_line := goodIn_r _ [7, 2, 24, 25, 26] (by decide +kernel) (by decide +kernel)
set_option maxRecDepth 20000 in
theorem gX3_becomeShrunk_X3_line : GoodIn wsX3_becomeShrunk (wsV RX3 23 RX3 yX3_line wsX3_line) := goodIn_app (goodIn_of _ (by decide +kernel)) ggX3_becomeShrunk_X3_line
set_option maxRecDepth 20000 in
theorem ggX3_becomeShrunk_X3_cornersJoin : GoodIn wsX3_becomeShrunk wsX3_cornersJoin := goodIn_r _ [11, 12, 24, 25, 26] (by decide +kernel) (by decide +kernel)
set_option maxRecDepth 20000 in
theorem gX3_becomeShrunk_X3_cornersJoin : GoodIn wsX3_becomeShrunk (wsV RX3 39 RX3 yX3_cornersJoin wsX3_cornersJoin) := goodIn_app (goodIn_of _ (by decide +kernel)) ggX3_becomeShrunk_X3_cornersJoin
set_option maxRecDepth 20000 in
theorem ggX3_becomeShrunk_X3_narrowed : GoodIn wsX3_becomeShrunk wsX3_narrowed := goodIn_r _ [15] (by decide +kernel) (by decide +kernel)
set_option maxRecDepth 20000 in
theorem gX3_becomeShrunk_X3_narrowed : GoodIn wsX3_becomeShrunk (va_wsS RX3 49 yX3_narrowed wsX3_narrowed) := goodIn_app (goodIn_of _ (by decide +kernel)) ggX3_becomeShrunk_X3_narrowed
set_option maxRecDepth 20000 in
theorem ggX3_becomeShrunk_X3_becomeNext : GoodIn wsX3_becomeShrunk wsX3_becomeNext := goodIn_r _ [19, 1, 2, 20, 21, 22, 23, 24, 25, 26] (by decide +kernel) (by decide +kernel)
set_option maxRecDepth 20000 in
theorem gX3_becomeShrunk_X3_becomeNext : GoodIn wsX3_becomeShrunk (wsV RX3 46 RX3 yX3_becomeNext wsX3_becomeNext) := goodIn_app (goodIn_of _ (by decide +kernel)) ggX3_becomeShrunk_X3_becomeNext
theorem dX3_becomeShrunk_0 : decode cX3_becomeShrunk 0 = .ok (.iconst 0, 1) := by decide +kernel
theorem dX3_becomeShrunk_1 : decode cX3_becomeShrunk 1 = .ok (.istore_n 1, 1) := by decide +kernel
theorem dX3_becomeShrunk_2 : decode cX3_becomeShrunk 2 = .ok (.iload_n 1, 1) := by decide +kernel
theorem dX3_becomeShrunk_3 : decode cX3_becomeShrunk 3 = .ok (.bipush 16, 2) := by decide +kernel
theorem dX3_becomeShrunk_5 : decode cX3_becomeShrunk 5 = .ok (.if_icmp .ge 63, 3) := by decide +kernel
theorem dX3_becomeShrunk_8 : decode cX3_becomeShrunk 8 = .ok (.aload_n 0, 1) := by decide +kernel
theorem dX3_becomeShrunk_9 : decode cX3_becomeShrunk 9 = .ok (.iload_n 1, 1) := by decide +kernel
theorem dX3_becomeShrunk_10 : decode cX3_becomeShrunk 10 = .ok (.iconst 1, 1) := by decide +kernel
theorem dX3_becomeShrunk_11 : decode cX3_becomeShrunk 11 = .ok (.isub, 1) := by decide +kernel
theorem dX3_becomeShrunk_12 : decode cX3_becomeShrunk 12 = .ok (.invokevirtual 23, 3) := by decide +kernel
theorem dX3_becomeShrunk_15 : decode cX3_becomeShrunk 15 = .ok (.aload_n 0, 1) := by decide +kernel
theorem dX3_becomeShrunk_16 : decode cX3_becomeShrunk 16 = .ok (.iload_n 1, 1) := by decide +kernel
theorem dX3_becomeShrunk_17 : decode cX3_becomeShrunk 17 = .ok (.iconst 1, 1) := by decide +kernel
theorem dX3_becomeShrunk_18 : decode cX3_becomeShrunk 18 = .ok (.iadd, 1) := by decide +kernel
theorem dX3_becomeShrunk_19 : decode cX3_becomeShrunk 19 = .ok (.invokevirtual 23, 3) := by decide +kernel
theorem dX3_becomeShrunk_22 : decode cX3_becomeShrunk 22 = .ok (.iand, 1) := by decide +kernel
theorem dX3_becomeShrunk_23 : decode cX3_becomeShrunk 23 = .ok (.istore_n 2, 1) := by decide +kernel
theorem dX3_becomeShrunk_24 : decode cX3_becomeShrunk 24 = .ok (.aload_n 0, 1) := by decide +kernel
theorem dX3_becomeShrunk_25 : decode cX3_becomeShrunk 25 = .ok (.getfield 15, 3) := by decide +kernel
theorem dX3_becomeShrunk_28 : decode cX3_becomeShrunk 28 = .ok (.iload_n 1, 1) := by decide +kernel
theorem dX3_becomeShrunk_29 : decode cX3_becomeShrunk 29 = .ok (.aload_n 0, 1) := by decide +kernel
theorem dX3_becomeShrunk_30 : decode cX3_becomeShrunk 30 = .ok (.invokevirtual 39, 3) := by decide +kernel
theorem dX3_becomeShrunk_33 : decode cX3_becomeShrunk 33 = .ok (.ifCond .eq 17, 3) := by decide +kernel
theorem dX3_becomeShrunk_36 : decode cX3_becomeShrunk 36 = .ok (.aload_n 0, 1) := by decide +kernel
theorem dX3_becomeShrunk_37 : decode cX3_becomeShrunk 37 = .ok (.getfield 9, 3) := by decide +kernel
theorem dX3_becomeShrunk_40 : decode cX3_becomeShrunk 40 = .ok (.iload_n 1, 1) := by decide +kernel
theorem dX3_becomeShrunk_41 : decode cX3_becomeShrunk 41 = .ok (.iaload, 1) := by decide +kernel
theorem dX3_becomeShrunk_42 : decode cX3_becomeShrunk 42 = .ok (.iload_n 2, 1) := by decide +kernel
theorem dX3_becomeShrunk_43 : decode cX3_becomeShrunk 43 = .ok (.iand, 1) := by decide +kernel
theorem dX3_becomeShrunk_44 : decode cX3_becomeShrunk 44 = .ok (.invokestatic 49, 3) := by decide +kernel
theorem dX3_becomeShrunk_47 : decode cX3_becomeShrunk 47 = .ok (.goto 14, 3) := by decide +kernel
theorem dX3_becomeShrunk_50 : decode cX3_becomeShrunk 50 = .ok (.aload_n 0, 1) := by decide +kernel
theorem dX3_becomeShrunk_51 : decode cX3_becomeShrunk 51 = .ok (.getfield 9, 3) := by decide +kernel
theorem dX3_becomeShrunk_54 : decode cX3_becomeShrunk 54 = .ok (.iload_n 1, 1) := by decide +kernel
theorem dX3_becomeShrunk_55 : decode cX3_becomeShrunk 55 = .ok (.iaload, 1) := by decide +kernel
theorem dX3_becomeShrunk_56 : decode cX3_becomeShrunk 56 = .ok (.invokestatic 49, 3) := by decide +kernel
theorem dX3_becomeShrunk_59 : decode cX3_becomeShrunk 59 = .ok (.iload_n 2, 1) := by decide +kernel
theorem dX3_becomeShrunk_60 : decode cX3_becomeShrunk 60 = .ok (.iand, 1) := by decide +kernel
theorem dX3_becomeShrunk_61 : decode cX3_becomeShrunk 61 = .ok (.iastore, 1) := by decide +kernel
theorem dX3_becomeShrunk_62 : decode cX3_becomeShrunk 62 = .ok (.iinc 1 1, 3) := by decide +kernel
theorem dX3_becomeShrunk_65 : decode cX3_becomeShrunk 65 = .ok (.goto (-63), 3) := by decide +kernel
theorem dX3_becomeShrunk_68 : decode cX3_becomeShrunk 68 = .ok (.aload_n 0, 1) := by decide +kernel
theorem dX3_becomeShrunk_69 : decode cX3_becomeShrunk 69 = .ok (.invokevirtual 46, 3) := by decide +kernel
theorem dX3_becomeShrunk_72 : decode cX3_becomeShrunk 72 = .ok (.return_, 1) := by decide +kernel
set_option maxRecDepth 20000 in
theorem ggX3_becomeMoved_X3_line : GoodIn wsX3_becomeMoved wsX3_line := goodIn_r _ [6, 7, 20, 21, 22] (by decide +kernel) (by decide +kernel)
set_option maxRecDepth 20000 in
theorem gX3_becomeMoved_X3_line : GoodIn wsX3_becomeMoved (wsV RX3 23 RX3 yX3_line wsX3_line) := goodIn_app (goodIn_of _ (by decide +kernel)) ggX3_becomeMoved_X3_line
set_option maxRecDepth 20000 in
theorem ggX3_becomeMoved_X3_slid : GoodIn wsX3_becomeMoved wsX3_slid := goodIn_r _ [10, 11] (by decide +kernel) (by decide +kernel)
set_option maxRecDepth 20000 in
theorem gX3_becomeMoved_X3_slid : GoodIn wsX3_becomeMoved (va_wsS RX3 52 yX3_slid wsX3_slid) := goodIn_app (goodIn_of _ (by decide +kernel)) ggX3_becomeMoved_X3_slid
set_option maxRecDepth 20000 in
theorem ggX3_becomeMoved_X3_becomeNext : GoodIn wsX3_becomeMoved wsX3_becomeNext := goodIn_r _ [15, 1, 7, 16, 17, 18, 19, 20, 21, 22] (by decide +kernel) (by decide +kernel)
set_option maxRecDepth 20000 in
theorem gX3_becomeMoved_X3_becomeNext : GoodIn wsX3_becomeMoved (wsV RX3 46 RX3 yX3_becomeNext wsX3_becomeNext) := goodIn_app (goodIn_of _ (by decide +kernel)) ggX3_becomeMoved_X3_becomeNext
theorem dX3_becomeMoved_0 : decode cX3_becomeMoved 0 = .ok (.iconst 0, 1) := by decide +kernel
theorem dX3_becomeMoved_1 : decode cX3_becomeMoved 1 = .ok (.istore_n 3, 1) := by decide +kernel
theorem dX3_becomeMoved_2 : decode cX3_becomeMoved 2 = .ok (.iload_n 3, 1) := by decide +kernel
theorem dX3_becomeMoved_3 : decode cX3_becomeMoved 3 = .ok (.bipush 16, 2) := by decide +kernel
theorem dX3_becomeMoved_5 : decode cX3_becomeMoved 5 = .ok (.if_icmp .ge 26, 3) := by decide +kernel
theorem dX3_becomeMoved_8 : decode cX3_becomeMoved 8 = .ok (.aload_n 0, 1) := by decide +kernel
theorem dX3_becomeMoved_9 : decode cX3_becomeMoved 9 = .ok (.getfield 15, 3) := by decide +kernel
theorem dX3_becomeMoved_12 : decode cX3_becomeMoved 12 = .ok (.iload_n 3, 1) := by decide +kernel
theorem dX3_becomeMoved_13 : decode cX3_becomeMoved 13 = .ok (.aload_n 0, 1) := by decide +kernel
theorem dX3_becomeMoved_14 : decode cX3_becomeMoved 14 = .ok (.iload_n 3, 1) := by decide +kernel
theorem dX3_becomeMoved_15 : decode cX3_becomeMoved 15 = .ok (.iload_n 1, 1) := by decide +kernel
theorem dX3_becomeMoved_16 : decode cX3_becomeMoved 16 = .ok (.isub, 1) := by decide +kernel
theorem dX3_becomeMoved_17 : decode cX3_becomeMoved 17 = .ok (.invokevirtual 23, 3) := by decide +kernel
theorem dX3_becomeMoved_20 : decode cX3_becomeMoved 20 = .ok (.iload_n 2, 1) := by decide +kernel
theorem dX3_becomeMoved_21 : decode cX3_becomeMoved 21 = .ok (.invokestatic 52, 3) := by decide +kernel
theorem dX3_becomeMoved_24 : decode cX3_becomeMoved 24 = .ok (.iastore, 1) := by decide +kernel
theorem dX3_becomeMoved_25 : decode cX3_becomeMoved 25 = .ok (.iinc 3 1, 3) := by decide +kernel
theorem dX3_becomeMoved_28 : decode cX3_becomeMoved 28 = .ok (.goto (-26), 3) := by decide +kernel
theorem dX3_becomeMoved_31 : decode cX3_becomeMoved 31 = .ok (.aload_n 0, 1) := by decide +kernel
theorem dX3_becomeMoved_32 : decode cX3_becomeMoved 32 = .ok (.invokevirtual 46, 3) := by decide +kernel
theorem dX3_becomeMoved_35 : decode cX3_becomeMoved 35 = .ok (.return_, 1) := by decide +kernel
theorem dX3_becomeOver_0 : decode cX3_becomeOver 0 = .ok (.iconst 0, 1) := by decide +kernel
theorem dX3_becomeOver_1 : decode cX3_becomeOver 1 = .ok (.istore_n 1, 1) := by decide +kernel
theorem dX3_becomeOver_2 : decode cX3_becomeOver 2 = .ok (.iload_n 1, 1) := by decide +kernel
theorem dX3_becomeOver_3 : decode cX3_becomeOver 3 = .ok (.bipush 16, 2) := by decide +kernel
theorem dX3_becomeOver_5 : decode cX3_becomeOver 5 = .ok (.if_icmp .ge 26, 3) := by decide +kernel
theorem dX3_becomeOver_8 : decode cX3_becomeOver 8 = .ok (.aload_n 0, 1) := by decide +kernel
theorem dX3_becomeOver_9 : decode cX3_becomeOver 9 = .ok (.getfield 9, 3) := by decide +kernel
theorem dX3_becomeOver_12 : decode cX3_becomeOver 12 = .ok (.iload_n 1, 1) := by decide +kernel
theorem dX3_becomeOver_13 : decode cX3_becomeOver 13 = .ok (.aload_n 0, 1) := by decide +kernel
theorem dX3_becomeOver_14 : decode cX3_becomeOver 14 = .ok (.getfield 9, 3) := by decide +kernel
theorem dX3_becomeOver_17 : decode cX3_becomeOver 17 = .ok (.iload_n 1, 1) := by decide +kernel
theorem dX3_becomeOver_18 : decode cX3_becomeOver 18 = .ok (.iaload, 1) := by decide +kernel
theorem dX3_becomeOver_19 : decode cX3_becomeOver 19 = .ok (.iconst (-1), 1) := by decide +kernel
theorem dX3_becomeOver_20 : decode cX3_becomeOver 20 = .ok (.ixor, 1) := by decide +kernel
theorem dX3_becomeOver_21 : decode cX3_becomeOver 21 = .ok (.ldc 22, 2) := by decide +kernel
theorem dX3_becomeOver_23 : decode cX3_becomeOver 23 = .ok (.iand, 1) := by decide +kernel
theorem dX3_becomeOver_24 : decode cX3_becomeOver 24 = .ok (.iastore, 1) := by decide +kernel
theorem dX3_becomeOver_25 : decode cX3_becomeOver 25 = .ok (.iinc 1 1, 3) := by decide +kernel
theorem dX3_becomeOver_28 : decode cX3_becomeOver 28 = .ok (.goto (-26), 3) := by decide +kernel
theorem dX3_becomeOver_31 : decode cX3_becomeOver 31 = .ok (.return_, 1) := by decide +kernel
theorem dX3_layBy_0 : decode cX3_layBy 0 = .ok (.iload_n 2, 1) := by decide +kernel
theorem dX3_layBy_1 : decode cX3_layBy 1 = .ok (.ifCond .lt 12, 3) := by decide +kernel
theorem dX3_layBy_4 : decode cX3_layBy 4 = .ok (.iload_n 2, 1) := by decide +kernel
theorem dX3_layBy_5 : decode cX3_layBy 5 = .ok (.aload_n 1, 1) := by decide +kernel
theorem dX3_layBy_6 : decode cX3_layBy 6 = .ok (.arraylength, 1) := by decide +kernel
theorem dX3_layBy_7 : decode cX3_layBy 7 = .ok (.bipush 17, 2) := by decide +kernel
theorem dX3_layBy_9 : decode cX3_layBy 9 = .ok (.isub, 1) := by decide +kernel
theorem dX3_layBy_10 : decode cX3_layBy 10 = .ok (.if_icmp .le 4, 3) := by decide +kernel
theorem dX3_layBy_13 : decode cX3_layBy 13 = .ok (.return_, 1) := by decide +kernel
theorem dX3_layBy_14 : decode cX3_layBy 14 = .ok (.aload_n 0, 1) := by decide +kernel
theorem dX3_layBy_15 : decode cX3_layBy 15 = .ok (.getfield 9, 3) := by decide +kernel
theorem dX3_layBy_18 : decode cX3_layBy 18 = .ok (.iconst 0, 1) := by decide +kernel
theorem dX3_layBy_19 : decode cX3_layBy 19 = .ok (.aload_n 1, 1) := by decide +kernel
theorem dX3_layBy_20 : decode cX3_layBy 20 = .ok (.iload_n 2, 1) := by decide +kernel
theorem dX3_layBy_21 : decode cX3_layBy 21 = .ok (.bipush 16, 2) := by decide +kernel
theorem dX3_layBy_23 : decode cX3_layBy 23 = .ok (.invokestatic 56, 3) := by decide +kernel
theorem dX3_layBy_26 : decode cX3_layBy 26 = .ok (.aload_n 1, 1) := by decide +kernel
theorem dX3_layBy_27 : decode cX3_layBy 27 = .ok (.iload_n 2, 1) := by decide +kernel
theorem dX3_layBy_28 : decode cX3_layBy 28 = .ok (.bipush 16, 2) := by decide +kernel
theorem dX3_layBy_30 : decode cX3_layBy 30 = .ok (.iadd, 1) := by decide +kernel
theorem dX3_layBy_31 : decode cX3_layBy 31 = .ok (.aload_n 0, 1) := by decide +kernel
theorem dX3_layBy_32 : decode cX3_layBy 32 = .ok (.getfield 18, 3) := by decide +kernel
theorem dX3_layBy_35 : decode cX3_layBy 35 = .ok (.iastore, 1) := by decide +kernel
theorem dX3_layBy_36 : decode cX3_layBy 36 = .ok (.return_, 1) := by decide +kernel
theorem dX3_takeUp_0 : decode cX3_takeUp 0 = .ok (.iload_n 2, 1) := by decide +kernel
theorem dX3_takeUp_1 : decode cX3_takeUp 1 = .ok (.ifCond .lt 12, 3) := by decide +kernel
theorem dX3_takeUp_4 : decode cX3_takeUp 4 = .ok (.iload_n 2, 1) := by decide +kernel
theorem dX3_takeUp_5 : decode cX3_takeUp 5 = .ok (.aload_n 1, 1) := by decide +kernel
theorem dX3_takeUp_6 : decode cX3_takeUp 6 = .ok (.arraylength, 1) := by decide +kernel
theorem dX3_takeUp_7 : decode cX3_takeUp 7 = .ok (.bipush 17, 2) := by decide +kernel
theorem dX3_takeUp_9 : decode cX3_takeUp 9 = .ok (.isub, 1) := by decide +kernel
theorem dX3_takeUp_10 : decode cX3_takeUp 10 = .ok (.if_icmp .le 4, 3) := by decide +kernel
theorem dX3_takeUp_13 : decode cX3_takeUp 13 = .ok (.return_, 1) := by decide +kernel
theorem dX3_takeUp_14 : decode cX3_takeUp 14 = .ok (.aload_n 1, 1) := by decide +kernel
theorem dX3_takeUp_15 : decode cX3_takeUp 15 = .ok (.iload_n 2, 1) := by decide +kernel
theorem dX3_takeUp_16 : decode cX3_takeUp 16 = .ok (.aload_n 0, 1) := by decide +kernel
theorem dX3_takeUp_17 : decode cX3_takeUp 17 = .ok (.getfield 9, 3) := by decide +kernel
theorem dX3_takeUp_20 : decode cX3_takeUp 20 = .ok (.iconst 0, 1) := by decide +kernel
theorem dX3_takeUp_21 : decode cX3_takeUp 21 = .ok (.bipush 16, 2) := by decide +kernel
theorem dX3_takeUp_23 : decode cX3_takeUp 23 = .ok (.invokestatic 56, 3) := by decide +kernel
theorem dX3_takeUp_26 : decode cX3_takeUp 26 = .ok (.aload_n 0, 1) := by decide +kernel
theorem dX3_takeUp_27 : decode cX3_takeUp 27 = .ok (.aload_n 1, 1) := by decide +kernel
theorem dX3_takeUp_28 : decode cX3_takeUp 28 = .ok (.iload_n 2, 1) := by decide +kernel
theorem dX3_takeUp_29 : decode cX3_takeUp 29 = .ok (.bipush 16, 2) := by decide +kernel
theorem dX3_takeUp_31 : decode cX3_takeUp 31 = .ok (.iadd, 1) := by decide +kernel
theorem dX3_takeUp_32 : decode cX3_takeUp 32 = .ok (.iaload, 1) := by decide +kernel
theorem dX3_takeUp_33 : decode cX3_takeUp 33 = .ok (.putfield 18, 3) := by decide +kernel
theorem dX3_takeUp_36 : decode cX3_takeUp 36 = .ok (.return_, 1) := by decide +kernel
theorem dX3_becomeNext_0 : decode cX3_becomeNext 0 = .ok (.aload_n 0, 1) := by decide +kernel
theorem dX3_becomeNext_1 : decode cX3_becomeNext 1 = .ok (.getfield 15, 3) := by decide +kernel
theorem dX3_becomeNext_4 : decode cX3_becomeNext 4 = .ok (.iconst 0, 1) := by decide +kernel
theorem dX3_becomeNext_5 : decode cX3_becomeNext 5 = .ok (.aload_n 0, 1) := by decide +kernel
theorem dX3_becomeNext_6 : decode cX3_becomeNext 6 = .ok (.getfield 9, 3) := by decide +kernel
theorem dX3_becomeNext_9 : decode cX3_becomeNext 9 = .ok (.iconst 0, 1) := by decide +kernel
theorem dX3_becomeNext_10 : decode cX3_becomeNext 10 = .ok (.bipush 16, 2) := by decide +kernel
theorem dX3_becomeNext_12 : decode cX3_becomeNext 12 = .ok (.invokestatic 56, 3) := by decide +kernel
theorem dX3_becomeNext_15 : decode cX3_becomeNext 15 = .ok (.return_, 1) := by decide +kernel
theorem dX3_widened_0 : decode cX3_widened 0 = .ok (.iload_n 0, 1) := by decide +kernel
theorem dX3_widened_1 : decode cX3_widened 1 = .ok (.iload_n 0, 1) := by decide +kernel
theorem dX3_widened_2 : decode cX3_widened 2 = .ok (.iconst 1, 1) := by decide +kernel
theorem dX3_widened_3 : decode cX3_widened 3 = .ok (.ishl, 1) := by decide +kernel
theorem dX3_widened_4 : decode cX3_widened 4 = .ok (.ior, 1) := by decide +kernel
theorem dX3_widened_5 : decode cX3_widened 5 = .ok (.iload_n 0, 1) := by decide +kernel
theorem dX3_widened_6 : decode cX3_widened 6 = .ok (.iconst 1, 1) := by decide +kernel
theorem dX3_widened_7 : decode cX3_widened 7 = .ok (.ishr, 1) := by decide +kernel
theorem dX3_widened_8 : decode cX3_widened 8 = .ok (.ior, 1) := by decide +kernel
theorem dX3_widened_9 : decode cX3_widened 9 = .ok (.ldc 22, 2) := by decide +kernel
theorem dX3_widened_11 : decode cX3_widened 11 = .ok (.iand, 1) := by decide +kernel
theorem dX3_widened_12 : decode cX3_widened 12 = .ok (.ireturn, 1) := by decide +kernel
theorem dX3_narrowed_0 : decode cX3_narrowed 0 = .ok (.iload_n 0, 1) := by decide +kernel
theorem dX3_narrowed_1 : decode cX3_narrowed 1 = .ok (.iload_n 0, 1) := by decide +kernel
theorem dX3_narrowed_2 : decode cX3_narrowed 2 = .ok (.iconst 1, 1) := by decide +kernel
theorem dX3_narrowed_3 : decode cX3_narrowed 3 = .ok (.ishl, 1) := by decide +kernel
theorem dX3_narrowed_4 : decode cX3_narrowed 4 = .ok (.iand, 1) := by decide +kernel
theorem dX3_narrowed_5 : decode cX3_narrowed 5 = .ok (.iload_n 0, 1) := by decide +kernel
theorem dX3_narrowed_6 : decode cX3_narrowed 6 = .ok (.iconst 1, 1) := by decide +kernel
theorem dX3_narrowed_7 : decode cX3_narrowed 7 = .ok (.ishr, 1) := by decide +kernel
theorem dX3_narrowed_8 : decode cX3_narrowed 8 = .ok (.iand, 1) := by decide +kernel
theorem dX3_narrowed_9 : decode cX3_narrowed 9 = .ok (.ireturn, 1) := by decide +kernel
theorem dX3_slid_0 : decode cX3_slid 0 = .ok (.iload_n 1, 1) := by decide +kernel
theorem dX3_slid_1 : decode cX3_slid 1 = .ok (.ifCond .ge 10, 3) := by decide +kernel
theorem dX3_slid_4 : decode cX3_slid 4 = .ok (.iload_n 0, 1) := by decide +kernel
theorem dX3_slid_5 : decode cX3_slid 5 = .ok (.iload_n 1, 1) := by decide +kernel
theorem dX3_slid_6 : decode cX3_slid 6 = .ok (.ineg, 1) := by decide +kernel
theorem dX3_slid_7 : decode cX3_slid 7 = .ok (.ishr, 1) := by decide +kernel
theorem dX3_slid_8 : decode cX3_slid 8 = .ok (.goto 9, 3) := by decide +kernel
theorem dX3_slid_11 : decode cX3_slid 11 = .ok (.iload_n 0, 1) := by decide +kernel
theorem dX3_slid_12 : decode cX3_slid 12 = .ok (.iload_n 1, 1) := by decide +kernel
theorem dX3_slid_13 : decode cX3_slid 13 = .ok (.ishl, 1) := by decide +kernel
theorem dX3_slid_14 : decode cX3_slid 14 = .ok (.ldc 22, 2) := by decide +kernel
theorem dX3_slid_16 : decode cX3_slid 16 = .ok (.iand, 1) := by decide +kernel
theorem dX3_slid_17 : decode cX3_slid 17 = .ok (.ireturn, 1) := by decide +kernel
theorem dX4_init_0 : decode cX4_init 0 = .ok (.aload_n 0, 1) := by decide +kernel
theorem dX4_init_1 : decode cX4_init 1 = .ok (.invokespecial 3, 3) := by decide +kernel
theorem dX4_init_4 : decode cX4_init 4 = .ok (.aload_n 0, 1) := by decide +kernel
theorem dX4_init_5 : decode cX4_init 5 = .ok (.bipush 17, 2) := by decide +kernel
theorem dX4_init_7 : decode cX4_init 7 = .ok (.newarray .int, 2) := by decide +kernel
theorem dX4_init_9 : decode cX4_init 9 = .ok (.putfield 9, 3) := by decide +kernel
theorem dX4_init_12 : decode cX4_init 12 = .ok (.aload_n 0, 1) := by decide +kernel
theorem dX4_init_13 : decode cX4_init 13 = .ok (.bipush 16, 2) := by decide +kernel
theorem dX4_init_15 : decode cX4_init 15 = .ok (.newarray .int, 2) := by decide +kernel
theorem dX4_init_17 : decode cX4_init 17 = .ok (.putfield 15, 3) := by decide +kernel
theorem dX4_init_20 : decode cX4_init 20 = .ok (.aload_n 0, 1) := by decide +kernel
theorem dX4_init_21 : decode cX4_init 21 = .ok (.sipush 256, 3) := by decide +kernel
theorem dX4_init_24 : decode cX4_init 24 = .ok (.newarray .int, 2) := by decide +kernel
theorem dX4_init_26 : decode cX4_init 26 = .ok (.putfield 18, 3) := by decide +kernel
theorem dX4_init_29 : decode cX4_init 29 = .ok (.aload_n 0, 1) := by decide +kernel
theorem dX4_init_30 : decode cX4_init 30 = .ok (.sipush 256, 3) := by decide +kernel
theorem dX4_init_33 : decode cX4_init 33 = .ok (.newarray .int, 2) := by decide +kernel
theorem dX4_init_35 : decode cX4_init 35 = .ok (.putfield 21, 3) := by decide +kernel
theorem dX4_init_38 : decode cX4_init 38 = .ok (.aload_n 0, 1) := by decide +kernel
theorem dX4_init_39 : decode cX4_init 39 = .ok (.sipush 256, 3) := by decide +kernel
theorem dX4_init_42 : decode cX4_init 42 = .ok (.newarray .int, 2) := by decide +kernel
theorem dX4_init_44 : decode cX4_init 44 = .ok (.putfield 24, 3) := by decide +kernel
theorem dX4_init_47 : decode cX4_init 47 = .ok (.aload_n 0, 1) := by decide +kernel
theorem dX4_init_48 : decode cX4_init 48 = .ok (.sipush 256, 3) := by decide +kernel
theorem dX4_init_51 : decode cX4_init 51 = .ok (.newarray .boolean, 2) := by decide +kernel
theorem dX4_init_53 : decode cX4_init 53 = .ok (.putfield 27, 3) := by decide +kernel
theorem dX4_init_56 : decode cX4_init 56 = .ok (.aload_n 0, 1) := by decide +kernel
theorem dX4_init_57 : decode cX4_init 57 = .ok (.sipush 256, 3) := by decide +kernel
theorem dX4_init_60 : decode cX4_init 60 = .ok (.newarray .int, 2) := by decide +kernel
theorem dX4_init_62 : decode cX4_init 62 = .ok (.putfield 31, 3) := by decide +kernel
theorem dX4_init_65 : decode cX4_init 65 = .ok (.aload_n 0, 1) := by decide +kernel
theorem dX4_init_66 : decode cX4_init 66 = .ok (.iconst 0, 1) := by decide +kernel
theorem dX4_init_67 : decode cX4_init 67 = .ok (.putfield 34, 3) := by decide +kernel
theorem dX4_init_70 : decode cX4_init 70 = .ok (.return_, 1) := by decide +kernel
set_option maxRecDepth 20000 in
theorem ggX4_read_X3_line : GoodIn wsX4_read wsX3_line := goodIn_r _ [9, 10, 81, 82, 83] (by decide +kernel) (by decide +kernel)
set_option maxRecDepth 20000 in
theorem gX4_read_X3_line : GoodIn wsX4_read (wsV RX4 38 RX3 yX3_line wsX3_line) := goodIn_app (goodIn_of _ (by decide +kernel)) ggX4_read_X3_line
set_option maxRecDepth 20000 in
theorem ggX4_read_X4_cut : GoodIn wsX4_read wsX4_cut := goodIn_r _ [15, 16, 17, 18, 14, 19, 1, 20, 21, 22, 23, 24, 73, 74, 75, 76, 77, 78, 79, 80] (by decide +kernel) (by decide +kernel)
set_option maxRecDepth 20000 in
theorem gX4_read_X4_cut : GoodIn wsX4_read (wsV RX4 45 RX4 yX4_cut wsX4_cut) := goodIn_app (goodIn_of _ (by decide +kernel)) ggX4_read_X4_cut
set_option maxRecDepth 20000 in
theorem ggX4_read_X3_cornersJoin : GoodIn wsX4_read wsX3_cornersJoin := goodIn_r _ [28, 29, 81, 82, 83] (by decide +kernel) (by decide +kernel)
set_option maxRecDepth 20000 in
theorem gX4_read_X3_cornersJoin : GoodIn wsX4_read (wsV RX4 49 RX3 yX3_cornersJoin wsX3_cornersJoin) := goodIn_app (goodIn_of _ (by decide +kernel)) ggX4_read_X3_cornersJoin
set_option maxRecDepth 20000 in
theorem ggX4_read_X4_joinToRowAbove : GoodIn wsX4_read wsX4_joinToRowAbove := goodIn_r _ [33, 2, 34, 35, 36, 14, 37, 38, 39, 40, 41, 23, 42, 43, 44, 45, 21, 46, 47, 48, 49, 22, 50, 51, 52, 53, 24, 54, 55, 56, 57, 58, 59, 60, 61, 62, 63, 64, 73, 74, 75, 76, 77, 78, 79, 80] (by decide +kernel) (by decide +kernel)
set_option maxRecDepth 20000 in
theorem gX4_read_X4_joinToRowAbove : GoodIn wsX4_read (wsV RX4 53 RX4 yX4_joinToRowAbove wsX4_joinToRowAbove) := goodIn_app (goodIn_of _ (by decide +kernel)) ggX4_read_X4_joinToRowAbove
set_option maxRecDepth 20000 in
theorem ggX4_read_X4_settle : GoodIn wsX4_read wsX4_settle := goodIn_r _ [68, 1, 24, 69, 70, 71, 14, 72, 73, 74, 75, 76, 77, 78, 79, 80] (by decide +kernel) (by decide +kernel)
set_option maxRecDepth 20000 in
theorem gX4_read_X4_settle : GoodIn wsX4_read (wsV RX4 57 RX4 yX4_settle wsX4_settle) := goodIn_app (goodIn_of _ (by decide +kernel)) ggX4_read_X4_settle
theorem dX4_read_0 : decode cX4_read 0 = .ok (.aload_n 0, 1) := by decide +kernel
theorem dX4_read_1 : decode cX4_read 1 = .ok (.iconst 0, 1) := by decide +kernel
theorem dX4_read_2 : decode cX4_read 2 = .ok (.putfield 34, 3) := by decide +kernel
theorem dX4_read_5 : decode cX4_read 5 = .ok (.iconst 0, 1) := by decide +kernel
theorem dX4_read_6 : decode cX4_read 6 = .ok (.istore_n 2, 1) := by decide +kernel
theorem dX4_read_7 : decode cX4_read 7 = .ok (.iload_n 2, 1) := by decide +kernel
theorem dX4_read_8 : decode cX4_read 8 = .ok (.bipush 16, 2) := by decide +kernel
theorem dX4_read_10 : decode cX4_read 10 = .ok (.if_icmp .ge 51, 3) := by decide +kernel
theorem dX4_read_13 : decode cX4_read 13 = .ok (.aload_n 0, 1) := by decide +kernel
theorem dX4_read_14 : decode cX4_read 14 = .ok (.getfield 9, 3) := by decide +kernel
theorem dX4_read_17 : decode cX4_read 17 = .ok (.iload_n 2, 1) := by decide +kernel
theorem dX4_read_18 : decode cX4_read 18 = .ok (.aload_n 0, 1) := by decide +kernel
theorem dX4_read_19 : decode cX4_read 19 = .ok (.getfield 34, 3) := by decide +kernel
theorem dX4_read_22 : decode cX4_read 22 = .ok (.iastore, 1) := by decide +kernel
theorem dX4_read_23 : decode cX4_read 23 = .ok (.aload_n 0, 1) := by decide +kernel
theorem dX4_read_24 : decode cX4_read 24 = .ok (.getfield 15, 3) := by decide +kernel
theorem dX4_read_27 : decode cX4_read 27 = .ok (.iload_n 2, 1) := by decide +kernel
theorem dX4_read_28 : decode cX4_read 28 = .ok (.aload_n 1, 1) := by decide +kernel
theorem dX4_read_29 : decode cX4_read 29 = .ok (.iload_n 2, 1) := by decide +kernel
theorem dX4_read_30 : decode cX4_read 30 = .ok (.invokevirtual 38, 3) := by decide +kernel
theorem dX4_read_33 : decode cX4_read 33 = .ok (.aload_n 1, 1) := by decide +kernel
theorem dX4_read_34 : decode cX4_read 34 = .ok (.iload_n 2, 1) := by decide +kernel
theorem dX4_read_35 : decode cX4_read 35 = .ok (.invokevirtual 38, 3) := by decide +kernel
theorem dX4_read_38 : decode cX4_read 38 = .ok (.iconst 1, 1) := by decide +kernel
theorem dX4_read_39 : decode cX4_read 39 = .ok (.ishl, 1) := by decide +kernel
theorem dX4_read_40 : decode cX4_read 40 = .ok (.ixor, 1) := by decide +kernel
theorem dX4_read_41 : decode cX4_read 41 = .ok (.ldc 44, 2) := by decide +kernel
theorem dX4_read_43 : decode cX4_read 43 = .ok (.iand, 1) := by decide +kernel
theorem dX4_read_44 : decode cX4_read 44 = .ok (.iastore, 1) := by decide +kernel
theorem dX4_read_45 : decode cX4_read 45 = .ok (.aload_n 0, 1) := by decide +kernel
theorem dX4_read_46 : decode cX4_read 46 = .ok (.iload_n 2, 1) := by decide +kernel
theorem dX4_read_47 : decode cX4_read 47 = .ok (.aload_n 1, 1) := by decide +kernel
theorem dX4_read_48 : decode cX4_read 48 = .ok (.iload_n 2, 1) := by decide +kernel
theorem dX4_read_49 : decode cX4_read 49 = .ok (.invokevirtual 38, 3) := by decide +kernel
theorem dX4_read_52 : decode cX4_read 52 = .ok (.invokevirtual 45, 3) := by decide +kernel
theorem dX4_read_55 : decode cX4_read 55 = .ok (.iinc 2 1, 3) := by decide +kernel
theorem dX4_read_58 : decode cX4_read 58 = .ok (.goto (-51), 3) := by decide +kernel
theorem dX4_read_61 : decode cX4_read 61 = .ok (.aload_n 0, 1) := by decide +kernel
theorem dX4_read_62 : decode cX4_read 62 = .ok (.getfield 9, 3) := by decide +kernel
theorem dX4_read_65 : decode cX4_read 65 = .ok (.bipush 16, 2) := by decide +kernel
theorem dX4_read_67 : decode cX4_read 67 = .ok (.aload_n 0, 1) := by decide +kernel
theorem dX4_read_68 : decode cX4_read 68 = .ok (.getfield 34, 3) := by decide +kernel
theorem dX4_read_71 : decode cX4_read 71 = .ok (.iastore, 1) := by decide +kernel
theorem dX4_read_72 : decode cX4_read 72 = .ok (.aload_n 1, 1) := by decide +kernel
theorem dX4_read_73 : decode cX4_read 73 = .ok (.invokevirtual 49, 3) := by decide +kernel
theorem dX4_read_76 : decode cX4_read 76 = .ok (.ifCond .eq 7, 3) := by decide +kernel
theorem dX4_read_79 : decode cX4_read 79 = .ok (.iconst 1, 1) := by decide +kernel
theorem dX4_read_80 : decode cX4_read 80 = .ok (.goto 4, 3) := by decide +kernel
theorem dX4_read_83 : decode cX4_read 83 = .ok (.iconst 0, 1) := by decide +kernel
theorem dX4_read_84 : decode cX4_read 84 = .ok (.istore_n 2, 1) := by decide +kernel
theorem dX4_read_85 : decode cX4_read 85 = .ok (.iconst 1, 1) := by decide +kernel
theorem dX4_read_86 : decode cX4_read 86 = .ok (.istore_n 3, 1) := by decide +kernel
theorem dX4_read_87 : decode cX4_read 87 = .ok (.iload_n 3, 1) := by decide +kernel
theorem dX4_read_88 : decode cX4_read 88 = .ok (.bipush 16, 2) := by decide +kernel
theorem dX4_read_90 : decode cX4_read 90 = .ok (.if_icmp .ge 25, 3) := by decide +kernel
theorem dX4_read_93 : decode cX4_read 93 = .ok (.aload_n 0, 1) := by decide +kernel
theorem dX4_read_94 : decode cX4_read 94 = .ok (.iload_n 3, 1) := by decide +kernel
theorem dX4_read_95 : decode cX4_read 95 = .ok (.iconst 1, 1) := by decide +kernel
theorem dX4_read_96 : decode cX4_read 96 = .ok (.iload_n 2, 1) := by decide +kernel
theorem dX4_read_97 : decode cX4_read 97 = .ok (.invokevirtual 53, 3) := by decide +kernel
theorem dX4_read_100 : decode cX4_read 100 = .ok (.aload_n 0, 1) := by decide +kernel
theorem dX4_read_101 : decode cX4_read 101 = .ok (.iload_n 3, 1) := by decide +kernel
theorem dX4_read_102 : decode cX4_read 102 = .ok (.iconst 0, 1) := by decide +kernel
theorem dX4_read_103 : decode cX4_read 103 = .ok (.iconst 1, 1) := by decide +kernel
theorem dX4_read_104 : decode cX4_read 104 = .ok (.iload_n 2, 1) := by decide +kernel
theorem dX4_read_105 : decode cX4_read 105 = .ok (.isub, 1) := by decide +kernel
theorem dX4_read_106 : decode cX4_read 106 = .ok (.invokevirtual 53, 3) := by decide +kernel
theorem dX4_read_109 : decode cX4_read 109 = .ok (.iinc 3 1, 3) := by decide +kernel
theorem dX4_read_112 : decode cX4_read 112 = .ok (.goto (-25), 3) := by decide +kernel
theorem dX4_read_115 : decode cX4_read 115 = .ok (.aload_n 0, 1) := by decide +kernel
theorem dX4_read_116 : decode cX4_read 116 = .ok (.invokevirtual 57, 3) := by decide +kernel
theorem dX4_read_119 : decode cX4_read 119 = .ok (.return_, 1) := by decide +kernel
theorem dX4_darkGroups_0 : decode cX4_darkGroups 0 = .ok (.iconst 0, 1) := by decide +kernel
theorem dX4_darkGroups_1 : decode cX4_darkGroups 1 = .ok (.istore_n 1, 1) := by decide +kernel
theorem dX4_darkGroups_2 : decode cX4_darkGroups 2 = .ok (.iconst 0, 1) := by decide +kernel
theorem dX4_darkGroups_3 : decode cX4_darkGroups 3 = .ok (.istore_n 2, 1) := by decide +kernel
theorem dX4_darkGroups_4 : decode cX4_darkGroups 4 = .ok (.iload_n 2, 1) := by decide +kernel
theorem dX4_darkGroups_5 : decode cX4_darkGroups 5 = .ok (.aload_n 0, 1) := by decide +kernel
theorem dX4_darkGroups_6 : decode cX4_darkGroups 6 = .ok (.getfield 34, 3) := by decide +kernel
theorem dX4_darkGroups_9 : decode cX4_darkGroups 9 = .ok (.if_icmp .ge 43, 3) := by decide +kernel
theorem dX4_darkGroups_12 : decode cX4_darkGroups 12 = .ok (.iload_n 2, 1) := by decide +kernel
theorem dX4_darkGroups_13 : decode cX4_darkGroups 13 = .ok (.sipush 256, 3) := by decide +kernel
theorem dX4_darkGroups_16 : decode cX4_darkGroups 16 = .ok (.if_icmp .ge 36, 3) := by decide +kernel
theorem dX4_darkGroups_19 : decode cX4_darkGroups 19 = .ok (.iload_n 1, 1) := by decide +kernel
theorem dX4_darkGroups_20 : decode cX4_darkGroups 20 = .ok (.aload_n 0, 1) := by decide +kernel
theorem dX4_darkGroups_21 : decode cX4_darkGroups 21 = .ok (.getfield 27, 3) := by decide +kernel
theorem dX4_darkGroups_24 : decode cX4_darkGroups 24 = .ok (.iload_n 2, 1) := by decide +kernel
theorem dX4_darkGroups_25 : decode cX4_darkGroups 25 = .ok (.baload, 1) := by decide +kernel
theorem dX4_darkGroups_26 : decode cX4_darkGroups 26 = .ok (.ifCond .eq 17, 3) := by decide +kernel
theorem dX4_darkGroups_29 : decode cX4_darkGroups 29 = .ok (.aload_n 0, 1) := by decide +kernel
theorem dX4_darkGroups_30 : decode cX4_darkGroups 30 = .ok (.getfield 31, 3) := by decide +kernel
theorem dX4_darkGroups_33 : decode cX4_darkGroups 33 = .ok (.iload_n 2, 1) := by decide +kernel
theorem dX4_darkGroups_34 : decode cX4_darkGroups 34 = .ok (.iaload, 1) := by decide +kernel
theorem dX4_darkGroups_35 : decode cX4_darkGroups 35 = .ok (.iload_n 2, 1) := by decide +kernel
theorem dX4_darkGroups_36 : decode cX4_darkGroups 36 = .ok (.if_icmp .ne 7, 3) := by decide +kernel
theorem dX4_darkGroups_39 : decode cX4_darkGroups 39 = .ok (.iconst 1, 1) := by decide +kernel
theorem dX4_darkGroups_40 : decode cX4_darkGroups 40 = .ok (.goto 4, 3) := by decide +kernel
theorem dX4_darkGroups_43 : decode cX4_darkGroups 43 = .ok (.iconst 0, 1) := by decide +kernel
theorem dX4_darkGroups_44 : decode cX4_darkGroups 44 = .ok (.iadd, 1) := by decide +kernel
theorem dX4_darkGroups_45 : decode cX4_darkGroups 45 = .ok (.istore_n 1, 1) := by decide +kernel
theorem dX4_darkGroups_46 : decode cX4_darkGroups 46 = .ok (.iinc 2 1, 3) := by decide +kernel
theorem dX4_darkGroups_49 : decode cX4_darkGroups 49 = .ok (.goto (-45), 3) := by decide +kernel
theorem dX4_darkGroups_52 : decode cX4_darkGroups 52 = .ok (.iload_n 1, 1) := by decide +kernel
theorem dX4_darkGroups_53 : decode cX4_darkGroups 53 = .ok (.ireturn, 1) := by decide +kernel
theorem dX4_isDark_0 : decode cX4_isDark 0 = .ok (.aload_n 0, 1) := by decide +kernel
theorem dX4_isDark_1 : decode cX4_isDark 1 = .ok (.getfield 27, 3) := by decide +kernel
theorem dX4_isDark_4 : decode cX4_isDark 4 = .ok (.iload_n 1, 1) := by decide +kernel
theorem dX4_isDark_5 : decode cX4_isDark 5 = .ok (.sipush 255, 3) := by decide +kernel
theorem dX4_isDark_8 : decode cX4_isDark 8 = .ok (.iand, 1) := by decide +kernel
theorem dX4_isDark_9 : decode cX4_isDark 9 = .ok (.baload, 1) := by decide +kernel
theorem dX4_isDark_10 : decode cX4_isDark 10 = .ok (.ireturn, 1) := by decide +kernel
theorem dX4_groupOf_0 : decode cX4_groupOf 0 = .ok (.aload_n 0, 1) := by decide +kernel
theorem dX4_groupOf_1 : decode cX4_groupOf 1 = .ok (.getfield 31, 3) := by decide +kernel
theorem dX4_groupOf_4 : decode cX4_groupOf 4 = .ok (.iload_n 1, 1) := by decide +kernel
theorem dX4_groupOf_5 : decode cX4_groupOf 5 = .ok (.sipush 255, 3) := by decide +kernel
theorem dX4_groupOf_8 : decode cX4_groupOf 8 = .ok (.iand, 1) := by decide +kernel
theorem dX4_groupOf_9 : decode cX4_groupOf 9 = .ok (.iaload, 1) := by decide +kernel
theorem dX4_groupOf_10 : decode cX4_groupOf 10 = .ok (.ireturn, 1) := by decide +kernel
theorem dX4_lineOf_0 : decode cX4_lineOf 0 = .ok (.aload_n 0, 1) := by decide +kernel
theorem dX4_lineOf_1 : decode cX4_lineOf 1 = .ok (.getfield 24, 3) := by decide +kernel
theorem dX4_lineOf_4 : decode cX4_lineOf 4 = .ok (.iload_n 1, 1) := by decide +kernel
theorem dX4_lineOf_5 : decode cX4_lineOf 5 = .ok (.sipush 255, 3) := by decide +kernel
theorem dX4_lineOf_8 : decode cX4_lineOf 8 = .ok (.iand, 1) := by decide +kernel
theorem dX4_lineOf_9 : decode cX4_lineOf 9 = .ok (.iaload, 1) := by decide +kernel
theorem dX4_lineOf_10 : decode cX4_lineOf 10 = .ok (.ireturn, 1) := by decide +kernel
theorem dX4_start_0 : decode cX4_start 0 = .ok (.aload_n 0, 1) := by decide +kernel
theorem dX4_start_1 : decode cX4_start 1 = .ok (.getfield 18, 3) := by decide +kernel
theorem dX4_start_4 : decode cX4_start 4 = .ok (.iload_n 1, 1) := by decide +kernel
theorem dX4_start_5 : decode cX4_start 5 = .ok (.sipush 255, 3) := by decide +kernel
theorem dX4_start_8 : decode cX4_start 8 = .ok (.iand, 1) := by decide +kernel
theorem dX4_start_9 : decode cX4_start 9 = .ok (.iaload, 1) := by decide +kernel
theorem dX4_start_10 : decode cX4_start 10 = .ok (.ireturn, 1) := by decide +kernel
theorem dX4_end_0 : decode cX4_end 0 = .ok (.aload_n 0, 1) := by decide +kernel
theorem dX4_end_1 : decode cX4_end 1 = .ok (.getfield 21, 3) := by decide +kernel
theorem dX4_end_4 : decode cX4_end 4 = .ok (.iload_n 1, 1) := by decide +kernel
theorem dX4_end_5 : decode cX4_end 5 = .ok (.sipush 255, 3) := by decide +kernel
theorem dX4_end_8 : decode cX4_end 8 = .ok (.iand, 1) := by decide +kernel
theorem dX4_end_9 : decode cX4_end 9 = .ok (.iaload, 1) := by decide +kernel
theorem dX4_end_10 : decode cX4_end 10 = .ok (.ireturn, 1) := by decide +kernel
set_option maxRecDepth 20000 in
theorem ggX4_length_X4_end : GoodIn wsX4_length wsX4_end := goodIn_r _ [5, 6, 12, 13, 14, 15, 16, 17, 18, 19] (by decide +kernel) (by decide +kernel)
set_option maxRecDepth 20000 in
theorem gX4_length_X4_end : GoodIn wsX4_length (wsV RX4 60 RX4 yX4_end wsX4_end) := goodIn_app (goodIn_of _ (by decide +kernel)) ggX4_length_X4_end
set_option maxRecDepth 20000 in
theorem ggX4_length_X4_start : GoodIn wsX4_length wsX4_start := goodIn_r _ [10, 11, 12, 13, 14, 15, 16, 17, 18, 19] (by decide +kernel) (by decide +kernel)
set_option maxRecDepth 20000 in
theorem gX4_length_X4_start : GoodIn wsX4_length (wsV RX4 63 RX4 yX4_start wsX4_start) := goodIn_app (goodIn_of _ (by decide +kernel)) ggX4_length_X4_start
theorem dX4_length_0 : decode cX4_length 0 = .ok (.aload_n 0, 1) := by decide +kernel
theorem dX4_length_1 : decode cX4_length 1 = .ok (.iload_n 1, 1) := by decide +kernel
theorem dX4_length_2 : decode cX4_length 2 = .ok (.invokevirtual 60, 3) := by decide +kernel
theorem dX4_length_5 : decode cX4_length 5 = .ok (.aload_n 0, 1) := by decide +kernel
theorem dX4_length_6 : decode cX4_length 6 = .ok (.iload_n 1, 1) := by decide +kernel
theorem dX4_length_7 : decode cX4_length 7 = .ok (.invokevirtual 63, 3) := by decide +kernel
theorem dX4_length_10 : decode cX4_length 10 = .ok (.isub, 1) := by decide +kernel
theorem dX4_length_11 : decode cX4_length 11 = .ok (.iconst 1, 1) := by decide +kernel
theorem dX4_length_12 : decode cX4_length 12 = .ok (.iadd, 1) := by decide +kernel
theorem dX4_length_13 : decode cX4_length 13 = .ok (.ireturn, 1) := by decide +kernel
set_option maxRecDepth 20000 in
theorem ggX4_columns_X4_end : GoodIn wsX4_columns wsX4_end := goodIn_r _ [5, 6, 12, 13, 14, 15, 16, 17, 18, 19] (by decide +kernel) (by decide +kernel)
set_option maxRecDepth 20000 in
theorem gX4_columns_X4_end : GoodIn wsX4_columns (wsV RX4 60 RX4 yX4_end wsX4_end) := goodIn_app (goodIn_of _ (by decide +kernel)) ggX4_columns_X4_end
set_option maxRecDepth 20000 in
theorem ggX4_columns_X4_start : GoodIn wsX4_columns wsX4_start := goodIn_r _ [10, 11, 12, 13, 14, 15, 16, 17, 18, 19] (by decide +kernel) (by decide +kernel)
set_option maxRecDepth 20000 in
theorem gX4_columns_X4_start : GoodIn wsX4_columns (wsV RX4 63 RX4 yX4_start wsX4_start) := goodIn_app (goodIn_of _ (by decide +kernel)) ggX4_columns_X4_start
theorem dX4_columns_0 : decode cX4_columns 0 = .ok (.iconst 2, 1) := by decide +kernel
theorem dX4_columns_1 : decode cX4_columns 1 = .ok (.aload_n 0, 1) := by decide +kernel
theorem dX4_columns_2 : decode cX4_columns 2 = .ok (.iload_n 1, 1) := by decide +kernel
theorem dX4_columns_3 : decode cX4_columns 3 = .ok (.invokevirtual 60, 3) := by decide +kernel
theorem dX4_columns_6 : decode cX4_columns 6 = .ok (.ishl, 1) := by decide +kernel
theorem dX4_columns_7 : decode cX4_columns 7 = .ok (.iconst 1, 1) := by decide +kernel
theorem dX4_columns_8 : decode cX4_columns 8 = .ok (.aload_n 0, 1) := by decide +kernel
theorem dX4_columns_9 : decode cX4_columns 9 = .ok (.iload_n 1, 1) := by decide +kernel
theorem dX4_columns_10 : decode cX4_columns 10 = .ok (.invokevirtual 63, 3) := by decide +kernel
theorem dX4_columns_13 : decode cX4_columns 13 = .ok (.ishl, 1) := by decide +kernel
theorem dX4_columns_14 : decode cX4_columns 14 = .ok (.isub, 1) := by decide +kernel
theorem dX4_columns_15 : decode cX4_columns 15 = .ok (.ireturn, 1) := by decide +kernel
set_option maxRecDepth 20000 in
theorem ggX4_runAt_J6_bitCount_0f7a4 : GoodIn wsX4_runAt wsJ6_bitCount_0f7a4 := goodIn_r _ [6, 7, 8, 9] (by decide +kernel) (by decide +kernel)
set_option maxRecDepth 20000 in
theorem gX4_runAt_J6_bitCount_0f7a4 : GoodIn wsX4_runAt (va_wsS RX4 66 yJ6_bitCount_0f7a4 wsJ6_bitCount_0f7a4) := goodIn_app (goodIn_of _ (by decide +kernel)) ggX4_runAt_J6_bitCount_0f7a4
theorem dX4_runAt_0 : decode cX4_runAt 0 = .ok (.aload_n 0, 1) := by decide +kernel
theorem dX4_runAt_1 : decode cX4_runAt 1 = .ok (.getfield 9, 3) := by decide +kernel
theorem dX4_runAt_4 : decode cX4_runAt 4 = .ok (.iload_n 1, 1) := by decide +kernel
theorem dX4_runAt_5 : decode cX4_runAt 5 = .ok (.bipush 15, 2) := by decide +kernel
theorem dX4_runAt_7 : decode cX4_runAt 7 = .ok (.iand, 1) := by decide +kernel
theorem dX4_runAt_8 : decode cX4_runAt 8 = .ok (.iaload, 1) := by decide +kernel
theorem dX4_runAt_9 : decode cX4_runAt 9 = .ok (.aload_n 0, 1) := by decide +kernel
theorem dX4_runAt_10 : decode cX4_runAt 10 = .ok (.getfield 15, 3) := by decide +kernel
theorem dX4_runAt_13 : decode cX4_runAt 13 = .ok (.iload_n 1, 1) := by decide +kernel
theorem dX4_runAt_14 : decode cX4_runAt 14 = .ok (.bipush 15, 2) := by decide +kernel
theorem dX4_runAt_16 : decode cX4_runAt 16 = .ok (.iand, 1) := by decide +kernel
theorem dX4_runAt_17 : decode cX4_runAt 17 = .ok (.iaload, 1) := by decide +kernel
theorem dX4_runAt_18 : decode cX4_runAt 18 = .ok (.iconst 2, 1) := by decide +kernel
theorem dX4_runAt_19 : decode cX4_runAt 19 = .ok (.iload_n 2, 1) := by decide +kernel
theorem dX4_runAt_20 : decode cX4_runAt 20 = .ok (.ishl, 1) := by decide +kernel
theorem dX4_runAt_21 : decode cX4_runAt 21 = .ok (.iconst 1, 1) := by decide +kernel
theorem dX4_runAt_22 : decode cX4_runAt 22 = .ok (.isub, 1) := by decide +kernel
theorem dX4_runAt_23 : decode cX4_runAt 23 = .ok (.iand, 1) := by decide +kernel
theorem dX4_runAt_24 : decode cX4_runAt 24 = .ok (.invokestatic 66, 3) := by decide +kernel
theorem dX4_runAt_27 : decode cX4_runAt 27 = .ok (.iadd, 1) := by decide +kernel
theorem dX4_runAt_28 : decode cX4_runAt 28 = .ok (.ireturn, 1) := by decide +kernel
set_option maxRecDepth 20000 in
theorem ggX4_cut_X4_add : GoodIn wsX4_cut wsX4_add := goodIn_r _ [5, 6, 7, 8, 9, 10, 11, 12, 13, 14, 15, 16, 17, 18, 19] (by decide +kernel) (by decide +kernel)
set_option maxRecDepth 20000 in
theorem gX4_cut_X4_add : GoodIn wsX4_cut (wsV RX4 71 RX4 yX4_add wsX4_add) := goodIn_app (goodIn_of _ (by decide +kernel)) ggX4_cut_X4_add
theorem dX4_cut_0 : decode cX4_cut 0 = .ok (.iconst 0, 1) := by decide +kernel
theorem dX4_cut_1 : decode cX4_cut 1 = .ok (.istore_n 3, 1) := by decide +kernel
theorem dX4_cut_2 : decode cX4_cut 2 = .ok (.iconst 1, 1) := by decide +kernel
theorem dX4_cut_3 : decode cX4_cut 3 = .ok (.istore 4, 2) := by decide +kernel
end
section
theorem dX4_cut_5 : decode cX4_cut 5 = .ok (.iload 4, 2) := by decide +kernel
theorem dX4_cut_7 : decode cX4_cut 7 = .ok (.bipush 16, 2) := by decide +kernel
theorem dX4_cut_9 : decode cX4_cut 9 = .ok (.if_icmp .gt 57, 3) := by decide +kernel
theorem dX4_cut_12 : decode cX4_cut 12 = .ok (.iload 4, 2) := by decide +kernel
theorem dX4_cut_14 : decode cX4_cut 14 = .ok (.bipush 16, 2) := by decide +kernel
theorem dX4_cut_16 : decode cX4_cut 16 = .ok (.if_icmp .eq 17, 3) := by decide +kernel
theorem dX4_cut_19 : decode cX4_cut 19 = .ok (.iload_n 2, 1) := by decide +kernel
theorem dX4_cut_20 : decode cX4_cut 20 = .ok (.iload 4, 2) := by decide +kernel
theorem dX4_cut_22 : decode cX4_cut 22 = .ok (.ishr, 1) := by decide +kernel
theorem dX4_cut_23 : decode cX4_cut 23 = .ok (.iconst 1, 1) := by decide +kernel
theorem dX4_cut_24 : decode cX4_cut 24 = .ok (.iand, 1) := by decide +kernel
theorem dX4_cut_25 : decode cX4_cut 25 = .ok (.iload_n 2, 1) := by decide +kernel
theorem dX4_cut_26 : decode cX4_cut 26 = .ok (.iload_n 3, 1) := by decide +kernel
theorem dX4_cut_27 : decode cX4_cut 27 = .ok (.ishr, 1) := by decide +kernel
theorem dX4_cut_28 : decode cX4_cut 28 = .ok (.iconst 1, 1) := by decide +kernel
theorem dX4_cut_29 : decode cX4_cut 29 = .ok (.iand, 1) := by decide +kernel
theorem dX4_cut_30 : decode cX4_cut 30 = .ok (.if_icmp .eq 30, 3) := by decide +kernel
theorem dX4_cut_33 : decode cX4_cut 33 = .ok (.aload_n 0, 1) := by decide +kernel
theorem dX4_cut_34 : decode cX4_cut 34 = .ok (.iload_n 1, 1) := by decide +kernel
theorem dX4_cut_35 : decode cX4_cut 35 = .ok (.iload_n 3, 1) := by decide +kernel
theorem dX4_cut_36 : decode cX4_cut 36 = .ok (.iload 4, 2) := by decide +kernel
theorem dX4_cut_38 : decode cX4_cut 38 = .ok (.iconst 1, 1) := by decide +kernel
theorem dX4_cut_39 : decode cX4_cut 39 = .ok (.isub, 1) := by decide +kernel
theorem dX4_cut_40 : decode cX4_cut 40 = .ok (.iload_n 2, 1) := by decide +kernel
theorem dX4_cut_41 : decode cX4_cut 41 = .ok (.iload_n 3, 1) := by decide +kernel
theorem dX4_cut_42 : decode cX4_cut 42 = .ok (.ishr, 1) := by decide +kernel
theorem dX4_cut_43 : decode cX4_cut 43 = .ok (.iconst 1, 1) := by decide +kernel
theorem dX4_cut_44 : decode cX4_cut 44 = .ok (.iand, 1) := by decide +kernel
theorem dX4_cut_45 : decode cX4_cut 45 = .ok (.iconst 1, 1) := by decide +kernel
theorem dX4_cut_46 : decode cX4_cut 46 = .ok (.if_icmp .ne 7, 3) := by decide +kernel
theorem dX4_cut_49 : decode cX4_cut 49 = .ok (.iconst 1, 1) := by decide +kernel
theorem dX4_cut_50 : decode cX4_cut 50 = .ok (.goto 4, 3) := by decide +kernel
theorem dX4_cut_53 : decode cX4_cut 53 = .ok (.iconst 0, 1) := by decide +kernel
theorem dX4_cut_54 : decode cX4_cut 54 = .ok (.invokevirtual 71, 3) := by decide +kernel
theorem dX4_cut_57 : decode cX4_cut 57 = .ok (.iload 4, 2) := by decide +kernel
theorem dX4_cut_59 : decode cX4_cut 59 = .ok (.istore_n 3, 1) := by decide +kernel
theorem dX4_cut_60 : decode cX4_cut 60 = .ok (.iinc 4 1, 3) := by decide +kernel
theorem dX4_cut_63 : decode cX4_cut 63 = .ok (.goto (-58), 3) := by decide +kernel
theorem dX4_cut_66 : decode cX4_cut 66 = .ok (.return_, 1) := by decide +kernel
theorem dX4_add_0 : decode cX4_add 0 = .ok (.aload_n 0, 1) := by decide +kernel
theorem dX4_add_1 : decode cX4_add 1 = .ok (.getfield 34, 3) := by decide +kernel
theorem dX4_add_4 : decode cX4_add 4 = .ok (.sipush 255, 3) := by decide +kernel
theorem dX4_add_7 : decode cX4_add 7 = .ok (.iand, 1) := by decide +kernel
theorem dX4_add_8 : decode cX4_add 8 = .ok (.istore 5, 2) := by decide +kernel
theorem dX4_add_10 : decode cX4_add 10 = .ok (.aload_n 0, 1) := by decide +kernel
theorem dX4_add_11 : decode cX4_add 11 = .ok (.getfield 24, 3) := by decide +kernel
theorem dX4_add_14 : decode cX4_add 14 = .ok (.iload 5, 2) := by decide +kernel
theorem dX4_add_16 : decode cX4_add 16 = .ok (.iload_n 1, 1) := by decide +kernel
theorem dX4_add_17 : decode cX4_add 17 = .ok (.iastore, 1) := by decide +kernel
theorem dX4_add_18 : decode cX4_add 18 = .ok (.aload_n 0, 1) := by decide +kernel
theorem dX4_add_19 : decode cX4_add 19 = .ok (.getfield 18, 3) := by decide +kernel
theorem dX4_add_22 : decode cX4_add 22 = .ok (.iload 5, 2) := by decide +kernel
theorem dX4_add_24 : decode cX4_add 24 = .ok (.iload_n 2, 1) := by decide +kernel
theorem dX4_add_25 : decode cX4_add 25 = .ok (.iastore, 1) := by decide +kernel
theorem dX4_add_26 : decode cX4_add 26 = .ok (.aload_n 0, 1) := by decide +kernel
theorem dX4_add_27 : decode cX4_add 27 = .ok (.getfield 21, 3) := by decide +kernel
theorem dX4_add_30 : decode cX4_add 30 = .ok (.iload 5, 2) := by decide +kernel
theorem dX4_add_32 : decode cX4_add 32 = .ok (.iload_n 3, 1) := by decide +kernel
theorem dX4_add_33 : decode cX4_add 33 = .ok (.iastore, 1) := by decide +kernel
theorem dX4_add_34 : decode cX4_add 34 = .ok (.aload_n 0, 1) := by decide +kernel
theorem dX4_add_35 : decode cX4_add 35 = .ok (.getfield 27, 3) := by decide +kernel
theorem dX4_add_38 : decode cX4_add 38 = .ok (.iload 5, 2) := by decide +kernel
theorem dX4_add_40 : decode cX4_add 40 = .ok (.iload 4, 2) := by decide +kernel
theorem dX4_add_42 : decode cX4_add 42 = .ok (.bastore, 1) := by decide +kernel
theorem dX4_add_43 : decode cX4_add 43 = .ok (.aload_n 0, 1) := by decide +kernel
theorem dX4_add_44 : decode cX4_add 44 = .ok (.getfield 31, 3) := by decide +kernel
theorem dX4_add_47 : decode cX4_add 47 = .ok (.iload 5, 2) := by decide +kernel
theorem dX4_add_49 : decode cX4_add 49 = .ok (.iload 5, 2) := by decide +kernel
theorem dX4_add_51 : decode cX4_add 51 = .ok (.iastore, 1) := by decide +kernel
theorem dX4_add_52 : decode cX4_add 52 = .ok (.aload_n 0, 1) := by decide +kernel
theorem dX4_add_53 : decode cX4_add 53 = .ok (.dup, 1) := by decide +kernel
theorem dX4_add_54 : decode cX4_add 54 = .ok (.getfield 34, 3) := by decide +kernel
theorem dX4_add_57 : decode cX4_add 57 = .ok (.iconst 1, 1) := by decide +kernel
theorem dX4_add_58 : decode cX4_add 58 = .ok (.iadd, 1) := by decide +kernel
theorem dX4_add_59 : decode cX4_add 59 = .ok (.putfield 34, 3) := by decide +kernel
theorem dX4_add_62 : decode cX4_add 62 = .ok (.return_, 1) := by decide +kernel
set_option maxRecDepth 20000 in
theorem ggX4_joinToRowAbove_X4_firstOfColour : GoodIn wsX4_joinToRowAbove wsX4_firstOfColour := goodIn_r _ [6, 1, 7, 8, 9, 5, 10, 11, 38, 39, 40, 41, 42, 43, 44, 45] (by decide +kernel) (by decide +kernel)
set_option maxRecDepth 20000 in
theorem gX4_joinToRowAbove_X4_firstOfColour : GoodIn wsX4_joinToRowAbove (wsV RX4 75 RX4 yX4_firstOfColour wsX4_firstOfColour) := goodIn_app (goodIn_of _ (by decide +kernel)) ggX4_joinToRowAbove_X4_firstOfColour
set_option maxRecDepth 20000 in
theorem ggX4_joinToRowAbove_X4_start : GoodIn wsX4_joinToRowAbove wsX4_start := goodIn_r _ [15, 16, 38, 39, 40, 41, 42, 43, 44, 45] (by decide +kernel) (by decide +kernel)
set_option maxRecDepth 20000 in
theorem gX4_joinToRowAbove_X4_start : GoodIn wsX4_joinToRowAbove (wsV RX4 63 RX4 yX4_start wsX4_start) := goodIn_app (goodIn_of _ (by decide +kernel)) ggX4_joinToRowAbove_X4_start
set_option maxRecDepth 20000 in
theorem ggX4_joinToRowAbove_X4_end : GoodIn wsX4_joinToRowAbove wsX4_end := goodIn_r _ [20, 21, 38, 39, 40, 41, 42, 43, 44, 45] (by decide +kernel) (by decide +kernel)
set_option maxRecDepth 20000 in
theorem gX4_joinToRowAbove_X4_end : GoodIn wsX4_joinToRowAbove (wsV RX4 60 RX4 yX4_end wsX4_end) := goodIn_app (goodIn_of _ (by decide +kernel)) ggX4_joinToRowAbove_X4_end
set_option maxRecDepth 20000 in
theorem ggX4_joinToRowAbove_X4_join : GoodIn wsX4_joinToRowAbove wsX4_join := goodIn_r _ [25, 26, 27, 28, 29, 30, 31, 32, 33, 34, 35, 36, 5, 37, 38, 39, 40, 41, 42, 43, 44, 45] (by decide +kernel) (by decide +kernel)
set_option maxRecDepth 20000 in
theorem gX4_joinToRowAbove_X4_join : GoodIn wsX4_joinToRowAbove (wsV RX4 79 RX4 yX4_join wsX4_join) := goodIn_app (goodIn_of _ (by decide +kernel)) ggX4_joinToRowAbove_X4_join
theorem dX4_joinToRowAbove_0 : decode cX4_joinToRowAbove 0 = .ok (.aload_n 0, 1) := by decide +kernel
theorem dX4_joinToRowAbove_1 : decode cX4_joinToRowAbove 1 = .ok (.iload_n 1, 1) := by decide +kernel
theorem dX4_joinToRowAbove_2 : decode cX4_joinToRowAbove 2 = .ok (.iconst 1, 1) := by decide +kernel
theorem dX4_joinToRowAbove_3 : decode cX4_joinToRowAbove 3 = .ok (.isub, 1) := by decide +kernel
theorem dX4_joinToRowAbove_4 : decode cX4_joinToRowAbove 4 = .ok (.iload_n 2, 1) := by decide +kernel
theorem dX4_joinToRowAbove_5 : decode cX4_joinToRowAbove 5 = .ok (.invokevirtual 75, 3) := by decide +kernel
theorem dX4_joinToRowAbove_8 : decode cX4_joinToRowAbove 8 = .ok (.istore 4, 2) := by decide +kernel
theorem dX4_joinToRowAbove_10 : decode cX4_joinToRowAbove 10 = .ok (.aload_n 0, 1) := by decide +kernel
theorem dX4_joinToRowAbove_11 : decode cX4_joinToRowAbove 11 = .ok (.iload_n 1, 1) := by decide +kernel
theorem dX4_joinToRowAbove_12 : decode cX4_joinToRowAbove 12 = .ok (.iload_n 2, 1) := by decide +kernel
theorem dX4_joinToRowAbove_13 : decode cX4_joinToRowAbove 13 = .ok (.invokevirtual 75, 3) := by decide +kernel
theorem dX4_joinToRowAbove_16 : decode cX4_joinToRowAbove 16 = .ok (.istore 5, 2) := by decide +kernel
theorem dX4_joinToRowAbove_18 : decode cX4_joinToRowAbove 18 = .ok (.aload_n 0, 1) := by decide +kernel
theorem dX4_joinToRowAbove_19 : decode cX4_joinToRowAbove 19 = .ok (.getfield 9, 3) := by decide +kernel
theorem dX4_joinToRowAbove_22 : decode cX4_joinToRowAbove 22 = .ok (.iload_n 1, 1) := by decide +kernel
theorem dX4_joinToRowAbove_23 : decode cX4_joinToRowAbove 23 = .ok (.bipush 15, 2) := by decide +kernel
theorem dX4_joinToRowAbove_25 : decode cX4_joinToRowAbove 25 = .ok (.iand, 1) := by decide +kernel
theorem dX4_joinToRowAbove_26 : decode cX4_joinToRowAbove 26 = .ok (.iaload, 1) := by decide +kernel
theorem dX4_joinToRowAbove_27 : decode cX4_joinToRowAbove 27 = .ok (.istore 6, 2) := by decide +kernel
theorem dX4_joinToRowAbove_29 : decode cX4_joinToRowAbove 29 = .ok (.aload_n 0, 1) := by decide +kernel
theorem dX4_joinToRowAbove_30 : decode cX4_joinToRowAbove 30 = .ok (.getfield 9, 3) := by decide +kernel
theorem dX4_joinToRowAbove_33 : decode cX4_joinToRowAbove 33 = .ok (.iload_n 1, 1) := by decide +kernel
theorem dX4_joinToRowAbove_34 : decode cX4_joinToRowAbove 34 = .ok (.bipush 15, 2) := by decide +kernel
theorem dX4_joinToRowAbove_36 : decode cX4_joinToRowAbove 36 = .ok (.iand, 1) := by decide +kernel
theorem dX4_joinToRowAbove_37 : decode cX4_joinToRowAbove 37 = .ok (.iconst 1, 1) := by decide +kernel
theorem dX4_joinToRowAbove_38 : decode cX4_joinToRowAbove 38 = .ok (.iadd, 1) := by decide +kernel
theorem dX4_joinToRowAbove_39 : decode cX4_joinToRowAbove 39 = .ok (.iaload, 1) := by decide +kernel
theorem dX4_joinToRowAbove_40 : decode cX4_joinToRowAbove 40 = .ok (.istore 7, 2) := by decide +kernel
theorem dX4_joinToRowAbove_42 : decode cX4_joinToRowAbove 42 = .ok (.iload 4, 2) := by decide +kernel
theorem dX4_joinToRowAbove_44 : decode cX4_joinToRowAbove 44 = .ok (.iload 6, 2) := by decide +kernel
theorem dX4_joinToRowAbove_46 : decode cX4_joinToRowAbove 46 = .ok (.if_icmp .ge 79, 3) := by decide +kernel
theorem dX4_joinToRowAbove_49 : decode cX4_joinToRowAbove 49 = .ok (.iload 5, 2) := by decide +kernel
theorem dX4_joinToRowAbove_51 : decode cX4_joinToRowAbove 51 = .ok (.iload 7, 2) := by decide +kernel
theorem dX4_joinToRowAbove_53 : decode cX4_joinToRowAbove 53 = .ok (.if_icmp .ge 72, 3) := by decide +kernel
theorem dX4_joinToRowAbove_56 : decode cX4_joinToRowAbove 56 = .ok (.aload_n 0, 1) := by decide +kernel
theorem dX4_joinToRowAbove_57 : decode cX4_joinToRowAbove 57 = .ok (.iload 4, 2) := by decide +kernel
theorem dX4_joinToRowAbove_59 : decode cX4_joinToRowAbove 59 = .ok (.invokevirtual 63, 3) := by decide +kernel
theorem dX4_joinToRowAbove_62 : decode cX4_joinToRowAbove 62 = .ok (.aload_n 0, 1) := by decide +kernel
theorem dX4_joinToRowAbove_63 : decode cX4_joinToRowAbove 63 = .ok (.iload 5, 2) := by decide +kernel
theorem dX4_joinToRowAbove_65 : decode cX4_joinToRowAbove 65 = .ok (.invokevirtual 60, 3) := by decide +kernel
theorem dX4_joinToRowAbove_68 : decode cX4_joinToRowAbove 68 = .ok (.iload_n 3, 1) := by decide +kernel
theorem dX4_joinToRowAbove_69 : decode cX4_joinToRowAbove 69 = .ok (.iadd, 1) := by decide +kernel
theorem dX4_joinToRowAbove_70 : decode cX4_joinToRowAbove 70 = .ok (.if_icmp .gt 28, 3) := by decide +kernel
theorem dX4_joinToRowAbove_73 : decode cX4_joinToRowAbove 73 = .ok (.aload_n 0, 1) := by decide +kernel
theorem dX4_joinToRowAbove_74 : decode cX4_joinToRowAbove 74 = .ok (.iload 5, 2) := by decide +kernel
theorem dX4_joinToRowAbove_76 : decode cX4_joinToRowAbove 76 = .ok (.invokevirtual 63, 3) := by decide +kernel
theorem dX4_joinToRowAbove_79 : decode cX4_joinToRowAbove 79 = .ok (.aload_n 0, 1) := by decide +kernel
theorem dX4_joinToRowAbove_80 : decode cX4_joinToRowAbove 80 = .ok (.iload 4, 2) := by decide +kernel
theorem dX4_joinToRowAbove_82 : decode cX4_joinToRowAbove 82 = .ok (.invokevirtual 60, 3) := by decide +kernel
theorem dX4_joinToRowAbove_85 : decode cX4_joinToRowAbove 85 = .ok (.iload_n 3, 1) := by decide +kernel
theorem dX4_joinToRowAbove_86 : decode cX4_joinToRowAbove 86 = .ok (.iadd, 1) := by decide +kernel
theorem dX4_joinToRowAbove_87 : decode cX4_joinToRowAbove 87 = .ok (.if_icmp .gt 11, 3) := by decide +kernel
theorem dX4_joinToRowAbove_90 : decode cX4_joinToRowAbove 90 = .ok (.aload_n 0, 1) := by decide +kernel
theorem dX4_joinToRowAbove_91 : decode cX4_joinToRowAbove 91 = .ok (.iload 4, 2) := by decide +kernel
theorem dX4_joinToRowAbove_93 : decode cX4_joinToRowAbove 93 = .ok (.iload 5, 2) := by decide +kernel
theorem dX4_joinToRowAbove_95 : decode cX4_joinToRowAbove 95 = .ok (.invokevirtual 79, 3) := by decide +kernel
theorem dX4_joinToRowAbove_98 : decode cX4_joinToRowAbove 98 = .ok (.aload_n 0, 1) := by decide +kernel
theorem dX4_joinToRowAbove_99 : decode cX4_joinToRowAbove 99 = .ok (.iload 4, 2) := by decide +kernel
theorem dX4_joinToRowAbove_101 : decode cX4_joinToRowAbove 101 = .ok (.invokevirtual 60, 3) := by decide +kernel
theorem dX4_joinToRowAbove_104 : decode cX4_joinToRowAbove 104 = .ok (.aload_n 0, 1) := by decide +kernel
theorem dX4_joinToRowAbove_105 : decode cX4_joinToRowAbove 105 = .ok (.iload 5, 2) := by decide +kernel
theorem dX4_joinToRowAbove_107 : decode cX4_joinToRowAbove 107 = .ok (.invokevirtual 60, 3) := by decide +kernel
theorem dX4_joinToRowAbove_110 : decode cX4_joinToRowAbove 110 = .ok (.if_icmp .ge 9, 3) := by decide +kernel
theorem dX4_joinToRowAbove_113 : decode cX4_joinToRowAbove 113 = .ok (.iinc 4 2, 3) := by decide +kernel
theorem dX4_joinToRowAbove_116 : decode cX4_joinToRowAbove 116 = .ok (.goto (-74), 3) := by decide +kernel
theorem dX4_joinToRowAbove_119 : decode cX4_joinToRowAbove 119 = .ok (.iinc 5 2, 3) := by decide +kernel
theorem dX4_joinToRowAbove_122 : decode cX4_joinToRowAbove 122 = .ok (.goto (-80), 3) := by decide +kernel
theorem dX4_joinToRowAbove_125 : decode cX4_joinToRowAbove 125 = .ok (.return_, 1) := by decide +kernel
set_option maxRecDepth 20000 in
theorem ggX4_firstOfColour_X4_isDark : GoodIn wsX4_firstOfColour wsX4_isDark := goodIn_r _ [6, 7, 8, 9, 10, 11, 12, 13, 14, 15] (by decide +kernel) (by decide +kernel)
set_option maxRecDepth 20000 in
theorem gX4_firstOfColour_X4_isDark : GoodIn wsX4_firstOfColour (wsV RX4 82 RX4 yX4_isDark wsX4_isDark) := goodIn_app (goodIn_of _ (by decide +kernel)) ggX4_firstOfColour_X4_isDark
theorem dX4_firstOfColour_0 : decode cX4_firstOfColour 0 = .ok (.aload_n 0, 1) := by decide +kernel
theorem dX4_firstOfColour_1 : decode cX4_firstOfColour 1 = .ok (.getfield 9, 3) := by decide +kernel
theorem dX4_firstOfColour_4 : decode cX4_firstOfColour 4 = .ok (.iload_n 1, 1) := by decide +kernel
theorem dX4_firstOfColour_5 : decode cX4_firstOfColour 5 = .ok (.bipush 15, 2) := by decide +kernel
theorem dX4_firstOfColour_7 : decode cX4_firstOfColour 7 = .ok (.iand, 1) := by decide +kernel
theorem dX4_firstOfColour_8 : decode cX4_firstOfColour 8 = .ok (.iaload, 1) := by decide +kernel
theorem dX4_firstOfColour_9 : decode cX4_firstOfColour 9 = .ok (.istore_n 3, 1) := by decide +kernel
theorem dX4_firstOfColour_10 : decode cX4_firstOfColour 10 = .ok (.aload_n 0, 1) := by decide +kernel
theorem dX4_firstOfColour_11 : decode cX4_firstOfColour 11 = .ok (.iload_n 3, 1) := by decide +kernel
theorem dX4_firstOfColour_12 : decode cX4_firstOfColour 12 = .ok (.invokevirtual 82, 3) := by decide +kernel
theorem dX4_firstOfColour_15 : decode cX4_firstOfColour 15 = .ok (.iload_n 2, 1) := by decide +kernel
theorem dX4_firstOfColour_16 : decode cX4_firstOfColour 16 = .ok (.if_icmp .ne 7, 3) := by decide +kernel
theorem dX4_firstOfColour_19 : decode cX4_firstOfColour 19 = .ok (.iload_n 3, 1) := by decide +kernel
theorem dX4_firstOfColour_20 : decode cX4_firstOfColour 20 = .ok (.goto 6, 3) := by decide +kernel
theorem dX4_firstOfColour_23 : decode cX4_firstOfColour 23 = .ok (.iload_n 3, 1) := by decide +kernel
theorem dX4_firstOfColour_24 : decode cX4_firstOfColour 24 = .ok (.iconst 1, 1) := by decide +kernel
theorem dX4_firstOfColour_25 : decode cX4_firstOfColour 25 = .ok (.iadd, 1) := by decide +kernel
theorem dX4_firstOfColour_26 : decode cX4_firstOfColour 26 = .ok (.ireturn, 1) := by decide +kernel
set_option maxRecDepth 20000 in
theorem ggX4_join_X4_leastKnown : GoodIn wsX4_join wsX4_leastKnown := goodIn_r _ [13, 1, 14, 15, 16, 17, 18, 19, 20, 21] (by decide +kernel) (by decide +kernel)
set_option maxRecDepth 20000 in
theorem gX4_join_X4_leastKnown : GoodIn wsX4_join (wsV RX4 86 RX4 yX4_leastKnown wsX4_leastKnown) := goodIn_app (goodIn_of _ (by decide +kernel)) ggX4_join_X4_leastKnown
theorem dX4_join_0 : decode cX4_join 0 = .ok (.aload_n 0, 1) := by decide +kernel
theorem dX4_join_1 : decode cX4_join 1 = .ok (.iload_n 1, 1) := by decide +kernel
theorem dX4_join_2 : decode cX4_join 2 = .ok (.invokevirtual 86, 3) := by decide +kernel
theorem dX4_join_5 : decode cX4_join 5 = .ok (.istore_n 3, 1) := by decide +kernel
theorem dX4_join_6 : decode cX4_join 6 = .ok (.aload_n 0, 1) := by decide +kernel
theorem dX4_join_7 : decode cX4_join 7 = .ok (.iload_n 2, 1) := by decide +kernel
theorem dX4_join_8 : decode cX4_join 8 = .ok (.invokevirtual 86, 3) := by decide +kernel
theorem dX4_join_11 : decode cX4_join 11 = .ok (.istore 4, 2) := by decide +kernel
theorem dX4_join_13 : decode cX4_join 13 = .ok (.aload_n 0, 1) := by decide +kernel
theorem dX4_join_14 : decode cX4_join 14 = .ok (.getfield 31, 3) := by decide +kernel
theorem dX4_join_17 : decode cX4_join 17 = .ok (.iload_n 3, 1) := by decide +kernel
theorem dX4_join_18 : decode cX4_join 18 = .ok (.iload 4, 2) := by decide +kernel
theorem dX4_join_20 : decode cX4_join 20 = .ok (.invokestatic 89, 3) := by decide +kernel
theorem dX4_join_23 : decode cX4_join 23 = .ok (.sipush 255, 3) := by decide +kernel
theorem dX4_join_26 : decode cX4_join 26 = .ok (.iand, 1) := by decide +kernel
theorem dX4_join_27 : decode cX4_join 27 = .ok (.iload_n 3, 1) := by decide +kernel
theorem dX4_join_28 : decode cX4_join 28 = .ok (.iload 4, 2) := by decide +kernel
theorem dX4_join_30 : decode cX4_join 30 = .ok (.invokestatic 95, 3) := by decide +kernel
theorem dX4_join_33 : decode cX4_join 33 = .ok (.iastore, 1) := by decide +kernel
theorem dX4_join_34 : decode cX4_join 34 = .ok (.return_, 1) := by decide +kernel
theorem dX4_leastKnown_0 : decode cX4_leastKnown 0 = .ok (.iload_n 1, 1) := by decide +kernel
theorem dX4_leastKnown_1 : decode cX4_leastKnown 1 = .ok (.istore_n 2, 1) := by decide +kernel
theorem dX4_leastKnown_2 : decode cX4_leastKnown 2 = .ok (.iconst 0, 1) := by decide +kernel
theorem dX4_leastKnown_3 : decode cX4_leastKnown 3 = .ok (.istore_n 3, 1) := by decide +kernel
theorem dX4_leastKnown_4 : decode cX4_leastKnown 4 = .ok (.iload_n 3, 1) := by decide +kernel
theorem dX4_leastKnown_5 : decode cX4_leastKnown 5 = .ok (.sipush 256, 3) := by decide +kernel
theorem dX4_leastKnown_8 : decode cX4_leastKnown 8 = .ok (.if_icmp .ge 34, 3) := by decide +kernel
theorem dX4_leastKnown_11 : decode cX4_leastKnown 11 = .ok (.aload_n 0, 1) := by decide +kernel
theorem dX4_leastKnown_12 : decode cX4_leastKnown 12 = .ok (.getfield 31, 3) := by decide +kernel
theorem dX4_leastKnown_15 : decode cX4_leastKnown 15 = .ok (.iload_n 2, 1) := by decide +kernel
theorem dX4_leastKnown_16 : decode cX4_leastKnown 16 = .ok (.sipush 255, 3) := by decide +kernel
theorem dX4_leastKnown_19 : decode cX4_leastKnown 19 = .ok (.iand, 1) := by decide +kernel
theorem dX4_leastKnown_20 : decode cX4_leastKnown 20 = .ok (.iaload, 1) := by decide +kernel
theorem dX4_leastKnown_21 : decode cX4_leastKnown 21 = .ok (.iload_n 2, 1) := by decide +kernel
theorem dX4_leastKnown_22 : decode cX4_leastKnown 22 = .ok (.if_icmp .ge 20, 3) := by decide +kernel
theorem dX4_leastKnown_25 : decode cX4_leastKnown 25 = .ok (.aload_n 0, 1) := by decide +kernel
theorem dX4_leastKnown_26 : decode cX4_leastKnown 26 = .ok (.getfield 31, 3) := by decide +kernel
theorem dX4_leastKnown_29 : decode cX4_leastKnown 29 = .ok (.iload_n 2, 1) := by decide +kernel
theorem dX4_leastKnown_30 : decode cX4_leastKnown 30 = .ok (.sipush 255, 3) := by decide +kernel
theorem dX4_leastKnown_33 : decode cX4_leastKnown 33 = .ok (.iand, 1) := by decide +kernel
theorem dX4_leastKnown_34 : decode cX4_leastKnown 34 = .ok (.iaload, 1) := by decide +kernel
theorem dX4_leastKnown_35 : decode cX4_leastKnown 35 = .ok (.istore_n 2, 1) := by decide +kernel
theorem dX4_leastKnown_36 : decode cX4_leastKnown 36 = .ok (.iinc 3 1, 3) := by decide +kernel
theorem dX4_leastKnown_39 : decode cX4_leastKnown 39 = .ok (.goto (-35), 3) := by decide +kernel
theorem dX4_leastKnown_42 : decode cX4_leastKnown 42 = .ok (.iload_n 2, 1) := by decide +kernel
theorem dX4_leastKnown_43 : decode cX4_leastKnown 43 = .ok (.ireturn, 1) := by decide +kernel
set_option maxRecDepth 20000 in
theorem ggX4_settle_X4_groupOf : GoodIn wsX4_settle wsX4_groupOf := goodIn_r _ [7, 2, 8, 9, 10, 11, 12, 13, 14, 15] (by decide +kernel) (by decide +kernel)
set_option maxRecDepth 20000 in
theorem gX4_settle_X4_groupOf : GoodIn wsX4_settle (wsV RX4 98 RX4 yX4_groupOf wsX4_groupOf) := goodIn_app (goodIn_of _ (by decide +kernel)) ggX4_settle_X4_groupOf
theorem dX4_settle_0 : decode cX4_settle 0 = .ok (.iconst 0, 1) := by decide +kernel
theorem dX4_settle_1 : decode cX4_settle 1 = .ok (.istore_n 1, 1) := by decide +kernel
theorem dX4_settle_2 : decode cX4_settle 2 = .ok (.iload_n 1, 1) := by decide +kernel
theorem dX4_settle_3 : decode cX4_settle 3 = .ok (.aload_n 0, 1) := by decide +kernel
theorem dX4_settle_4 : decode cX4_settle 4 = .ok (.getfield 34, 3) := by decide +kernel
theorem dX4_settle_7 : decode cX4_settle 7 = .ok (.if_icmp .ge 32, 3) := by decide +kernel
theorem dX4_settle_10 : decode cX4_settle 10 = .ok (.iload_n 1, 1) := by decide +kernel
theorem dX4_settle_11 : decode cX4_settle 11 = .ok (.sipush 256, 3) := by decide +kernel
theorem dX4_settle_14 : decode cX4_settle 14 = .ok (.if_icmp .ge 25, 3) := by decide +kernel
theorem dX4_settle_17 : decode cX4_settle 17 = .ok (.aload_n 0, 1) := by decide +kernel
theorem dX4_settle_18 : decode cX4_settle 18 = .ok (.getfield 31, 3) := by decide +kernel
theorem dX4_settle_21 : decode cX4_settle 21 = .ok (.iload_n 1, 1) := by decide +kernel
theorem dX4_settle_22 : decode cX4_settle 22 = .ok (.aload_n 0, 1) := by decide +kernel
theorem dX4_settle_23 : decode cX4_settle 23 = .ok (.aload_n 0, 1) := by decide +kernel
theorem dX4_settle_24 : decode cX4_settle 24 = .ok (.getfield 31, 3) := by decide +kernel
theorem dX4_settle_27 : decode cX4_settle 27 = .ok (.iload_n 1, 1) := by decide +kernel
theorem dX4_settle_28 : decode cX4_settle 28 = .ok (.iaload, 1) := by decide +kernel
theorem dX4_settle_29 : decode cX4_settle 29 = .ok (.invokevirtual 98, 3) := by decide +kernel
theorem dX4_settle_32 : decode cX4_settle 32 = .ok (.iastore, 1) := by decide +kernel
theorem dX4_settle_33 : decode cX4_settle 33 = .ok (.iinc 1 1, 3) := by decide +kernel
theorem dX4_settle_36 : decode cX4_settle 36 = .ok (.goto (-34), 3) := by decide +kernel
theorem dX4_settle_39 : decode cX4_settle 39 = .ok (.return_, 1) := by decide +kernel
set_option maxRecDepth 20000 in
theorem ggX5_init_X3_init : GoodIn wsX5_init wsX3_init := goodIn_r _ [27, 28, 2, 3, 29, 30, 31, 32, 75, 76, 77] (by decide +kernel) (by decide +kernel)
set_option maxRecDepth 20000 in
theorem gX5_init_X3_init_n11 : GoodIn wsX5_init (wsX3_init) := ggX5_init_X3_init
set_option maxRecDepth 20000 in
theorem ggX5_init_X1_init : GoodIn wsX5_init wsX1_init := goodIn_r _ [34, 35, 2, 3, 36, 13, 14, 37, 29, 38, 39, 40, 41, 42, 43, 44, 45, 46, 47, 48, 49, 50, 51, 52, 53, 54, 55, 56, 57, 58, 59, 60, 61, 62, 99, 100, 101, 102, 103, 104, 105, 106, 85, 86, 87, 88, 89, 90, 91, 92, 93, 94, 95, 96, 97, 98] (by decide +kernel) (by decide +kernel)
set_option maxRecDepth 20000 in
theorem gX5_init_X1_init_n18 : GoodIn wsX5_init (wsX1_init) := ggX5_init_X1_init
set_option maxRecDepth 20000 in
theorem ggX5_init_X4_init : GoodIn wsX5_init wsX4_init := goodIn_r _ [53, 54, 2, 3, 29, 55, 56, 57, 58, 59, 43, 60, 61, 62, 99, 100, 101, 102, 103, 104, 105, 106] (by decide +kernel) (by decide +kernel)
set_option maxRecDepth 20000 in
theorem gX5_init_X4_init_n25 : GoodIn wsX5_init (wsX4_init) := ggX5_init_X4_init
set_option maxRecDepth 20000 in
theorem ggX5_init_X2_init : GoodIn wsX5_init wsX2_init := goodIn_r _ [64, 65, 2, 3, 29, 66, 67, 68, 107, 108, 109] (by decide +kernel) (by decide +kernel)
set_option maxRecDepth 20000 in
theorem gX5_init_X2_init_n32 : GoodIn wsX5_init (wsX2_init) := ggX5_init_X2_init
set_option maxRecDepth 20000 in
theorem ggX5_init_X0_init : GoodIn wsX5_init wsX0_init := goodIn_r _ [70, 71, 2, 3, 29, 72, 73, 43, 74, 110, 111, 112] (by decide +kernel) (by decide +kernel)
set_option maxRecDepth 20000 in
theorem gX5_init_X0_init_n39 : GoodIn wsX5_init (wsX0_init) := ggX5_init_X0_init
theorem dX5_init_0 : decode cX5_init 0 = .ok (.aload_n 0, 1) := by decide +kernel
theorem dX5_init_1 : decode cX5_init 1 = .ok (.invokespecial 3, 3) := by decide +kernel
theorem dX5_init_4 : decode cX5_init 4 = .ok (.aload_n 0, 1) := by decide +kernel
theorem dX5_init_5 : decode cX5_init 5 = .ok (.new 9, 3) := by decide +kernel
theorem dX5_init_8 : decode cX5_init 8 = .ok (.dup, 1) := by decide +kernel
theorem dX5_init_9 : decode cX5_init 9 = .ok (.invokespecial 11, 3) := by decide +kernel
theorem dX5_init_12 : decode cX5_init 12 = .ok (.putfield 12, 3) := by decide +kernel
theorem dX5_init_15 : decode cX5_init 15 = .ok (.aload_n 0, 1) := by decide +kernel
theorem dX5_init_16 : decode cX5_init 16 = .ok (.new 16, 3) := by decide +kernel
theorem dX5_init_19 : decode cX5_init 19 = .ok (.dup, 1) := by decide +kernel
theorem dX5_init_20 : decode cX5_init 20 = .ok (.invokespecial 18, 3) := by decide +kernel
theorem dX5_init_23 : decode cX5_init 23 = .ok (.putfield 19, 3) := by decide +kernel
theorem dX5_init_26 : decode cX5_init 26 = .ok (.aload_n 0, 1) := by decide +kernel
theorem dX5_init_27 : decode cX5_init 27 = .ok (.new 23, 3) := by decide +kernel
theorem dX5_init_30 : decode cX5_init 30 = .ok (.dup, 1) := by decide +kernel
theorem dX5_init_31 : decode cX5_init 31 = .ok (.invokespecial 25, 3) := by decide +kernel
theorem dX5_init_34 : decode cX5_init 34 = .ok (.putfield 26, 3) := by decide +kernel
theorem dX5_init_37 : decode cX5_init 37 = .ok (.aload_n 0, 1) := by decide +kernel
theorem dX5_init_38 : decode cX5_init 38 = .ok (.new 30, 3) := by decide +kernel
theorem dX5_init_41 : decode cX5_init 41 = .ok (.dup, 1) := by decide +kernel
theorem dX5_init_42 : decode cX5_init 42 = .ok (.invokespecial 32, 3) := by decide +kernel
theorem dX5_init_45 : decode cX5_init 45 = .ok (.putfield 33, 3) := by decide +kernel
theorem dX5_init_48 : decode cX5_init 48 = .ok (.aload_n 0, 1) := by decide +kernel
theorem dX5_init_49 : decode cX5_init 49 = .ok (.new 37, 3) := by decide +kernel
theorem dX5_init_52 : decode cX5_init 52 = .ok (.dup, 1) := by decide +kernel
theorem dX5_init_53 : decode cX5_init 53 = .ok (.invokespecial 39, 3) := by decide +kernel
theorem dX5_init_56 : decode cX5_init 56 = .ok (.putfield 40, 3) := by decide +kernel
theorem dX5_init_59 : decode cX5_init 59 = .ok (.aload_n 0, 1) := by decide +kernel
theorem dX5_init_60 : decode cX5_init 60 = .ok (.iconst 0, 1) := by decide +kernel
theorem dX5_init_61 : decode cX5_init 61 = .ok (.putfield 44, 3) := by decide +kernel
theorem dX5_init_64 : decode cX5_init 64 = .ok (.aload_n 0, 1) := by decide +kernel
theorem dX5_init_65 : decode cX5_init 65 = .ok (.iconst 1, 1) := by decide +kernel
theorem dX5_init_66 : decode cX5_init 66 = .ok (.putfield 48, 3) := by decide +kernel
theorem dX5_init_69 : decode cX5_init 69 = .ok (.return_, 1) := by decide +kernel
set_option maxRecDepth 20000 in
theorem ggX5_told_X3_darkDots : GoodIn wsX5_told wsX3_darkDots := goodIn_r _ [8, 9, 10, 11, 12, 13, 14, 15, 16, 220, 221, 222] (by decide +kernel) (by decide +kernel)
set_option maxRecDepth 20000 in
theorem gX5_told_X3_darkDots : GoodIn wsX5_told (wsV RX5 55 RX3 yX3_darkDots wsX3_darkDots) := goodIn_app (goodIn_of _ (by decide +kernel)) ggX5_told_X3_darkDots
set_option maxRecDepth 20000 in
theorem ggX5_told_X5_parted : GoodIn wsX5_told wsX5_parted := goodIn_r _ [21, 22, 23, 1, 24, 25, 26, 27, 28, 29, 30, 31, 32, 33, 34, 35, 36, 37, 38, 39, 40, 41, 42, 43, 44, 7, 45, 9, 46, 47, 48, 49, 50, 51, 52, 53, 54, 55, 56, 57, 58, 59, 60, 61, 62, 63, 64, 65, 66, 67, 68, 69, 70, 71, 72, 73, 74, 75, 76, 77, 78, 79, 80, 81, 82, 83, 84, 85, 86, 87, 88, 89, 90, 91, 92, 93, 94, 95, 96, 97, 98, 99, 100, 101, 102, 103, 104, 105, 106, 107, 108, 109, 110, 111, 112, 113, 114, 115, 116, 117, 118, 119, 120, 121, 122, 123, 124, 125, 126, 127, 128, 129, 130, 131, 132, 133, 134, 135, 136, 137, 138, 139, 10, 11, 12, 13, 14, 15, 16, 140, 141, 142, 143, 144, 145, 146, 213, 214, 215, 216, 217, 218, 219, 223, 224, 225, 226, 227, 228, 229, 230, 231, 232, 233, 234, 235, 236, 240, 241, 242, 243, 244, 245, 246, 247, 220, 221, 222] (by decide +kernel) (by decide +kernel)
set_option maxRecDepth 20000 in
theorem gX5_told_X5_parted : GoodIn wsX5_told (wsV RX5 59 RX5 yX5_parted wsX5_parted) := goodIn_app (goodIn_of _ (by decide +kernel)) ggX5_told_X5_parted
set_option maxRecDepth 20000 in
theorem ggX5_told_X3_allRuns : GoodIn wsX5_told wsX3_allRuns := goodIn_r _ [150, 9, 151, 20, 152, 153, 11, 12, 13, 14, 15, 16, 220, 221, 222] (by decide +kernel) (by decide +kernel)
set_option maxRecDepth 20000 in
theorem gX5_told_X3_allRuns : GoodIn wsX5_told (wsV RX5 72 RX3 yX3_allRuns wsX3_allRuns) := goodIn_app (goodIn_of _ (by decide +kernel)) ggX5_told_X3_allRuns
set_option maxRecDepth 20000 in
theorem ggX5_told_X1_allRims : GoodIn wsX5_told wsX1_allRims := goodIn_r _ [157, 30, 158, 159, 160, 27, 161, 145, 162, 163, 164, 165, 112, 223, 224, 225, 226, 227, 228, 229, 230, 231, 232, 233, 234, 235, 236] (by decide +kernel) (by decide +kernel)
set_option maxRecDepth 20000 in
theorem gX5_told_X1_allRims : GoodIn wsX5_told (wsV RX5 75 RX1 yX1_allRims wsX1_allRims) := goodIn_app (goodIn_of _ (by decide +kernel)) ggX5_told_X1_allRims
set_option maxRecDepth 20000 in
theorem ggX5_told_X1_deepest : GoodIn wsX5_told wsX1_deepest := goodIn_r _ [169, 30, 117, 89, 90, 91, 170, 171, 172, 27, 173, 174, 175, 176, 177, 29, 158, 159, 160, 161, 145, 119, 120, 121, 36, 122, 54, 123, 77, 78, 79, 55, 178, 179, 180, 181, 182, 183, 184, 185, 144, 186, 20, 187, 188, 189, 190, 191, 39, 40, 192, 11, 12, 13, 14, 15, 16, 130, 73, 74, 75, 57, 125, 104, 105, 106, 58, 193, 194, 195, 196, 197, 198, 199, 200, 146, 201, 202, 203, 204, 223, 224, 225, 226, 227, 228, 229, 230, 231, 232, 233, 234, 235, 236, 240, 241, 242, 243, 244, 245, 246, 247] (by decide +kernel) (by decide +kernel)
set_option maxRecDepth 20000 in
theorem gX5_told_X1_deepest : GoodIn wsX5_told (wsV RX5 78 RX1 yX1_deepest wsX1_deepest) := goodIn_app (goodIn_of _ (by decide +kernel)) ggX5_told_X1_deepest
set_option maxRecDepth 20000 in
theorem ggX5_told_X1_largest : GoodIn wsX5_told wsX1_largest := goodIn_r _ [208, 30, 158, 159, 160, 27, 161, 145, 209, 210, 211, 212, 111, 223, 224, 225, 226, 227, 228, 229, 230, 231, 232, 233, 234, 235, 236] (by decide +kernel) (by decide +kernel)
set_option maxRecDepth 20000 in
theorem gX5_told_X1_largest : GoodIn wsX5_told (wsV RX5 81 RX1 yX1_largest wsX1_largest) := goodIn_app (goodIn_of _ (by decide +kernel)) ggX5_told_X1_largest
theorem dX5_told_0 : decode cX5_told 0 = .ok (.iload_n 1, 1) := by decide +kernel
theorem dX5_told_1 : decode cX5_told 1 = .ok (.tableswitch 159 0 10 #[59, 67, 75, 83, 91, 99, 119, 127, 135, 143, 151], 59) := by decide +kernel
theorem dX5_told_60 : decode cX5_told 60 = .ok (.aload_n 0, 1) := by decide +kernel
theorem dX5_told_61 : decode cX5_told 61 = .ok (.getfield 12, 3) := by decide +kernel
theorem dX5_told_64 : decode cX5_told 64 = .ok (.getfield 52, 3) := by decide +kernel
theorem dX5_told_67 : decode cX5_told 67 = .ok (.ireturn, 1) := by decide +kernel
theorem dX5_told_68 : decode cX5_told 68 = .ok (.aload_n 0, 1) := by decide +kernel
theorem dX5_told_69 : decode cX5_told 69 = .ok (.getfield 12, 3) := by decide +kernel
theorem dX5_told_72 : decode cX5_told 72 = .ok (.invokevirtual 55, 3) := by decide +kernel
theorem dX5_told_75 : decode cX5_told 75 = .ok (.ireturn, 1) := by decide +kernel
theorem dX5_told_76 : decode cX5_told 76 = .ok (.aload_n 0, 1) := by decide +kernel
theorem dX5_told_77 : decode cX5_told 77 = .ok (.invokevirtual 59, 3) := by decide +kernel
theorem dX5_told_80 : decode cX5_told 80 = .ok (.getfield 63, 3) := by decide +kernel
theorem dX5_told_83 : decode cX5_told 83 = .ok (.ireturn, 1) := by decide +kernel
theorem dX5_told_84 : decode cX5_told 84 = .ok (.aload_n 0, 1) := by decide +kernel
theorem dX5_told_85 : decode cX5_told 85 = .ok (.invokevirtual 59, 3) := by decide +kernel
theorem dX5_told_88 : decode cX5_told 88 = .ok (.getfield 66, 3) := by decide +kernel
theorem dX5_told_91 : decode cX5_told 91 = .ok (.ireturn, 1) := by decide +kernel
theorem dX5_told_92 : decode cX5_told 92 = .ok (.aload_n 0, 1) := by decide +kernel
theorem dX5_told_93 : decode cX5_told 93 = .ok (.invokevirtual 59, 3) := by decide +kernel
theorem dX5_told_96 : decode cX5_told 96 = .ok (.getfield 69, 3) := by decide +kernel
theorem dX5_told_99 : decode cX5_told 99 = .ok (.ireturn, 1) := by decide +kernel
theorem dX5_told_100 : decode cX5_told 100 = .ok (.aload_n 0, 1) := by decide +kernel
theorem dX5_told_101 : decode cX5_told 101 = .ok (.invokevirtual 59, 3) := by decide +kernel
theorem dX5_told_104 : decode cX5_told 104 = .ok (.getfield 63, 3) := by decide +kernel
theorem dX5_told_107 : decode cX5_told 107 = .ok (.aload_n 0, 1) := by decide +kernel
theorem dX5_told_108 : decode cX5_told 108 = .ok (.invokevirtual 59, 3) := by decide +kernel
theorem dX5_told_111 : decode cX5_told 111 = .ok (.getfield 66, 3) := by decide +kernel
theorem dX5_told_114 : decode cX5_told 114 = .ok (.isub, 1) := by decide +kernel
theorem dX5_told_115 : decode cX5_told 115 = .ok (.sipush 1000, 3) := by decide +kernel
theorem dX5_told_118 : decode cX5_told 118 = .ok (.iadd, 1) := by decide +kernel
theorem dX5_told_119 : decode cX5_told 119 = .ok (.ireturn, 1) := by decide +kernel
theorem dX5_told_120 : decode cX5_told 120 = .ok (.aload_n 0, 1) := by decide +kernel
theorem dX5_told_121 : decode cX5_told 121 = .ok (.getfield 12, 3) := by decide +kernel
theorem dX5_told_124 : decode cX5_told 124 = .ok (.invokevirtual 72, 3) := by decide +kernel
theorem dX5_told_127 : decode cX5_told 127 = .ok (.ireturn, 1) := by decide +kernel
theorem dX5_told_128 : decode cX5_told 128 = .ok (.aload_n 0, 1) := by decide +kernel
theorem dX5_told_129 : decode cX5_told 129 = .ok (.invokevirtual 59, 3) := by decide +kernel
theorem dX5_told_132 : decode cX5_told 132 = .ok (.invokevirtual 75, 3) := by decide +kernel
theorem dX5_told_135 : decode cX5_told 135 = .ok (.ireturn, 1) := by decide +kernel
theorem dX5_told_136 : decode cX5_told 136 = .ok (.aload_n 0, 1) := by decide +kernel
theorem dX5_told_137 : decode cX5_told 137 = .ok (.invokevirtual 59, 3) := by decide +kernel
theorem dX5_told_140 : decode cX5_told 140 = .ok (.invokevirtual 78, 3) := by decide +kernel
theorem dX5_told_143 : decode cX5_told 143 = .ok (.ireturn, 1) := by decide +kernel
theorem dX5_told_144 : decode cX5_told 144 = .ok (.aload_n 0, 1) := by decide +kernel
theorem dX5_told_145 : decode cX5_told 145 = .ok (.invokevirtual 59, 3) := by decide +kernel
theorem dX5_told_148 : decode cX5_told 148 = .ok (.invokevirtual 81, 3) := by decide +kernel
theorem dX5_told_151 : decode cX5_told 151 = .ok (.ireturn, 1) := by decide +kernel
theorem dX5_told_152 : decode cX5_told 152 = .ok (.aload_n 0, 1) := by decide +kernel
theorem dX5_told_153 : decode cX5_told 153 = .ok (.getfield 33, 3) := by decide +kernel
theorem dX5_told_156 : decode cX5_told 156 = .ok (.getfield 84, 3) := by decide +kernel
theorem dX5_told_159 : decode cX5_told 159 = .ok (.ireturn, 1) := by decide +kernel
theorem dX5_told_160 : decode cX5_told 160 = .ok (.ldc 87, 2) := by decide +kernel
theorem dX5_told_162 : decode cX5_told 162 = .ok (.ireturn, 1) := by decide +kernel
set_option maxRecDepth 20000 in
theorem ggX5_rowAt_X5_isLine : GoodIn wsX5_rowAt wsX5_isLine := goodIn_r _ [7] (by decide +kernel) (by decide +kernel)
set_option maxRecDepth 20000 in
theorem gX5_rowAt_X5_isLine : GoodIn wsX5_rowAt (va_wsS RX5 88 yX5_isLine wsX5_isLine) := goodIn_app (goodIn_of _ (by decide +kernel)) ggX5_rowAt_X5_isLine
set_option maxRecDepth 20000 in
theorem ggX5_rowAt_X3_line : GoodIn wsX5_rowAt wsX3_line := goodIn_r _ [12, 13, 31, 32, 33] (by decide +kernel) (by decide +kernel)
set_option maxRecDepth 20000 in
theorem gX5_rowAt_X3_line : GoodIn wsX5_rowAt (wsV RX5 93 RX3 yX3_line wsX3_line) := goodIn_app (goodIn_of _ (by decide +kernel)) ggX5_rowAt_X3_line
set_option maxRecDepth 20000 in
theorem ggX5_rowAt_X5_runsOf : GoodIn wsX5_rowAt wsX5_runsOf := goodIn_r _ [16, 17, 18, 19, 20, 21, 22, 23] (by decide +kernel) (by decide +kernel)
set_option maxRecDepth 20000 in
theorem gX5_rowAt_X5_runsOf : GoodIn wsX5_rowAt (va_wsS RX5 97 yX5_runsOf wsX5_runsOf) := goodIn_app (goodIn_of _ (by decide +kernel)) ggX5_rowAt_X5_runsOf
theorem dX5_rowAt_0 : decode cX5_rowAt 0 = .ok (.iload_n 1, 1) := by decide +kernel
theorem dX5_rowAt_1 : decode cX5_rowAt 1 = .ok (.invokestatic 88, 3) := by decide +kernel
theorem dX5_rowAt_4 : decode cX5_rowAt 4 = .ok (.ifCond .ne 6, 3) := by decide +kernel
theorem dX5_rowAt_7 : decode cX5_rowAt 7 = .ok (.ldc 92, 2) := by decide +kernel
theorem dX5_rowAt_9 : decode cX5_rowAt 9 = .ok (.ireturn, 1) := by decide +kernel
theorem dX5_rowAt_10 : decode cX5_rowAt 10 = .ok (.iload_n 2, 1) := by decide +kernel
theorem dX5_rowAt_11 : decode cX5_rowAt 11 = .ok (.lookupswitch 46 #[(0, 25), (1, 34)], 25) := by decide +kernel
theorem dX5_rowAt_36 : decode cX5_rowAt 36 = .ok (.aload_n 0, 1) := by decide +kernel
theorem dX5_rowAt_37 : decode cX5_rowAt 37 = .ok (.getfield 12, 3) := by decide +kernel
theorem dX5_rowAt_40 : decode cX5_rowAt 40 = .ok (.iload_n 1, 1) := by decide +kernel
theorem dX5_rowAt_41 : decode cX5_rowAt 41 = .ok (.invokevirtual 93, 3) := by decide +kernel
theorem dX5_rowAt_44 : decode cX5_rowAt 44 = .ok (.ireturn, 1) := by decide +kernel
theorem dX5_rowAt_45 : decode cX5_rowAt 45 = .ok (.aload_n 0, 1) := by decide +kernel
theorem dX5_rowAt_46 : decode cX5_rowAt 46 = .ok (.getfield 12, 3) := by decide +kernel
theorem dX5_rowAt_49 : decode cX5_rowAt 49 = .ok (.iload_n 1, 1) := by decide +kernel
theorem dX5_rowAt_50 : decode cX5_rowAt 50 = .ok (.invokevirtual 93, 3) := by decide +kernel
theorem dX5_rowAt_53 : decode cX5_rowAt 53 = .ok (.invokestatic 97, 3) := by decide +kernel
theorem dX5_rowAt_56 : decode cX5_rowAt 56 = .ok (.ireturn, 1) := by decide +kernel
theorem dX5_rowAt_57 : decode cX5_rowAt 57 = .ok (.ldc 87, 2) := by decide +kernel
theorem dX5_rowAt_59 : decode cX5_rowAt 59 = .ok (.ireturn, 1) := by decide +kernel
set_option maxRecDepth 20000 in
theorem ggX5_dot_X5_isLine : GoodIn wsX5_dot wsX5_isLine := goodIn_r _ [7] (by decide +kernel) (by decide +kernel)
set_option maxRecDepth 20000 in
theorem gX5_dot_X5_isLine : GoodIn wsX5_dot (va_wsS RX5 88 yX5_isLine wsX5_isLine) := goodIn_app (goodIn_of _ (by decide +kernel)) ggX5_dot_X5_isLine
set_option maxRecDepth 20000 in
theorem ggX5_dot_X3_isDark : GoodIn wsX5_dot wsX3_isDark := goodIn_r _ [12, 13, 14, 15, 11, 16, 17, 218, 219, 220] (by decide +kernel) (by decide +kernel)
set_option maxRecDepth 20000 in
theorem gX5_dot_X3_isDark : GoodIn wsX5_dot (wsV RX5 100 RX3 yX3_isDark wsX3_isDark) := goodIn_app (goodIn_of _ (by decide +kernel)) ggX5_dot_X3_isDark
set_option maxRecDepth 20000 in
theorem ggX5_dot_X5_parted : GoodIn wsX5_dot wsX5_parted := goodIn_r _ [21, 22, 23, 2, 24, 25, 26, 27, 28, 29, 30, 31, 32, 33, 34, 35, 36, 37, 38, 39, 40, 41, 42, 14, 15, 11, 16, 17, 43, 44, 45, 46, 47, 48, 49, 50, 51, 52, 53, 54, 55, 56, 57, 58, 59, 60, 61, 62, 63, 64, 65, 66, 67, 68, 69, 70, 71, 72, 73, 74, 75, 76, 77, 78, 79, 80, 81, 82, 83, 84, 85, 86, 87, 88, 89, 90, 91, 92, 93, 94, 95, 96, 97, 98, 99, 100, 101, 102, 103, 104, 105, 106, 107, 108, 109, 110, 111, 112, 113, 114, 115, 116, 117, 118, 119, 120, 121, 122, 123, 124, 125, 126, 127, 128, 129, 130, 131, 132, 133, 134, 135, 13, 136, 137, 138, 139, 140, 141, 142, 143, 144, 145, 146, 147, 148, 149, 197, 198, 199, 200, 201, 202, 203, 204, 205, 206, 207, 208, 209, 210, 211, 212, 213, 214, 215, 216, 217, 221, 222, 223, 224, 225, 226, 227, 228, 218, 219, 220] (by decide +kernel) (by decide +kernel)
set_option maxRecDepth 20000 in
theorem gX5_dot_X5_parted : GoodIn wsX5_dot (wsV RX5 59 RX5 yX5_parted wsX5_parted) := goodIn_app (goodIn_of _ (by decide +kernel)) ggX5_dot_X5_parted
set_option maxRecDepth 20000 in
theorem ggX5_dot_X1_partAt : GoodIn wsX5_dot wsX1_partAt := goodIn_r _ [153, 154, 155, 156, 27, 157, 29, 147, 5, 6, 7, 158, 159, 160, 36, 161, 39, 40, 162, 137, 138, 139, 140, 141, 142, 127, 70, 71, 72, 54, 122, 101, 102, 103, 55, 204, 205, 206, 207, 208, 209, 210, 211, 212, 213, 214, 215, 216, 217, 221, 222, 223, 224, 225, 226, 227, 228] (by decide +kernel) (by decide +kernel)
set_option maxRecDepth 20000 in
theorem gX5_dot_X1_partAt : GoodIn wsX5_dot (wsV RX5 104 RX1 yX1_partAt wsX1_partAt) := goodIn_app (goodIn_of _ (by decide +kernel)) ggX5_dot_X1_partAt
set_option maxRecDepth 20000 in
theorem ggX5_dot_X1_holeAt : GoodIn wsX5_dot wsX1_holeAt := goodIn_r _ [166, 154, 155, 156, 27, 157, 29, 147, 5, 6, 7, 158, 159, 160, 36, 161, 39, 40, 162, 137, 138, 139, 140, 141, 142, 127, 70, 71, 72, 54, 122, 101, 102, 103, 55, 204, 205, 206, 207, 208, 209, 210, 211, 212, 213, 214, 215, 216, 217, 221, 222, 223, 224, 225, 226, 227, 228] (by decide +kernel) (by decide +kernel)
set_option maxRecDepth 20000 in
theorem gX5_dot_X1_holeAt : GoodIn wsX5_dot (wsV RX5 108 RX1 yX1_holeAt wsX1_holeAt) := goodIn_app (goodIn_of _ (by decide +kernel)) ggX5_dot_X1_holeAt
set_option maxRecDepth 20000 in
theorem ggX5_dot_X3_cornersJoin : GoodIn wsX5_dot wsX3_cornersJoin := goodIn_r _ [59, 60, 218, 219, 220] (by decide +kernel) (by decide +kernel)
set_option maxRecDepth 20000 in
theorem gX5_dot_X3_cornersJoin : GoodIn wsX5_dot (wsV RX5 111 RX3 yX3_cornersJoin wsX3_cornersJoin) := goodIn_app (goodIn_of _ (by decide +kernel)) ggX5_dot_X3_cornersJoin
set_option maxRecDepth 20000 in
theorem ggX5_dot_X1_joinsAt : GoodIn wsX5_dot wsX1_joinsAt := goodIn_r _ [171, 172, 173, 151, 152, 27, 153, 154, 155, 156, 157, 29, 147, 5, 6, 7, 158, 159, 160, 36, 161, 39, 40, 162, 137, 138, 139, 140, 141, 142, 127, 70, 71, 72, 54, 122, 101, 102, 103, 55, 174, 175, 176, 177, 204, 205, 206, 207, 208, 209, 210, 211, 212, 213, 214, 215, 216, 217, 221, 222, 223, 224, 225, 226, 227, 228] (by decide +kernel) (by decide +kernel)
set_option maxRecDepth 20000 in
theorem gX5_dot_X1_joinsAt : GoodIn wsX5_dot (wsV RX5 115 RX1 yX1_joinsAt wsX1_joinsAt) := goodIn_app (goodIn_of _ (by decide +kernel)) ggX5_dot_X1_joinsAt
set_option maxRecDepth 20000 in
theorem ggX5_dot_X5_splitsAt : GoodIn wsX5_dot wsX5_splitsAt := goodIn_r _ [181, 2, 182, 183, 184, 185, 11, 186, 13, 14, 15, 16, 17, 187, 188, 189, 190, 191, 192, 34, 35, 36, 37, 38, 39, 40, 41, 42, 43, 44, 45, 46, 47, 48, 49, 50, 51, 52, 53, 54, 55, 56, 57, 58, 59, 60, 61, 62, 63, 64, 65, 66, 67, 68, 69, 70, 71, 72, 73, 74, 75, 76, 77, 78, 79, 80, 81, 82, 83, 84, 85, 86, 87, 88, 89, 90, 91, 92, 93, 94, 95, 96, 97, 98, 99, 100, 101, 102, 103, 193, 194, 195, 196, 197, 198, 199, 200, 201, 202, 203, 218, 219, 220, 221, 222, 223, 224, 225, 226, 227, 228] (by decide +kernel) (by decide +kernel)
set_option maxRecDepth 20000 in
theorem gX5_dot_X5_splitsAt : GoodIn wsX5_dot (wsV RX5 119 RX5 yX5_splitsAt wsX5_splitsAt) := goodIn_app (goodIn_of _ (by decide +kernel)) ggX5_dot_X5_splitsAt
theorem dX5_dot_0 : decode cX5_dot 0 = .ok (.iload_n 1, 1) := by decide +kernel
theorem dX5_dot_1 : decode cX5_dot 1 = .ok (.invokestatic 88, 3) := by decide +kernel
theorem dX5_dot_4 : decode cX5_dot 4 = .ok (.ifCond .eq 10, 3) := by decide +kernel
theorem dX5_dot_7 : decode cX5_dot 7 = .ok (.iload_n 2, 1) := by decide +kernel
theorem dX5_dot_8 : decode cX5_dot 8 = .ok (.invokestatic 88, 3) := by decide +kernel
theorem dX5_dot_11 : decode cX5_dot 11 = .ok (.ifCond .ne 6, 3) := by decide +kernel
theorem dX5_dot_14 : decode cX5_dot 14 = .ok (.ldc 92, 2) := by decide +kernel
theorem dX5_dot_16 : decode cX5_dot 16 = .ok (.ireturn, 1) := by decide +kernel
theorem dX5_dot_17 : decode cX5_dot 17 = .ok (.aload_n 0, 1) := by decide +kernel
theorem dX5_dot_18 : decode cX5_dot 18 = .ok (.getfield 12, 3) := by decide +kernel
theorem dX5_dot_21 : decode cX5_dot 21 = .ok (.iload_n 1, 1) := by decide +kernel
theorem dX5_dot_22 : decode cX5_dot 22 = .ok (.iload_n 2, 1) := by decide +kernel
theorem dX5_dot_23 : decode cX5_dot 23 = .ok (.invokevirtual 100, 3) := by decide +kernel
theorem dX5_dot_26 : decode cX5_dot 26 = .ok (.istore 4, 2) := by decide +kernel
theorem dX5_dot_28 : decode cX5_dot 28 = .ok (.iload_n 3, 1) := by decide +kernel
theorem dX5_dot_29 : decode cX5_dot 29 = .ok (.tableswitch 115 0 4 #[35, 46, 56, 66, 92], 35) := by decide +kernel
theorem dX5_dot_64 : decode cX5_dot 64 = .ok (.iload 4, 2) := by decide +kernel
theorem dX5_dot_66 : decode cX5_dot 66 = .ok (.ifCond .eq 7, 3) := by decide +kernel
theorem dX5_dot_69 : decode cX5_dot 69 = .ok (.iconst 1, 1) := by decide +kernel
theorem dX5_dot_70 : decode cX5_dot 70 = .ok (.goto 4, 3) := by decide +kernel
theorem dX5_dot_73 : decode cX5_dot 73 = .ok (.iconst 0, 1) := by decide +kernel
theorem dX5_dot_74 : decode cX5_dot 74 = .ok (.ireturn, 1) := by decide +kernel
theorem dX5_dot_75 : decode cX5_dot 75 = .ok (.aload_n 0, 1) := by decide +kernel
theorem dX5_dot_76 : decode cX5_dot 76 = .ok (.invokevirtual 59, 3) := by decide +kernel
theorem dX5_dot_79 : decode cX5_dot 79 = .ok (.iload_n 1, 1) := by decide +kernel
theorem dX5_dot_80 : decode cX5_dot 80 = .ok (.iload_n 2, 1) := by decide +kernel
theorem dX5_dot_81 : decode cX5_dot 81 = .ok (.invokevirtual 104, 3) := by decide +kernel
theorem dX5_dot_84 : decode cX5_dot 84 = .ok (.ireturn, 1) := by decide +kernel
theorem dX5_dot_85 : decode cX5_dot 85 = .ok (.aload_n 0, 1) := by decide +kernel
theorem dX5_dot_86 : decode cX5_dot 86 = .ok (.invokevirtual 59, 3) := by decide +kernel
theorem dX5_dot_89 : decode cX5_dot 89 = .ok (.iload_n 1, 1) := by decide +kernel
theorem dX5_dot_90 : decode cX5_dot 90 = .ok (.iload_n 2, 1) := by decide +kernel
theorem dX5_dot_91 : decode cX5_dot 91 = .ok (.invokevirtual 108, 3) := by decide +kernel
theorem dX5_dot_94 : decode cX5_dot 94 = .ok (.ireturn, 1) := by decide +kernel
theorem dX5_dot_95 : decode cX5_dot 95 = .ok (.iload 4, 2) := by decide +kernel
theorem dX5_dot_97 : decode cX5_dot 97 = .ok (.ifCond .eq 7, 3) := by decide +kernel
theorem dX5_dot_100 : decode cX5_dot 100 = .ok (.iconst (-1), 1) := by decide +kernel
theorem dX5_dot_101 : decode cX5_dot 101 = .ok (.goto 19, 3) := by decide +kernel
theorem dX5_dot_104 : decode cX5_dot 104 = .ok (.aload_n 0, 1) := by decide +kernel
theorem dX5_dot_105 : decode cX5_dot 105 = .ok (.invokevirtual 59, 3) := by decide +kernel
theorem dX5_dot_108 : decode cX5_dot 108 = .ok (.iload_n 1, 1) := by decide +kernel
theorem dX5_dot_109 : decode cX5_dot 109 = .ok (.iload_n 2, 1) := by decide +kernel
theorem dX5_dot_110 : decode cX5_dot 110 = .ok (.aload_n 0, 1) := by decide +kernel
theorem dX5_dot_111 : decode cX5_dot 111 = .ok (.getfield 12, 3) := by decide +kernel
theorem dX5_dot_114 : decode cX5_dot 114 = .ok (.invokevirtual 111, 3) := by decide +kernel
theorem dX5_dot_117 : decode cX5_dot 117 = .ok (.invokevirtual 115, 3) := by decide +kernel
theorem dX5_dot_120 : decode cX5_dot 120 = .ok (.ireturn, 1) := by decide +kernel
theorem dX5_dot_121 : decode cX5_dot 121 = .ok (.iload 4, 2) := by decide +kernel
theorem dX5_dot_123 : decode cX5_dot 123 = .ok (.ifCond .eq 19, 3) := by decide +kernel
theorem dX5_dot_126 : decode cX5_dot 126 = .ok (.aload_n 0, 1) := by decide +kernel
theorem dX5_dot_127 : decode cX5_dot 127 = .ok (.iload_n 1, 1) := by decide +kernel
theorem dX5_dot_128 : decode cX5_dot 128 = .ok (.iload_n 2, 1) := by decide +kernel
theorem dX5_dot_129 : decode cX5_dot 129 = .ok (.aload_n 0, 1) := by decide +kernel
theorem dX5_dot_130 : decode cX5_dot 130 = .ok (.invokevirtual 59, 3) := by decide +kernel
theorem dX5_dot_133 : decode cX5_dot 133 = .ok (.getfield 63, 3) := by decide +kernel
theorem dX5_dot_136 : decode cX5_dot 136 = .ok (.invokevirtual 119, 3) := by decide +kernel
theorem dX5_dot_139 : decode cX5_dot 139 = .ok (.goto 4, 3) := by decide +kernel
theorem dX5_dot_142 : decode cX5_dot 142 = .ok (.iconst (-1), 1) := by decide +kernel
theorem dX5_dot_143 : decode cX5_dot 143 = .ok (.ireturn, 1) := by decide +kernel
theorem dX5_dot_144 : decode cX5_dot 144 = .ok (.ldc 87, 2) := by decide +kernel
theorem dX5_dot_146 : decode cX5_dot 146 = .ok (.ireturn, 1) := by decide +kernel
set_option maxRecDepth 20000 in
theorem ggX5_part_X5_parted : GoodIn wsX5_part wsX5_parted := goodIn_r _ [7, 8, 9, 10, 11, 12, 13, 14, 15, 16, 17, 18, 19, 20, 21, 22, 23, 24, 25, 26, 27, 28, 29, 30, 31, 32, 33, 34, 35, 36, 37, 38, 39, 40, 41, 42, 43, 44, 45, 46, 47, 48, 49, 50, 51, 52, 53, 54, 55, 56, 57, 58, 59, 60, 61, 62, 63, 64, 65, 66, 67, 68, 69, 70, 71, 72, 73, 74, 75, 76, 77, 78, 79, 80, 81, 82, 83, 84, 85, 86, 87, 88, 89, 90, 91, 92, 93, 94, 95, 96, 97, 98, 99, 100, 101, 102, 103, 104, 105, 106, 107, 108, 109, 110, 111, 112, 113, 114, 115, 116, 117, 118, 119, 120, 121, 122, 123, 124, 125, 126, 127, 128, 129, 130, 131, 132, 133, 134, 135, 136, 137, 138, 139, 140, 141, 142, 220, 221, 222, 223, 224, 225, 226, 227, 228, 229, 230, 231, 232, 233, 234, 235, 236, 237, 238, 239, 240, 241, 242, 243, 244, 245, 246, 247, 248, 249, 250, 251] (by decide +kernel) (by decide +kernel)
set_option maxRecDepth 20000 in
theorem gX5_part_X5_parted : GoodIn wsX5_part (wsV RX5 59 RX5 yX5_parted wsX5_parted) := goodIn_app (goodIn_of _ (by decide +kernel)) ggX5_part_X5_parted
set_option maxRecDepth 20000 in
theorem ggX5_part_X1_hasPart : GoodIn wsX5_part wsX1_hasPart := goodIn_r _ [146, 17, 227, 228, 229, 230, 231, 232, 233, 234, 235, 236, 237, 238, 239, 240] (by decide +kernel) (by decide +kernel)
set_option maxRecDepth 20000 in
theorem gX5_part_X1_hasPart : GoodIn wsX5_part (wsV RX5 123 RX1 yX1_hasPart wsX1_hasPart) := goodIn_app (goodIn_of _ (by decide +kernel)) ggX5_part_X1_hasPart
set_option maxRecDepth 20000 in
theorem ggX5_part_X1_groupOfPart : GoodIn wsX5_part wsX1_groupOfPart := goodIn_r _ [150, 141, 227, 228, 229, 230, 231, 232, 233, 234, 235, 236, 237, 238, 239, 240] (by decide +kernel) (by decide +kernel)
set_option maxRecDepth 20000 in
theorem gX5_part_X1_groupOfPart : GoodIn wsX5_part (wsV RX5 126 RX1 yX1_groupOfPart wsX1_groupOfPart) := goodIn_app (goodIn_of _ (by decide +kernel)) ggX5_part_X1_groupOfPart
set_option maxRecDepth 20000 in
theorem ggX5_part_X1_sizeOf : GoodIn wsX5_part wsX1_sizeOf := goodIn_r _ [154, 100, 227, 228, 229, 230, 231, 232, 233, 234, 235, 236, 237, 238, 239, 240] (by decide +kernel) (by decide +kernel)
set_option maxRecDepth 20000 in
theorem gX5_part_X1_sizeOf : GoodIn wsX5_part (wsV RX5 129 RX1 yX1_sizeOf wsX1_sizeOf) := goodIn_app (goodIn_of _ (by decide +kernel)) ggX5_part_X1_sizeOf
set_option maxRecDepth 20000 in
theorem ggX5_part_X1_rimOf : GoodIn wsX5_part wsX1_rimOf := goodIn_r _ [158, 101, 227, 228, 229, 230, 231, 232, 233, 234, 235, 236, 237, 238, 239, 240] (by decide +kernel) (by decide +kernel)
set_option maxRecDepth 20000 in
theorem gX5_part_X1_rimOf : GoodIn wsX5_part (wsV RX5 132 RX1 yX1_rimOf wsX1_rimOf) := goodIn_app (goodIn_of _ (by decide +kernel)) ggX5_part_X1_rimOf
set_option maxRecDepth 20000 in
theorem ggX5_part_X1_topOf : GoodIn wsX5_part wsX1_topOf := goodIn_r _ [162, 16, 108, 109, 110, 23, 111, 43, 227, 228, 229, 230, 231, 232, 233, 234, 235, 236, 237, 238, 239, 240, 241, 242, 243, 244, 245, 246, 247, 248] (by decide +kernel) (by decide +kernel)
set_option maxRecDepth 20000 in
theorem gX5_part_X1_topOf : GoodIn wsX5_part (wsV RX5 135 RX1 yX1_topOf wsX1_topOf) := goodIn_app (goodIn_of _ (by decide +kernel)) ggX5_part_X1_topOf
set_option maxRecDepth 20000 in
theorem ggX5_part_X1_bottomOf : GoodIn wsX5_part wsX1_bottomOf := goodIn_r _ [166, 102, 227, 228, 229, 230, 231, 232, 233, 234, 235, 236, 237, 238, 239, 240] (by decide +kernel) (by decide +kernel)
set_option maxRecDepth 20000 in
theorem gX5_part_X1_bottomOf : GoodIn wsX5_part (wsV RX5 138 RX1 yX1_bottomOf wsX1_bottomOf) := goodIn_app (goodIn_of _ (by decide +kernel)) ggX5_part_X1_bottomOf
set_option maxRecDepth 20000 in
theorem ggX5_part_X1_leftOf : GoodIn wsX5_part wsX1_leftOf := goodIn_r _ [170, 103, 227, 228, 229, 230, 231, 232, 233, 234, 235, 236, 237, 238, 239, 240] (by decide +kernel) (by decide +kernel)
set_option maxRecDepth 20000 in
theorem gX5_part_X1_leftOf : GoodIn wsX5_part (wsV RX5 141 RX1 yX1_leftOf wsX1_leftOf) := goodIn_app (goodIn_of _ (by decide +kernel)) ggX5_part_X1_leftOf
set_option maxRecDepth 20000 in
theorem ggX5_part_X1_rightOf : GoodIn wsX5_part wsX1_rightOf := goodIn_r _ [174, 105, 227, 228, 229, 230, 231, 232, 233, 234, 235, 236, 237, 238, 239, 240] (by decide +kernel) (by decide +kernel)
set_option maxRecDepth 20000 in
theorem gX5_part_X1_rightOf : GoodIn wsX5_part (wsV RX5 144 RX1 yX1_rightOf wsX1_rightOf) := goodIn_app (goodIn_of _ (by decide +kernel)) ggX5_part_X1_rightOf
set_option maxRecDepth 20000 in
theorem ggX5_part_X1_holesOfPart : GoodIn wsX5_part wsX1_holesOfPart := goodIn_r _ [178, 18, 179, 180, 181, 14, 182, 16, 183, 184, 185, 186, 142, 108, 109, 110, 23, 111, 43, 112, 66, 67, 68, 44, 187, 188, 189, 190, 191, 192, 193, 194, 140, 195, 6, 196, 197, 198, 199, 200, 26, 27, 201, 130, 131, 132, 133, 134, 135, 119, 62, 63, 64, 46, 114, 93, 94, 95, 47, 227, 228, 229, 230, 231, 232, 233, 234, 235, 236, 237, 238, 239, 240, 241, 242, 243, 244, 245, 246, 247, 248] (by decide +kernel) (by decide +kernel)
set_option maxRecDepth 20000 in
theorem gX5_part_X1_holesOfPart : GoodIn wsX5_part (wsV RX5 147 RX1 yX1_holesOfPart wsX1_holesOfPart) := goodIn_app (goodIn_of _ (by decide +kernel)) ggX5_part_X1_holesOfPart
set_option maxRecDepth 20000 in
theorem ggX5_part_X1_holeAround : GoodIn wsX5_part wsX1_holeAround := goodIn_r _ [205, 16, 206, 148, 149, 14, 150, 141, 108, 109, 110, 23, 111, 43, 112, 66, 67, 68, 44, 207, 208, 209, 210, 191, 192, 193, 194, 140, 195, 6, 196, 197, 198, 199, 200, 26, 27, 201, 130, 131, 132, 133, 134, 135, 119, 62, 63, 64, 46, 114, 93, 94, 95, 47, 227, 228, 229, 230, 231, 232, 233, 234, 235, 236, 237, 238, 239, 240, 241, 242, 243, 244, 245, 246, 247, 248] (by decide +kernel) (by decide +kernel)
set_option maxRecDepth 20000 in
theorem gX5_part_X1_holeAround : GoodIn wsX5_part (wsV RX5 150 RX1 yX1_holeAround wsX1_holeAround) := goodIn_app (goodIn_of _ (by decide +kernel)) ggX5_part_X1_holeAround
set_option maxRecDepth 20000 in
theorem ggX5_part_X1_depthOf : GoodIn wsX5_part wsX1_depthOf := goodIn_r _ [214, 215, 203, 204, 14, 205, 16, 206, 148, 149, 150, 141, 108, 109, 110, 23, 111, 43, 112, 66, 67, 68, 44, 207, 208, 209, 210, 191, 192, 193, 194, 140, 195, 6, 196, 197, 198, 199, 200, 26, 27, 201, 130, 131, 132, 133, 134, 135, 119, 62, 63, 64, 46, 114, 93, 94, 95, 47, 179, 180, 181, 182, 183, 184, 185, 186, 142, 187, 188, 189, 190, 227, 228, 229, 230, 231, 232, 233, 234, 235, 236, 237, 238, 239, 240, 241, 242, 243, 244, 245, 246, 247, 248] (by decide +kernel) (by decide +kernel)
set_option maxRecDepth 20000 in
theorem gX5_part_X1_depthOf : GoodIn wsX5_part (wsV RX5 153 RX1 yX1_depthOf wsX1_depthOf) := goodIn_app (goodIn_of _ (by decide +kernel)) ggX5_part_X1_depthOf
set_option maxRecDepth 20000 in
theorem ggX5_part_X1_leastPlaceOf : GoodIn wsX5_part wsX1_leastPlaceOf := goodIn_r _ [219, 16, 108, 109, 110, 23, 111, 43, 112, 66, 67, 68, 44, 227, 228, 229, 230, 231, 232, 233, 234, 235, 236, 237, 238, 239, 240, 241, 242, 243, 244, 245, 246, 247, 248] (by decide +kernel) (by decide +kernel)
set_option maxRecDepth 20000 in
theorem gX5_part_X1_leastPlaceOf : GoodIn wsX5_part (wsV RX5 156 RX1 yX1_leastPlaceOf wsX1_leastPlaceOf) := goodIn_app (goodIn_of _ (by decide +kernel)) ggX5_part_X1_leastPlaceOf
theorem dX5_part_0 : decode cX5_part 0 = .ok (.aload_n 0, 1) := by decide +kernel
theorem dX5_part_1 : decode cX5_part 1 = .ok (.invokevirtual 59, 3) := by decide +kernel
theorem dX5_part_4 : decode cX5_part 4 = .ok (.astore_n 3, 1) := by decide +kernel
theorem dX5_part_5 : decode cX5_part 5 = .ok (.aload_n 3, 1) := by decide +kernel
theorem dX5_part_6 : decode cX5_part 6 = .ok (.iload_n 1, 1) := by decide +kernel
theorem dX5_part_7 : decode cX5_part 7 = .ok (.invokevirtual 123, 3) := by decide +kernel
theorem dX5_part_10 : decode cX5_part 10 = .ok (.ifCond .ne 6, 3) := by decide +kernel
theorem dX5_part_13 : decode cX5_part 13 = .ok (.ldc 92, 2) := by decide +kernel
theorem dX5_part_15 : decode cX5_part 15 = .ok (.ireturn, 1) := by decide +kernel
theorem dX5_part_16 : decode cX5_part 16 = .ok (.aload_n 3, 1) := by decide +kernel
theorem dX5_part_17 : decode cX5_part 17 = .ok (.iload_n 1, 1) := by decide +kernel
theorem dX5_part_18 : decode cX5_part 18 = .ok (.invokevirtual 126, 3) := by decide +kernel
theorem dX5_part_21 : decode cX5_part 21 = .ok (.istore 4, 2) := by decide +kernel
theorem dX5_part_23 : decode cX5_part 23 = .ok (.iload_n 2, 1) := by decide +kernel
theorem dX5_part_24 : decode cX5_part 24 = .ok (.tableswitch 123 0 9 #[56, 63, 70, 77, 84, 91, 98, 104, 110, 116], 56) := by decide +kernel
theorem dX5_part_80 : decode cX5_part 80 = .ok (.aload_n 3, 1) := by decide +kernel
theorem dX5_part_81 : decode cX5_part 81 = .ok (.iload 4, 2) := by decide +kernel
theorem dX5_part_83 : decode cX5_part 83 = .ok (.invokevirtual 129, 3) := by decide +kernel
theorem dX5_part_86 : decode cX5_part 86 = .ok (.ireturn, 1) := by decide +kernel
theorem dX5_part_87 : decode cX5_part 87 = .ok (.aload_n 3, 1) := by decide +kernel
theorem dX5_part_88 : decode cX5_part 88 = .ok (.iload 4, 2) := by decide +kernel
theorem dX5_part_90 : decode cX5_part 90 = .ok (.invokevirtual 132, 3) := by decide +kernel
theorem dX5_part_93 : decode cX5_part 93 = .ok (.ireturn, 1) := by decide +kernel
theorem dX5_part_94 : decode cX5_part 94 = .ok (.aload_n 3, 1) := by decide +kernel
theorem dX5_part_95 : decode cX5_part 95 = .ok (.iload 4, 2) := by decide +kernel
theorem dX5_part_97 : decode cX5_part 97 = .ok (.invokevirtual 135, 3) := by decide +kernel
theorem dX5_part_100 : decode cX5_part 100 = .ok (.ireturn, 1) := by decide +kernel
theorem dX5_part_101 : decode cX5_part 101 = .ok (.aload_n 3, 1) := by decide +kernel
theorem dX5_part_102 : decode cX5_part 102 = .ok (.iload 4, 2) := by decide +kernel
theorem dX5_part_104 : decode cX5_part 104 = .ok (.invokevirtual 138, 3) := by decide +kernel
theorem dX5_part_107 : decode cX5_part 107 = .ok (.ireturn, 1) := by decide +kernel
theorem dX5_part_108 : decode cX5_part 108 = .ok (.aload_n 3, 1) := by decide +kernel
theorem dX5_part_109 : decode cX5_part 109 = .ok (.iload 4, 2) := by decide +kernel
theorem dX5_part_111 : decode cX5_part 111 = .ok (.invokevirtual 141, 3) := by decide +kernel
theorem dX5_part_114 : decode cX5_part 114 = .ok (.ireturn, 1) := by decide +kernel
theorem dX5_part_115 : decode cX5_part 115 = .ok (.aload_n 3, 1) := by decide +kernel
theorem dX5_part_116 : decode cX5_part 116 = .ok (.iload 4, 2) := by decide +kernel
theorem dX5_part_118 : decode cX5_part 118 = .ok (.invokevirtual 144, 3) := by decide +kernel
theorem dX5_part_121 : decode cX5_part 121 = .ok (.ireturn, 1) := by decide +kernel
theorem dX5_part_122 : decode cX5_part 122 = .ok (.aload_n 3, 1) := by decide +kernel
theorem dX5_part_123 : decode cX5_part 123 = .ok (.iload_n 1, 1) := by decide +kernel
theorem dX5_part_124 : decode cX5_part 124 = .ok (.invokevirtual 147, 3) := by decide +kernel
theorem dX5_part_127 : decode cX5_part 127 = .ok (.ireturn, 1) := by decide +kernel
theorem dX5_part_128 : decode cX5_part 128 = .ok (.aload_n 3, 1) := by decide +kernel
theorem dX5_part_129 : decode cX5_part 129 = .ok (.iload_n 1, 1) := by decide +kernel
theorem dX5_part_130 : decode cX5_part 130 = .ok (.invokevirtual 150, 3) := by decide +kernel
theorem dX5_part_133 : decode cX5_part 133 = .ok (.ireturn, 1) := by decide +kernel
theorem dX5_part_134 : decode cX5_part 134 = .ok (.aload_n 3, 1) := by decide +kernel
theorem dX5_part_135 : decode cX5_part 135 = .ok (.iload_n 1, 1) := by decide +kernel
theorem dX5_part_136 : decode cX5_part 136 = .ok (.invokevirtual 153, 3) := by decide +kernel
theorem dX5_part_139 : decode cX5_part 139 = .ok (.ireturn, 1) := by decide +kernel
theorem dX5_part_140 : decode cX5_part 140 = .ok (.aload_n 3, 1) := by decide +kernel
theorem dX5_part_141 : decode cX5_part 141 = .ok (.iload 4, 2) := by decide +kernel
theorem dX5_part_143 : decode cX5_part 143 = .ok (.invokevirtual 156, 3) := by decide +kernel
theorem dX5_part_146 : decode cX5_part 146 = .ok (.ireturn, 1) := by decide +kernel
theorem dX5_part_147 : decode cX5_part 147 = .ok (.ldc 87, 2) := by decide +kernel
theorem dX5_part_149 : decode cX5_part 149 = .ok (.ireturn, 1) := by decide +kernel
set_option maxRecDepth 20000 in
theorem ggX5_hole_X5_parted : GoodIn wsX5_hole wsX5_parted := goodIn_r _ [7, 8, 9, 10, 11, 12, 13, 14, 15, 16, 17, 18, 19, 20, 21, 22, 23, 24, 25, 26, 27, 28, 29, 30, 31, 32, 33, 34, 35, 36, 37, 38, 39, 40, 41, 42, 43, 44, 45, 46, 47, 48, 49, 50, 51, 52, 53, 54, 55, 56, 57, 58, 59, 60, 61, 62, 63, 64, 65, 66, 67, 68, 69, 70, 71, 72, 73, 74, 75, 76, 77, 78, 79, 80, 81, 82, 83, 84, 85, 86, 87, 88, 89, 90, 91, 92, 93, 94, 95, 96, 97, 98, 99, 100, 101, 102, 103, 104, 105, 106, 107, 108, 109, 110, 111, 112, 113, 114, 115, 116, 117, 118, 119, 120, 121, 122, 123, 124, 125, 126, 127, 128, 129, 130, 131, 132, 133, 134, 135, 136, 137, 138, 139, 140, 141, 142, 195, 196, 197, 198, 199, 200, 201, 202, 203, 204, 205, 206, 207, 208, 209, 210, 211, 212, 213, 214, 215, 216, 217, 218, 219, 220, 221, 222, 223, 224, 225, 226] (by decide +kernel) (by decide +kernel)
set_option maxRecDepth 20000 in
theorem gX5_hole_X5_parted : GoodIn wsX5_hole (wsV RX5 59 RX5 yX5_parted wsX5_parted) := goodIn_app (goodIn_of _ (by decide +kernel)) ggX5_hole_X5_parted
set_option maxRecDepth 20000 in
theorem ggX5_hole_X1_hasHole : GoodIn wsX5_hole wsX1_hasHole := goodIn_r _ [146, 18, 202, 203, 204, 205, 206, 207, 208, 209, 210, 211, 212, 213, 214, 215] (by decide +kernel) (by decide +kernel)
set_option maxRecDepth 20000 in
theorem gX5_hole_X1_hasHole : GoodIn wsX5_hole (wsV RX5 159 RX1 yX1_hasHole wsX1_hasHole) := goodIn_app (goodIn_of _ (by decide +kernel)) ggX5_hole_X1_hasHole
set_option maxRecDepth 20000 in
theorem ggX5_hole_X1_groupOfHole : GoodIn wsX5_hole wsX1_groupOfHole := goodIn_r _ [150, 142, 202, 203, 204, 205, 206, 207, 208, 209, 210, 211, 212, 213, 214, 215] (by decide +kernel) (by decide +kernel)
set_option maxRecDepth 20000 in
theorem gX5_hole_X1_groupOfHole : GoodIn wsX5_hole (wsV RX5 162 RX1 yX1_groupOfHole wsX1_groupOfHole) := goodIn_app (goodIn_of _ (by decide +kernel)) ggX5_hole_X1_groupOfHole
set_option maxRecDepth 20000 in
theorem ggX5_hole_X1_sizeOf : GoodIn wsX5_hole wsX1_sizeOf := goodIn_r _ [154, 100, 202, 203, 204, 205, 206, 207, 208, 209, 210, 211, 212, 213, 214, 215] (by decide +kernel) (by decide +kernel)
set_option maxRecDepth 20000 in
theorem gX5_hole_X1_sizeOf : GoodIn wsX5_hole (wsV RX5 129 RX1 yX1_sizeOf wsX1_sizeOf) := goodIn_app (goodIn_of _ (by decide +kernel)) ggX5_hole_X1_sizeOf
set_option maxRecDepth 20000 in
theorem ggX5_hole_X1_partAround : GoodIn wsX5_hole wsX1_partAround := goodIn_r _ [158, 16, 159, 148, 149, 14, 150, 142, 108, 109, 110, 23, 111, 43, 112, 66, 67, 68, 44, 160, 161, 162, 163, 164, 165, 166, 167, 140, 168, 6, 169, 170, 171, 172, 173, 26, 27, 174, 130, 131, 132, 133, 134, 135, 119, 62, 63, 64, 46, 114, 93, 94, 95, 47, 202, 203, 204, 205, 206, 207, 208, 209, 210, 211, 212, 213, 214, 215, 216, 217, 218, 219, 220, 221, 222, 223] (by decide +kernel) (by decide +kernel)
set_option maxRecDepth 20000 in
theorem gX5_hole_X1_partAround : GoodIn wsX5_hole (wsV RX5 165 RX1 yX1_partAround wsX1_partAround) := goodIn_app (goodIn_of _ (by decide +kernel)) ggX5_hole_X1_partAround
set_option maxRecDepth 20000 in
theorem ggX5_hole_X1_partsInHole : GoodIn wsX5_hole wsX1_partsInHole := goodIn_r _ [178, 17, 179, 180, 181, 14, 182, 16, 183, 184, 185, 186, 141, 108, 109, 110, 23, 111, 43, 112, 66, 67, 68, 44, 187, 188, 189, 190, 164, 165, 166, 167, 140, 168, 6, 169, 170, 171, 172, 173, 26, 27, 174, 130, 131, 132, 133, 134, 135, 119, 62, 63, 64, 46, 114, 93, 94, 95, 47, 202, 203, 204, 205, 206, 207, 208, 209, 210, 211, 212, 213, 214, 215, 216, 217, 218, 219, 220, 221, 222, 223] (by decide +kernel) (by decide +kernel)
set_option maxRecDepth 20000 in
theorem gX5_hole_X1_partsInHole : GoodIn wsX5_hole (wsV RX5 168 RX1 yX1_partsInHole wsX1_partsInHole) := goodIn_app (goodIn_of _ (by decide +kernel)) ggX5_hole_X1_partsInHole
set_option maxRecDepth 20000 in
theorem ggX5_hole_X1_leastPlaceOf : GoodIn wsX5_hole wsX1_leastPlaceOf := goodIn_r _ [194, 16, 108, 109, 110, 23, 111, 43, 112, 66, 67, 68, 44, 202, 203, 204, 205, 206, 207, 208, 209, 210, 211, 212, 213, 214, 215, 216, 217, 218, 219, 220, 221, 222, 223] (by decide +kernel) (by decide +kernel)
set_option maxRecDepth 20000 in
theorem gX5_hole_X1_leastPlaceOf : GoodIn wsX5_hole (wsV RX5 156 RX1 yX1_leastPlaceOf wsX1_leastPlaceOf) := goodIn_app (goodIn_of _ (by decide +kernel)) ggX5_hole_X1_leastPlaceOf
theorem dX5_hole_0 : decode cX5_hole 0 = .ok (.aload_n 0, 1) := by decide +kernel
theorem dX5_hole_1 : decode cX5_hole 1 = .ok (.invokevirtual 59, 3) := by decide +kernel
theorem dX5_hole_4 : decode cX5_hole 4 = .ok (.astore_n 3, 1) := by decide +kernel
theorem dX5_hole_5 : decode cX5_hole 5 = .ok (.aload_n 3, 1) := by decide +kernel
theorem dX5_hole_6 : decode cX5_hole 6 = .ok (.iload_n 1, 1) := by decide +kernel
theorem dX5_hole_7 : decode cX5_hole 7 = .ok (.invokevirtual 159, 3) := by decide +kernel
theorem dX5_hole_10 : decode cX5_hole 10 = .ok (.ifCond .ne 6, 3) := by decide +kernel
theorem dX5_hole_13 : decode cX5_hole 13 = .ok (.ldc 92, 2) := by decide +kernel
theorem dX5_hole_15 : decode cX5_hole 15 = .ok (.ireturn, 1) := by decide +kernel
theorem dX5_hole_16 : decode cX5_hole 16 = .ok (.aload_n 3, 1) := by decide +kernel
theorem dX5_hole_17 : decode cX5_hole 17 = .ok (.iload_n 1, 1) := by decide +kernel
theorem dX5_hole_18 : decode cX5_hole 18 = .ok (.invokevirtual 162, 3) := by decide +kernel
theorem dX5_hole_21 : decode cX5_hole 21 = .ok (.istore 4, 2) := by decide +kernel
theorem dX5_hole_23 : decode cX5_hole 23 = .ok (.iload_n 2, 1) := by decide +kernel
theorem dX5_hole_24 : decode cX5_hole 24 = .ok (.tableswitch 58 0 3 #[32, 39, 45, 51], 32) := by decide +kernel
theorem dX5_hole_56 : decode cX5_hole 56 = .ok (.aload_n 3, 1) := by decide +kernel
theorem dX5_hole_57 : decode cX5_hole 57 = .ok (.iload 4, 2) := by decide +kernel
theorem dX5_hole_59 : decode cX5_hole 59 = .ok (.invokevirtual 129, 3) := by decide +kernel
theorem dX5_hole_62 : decode cX5_hole 62 = .ok (.ireturn, 1) := by decide +kernel
theorem dX5_hole_63 : decode cX5_hole 63 = .ok (.aload_n 3, 1) := by decide +kernel
theorem dX5_hole_64 : decode cX5_hole 64 = .ok (.iload_n 1, 1) := by decide +kernel
theorem dX5_hole_65 : decode cX5_hole 65 = .ok (.invokevirtual 165, 3) := by decide +kernel
theorem dX5_hole_68 : decode cX5_hole 68 = .ok (.ireturn, 1) := by decide +kernel
theorem dX5_hole_69 : decode cX5_hole 69 = .ok (.aload_n 3, 1) := by decide +kernel
theorem dX5_hole_70 : decode cX5_hole 70 = .ok (.iload_n 1, 1) := by decide +kernel
theorem dX5_hole_71 : decode cX5_hole 71 = .ok (.invokevirtual 168, 3) := by decide +kernel
theorem dX5_hole_74 : decode cX5_hole 74 = .ok (.ireturn, 1) := by decide +kernel
theorem dX5_hole_75 : decode cX5_hole 75 = .ok (.aload_n 3, 1) := by decide +kernel
theorem dX5_hole_76 : decode cX5_hole 76 = .ok (.iload 4, 2) := by decide +kernel
theorem dX5_hole_78 : decode cX5_hole 78 = .ok (.invokevirtual 156, 3) := by decide +kernel
theorem dX5_hole_81 : decode cX5_hole 81 = .ok (.ireturn, 1) := by decide +kernel
theorem dX5_hole_82 : decode cX5_hole 82 = .ok (.ldc 87, 2) := by decide +kernel
theorem dX5_hole_84 : decode cX5_hole 84 = .ok (.ireturn, 1) := by decide +kernel
set_option maxRecDepth 20000 in
theorem ggX5_row_X5_isLine : GoodIn wsX5_row wsX5_isLine := goodIn_r _ [8] (by decide +kernel) (by decide +kernel)
set_option maxRecDepth 20000 in
theorem gX5_row_X5_isLine : GoodIn wsX5_row (va_wsS RX5 88 yX5_isLine wsX5_isLine) := goodIn_app (goodIn_of _ (by decide +kernel)) ggX5_row_X5_isLine
set_option maxRecDepth 20000 in
theorem ggX5_row_X5_remember : GoodIn wsX5_row wsX5_remember := goodIn_r _ [12, 13, 4, 14, 15, 16, 17, 18, 19, 20, 21, 22, 23, 24, 25, 26, 27, 28, 29, 30, 31, 32, 33, 34, 35, 36, 37, 174, 175, 176, 177, 178, 179, 180, 195, 196, 197, 198, 199, 200] (by decide +kernel) (by decide +kernel)
set_option maxRecDepth 20000 in
theorem gX5_row_X5_remember : GoodIn wsX5_row (wsV RX5 172 RX5 yX5_remember wsX5_remember) := goodIn_app (goodIn_of _ (by decide +kernel)) ggX5_row_X5_remember
set_option maxRecDepth 20000 in
theorem ggX5_row_X3_putLine : GoodIn wsX5_row wsX3_putLine := goodIn_r _ [41, 32, 42, 198, 199, 200] (by decide +kernel) (by decide +kernel)
set_option maxRecDepth 20000 in
theorem gX5_row_X3_putLine : GoodIn wsX5_row (wsV RX5 175 RX3 yX3_putLine wsX3_putLine) := goodIn_app (goodIn_of _ (by decide +kernel)) ggX5_row_X3_putLine
set_option maxRecDepth 20000 in
theorem ggX5_row_X5_parted : GoodIn wsX5_row wsX5_parted := goodIn_r _ [46, 14, 47, 4, 48, 49, 50, 51, 52, 53, 54, 55, 56, 57, 58, 59, 60, 61, 62, 63, 64, 65, 66, 67, 68, 30, 69, 32, 70, 71, 72, 73, 74, 75, 76, 77, 78, 79, 80, 81, 82, 83, 84, 85, 86, 37, 87, 88, 89, 90, 91, 92, 93, 94, 95, 96, 97, 98, 99, 100, 101, 102, 103, 104, 105, 106, 107, 108, 109, 110, 111, 112, 25, 113, 114, 24, 26, 115, 116, 117, 118, 119, 120, 121, 122, 123, 124, 125, 126, 127, 128, 129, 130, 131, 132, 133, 134, 135, 136, 137, 138, 139, 140, 141, 142, 143, 144, 145, 146, 147, 148, 149, 150, 151, 152, 153, 154, 155, 156, 157, 158, 159, 160, 161, 162, 163, 164, 165, 166, 167, 168, 169, 170, 171, 172, 173, 174, 175, 176, 177, 178, 179, 180, 181, 182, 183, 184, 185, 186, 187, 188, 189, 190, 191, 192, 193, 194, 201, 202, 203, 204, 205, 206, 207, 208, 198, 199, 200] (by decide +kernel) (by decide +kernel)
set_option maxRecDepth 20000 in
theorem gX5_row_X5_parted : GoodIn wsX5_row (wsV RX5 59 RX5 yX5_parted wsX5_parted) := goodIn_app (goodIn_of _ (by decide +kernel)) ggX5_row_X5_parted
theorem dX5_row_0 : decode cX5_row 0 = .ok (.iload_n 1, 1) := by decide +kernel
theorem dX5_row_1 : decode cX5_row 1 = .ok (.invokestatic 88, 3) := by decide +kernel
theorem dX5_row_4 : decode cX5_row 4 = .ok (.ifCond .ne 6, 3) := by decide +kernel
theorem dX5_row_7 : decode cX5_row 7 = .ok (.ldc 92, 2) := by decide +kernel
theorem dX5_row_9 : decode cX5_row 9 = .ok (.ireturn, 1) := by decide +kernel
theorem dX5_row_10 : decode cX5_row 10 = .ok (.iload_n 2, 1) := by decide +kernel
theorem dX5_row_11 : decode cX5_row 11 = .ok (.ifCond .lt 9, 3) := by decide +kernel
theorem dX5_row_14 : decode cX5_row 14 = .ok (.iload_n 2, 1) := by decide +kernel
theorem dX5_row_15 : decode cX5_row 15 = .ok (.ldc 171, 2) := by decide +kernel
theorem dX5_row_17 : decode cX5_row 17 = .ok (.if_icmp .le 6, 3) := by decide +kernel
theorem dX5_row_20 : decode cX5_row 20 = .ok (.ldc 87, 2) := by decide +kernel
theorem dX5_row_22 : decode cX5_row 22 = .ok (.ireturn, 1) := by decide +kernel
theorem dX5_row_23 : decode cX5_row 23 = .ok (.aload_n 0, 1) := by decide +kernel
theorem dX5_row_24 : decode cX5_row 24 = .ok (.invokevirtual 172, 3) := by decide +kernel
theorem dX5_row_27 : decode cX5_row 27 = .ok (.aload_n 0, 1) := by decide +kernel
theorem dX5_row_28 : decode cX5_row 28 = .ok (.getfield 12, 3) := by decide +kernel
theorem dX5_row_31 : decode cX5_row 31 = .ok (.iload_n 1, 1) := by decide +kernel
theorem dX5_row_32 : decode cX5_row 32 = .ok (.iload_n 2, 1) := by decide +kernel
theorem dX5_row_33 : decode cX5_row 33 = .ok (.invokevirtual 175, 3) := by decide +kernel
theorem dX5_row_36 : decode cX5_row 36 = .ok (.aload_n 0, 1) := by decide +kernel
theorem dX5_row_37 : decode cX5_row 37 = .ok (.invokevirtual 59, 3) := by decide +kernel
theorem dX5_row_40 : decode cX5_row 40 = .ok (.getfield 63, 3) := by decide +kernel
theorem dX5_row_43 : decode cX5_row 43 = .ok (.ireturn, 1) := by decide +kernel
set_option maxRecDepth 20000 in
theorem ggX5_turn_X5_isLine : GoodIn wsX5_turn wsX5_isLine := goodIn_r _ [6] (by decide +kernel) (by decide +kernel)
set_option maxRecDepth 20000 in
theorem gX5_turn_X5_isLine : GoodIn wsX5_turn (va_wsS RX5 88 yX5_isLine wsX5_isLine) := goodIn_app (goodIn_of _ (by decide +kernel)) ggX5_turn_X5_isLine
set_option maxRecDepth 20000 in
theorem ggX5_turn_X5_remember : GoodIn wsX5_turn wsX5_remember := goodIn_r _ [10, 11, 2, 12, 13, 14, 15, 16, 17, 18, 19, 20, 21, 22, 23, 24, 25, 26, 27, 28, 29, 30, 31, 32, 33, 34, 35, 53, 54, 55, 56, 57, 58, 59, 60, 61, 62, 63, 64, 65] (by decide +kernel) (by decide +kernel)
set_option maxRecDepth 20000 in
theorem gX5_turn_X5_remember : GoodIn wsX5_turn (wsV RX5 172 RX5 yX5_remember wsX5_remember) := goodIn_app (goodIn_of _ (by decide +kernel)) ggX5_turn_X5_remember
set_option maxRecDepth 20000 in
theorem ggX5_turn_X3_flip : GoodIn wsX5_turn wsX3_flip := goodIn_r _ [39, 40, 41, 42, 28, 43, 30, 44, 45, 46, 47, 48, 63, 64, 65] (by decide +kernel) (by decide +kernel)
set_option maxRecDepth 20000 in
theorem gX5_turn_X3_flip : GoodIn wsX5_turn (wsV RX5 179 RX3 yX3_flip wsX3_flip) := goodIn_app (goodIn_of _ (by decide +kernel)) ggX5_turn_X3_flip
set_option maxRecDepth 20000 in
theorem ggX5_turn_X3_isDark : GoodIn wsX5_turn wsX3_isDark := goodIn_r _ [52, 40, 41, 42, 28, 43, 30, 63, 64, 65] (by decide +kernel) (by decide +kernel)
set_option maxRecDepth 20000 in
theorem gX5_turn_X3_isDark : GoodIn wsX5_turn (wsV RX5 100 RX3 yX3_isDark wsX3_isDark) := goodIn_app (goodIn_of _ (by decide +kernel)) ggX5_turn_X3_isDark
theorem dX5_turn_0 : decode cX5_turn 0 = .ok (.iload_n 1, 1) := by decide +kernel
theorem dX5_turn_1 : decode cX5_turn 1 = .ok (.invokestatic 88, 3) := by decide +kernel
theorem dX5_turn_4 : decode cX5_turn 4 = .ok (.ifCond .eq 10, 3) := by decide +kernel
theorem dX5_turn_7 : decode cX5_turn 7 = .ok (.iload_n 2, 1) := by decide +kernel
theorem dX5_turn_8 : decode cX5_turn 8 = .ok (.invokestatic 88, 3) := by decide +kernel
theorem dX5_turn_11 : decode cX5_turn 11 = .ok (.ifCond .ne 6, 3) := by decide +kernel
theorem dX5_turn_14 : decode cX5_turn 14 = .ok (.ldc 92, 2) := by decide +kernel
theorem dX5_turn_16 : decode cX5_turn 16 = .ok (.ireturn, 1) := by decide +kernel
theorem dX5_turn_17 : decode cX5_turn 17 = .ok (.aload_n 0, 1) := by decide +kernel
theorem dX5_turn_18 : decode cX5_turn 18 = .ok (.invokevirtual 172, 3) := by decide +kernel
theorem dX5_turn_21 : decode cX5_turn 21 = .ok (.aload_n 0, 1) := by decide +kernel
theorem dX5_turn_22 : decode cX5_turn 22 = .ok (.getfield 12, 3) := by decide +kernel
theorem dX5_turn_25 : decode cX5_turn 25 = .ok (.iload_n 1, 1) := by decide +kernel
theorem dX5_turn_26 : decode cX5_turn 26 = .ok (.iconst 1, 1) := by decide +kernel
theorem dX5_turn_27 : decode cX5_turn 27 = .ok (.iload_n 2, 1) := by decide +kernel
theorem dX5_turn_28 : decode cX5_turn 28 = .ok (.ishl, 1) := by decide +kernel
theorem dX5_turn_29 : decode cX5_turn 29 = .ok (.invokevirtual 179, 3) := by decide +kernel
theorem dX5_turn_32 : decode cX5_turn 32 = .ok (.aload_n 0, 1) := by decide +kernel
theorem dX5_turn_33 : decode cX5_turn 33 = .ok (.getfield 12, 3) := by decide +kernel
theorem dX5_turn_36 : decode cX5_turn 36 = .ok (.iload_n 1, 1) := by decide +kernel
theorem dX5_turn_37 : decode cX5_turn 37 = .ok (.iload_n 2, 1) := by decide +kernel
theorem dX5_turn_38 : decode cX5_turn 38 = .ok (.invokevirtual 100, 3) := by decide +kernel
theorem dX5_turn_41 : decode cX5_turn 41 = .ok (.ifCond .eq 7, 3) := by decide +kernel
theorem dX5_turn_44 : decode cX5_turn 44 = .ok (.iconst 1, 1) := by decide +kernel
theorem dX5_turn_45 : decode cX5_turn 45 = .ok (.goto 4, 3) := by decide +kernel
theorem dX5_turn_48 : decode cX5_turn 48 = .ok (.iconst 0, 1) := by decide +kernel
theorem dX5_turn_49 : decode cX5_turn 49 = .ok (.ireturn, 1) := by decide +kernel
set_option maxRecDepth 20000 in
theorem ggX5_wipe_X5_parted : GoodIn wsX5_wipe wsX5_parted := goodIn_r _ [6, 7, 8, 9, 10, 11, 12, 13, 14, 15, 16, 17, 18, 19, 20, 21, 22, 23, 24, 25, 26, 27, 28, 29, 30, 31, 32, 33, 34, 35, 36, 37, 38, 39, 40, 41, 42, 43, 44, 45, 46, 47, 48, 49, 50, 51, 52, 53, 54, 55, 56, 57, 58, 59, 60, 61, 62, 63, 64, 65, 66, 67, 68, 69, 70, 71, 72, 73, 74, 75, 76, 77, 78, 79, 80, 81, 82, 83, 84, 85, 86, 87, 88, 89, 90, 91, 92, 93, 94, 95, 96, 97, 98, 99, 100, 101, 102, 103, 104, 105, 106, 107, 108, 109, 110, 111, 112, 113, 114, 115, 116, 117, 118, 119, 120, 121, 122, 123, 124, 125, 126, 127, 128, 129, 130, 131, 132, 133, 134, 135, 136, 137, 138, 139, 140, 141, 193, 194, 195, 196, 197, 198, 199, 200, 201, 202, 203, 204, 205, 206, 207, 208, 209, 210, 211, 212, 213, 214, 215, 216, 217, 218, 219, 220, 221, 222, 223, 224] (by decide +kernel) (by decide +kernel)
set_option maxRecDepth 20000 in
theorem gX5_wipe_X5_parted : GoodIn wsX5_wipe (wsV RX5 59 RX5 yX5_parted wsX5_parted) := goodIn_app (goodIn_of _ (by decide +kernel)) ggX5_wipe_X5_parted
set_option maxRecDepth 20000 in
theorem ggX5_wipe_X1_hasPart : GoodIn wsX5_wipe wsX1_hasPart := goodIn_r _ [145, 16, 200, 201, 202, 203, 204, 205, 206, 207, 208, 209, 210, 211, 212, 213] (by decide +kernel) (by decide +kernel)
set_option maxRecDepth 20000 in
theorem gX5_wipe_X1_hasPart : GoodIn wsX5_wipe (wsV RX5 123 RX1 yX1_hasPart wsX1_hasPart) := goodIn_app (goodIn_of _ (by decide +kernel)) ggX5_wipe_X1_hasPart
set_option maxRecDepth 20000 in
theorem ggX5_wipe_X1_groupOfPart : GoodIn wsX5_wipe wsX1_groupOfPart := goodIn_r _ [149, 140, 200, 201, 202, 203, 204, 205, 206, 207, 208, 209, 210, 211, 212, 213] (by decide +kernel) (by decide +kernel)
set_option maxRecDepth 20000 in
theorem gX5_wipe_X1_groupOfPart : GoodIn wsX5_wipe (wsV RX5 126 RX1 yX1_groupOfPart wsX1_groupOfPart) := goodIn_app (goodIn_of _ (by decide +kernel)) ggX5_wipe_X1_groupOfPart
set_option maxRecDepth 20000 in
theorem ggX5_wipe_X5_flipGroup : GoodIn wsX5_wipe wsX5_flipGroup := goodIn_r _ [153, 8, 9, 154, 155, 156, 5, 157, 158, 7, 159, 160, 161, 162, 163, 164, 165, 166, 167, 81, 78, 82, 168, 169, 170, 31, 171, 33, 172, 173, 174, 175, 51, 176, 177, 178, 13, 179, 15, 113, 92, 93, 22, 94, 46, 107, 108, 109, 110, 42, 119, 120, 121, 122, 68, 69, 70, 71, 44, 64, 65, 66, 67, 43, 180, 181, 182, 183, 127, 29, 30, 32, 184, 185, 186, 187, 188, 189, 190, 191, 192, 99, 193, 194, 195, 196, 197, 198, 199, 225, 226, 227, 222, 223, 224, 200, 201, 202, 203, 204, 205, 206, 207, 208, 209, 210, 211, 212, 213, 214, 215, 216, 217, 218, 219, 220, 221] (by decide +kernel) (by decide +kernel)
set_option maxRecDepth 20000 in
theorem gX5_wipe_X5_flipGroup : GoodIn wsX5_wipe (wsV RX5 182 RX5 yX5_flipGroup wsX5_flipGroup) := goodIn_app (goodIn_of _ (by decide +kernel)) ggX5_wipe_X5_flipGroup
theorem dX5_wipe_0 : decode cX5_wipe 0 = .ok (.aload_n 0, 1) := by decide +kernel
theorem dX5_wipe_1 : decode cX5_wipe 1 = .ok (.invokevirtual 59, 3) := by decide +kernel
theorem dX5_wipe_4 : decode cX5_wipe 4 = .ok (.astore_n 2, 1) := by decide +kernel
theorem dX5_wipe_5 : decode cX5_wipe 5 = .ok (.aload_n 2, 1) := by decide +kernel
theorem dX5_wipe_6 : decode cX5_wipe 6 = .ok (.iload_n 1, 1) := by decide +kernel
theorem dX5_wipe_7 : decode cX5_wipe 7 = .ok (.invokevirtual 123, 3) := by decide +kernel
theorem dX5_wipe_10 : decode cX5_wipe 10 = .ok (.ifCond .eq 15, 3) := by decide +kernel
theorem dX5_wipe_13 : decode cX5_wipe 13 = .ok (.aload_n 0, 1) := by decide +kernel
theorem dX5_wipe_14 : decode cX5_wipe 14 = .ok (.aload_n 2, 1) := by decide +kernel
theorem dX5_wipe_15 : decode cX5_wipe 15 = .ok (.iload_n 1, 1) := by decide +kernel
theorem dX5_wipe_16 : decode cX5_wipe 16 = .ok (.invokevirtual 126, 3) := by decide +kernel
theorem dX5_wipe_19 : decode cX5_wipe 19 = .ok (.invokevirtual 182, 3) := by decide +kernel
theorem dX5_wipe_22 : decode cX5_wipe 22 = .ok (.goto 5, 3) := by decide +kernel
theorem dX5_wipe_25 : decode cX5_wipe 25 = .ok (.ldc 92, 2) := by decide +kernel
theorem dX5_wipe_27 : decode cX5_wipe 27 = .ok (.ireturn, 1) := by decide +kernel
set_option maxRecDepth 20000 in
theorem ggX5_fill_X5_parted : GoodIn wsX5_fill wsX5_parted := goodIn_r _ [6, 7, 8, 9, 10, 11, 12, 13, 14, 15, 16, 17, 18, 19, 20, 21, 22, 23, 24, 25, 26, 27, 28, 29, 30, 31, 32, 33, 34, 35, 36, 37, 38, 39, 40, 41, 42, 43, 44, 45, 46, 47, 48, 49, 50, 51, 52, 53, 54, 55, 56, 57, 58, 59, 60, 61, 62, 63, 64, 65, 66, 67, 68, 69, 70, 71, 72, 73, 74, 75, 76, 77, 78, 79, 80, 81, 82, 83, 84, 85, 86, 87, 88, 89, 90, 91, 92, 93, 94, 95, 96, 97, 98, 99, 100, 101, 102, 103, 104, 105, 106, 107, 108, 109, 110, 111, 112, 113, 114, 115, 116, 117, 118, 119, 120, 121, 122, 123, 124, 125, 126, 127, 128, 129, 130, 131, 132, 133, 134, 135, 136, 137, 138, 139, 140, 141, 193, 194, 195, 196, 197, 198, 199, 200, 201, 202, 203, 204, 205, 206, 207, 208, 209, 210, 211, 212, 213, 214, 215, 216, 217, 218, 219, 220, 221, 222, 223, 224] (by decide +kernel) (by decide +kernel)
set_option maxRecDepth 20000 in
theorem gX5_fill_X5_parted : GoodIn wsX5_fill (wsV RX5 59 RX5 yX5_parted wsX5_parted) := goodIn_app (goodIn_of _ (by decide +kernel)) ggX5_fill_X5_parted
set_option maxRecDepth 20000 in
theorem ggX5_fill_X1_hasHole : GoodIn wsX5_fill wsX1_hasHole := goodIn_r _ [145, 17, 200, 201, 202, 203, 204, 205, 206, 207, 208, 209, 210, 211, 212, 213] (by decide +kernel) (by decide +kernel)
set_option maxRecDepth 20000 in
theorem gX5_fill_X1_hasHole : GoodIn wsX5_fill (wsV RX5 159 RX1 yX1_hasHole wsX1_hasHole) := goodIn_app (goodIn_of _ (by decide +kernel)) ggX5_fill_X1_hasHole
set_option maxRecDepth 20000 in
theorem ggX5_fill_X1_groupOfHole : GoodIn wsX5_fill wsX1_groupOfHole := goodIn_r _ [149, 141, 200, 201, 202, 203, 204, 205, 206, 207, 208, 209, 210, 211, 212, 213] (by decide +kernel) (by decide +kernel)
set_option maxRecDepth 20000 in
theorem gX5_fill_X1_groupOfHole : GoodIn wsX5_fill (wsV RX5 162 RX1 yX1_groupOfHole wsX1_groupOfHole) := goodIn_app (goodIn_of _ (by decide +kernel)) ggX5_fill_X1_groupOfHole
set_option maxRecDepth 20000 in
theorem ggX5_fill_X5_flipGroup : GoodIn wsX5_fill wsX5_flipGroup := goodIn_r _ [153, 8, 9, 154, 155, 156, 5, 157, 158, 7, 159, 160, 161, 162, 163, 164, 165, 166, 167, 81, 78, 82, 168, 169, 170, 31, 171, 33, 172, 173, 174, 175, 51, 176, 177, 178, 13, 179, 15, 113, 92, 93, 22, 94, 46, 107, 108, 109, 110, 42, 119, 120, 121, 122, 68, 69, 70, 71, 44, 64, 65, 66, 67, 43, 180, 181, 182, 183, 127, 29, 30, 32, 184, 185, 186, 187, 188, 189, 190, 191, 192, 99, 193, 194, 195, 196, 197, 198, 199, 225, 226, 227, 222, 223, 224, 200, 201, 202, 203, 204, 205, 206, 207, 208, 209, 210, 211, 212, 213, 214, 215, 216, 217, 218, 219, 220, 221] (by decide +kernel) (by decide +kernel)
set_option maxRecDepth 20000 in
theorem gX5_fill_X5_flipGroup : GoodIn wsX5_fill (wsV RX5 182 RX5 yX5_flipGroup wsX5_flipGroup) := goodIn_app (goodIn_of _ (by decide +kernel)) ggX5_fill_X5_flipGroup
theorem dX5_fill_0 : decode cX5_fill 0 = .ok (.aload_n 0, 1) := by decide +kernel
theorem dX5_fill_1 : decode cX5_fill 1 = .ok (.invokevirtual 59, 3) := by decide +kernel
theorem dX5_fill_4 : decode cX5_fill 4 = .ok (.astore_n 2, 1) := by decide +kernel
theorem dX5_fill_5 : decode cX5_fill 5 = .ok (.aload_n 2, 1) := by decide +kernel
theorem dX5_fill_6 : decode cX5_fill 6 = .ok (.iload_n 1, 1) := by decide +kernel
theorem dX5_fill_7 : decode cX5_fill 7 = .ok (.invokevirtual 159, 3) := by decide +kernel
theorem dX5_fill_10 : decode cX5_fill 10 = .ok (.ifCond .eq 15, 3) := by decide +kernel
theorem dX5_fill_13 : decode cX5_fill 13 = .ok (.aload_n 0, 1) := by decide +kernel
theorem dX5_fill_14 : decode cX5_fill 14 = .ok (.aload_n 2, 1) := by decide +kernel
theorem dX5_fill_15 : decode cX5_fill 15 = .ok (.iload_n 1, 1) := by decide +kernel
theorem dX5_fill_16 : decode cX5_fill 16 = .ok (.invokevirtual 162, 3) := by decide +kernel
theorem dX5_fill_19 : decode cX5_fill 19 = .ok (.invokevirtual 182, 3) := by decide +kernel
theorem dX5_fill_22 : decode cX5_fill 22 = .ok (.goto 5, 3) := by decide +kernel
theorem dX5_fill_25 : decode cX5_fill 25 = .ok (.ldc 92, 2) := by decide +kernel
theorem dX5_fill_27 : decode cX5_fill 27 = .ok (.ireturn, 1) := by decide +kernel
set_option maxRecDepth 20000 in
theorem ggX5_grow_X5_remember : GoodIn wsX5_grow wsX5_remember := goodIn_r _ [6, 7, 1, 8, 9, 10, 11, 12, 13, 14, 15, 16, 17, 18, 19, 20, 21, 22, 23, 24, 25, 26, 27, 28, 29, 30, 31, 64, 65, 66, 67, 68, 69, 70, 71, 72, 73, 74, 75, 76] (by decide +kernel) (by decide +kernel)
set_option maxRecDepth 20000 in
theorem gX5_grow_X5_remember : GoodIn wsX5_grow (wsV RX5 172 RX5 yX5_remember wsX5_remember) := goodIn_app (goodIn_of _ (by decide +kernel)) ggX5_grow_X5_remember
set_option maxRecDepth 20000 in
theorem ggX5_grow_X3_darkDots : GoodIn wsX5_grow wsX3_darkDots := goodIn_r _ [35, 26, 36, 37, 38, 39, 40, 41, 42, 74, 75, 76] (by decide +kernel) (by decide +kernel)
set_option maxRecDepth 20000 in
theorem gX5_grow_X3_darkDots : GoodIn wsX5_grow (wsV RX5 55 RX3 yX3_darkDots wsX3_darkDots) := goodIn_app (goodIn_of _ (by decide +kernel)) ggX5_grow_X3_darkDots
set_option maxRecDepth 20000 in
theorem ggX5_grow_X3_becomeGrown : GoodIn wsX5_grow wsX3_becomeGrown := goodIn_r _ [46, 47, 26, 48, 49, 50, 24, 51, 52, 53, 54, 55, 31, 56, 57, 58, 59, 60, 61, 62, 63, 27, 28, 29, 30, 74, 75, 76] (by decide +kernel) (by decide +kernel)
set_option maxRecDepth 20000 in
theorem gX5_grow_X3_becomeGrown : GoodIn wsX5_grow (wsV RX5 185 RX3 yX3_becomeGrown wsX3_becomeGrown) := goodIn_app (goodIn_of _ (by decide +kernel)) ggX5_grow_X3_becomeGrown
theorem dX5_grow_0 : decode cX5_grow 0 = .ok (.aload_n 0, 1) := by decide +kernel
theorem dX5_grow_1 : decode cX5_grow 1 = .ok (.invokevirtual 172, 3) := by decide +kernel
theorem dX5_grow_4 : decode cX5_grow 4 = .ok (.aload_n 0, 1) := by decide +kernel
theorem dX5_grow_5 : decode cX5_grow 5 = .ok (.getfield 12, 3) := by decide +kernel
theorem dX5_grow_8 : decode cX5_grow 8 = .ok (.invokevirtual 55, 3) := by decide +kernel
theorem dX5_grow_11 : decode cX5_grow 11 = .ok (.istore_n 1, 1) := by decide +kernel
theorem dX5_grow_12 : decode cX5_grow 12 = .ok (.aload_n 0, 1) := by decide +kernel
theorem dX5_grow_13 : decode cX5_grow 13 = .ok (.getfield 12, 3) := by decide +kernel
theorem dX5_grow_16 : decode cX5_grow 16 = .ok (.invokevirtual 185, 3) := by decide +kernel
theorem dX5_grow_19 : decode cX5_grow 19 = .ok (.aload_n 0, 1) := by decide +kernel
theorem dX5_grow_20 : decode cX5_grow 20 = .ok (.getfield 12, 3) := by decide +kernel
theorem dX5_grow_23 : decode cX5_grow 23 = .ok (.invokevirtual 55, 3) := by decide +kernel
theorem dX5_grow_26 : decode cX5_grow 26 = .ok (.iload_n 1, 1) := by decide +kernel
theorem dX5_grow_27 : decode cX5_grow 27 = .ok (.isub, 1) := by decide +kernel
theorem dX5_grow_28 : decode cX5_grow 28 = .ok (.ireturn, 1) := by decide +kernel
set_option maxRecDepth 20000 in
theorem ggX5_shrink_X5_remember : GoodIn wsX5_shrink wsX5_remember := goodIn_r _ [6, 7, 1, 8, 9, 10, 11, 12, 13, 14, 15, 16, 17, 18, 19, 20, 21, 22, 23, 24, 25, 26, 27, 28, 29, 30, 31, 63, 64, 65, 66, 67, 68, 69, 70, 71, 72, 73, 74, 75] (by decide +kernel) (by decide +kernel)
set_option maxRecDepth 20000 in
theorem gX5_shrink_X5_remember : GoodIn wsX5_shrink (wsV RX5 172 RX5 yX5_remember wsX5_remember) := goodIn_app (goodIn_of _ (by decide +kernel)) ggX5_shrink_X5_remember
set_option maxRecDepth 20000 in
theorem ggX5_shrink_X3_darkDots : GoodIn wsX5_shrink wsX3_darkDots := goodIn_r _ [35, 26, 36, 37, 38, 39, 40, 41, 42, 73, 74, 75] (by decide +kernel) (by decide +kernel)
set_option maxRecDepth 20000 in
theorem gX5_shrink_X3_darkDots : GoodIn wsX5_shrink (wsV RX5 55 RX3 yX3_darkDots wsX3_darkDots) := goodIn_app (goodIn_of _ (by decide +kernel)) ggX5_shrink_X3_darkDots
set_option maxRecDepth 20000 in
theorem ggX5_shrink_X3_becomeShrunk : GoodIn wsX5_shrink wsX3_becomeShrunk := goodIn_r _ [46, 47, 26, 48, 49, 50, 24, 51, 52, 53, 54, 55, 31, 56, 57, 58, 59, 60, 61, 62, 27, 28, 29, 30, 73, 74, 75] (by decide +kernel) (by decide +kernel)
set_option maxRecDepth 20000 in
theorem gX5_shrink_X3_becomeShrunk : GoodIn wsX5_shrink (wsV RX5 188 RX3 yX3_becomeShrunk wsX3_becomeShrunk) := goodIn_app (goodIn_of _ (by decide +kernel)) ggX5_shrink_X3_becomeShrunk
theorem dX5_shrink_0 : decode cX5_shrink 0 = .ok (.aload_n 0, 1) := by decide +kernel
theorem dX5_shrink_1 : decode cX5_shrink 1 = .ok (.invokevirtual 172, 3) := by decide +kernel
theorem dX5_shrink_4 : decode cX5_shrink 4 = .ok (.aload_n 0, 1) := by decide +kernel
theorem dX5_shrink_5 : decode cX5_shrink 5 = .ok (.getfield 12, 3) := by decide +kernel
theorem dX5_shrink_8 : decode cX5_shrink 8 = .ok (.invokevirtual 55, 3) := by decide +kernel
theorem dX5_shrink_11 : decode cX5_shrink 11 = .ok (.istore_n 1, 1) := by decide +kernel
theorem dX5_shrink_12 : decode cX5_shrink 12 = .ok (.aload_n 0, 1) := by decide +kernel
theorem dX5_shrink_13 : decode cX5_shrink 13 = .ok (.getfield 12, 3) := by decide +kernel
theorem dX5_shrink_16 : decode cX5_shrink 16 = .ok (.invokevirtual 188, 3) := by decide +kernel
theorem dX5_shrink_19 : decode cX5_shrink 19 = .ok (.iload_n 1, 1) := by decide +kernel
theorem dX5_shrink_20 : decode cX5_shrink 20 = .ok (.aload_n 0, 1) := by decide +kernel
theorem dX5_shrink_21 : decode cX5_shrink 21 = .ok (.getfield 12, 3) := by decide +kernel
theorem dX5_shrink_24 : decode cX5_shrink 24 = .ok (.invokevirtual 55, 3) := by decide +kernel
theorem dX5_shrink_27 : decode cX5_shrink 27 = .ok (.isub, 1) := by decide +kernel
theorem dX5_shrink_28 : decode cX5_shrink 28 = .ok (.ireturn, 1) := by decide +kernel
set_option maxRecDepth 20000 in
theorem ggX5_move_X5_remember : GoodIn wsX5_move wsX5_remember := goodIn_r _ [7, 8, 2, 9, 10, 11, 12, 13, 14, 15, 16, 17, 18, 19, 20, 21, 22, 23, 24, 25, 26, 27, 28, 29, 30, 31, 32, 61, 62, 63, 64, 65, 66, 67, 68, 69, 70, 71, 72, 73] (by decide +kernel) (by decide +kernel)
set_option maxRecDepth 20000 in
theorem gX5_move_X5_remember : GoodIn wsX5_move (wsV RX5 172 RX5 yX5_remember wsX5_remember) := goodIn_app (goodIn_of _ (by decide +kernel)) ggX5_move_X5_remember
set_option maxRecDepth 20000 in
theorem ggX5_move_X3_becomeMoved : GoodIn wsX5_move wsX3_becomeMoved := goodIn_r _ [36, 37, 38, 39, 40, 25, 41, 27, 42, 43, 44, 45, 46, 47, 48, 49, 28, 29, 30, 31, 71, 72, 73] (by decide +kernel) (by decide +kernel)
set_option maxRecDepth 20000 in
theorem gX5_move_X3_becomeMoved : GoodIn wsX5_move (wsV RX5 191 RX3 yX3_becomeMoved wsX3_becomeMoved) := goodIn_app (goodIn_of _ (by decide +kernel)) ggX5_move_X3_becomeMoved
set_option maxRecDepth 20000 in
theorem ggX5_move_X3_darkDots : GoodIn wsX5_move wsX3_darkDots := goodIn_r _ [53, 27, 54, 55, 56, 57, 58, 59, 60, 71, 72, 73] (by decide +kernel) (by decide +kernel)
set_option maxRecDepth 20000 in
theorem gX5_move_X3_darkDots : GoodIn wsX5_move (wsV RX5 55 RX3 yX3_darkDots wsX3_darkDots) := goodIn_app (goodIn_of _ (by decide +kernel)) ggX5_move_X3_darkDots
theorem dX5_move_0 : decode cX5_move 0 = .ok (.iload_n 1, 1) := by decide +kernel
theorem dX5_move_1 : decode cX5_move 1 = .ok (.bipush (-15), 2) := by decide +kernel
theorem dX5_move_3 : decode cX5_move 3 = .ok (.if_icmp .lt 21, 3) := by decide +kernel
theorem dX5_move_6 : decode cX5_move 6 = .ok (.iload_n 1, 1) := by decide +kernel
theorem dX5_move_7 : decode cX5_move 7 = .ok (.bipush 15, 2) := by decide +kernel
theorem dX5_move_9 : decode cX5_move 9 = .ok (.if_icmp .gt 15, 3) := by decide +kernel
theorem dX5_move_12 : decode cX5_move 12 = .ok (.iload_n 2, 1) := by decide +kernel
theorem dX5_move_13 : decode cX5_move 13 = .ok (.bipush (-15), 2) := by decide +kernel
theorem dX5_move_15 : decode cX5_move 15 = .ok (.if_icmp .lt 9, 3) := by decide +kernel
theorem dX5_move_18 : decode cX5_move 18 = .ok (.iload_n 2, 1) := by decide +kernel
theorem dX5_move_19 : decode cX5_move 19 = .ok (.bipush 15, 2) := by decide +kernel
theorem dX5_move_21 : decode cX5_move 21 = .ok (.if_icmp .le 6, 3) := by decide +kernel
theorem dX5_move_24 : decode cX5_move 24 = .ok (.ldc 87, 2) := by decide +kernel
theorem dX5_move_26 : decode cX5_move 26 = .ok (.ireturn, 1) := by decide +kernel
theorem dX5_move_27 : decode cX5_move 27 = .ok (.aload_n 0, 1) := by decide +kernel
theorem dX5_move_28 : decode cX5_move 28 = .ok (.invokevirtual 172, 3) := by decide +kernel
theorem dX5_move_31 : decode cX5_move 31 = .ok (.aload_n 0, 1) := by decide +kernel
theorem dX5_move_32 : decode cX5_move 32 = .ok (.getfield 12, 3) := by decide +kernel
theorem dX5_move_35 : decode cX5_move 35 = .ok (.iload_n 1, 1) := by decide +kernel
theorem dX5_move_36 : decode cX5_move 36 = .ok (.iload_n 2, 1) := by decide +kernel
theorem dX5_move_37 : decode cX5_move 37 = .ok (.invokevirtual 191, 3) := by decide +kernel
theorem dX5_move_40 : decode cX5_move 40 = .ok (.aload_n 0, 1) := by decide +kernel
theorem dX5_move_41 : decode cX5_move 41 = .ok (.getfield 12, 3) := by decide +kernel
theorem dX5_move_44 : decode cX5_move 44 = .ok (.invokevirtual 55, 3) := by decide +kernel
theorem dX5_move_47 : decode cX5_move 47 = .ok (.ireturn, 1) := by decide +kernel
set_option maxRecDepth 20000 in
theorem ggX5_over_X5_remember : GoodIn wsX5_over wsX5_remember := goodIn_r _ [6, 7, 1, 8, 9, 10, 11, 12, 13, 14, 15, 16, 17, 18, 19, 20, 21, 22, 23, 24, 25, 26, 27, 28, 29, 30, 31, 48, 49, 50, 51, 52, 53, 54, 55, 56, 57, 58, 59, 60] (by decide +kernel) (by decide +kernel)
set_option maxRecDepth 20000 in
theorem gX5_over_X5_remember : GoodIn wsX5_over (wsV RX5 172 RX5 yX5_remember wsX5_remember) := goodIn_app (goodIn_of _ (by decide +kernel)) ggX5_over_X5_remember
set_option maxRecDepth 20000 in
theorem ggX5_over_X3_becomeOver : GoodIn wsX5_over wsX3_becomeOver := goodIn_r _ [35, 26, 36, 58, 59, 60] (by decide +kernel) (by decide +kernel)
set_option maxRecDepth 20000 in
theorem gX5_over_X3_becomeOver : GoodIn wsX5_over (wsV RX5 194 RX3 yX3_becomeOver wsX3_becomeOver) := goodIn_app (goodIn_of _ (by decide +kernel)) ggX5_over_X3_becomeOver
set_option maxRecDepth 20000 in
theorem ggX5_over_X3_darkDots : GoodIn wsX5_over wsX3_darkDots := goodIn_r _ [40, 26, 41, 42, 43, 44, 45, 46, 47, 58, 59, 60] (by decide +kernel) (by decide +kernel)
set_option maxRecDepth 20000 in
theorem gX5_over_X3_darkDots : GoodIn wsX5_over (wsV RX5 55 RX3 yX3_darkDots wsX3_darkDots) := goodIn_app (goodIn_of _ (by decide +kernel)) ggX5_over_X3_darkDots
theorem dX5_over_0 : decode cX5_over 0 = .ok (.aload_n 0, 1) := by decide +kernel
theorem dX5_over_1 : decode cX5_over 1 = .ok (.invokevirtual 172, 3) := by decide +kernel
theorem dX5_over_4 : decode cX5_over 4 = .ok (.aload_n 0, 1) := by decide +kernel
theorem dX5_over_5 : decode cX5_over 5 = .ok (.getfield 12, 3) := by decide +kernel
theorem dX5_over_8 : decode cX5_over 8 = .ok (.invokevirtual 194, 3) := by decide +kernel
theorem dX5_over_11 : decode cX5_over 11 = .ok (.aload_n 0, 1) := by decide +kernel
theorem dX5_over_12 : decode cX5_over 12 = .ok (.getfield 12, 3) := by decide +kernel
theorem dX5_over_15 : decode cX5_over 15 = .ok (.invokevirtual 55, 3) := by decide +kernel
theorem dX5_over_18 : decode cX5_over 18 = .ok (.ireturn, 1) := by decide +kernel
set_option maxRecDepth 20000 in
theorem ggX5_mode_X5_remember : GoodIn wsX5_mode wsX5_remember := goodIn_r _ [8, 9, 2, 10, 11, 12, 13, 14, 15, 16, 17, 18, 19, 20, 21, 22, 23, 24, 25, 26, 27, 28, 29, 30, 31, 32, 33, 165, 166, 167, 168, 169, 170, 171, 189, 190, 191, 172, 173, 174] (by decide +kernel) (by decide +kernel)
set_option maxRecDepth 20000 in
theorem gX5_mode_X5_remember : GoodIn wsX5_mode (wsV RX5 172 RX5 yX5_remember wsX5_remember) := goodIn_app (goodIn_of _ (by decide +kernel)) ggX5_mode_X5_remember
set_option maxRecDepth 20000 in
theorem ggX5_mode_X5_parted : GoodIn wsX5_mode wsX5_parted := goodIn_r _ [37, 10, 38, 2, 39, 40, 41, 42, 43, 44, 45, 46, 47, 48, 49, 50, 51, 52, 53, 54, 55, 56, 57, 58, 59, 26, 60, 28, 61, 62, 63, 64, 65, 66, 67, 68, 69, 70, 71, 72, 73, 74, 75, 76, 77, 33, 78, 79, 80, 81, 82, 83, 84, 85, 86, 87, 88, 89, 90, 91, 92, 93, 94, 95, 96, 97, 98, 99, 100, 101, 102, 103, 21, 104, 105, 20, 22, 106, 107, 108, 109, 110, 111, 112, 113, 114, 115, 116, 117, 118, 119, 120, 121, 122, 123, 124, 125, 126, 127, 128, 129, 130, 131, 132, 133, 134, 135, 136, 137, 138, 139, 140, 141, 142, 143, 144, 145, 146, 147, 148, 149, 150, 151, 152, 153, 154, 155, 156, 157, 158, 159, 160, 161, 162, 163, 164, 165, 166, 167, 168, 169, 170, 171, 175, 176, 177, 178, 179, 180, 181, 182, 183, 184, 185, 186, 187, 188, 192, 193, 194, 195, 196, 197, 198, 199, 172, 173, 174] (by decide +kernel) (by decide +kernel)
set_option maxRecDepth 20000 in
theorem gX5_mode_X5_parted : GoodIn wsX5_mode (wsV RX5 59 RX5 yX5_parted wsX5_parted) := goodIn_app (goodIn_of _ (by decide +kernel)) ggX5_mode_X5_parted
theorem dX5_mode_0 : decode cX5_mode 0 = .ok (.iload_n 1, 1) := by decide +kernel
theorem dX5_mode_1 : decode cX5_mode 1 = .ok (.iconst 4, 1) := by decide +kernel
theorem dX5_mode_2 : decode cX5_mode 2 = .ok (.if_icmp .eq 12, 3) := by decide +kernel
theorem dX5_mode_5 : decode cX5_mode 5 = .ok (.iload_n 1, 1) := by decide +kernel
theorem dX5_mode_6 : decode cX5_mode 6 = .ok (.bipush 8, 2) := by decide +kernel
theorem dX5_mode_8 : decode cX5_mode 8 = .ok (.if_icmp .eq 6, 3) := by decide +kernel
theorem dX5_mode_11 : decode cX5_mode 11 = .ok (.ldc 87, 2) := by decide +kernel
theorem dX5_mode_13 : decode cX5_mode 13 = .ok (.ireturn, 1) := by decide +kernel
theorem dX5_mode_14 : decode cX5_mode 14 = .ok (.iload_n 1, 1) := by decide +kernel
theorem dX5_mode_15 : decode cX5_mode 15 = .ok (.aload_n 0, 1) := by decide +kernel
theorem dX5_mode_16 : decode cX5_mode 16 = .ok (.getfield 12, 3) := by decide +kernel
theorem dX5_mode_19 : decode cX5_mode 19 = .ok (.getfield 52, 3) := by decide +kernel
theorem dX5_mode_22 : decode cX5_mode 22 = .ok (.if_icmp .ne 6, 3) := by decide +kernel
theorem dX5_mode_25 : decode cX5_mode 25 = .ok (.ldc 197, 2) := by decide +kernel
theorem dX5_mode_27 : decode cX5_mode 27 = .ok (.ireturn, 1) := by decide +kernel
theorem dX5_mode_28 : decode cX5_mode 28 = .ok (.aload_n 0, 1) := by decide +kernel
theorem dX5_mode_29 : decode cX5_mode 29 = .ok (.invokevirtual 172, 3) := by decide +kernel
theorem dX5_mode_32 : decode cX5_mode 32 = .ok (.aload_n 0, 1) := by decide +kernel
theorem dX5_mode_33 : decode cX5_mode 33 = .ok (.getfield 12, 3) := by decide +kernel
theorem dX5_mode_36 : decode cX5_mode 36 = .ok (.iload_n 1, 1) := by decide +kernel
theorem dX5_mode_37 : decode cX5_mode 37 = .ok (.putfield 52, 3) := by decide +kernel
theorem dX5_mode_40 : decode cX5_mode 40 = .ok (.aload_n 0, 1) := by decide +kernel
theorem dX5_mode_41 : decode cX5_mode 41 = .ok (.invokevirtual 59, 3) := by decide +kernel
theorem dX5_mode_44 : decode cX5_mode 44 = .ok (.getfield 63, 3) := by decide +kernel
theorem dX5_mode_47 : decode cX5_mode 47 = .ok (.ireturn, 1) := by decide +kernel
set_option maxRecDepth 20000 in
theorem ggX5_drift_X5_drawPlace : GoodIn wsX5_drift wsX5_drawPlace := goodIn_r _ [7, 8, 9, 10, 11, 65, 66, 67, 68, 69, 70, 71] (by decide +kernel) (by decide +kernel)
set_option maxRecDepth 20000 in
theorem gX5_drift_X5_drawPlace : GoodIn wsX5_drift (wsV RX5 198 RX5 yX5_drawPlace wsX5_drawPlace) := goodIn_app (goodIn_of _ (by decide +kernel)) ggX5_drift_X5_drawPlace
set_option maxRecDepth 20000 in
theorem ggX5_drift_X5_remember : GoodIn wsX5_drift wsX5_remember := goodIn_r _ [15, 16, 2, 17, 18, 19, 20, 21, 22, 23, 24, 25, 26, 27, 28, 29, 30, 31, 32, 33, 34, 35, 36, 37, 38, 39, 40, 65, 66, 67, 68, 69, 70, 71, 72, 73, 74, 75, 76, 77] (by decide +kernel) (by decide +kernel)
set_option maxRecDepth 20000 in
theorem gX5_drift_X5_remember : GoodIn wsX5_drift (wsV RX5 172 RX5 yX5_remember wsX5_remember) := goodIn_app (goodIn_of _ (by decide +kernel)) ggX5_drift_X5_remember
set_option maxRecDepth 20000 in
theorem ggX5_drift_X3_flip : GoodIn wsX5_drift wsX3_flip := goodIn_r _ [44, 45, 46, 47, 33, 48, 35, 49, 50, 51, 52, 53, 75, 76, 77] (by decide +kernel) (by decide +kernel)
set_option maxRecDepth 20000 in
theorem gX5_drift_X3_flip : GoodIn wsX5_drift (wsV RX5 179 RX3 yX3_flip wsX3_flip) := goodIn_app (goodIn_of _ (by decide +kernel)) ggX5_drift_X3_flip
set_option maxRecDepth 20000 in
theorem ggX5_drift_X3_darkDots : GoodIn wsX5_drift wsX3_darkDots := goodIn_r _ [57, 35, 58, 59, 60, 61, 62, 63, 64, 75, 76, 77] (by decide +kernel) (by decide +kernel)
set_option maxRecDepth 20000 in
theorem gX5_drift_X3_darkDots : GoodIn wsX5_drift (wsV RX5 55 RX3 yX3_darkDots wsX3_darkDots) := goodIn_app (goodIn_of _ (by decide +kernel)) ggX5_drift_X3_darkDots
theorem dX5_drift_0 : decode cX5_drift 0 = .ok (.iload_n 1, 1) := by decide +kernel
theorem dX5_drift_1 : decode cX5_drift 1 = .ok (.iconst 1, 1) := by decide +kernel
theorem dX5_drift_2 : decode cX5_drift 2 = .ok (.if_icmp .lt 9, 3) := by decide +kernel
theorem dX5_drift_5 : decode cX5_drift 5 = .ok (.iload_n 1, 1) := by decide +kernel
theorem dX5_drift_6 : decode cX5_drift 6 = .ok (.bipush 60, 2) := by decide +kernel
theorem dX5_drift_8 : decode cX5_drift 8 = .ok (.if_icmp .le 6, 3) := by decide +kernel
theorem dX5_drift_11 : decode cX5_drift 11 = .ok (.ldc 87, 2) := by decide +kernel
theorem dX5_drift_13 : decode cX5_drift 13 = .ok (.ireturn, 1) := by decide +kernel
theorem dX5_drift_14 : decode cX5_drift 14 = .ok (.iconst 0, 1) := by decide +kernel
theorem dX5_drift_15 : decode cX5_drift 15 = .ok (.istore_n 2, 1) := by decide +kernel
theorem dX5_drift_16 : decode cX5_drift 16 = .ok (.iload_n 2, 1) := by decide +kernel
theorem dX5_drift_17 : decode cX5_drift 17 = .ok (.iload_n 1, 1) := by decide +kernel
theorem dX5_drift_18 : decode cX5_drift 18 = .ok (.if_icmp .ge 35, 3) := by decide +kernel
theorem dX5_drift_21 : decode cX5_drift 21 = .ok (.aload_n 0, 1) := by decide +kernel
theorem dX5_drift_22 : decode cX5_drift 22 = .ok (.invokevirtual 198, 3) := by decide +kernel
theorem dX5_drift_25 : decode cX5_drift 25 = .ok (.istore_n 3, 1) := by decide +kernel
theorem dX5_drift_26 : decode cX5_drift 26 = .ok (.aload_n 0, 1) := by decide +kernel
theorem dX5_drift_27 : decode cX5_drift 27 = .ok (.invokevirtual 172, 3) := by decide +kernel
theorem dX5_drift_30 : decode cX5_drift 30 = .ok (.aload_n 0, 1) := by decide +kernel
theorem dX5_drift_31 : decode cX5_drift 31 = .ok (.getfield 12, 3) := by decide +kernel
theorem dX5_drift_34 : decode cX5_drift 34 = .ok (.iload_n 3, 1) := by decide +kernel
theorem dX5_drift_35 : decode cX5_drift 35 = .ok (.bipush 16, 2) := by decide +kernel
theorem dX5_drift_37 : decode cX5_drift 37 = .ok (.idiv, 1) := by decide +kernel
theorem dX5_drift_38 : decode cX5_drift 38 = .ok (.iconst 1, 1) := by decide +kernel
theorem dX5_drift_39 : decode cX5_drift 39 = .ok (.iload_n 3, 1) := by decide +kernel
theorem dX5_drift_40 : decode cX5_drift 40 = .ok (.bipush 16, 2) := by decide +kernel
theorem dX5_drift_42 : decode cX5_drift 42 = .ok (.irem, 1) := by decide +kernel
theorem dX5_drift_43 : decode cX5_drift 43 = .ok (.ishl, 1) := by decide +kernel
theorem dX5_drift_44 : decode cX5_drift 44 = .ok (.invokevirtual 179, 3) := by decide +kernel
theorem dX5_drift_47 : decode cX5_drift 47 = .ok (.iinc 2 1, 3) := by decide +kernel
theorem dX5_drift_50 : decode cX5_drift 50 = .ok (.goto (-34), 3) := by decide +kernel
theorem dX5_drift_53 : decode cX5_drift 53 = .ok (.aload_n 0, 1) := by decide +kernel
theorem dX5_drift_54 : decode cX5_drift 54 = .ok (.getfield 12, 3) := by decide +kernel
theorem dX5_drift_57 : decode cX5_drift 57 = .ok (.invokevirtual 55, 3) := by decide +kernel
theorem dX5_drift_60 : decode cX5_drift 60 = .ok (.ireturn, 1) := by decide +kernel
set_option maxRecDepth 20000 in
theorem ggX5_undo_X2_goBackBy : GoodIn wsX5_undo wsX2_goBackBy := goodIn_r _ [10, 11, 12, 13, 14, 15, 16, 17, 18, 19, 20, 21, 22, 23, 24, 25, 26, 27, 28, 47, 48, 49, 50, 51, 52] (by decide +kernel) (by decide +kernel)
set_option maxRecDepth 20000 in
theorem gX5_undo_X2_goBackBy : GoodIn wsX5_undo (wsV RX5 201 RX2 yX2_goBackBy wsX2_goBackBy) := goodIn_app (goodIn_of _ (by decide +kernel)) ggX5_undo_X2_goBackBy
set_option maxRecDepth 20000 in
theorem ggX5_undo_X3_darkDots : GoodIn wsX5_undo wsX3_darkDots := goodIn_r _ [32, 23, 33, 34, 35, 36, 37, 38, 39, 50, 51, 52] (by decide +kernel) (by decide +kernel)
set_option maxRecDepth 20000 in
theorem gX5_undo_X3_darkDots : GoodIn wsX5_undo (wsV RX5 55 RX3 yX3_darkDots wsX3_darkDots) := goodIn_app (goodIn_of _ (by decide +kernel)) ggX5_undo_X3_darkDots
theorem dX5_undo_0 : decode cX5_undo 0 = .ok (.iload_n 1, 1) := by decide +kernel
theorem dX5_undo_1 : decode cX5_undo 1 = .ok (.iconst 1, 1) := by decide +kernel
theorem dX5_undo_2 : decode cX5_undo 2 = .ok (.if_icmp .lt 9, 3) := by decide +kernel
theorem dX5_undo_5 : decode cX5_undo 5 = .ok (.iload_n 1, 1) := by decide +kernel
theorem dX5_undo_6 : decode cX5_undo 6 = .ok (.bipush 30, 2) := by decide +kernel
theorem dX5_undo_8 : decode cX5_undo 8 = .ok (.if_icmp .le 6, 3) := by decide +kernel
theorem dX5_undo_11 : decode cX5_undo 11 = .ok (.ldc 87, 2) := by decide +kernel
theorem dX5_undo_13 : decode cX5_undo 13 = .ok (.ireturn, 1) := by decide +kernel
theorem dX5_undo_14 : decode cX5_undo 14 = .ok (.iload_n 1, 1) := by decide +kernel
theorem dX5_undo_15 : decode cX5_undo 15 = .ok (.aload_n 0, 1) := by decide +kernel
theorem dX5_undo_16 : decode cX5_undo 16 = .ok (.getfield 33, 3) := by decide +kernel
theorem dX5_undo_19 : decode cX5_undo 19 = .ok (.getfield 84, 3) := by decide +kernel
theorem dX5_undo_22 : decode cX5_undo 22 = .ok (.if_icmp .le 6, 3) := by decide +kernel
theorem dX5_undo_25 : decode cX5_undo 25 = .ok (.ldc 197, 2) := by decide +kernel
theorem dX5_undo_27 : decode cX5_undo 27 = .ok (.ireturn, 1) := by decide +kernel
theorem dX5_undo_28 : decode cX5_undo 28 = .ok (.aload_n 0, 1) := by decide +kernel
theorem dX5_undo_29 : decode cX5_undo 29 = .ok (.getfield 33, 3) := by decide +kernel
theorem dX5_undo_32 : decode cX5_undo 32 = .ok (.iload_n 1, 1) := by decide +kernel
theorem dX5_undo_33 : decode cX5_undo 33 = .ok (.aload_n 0, 1) := by decide +kernel
theorem dX5_undo_34 : decode cX5_undo 34 = .ok (.getfield 12, 3) := by decide +kernel
theorem dX5_undo_37 : decode cX5_undo 37 = .ok (.invokevirtual 201, 3) := by decide +kernel
theorem dX5_undo_40 : decode cX5_undo 40 = .ok (.aload_n 0, 1) := by decide +kernel
theorem dX5_undo_41 : decode cX5_undo 41 = .ok (.iconst 1, 1) := by decide +kernel
theorem dX5_undo_42 : decode cX5_undo 42 = .ok (.putfield 48, 3) := by decide +kernel
theorem dX5_undo_45 : decode cX5_undo 45 = .ok (.aload_n 0, 1) := by decide +kernel
theorem dX5_undo_46 : decode cX5_undo 46 = .ok (.getfield 12, 3) := by decide +kernel
theorem dX5_undo_49 : decode cX5_undo 49 = .ok (.invokevirtual 55, 3) := by decide +kernel
theorem dX5_undo_52 : decode cX5_undo 52 = .ok (.ireturn, 1) := by decide +kernel
set_option maxRecDepth 20000 in
theorem ggX5_alike_X5_parted : GoodIn wsX5_alike wsX5_parted := goodIn_r _ [6, 7, 8, 9, 10, 11, 12, 13, 14, 15, 16, 17, 18, 19, 20, 21, 22, 23, 24, 25, 26, 27, 28, 29, 30, 31, 32, 33, 34, 35, 36, 37, 38, 39, 40, 41, 42, 43, 44, 45, 46, 47, 48, 49, 50, 51, 52, 53, 54, 55, 56, 57, 58, 59, 60, 61, 62, 63, 64, 65, 66, 67, 68, 69, 70, 71, 72, 73, 74, 75, 76, 77, 78, 79, 80, 81, 82, 83, 84, 85, 86, 87, 88, 89, 90, 91, 92, 93, 94, 95, 96, 97, 98, 99, 100, 101, 102, 103, 104, 105, 106, 107, 108, 109, 110, 111, 112, 113, 114, 115, 116, 117, 118, 119, 120, 121, 122, 123, 124, 125, 126, 127, 128, 129, 130, 131, 132, 133, 134, 135, 136, 137, 138, 139, 140, 141, 166, 167, 168, 169, 170, 171, 172, 173, 174, 175, 176, 177, 178, 179, 180, 181, 182, 183, 184, 185, 186, 187, 188, 189, 190, 191, 192, 193, 194, 195, 196, 197] (by decide +kernel) (by decide +kernel)
set_option maxRecDepth 20000 in
theorem gX5_alike_X5_parted : GoodIn wsX5_alike (wsV RX5 59 RX5 yX5_parted wsX5_parted) := goodIn_app (goodIn_of _ (by decide +kernel)) ggX5_alike_X5_parted
set_option maxRecDepth 20000 in
theorem ggX5_alike_X1_hasPart : GoodIn wsX5_alike wsX1_hasPart := goodIn_r _ [145, 16, 173, 174, 175, 176, 177, 178, 179, 180, 181, 182, 183, 184, 185, 186] (by decide +kernel) (by decide +kernel)
set_option maxRecDepth 20000 in
theorem gX5_alike_X1_hasPart : GoodIn wsX5_alike (wsV RX5 123 RX1 yX1_hasPart wsX1_hasPart) := goodIn_app (goodIn_of _ (by decide +kernel)) ggX5_alike_X1_hasPart
set_option maxRecDepth 20000 in
theorem ggX5_alike_X1_groupOfPart : GoodIn wsX5_alike wsX1_groupOfPart := goodIn_r _ [149, 140, 173, 174, 175, 176, 177, 178, 179, 180, 181, 182, 183, 184, 185, 186] (by decide +kernel) (by decide +kernel)
set_option maxRecDepth 20000 in
theorem gX5_alike_X1_groupOfPart : GoodIn wsX5_alike (wsV RX5 126 RX1 yX1_groupOfPart wsX1_groupOfPart) := goodIn_app (goodIn_of _ (by decide +kernel)) ggX5_alike_X1_groupOfPart
set_option maxRecDepth 20000 in
theorem ggX5_alike_X1_sameMoved : GoodIn wsX5_alike wsX1_sameMoved := goodIn_r _ [153, 15, 154, 155, 156, 13, 157, 99, 107, 108, 109, 22, 110, 42, 111, 65, 66, 67, 43, 158, 159, 160, 161, 68, 69, 70, 71, 44, 64, 162, 163, 164, 165, 113, 92, 93, 94, 46, 173, 174, 175, 176, 177, 178, 179, 180, 181, 182, 183, 184, 185, 186, 187, 188, 189, 190, 191, 192, 193, 194] (by decide +kernel) (by decide +kernel)
set_option maxRecDepth 20000 in
theorem gX5_alike_X1_sameMoved : GoodIn wsX5_alike (wsV RX5 205 RX1 yX1_sameMoved wsX1_sameMoved) := goodIn_app (goodIn_of _ (by decide +kernel)) ggX5_alike_X1_sameMoved
theorem dX5_alike_0 : decode cX5_alike 0 = .ok (.aload_n 0, 1) := by decide +kernel
theorem dX5_alike_1 : decode cX5_alike 1 = .ok (.invokevirtual 59, 3) := by decide +kernel
theorem dX5_alike_4 : decode cX5_alike 4 = .ok (.astore_n 3, 1) := by decide +kernel
theorem dX5_alike_5 : decode cX5_alike 5 = .ok (.aload_n 3, 1) := by decide +kernel
theorem dX5_alike_6 : decode cX5_alike 6 = .ok (.iload_n 1, 1) := by decide +kernel
theorem dX5_alike_7 : decode cX5_alike 7 = .ok (.invokevirtual 123, 3) := by decide +kernel
theorem dX5_alike_10 : decode cX5_alike 10 = .ok (.ifCond .eq 16, 3) := by decide +kernel
theorem dX5_alike_13 : decode cX5_alike 13 = .ok (.aload_n 3, 1) := by decide +kernel
theorem dX5_alike_14 : decode cX5_alike 14 = .ok (.iload_n 2, 1) := by decide +kernel
theorem dX5_alike_15 : decode cX5_alike 15 = .ok (.invokevirtual 123, 3) := by decide +kernel
theorem dX5_alike_18 : decode cX5_alike 18 = .ok (.ifCond .eq 8, 3) := by decide +kernel
theorem dX5_alike_21 : decode cX5_alike 21 = .ok (.iload_n 1, 1) := by decide +kernel
theorem dX5_alike_22 : decode cX5_alike 22 = .ok (.iload_n 2, 1) := by decide +kernel
theorem dX5_alike_23 : decode cX5_alike 23 = .ok (.if_icmp .ne 6, 3) := by decide +kernel
theorem dX5_alike_26 : decode cX5_alike 26 = .ok (.ldc 92, 2) := by decide +kernel
theorem dX5_alike_28 : decode cX5_alike 28 = .ok (.ireturn, 1) := by decide +kernel
theorem dX5_alike_29 : decode cX5_alike 29 = .ok (.aload_n 3, 1) := by decide +kernel
theorem dX5_alike_30 : decode cX5_alike 30 = .ok (.aload_n 3, 1) := by decide +kernel
theorem dX5_alike_31 : decode cX5_alike 31 = .ok (.iload_n 1, 1) := by decide +kernel
theorem dX5_alike_32 : decode cX5_alike 32 = .ok (.invokevirtual 126, 3) := by decide +kernel
theorem dX5_alike_35 : decode cX5_alike 35 = .ok (.aload_n 3, 1) := by decide +kernel
theorem dX5_alike_36 : decode cX5_alike 36 = .ok (.iload_n 2, 1) := by decide +kernel
theorem dX5_alike_37 : decode cX5_alike 37 = .ok (.invokevirtual 126, 3) := by decide +kernel
theorem dX5_alike_40 : decode cX5_alike 40 = .ok (.invokevirtual 205, 3) := by decide +kernel
theorem dX5_alike_43 : decode cX5_alike 43 = .ok (.ifCond .eq 7, 3) := by decide +kernel
theorem dX5_alike_46 : decode cX5_alike 46 = .ok (.iconst 1, 1) := by decide +kernel
theorem dX5_alike_47 : decode cX5_alike 47 = .ok (.goto 4, 3) := by decide +kernel
theorem dX5_alike_50 : decode cX5_alike 50 = .ok (.iconst 0, 1) := by decide +kernel
theorem dX5_alike_51 : decode cX5_alike 51 = .ok (.ireturn, 1) := by decide +kernel
set_option maxRecDepth 20000 in
theorem ggX5_small_X5_parted : GoodIn wsX5_small wsX5_parted := goodIn_r _ [6, 7, 8, 9, 10, 11, 12, 13, 14, 15, 16, 17, 18, 19, 20, 21, 22, 23, 24, 25, 26, 27, 28, 29, 30, 31, 32, 33, 34, 35, 36, 37, 38, 39, 40, 41, 42, 43, 44, 45, 46, 47, 48, 49, 50, 51, 52, 53, 54, 55, 56, 57, 58, 59, 60, 61, 62, 63, 64, 65, 66, 67, 68, 69, 70, 71, 72, 73, 74, 75, 76, 77, 78, 79, 80, 81, 82, 83, 84, 85, 86, 87, 88, 89, 90, 91, 92, 93, 94, 95, 96, 97, 98, 99, 100, 101, 102, 103, 104, 105, 106, 107, 108, 109, 110, 111, 112, 113, 114, 115, 116, 117, 118, 119, 120, 121, 122, 123, 124, 125, 126, 127, 128, 129, 130, 131, 132, 133, 134, 135, 136, 137, 138, 139, 140, 141, 154, 155, 156, 157, 158, 159, 160, 161, 162, 163, 164, 165, 166, 167, 168, 169, 170, 171, 172, 173, 174, 175, 176, 177, 178, 179, 180, 181, 182, 183, 184, 185] (by decide +kernel) (by decide +kernel)
set_option maxRecDepth 20000 in
theorem gX5_small_X5_parted : GoodIn wsX5_small (wsV RX5 59 RX5 yX5_parted wsX5_parted) := goodIn_app (goodIn_of _ (by decide +kernel)) ggX5_small_X5_parted
set_option maxRecDepth 20000 in
theorem ggX5_small_X1_partsUpTo : GoodIn wsX5_small wsX1_partsUpTo := goodIn_r _ [145, 16, 146, 147, 148, 13, 149, 140, 150, 151, 152, 153, 99, 161, 162, 163, 164, 165, 166, 167, 168, 169, 170, 171, 172, 173, 174] (by decide +kernel) (by decide +kernel)
set_option maxRecDepth 20000 in
theorem gX5_small_X1_partsUpTo : GoodIn wsX5_small (wsV RX5 208 RX1 yX1_partsUpTo wsX1_partsUpTo) := goodIn_app (goodIn_of _ (by decide +kernel)) ggX5_small_X1_partsUpTo
theorem dX5_small_0 : decode cX5_small 0 = .ok (.iload_n 1, 1) := by decide +kernel
theorem dX5_small_1 : decode cX5_small 1 = .ok (.ifCond .lt 10, 3) := by decide +kernel
theorem dX5_small_4 : decode cX5_small 4 = .ok (.iload_n 1, 1) := by decide +kernel
theorem dX5_small_5 : decode cX5_small 5 = .ok (.sipush 256, 3) := by decide +kernel
theorem dX5_small_8 : decode cX5_small 8 = .ok (.if_icmp .le 8, 3) := by decide +kernel
theorem dX5_small_11 : decode cX5_small 11 = .ok (.ldc 87, 2) := by decide +kernel
theorem dX5_small_13 : decode cX5_small 13 = .ok (.goto 11, 3) := by decide +kernel
theorem dX5_small_16 : decode cX5_small 16 = .ok (.aload_n 0, 1) := by decide +kernel
theorem dX5_small_17 : decode cX5_small 17 = .ok (.invokevirtual 59, 3) := by decide +kernel
theorem dX5_small_20 : decode cX5_small 20 = .ok (.iload_n 1, 1) := by decide +kernel
theorem dX5_small_21 : decode cX5_small 21 = .ok (.invokevirtual 208, 3) := by decide +kernel
theorem dX5_small_24 : decode cX5_small 24 = .ok (.ireturn, 1) := by decide +kernel
theorem dX5_seed_0 : decode cX5_seed 0 = .ok (.iload_n 1, 1) := by decide +kernel
theorem dX5_seed_1 : decode cX5_seed 1 = .ok (.ifCond .ge 6, 3) := by decide +kernel
theorem dX5_seed_4 : decode cX5_seed 4 = .ok (.ldc 87, 2) := by decide +kernel
theorem dX5_seed_6 : decode cX5_seed 6 = .ok (.ireturn, 1) := by decide +kernel
theorem dX5_seed_7 : decode cX5_seed 7 = .ok (.aload_n 0, 1) := by decide +kernel
theorem dX5_seed_8 : decode cX5_seed 8 = .ok (.getfield 44, 3) := by decide +kernel
theorem dX5_seed_11 : decode cX5_seed 11 = .ok (.istore_n 2, 1) := by decide +kernel
theorem dX5_seed_12 : decode cX5_seed 12 = .ok (.aload_n 0, 1) := by decide +kernel
theorem dX5_seed_13 : decode cX5_seed 13 = .ok (.iload_n 1, 1) := by decide +kernel
theorem dX5_seed_14 : decode cX5_seed 14 = .ok (.putfield 44, 3) := by decide +kernel
theorem dX5_seed_17 : decode cX5_seed 17 = .ok (.iload_n 2, 1) := by decide +kernel
theorem dX5_seed_18 : decode cX5_seed 18 = .ok (.ireturn, 1) := by decide +kernel
set_option maxRecDepth 20000 in
theorem ggX5_keep_X5_isImage : GoodIn wsX5_keep wsX5_isImage := goodIn_r _ [9] (by decide +kernel) (by decide +kernel)
set_option maxRecDepth 20000 in
theorem gX5_keep_X5_isImage : GoodIn wsX5_keep (va_wsS RX5 211 yX5_isImage wsX5_isImage) := goodIn_app (goodIn_of _ (by decide +kernel)) ggX5_keep_X5_isImage
set_option maxRecDepth 20000 in
theorem ggX5_keep_X0_take : GoodIn wsX5_keep wsX0_take := goodIn_r _ [14, 15, 16, 17, 7, 8, 9, 18, 19, 20, 21, 22, 23, 24, 25, 26, 27, 28, 42, 43, 44, 45, 46, 47] (by decide +kernel) (by decide +kernel)
set_option maxRecDepth 20000 in
theorem gX5_keep_X0_take : GoodIn wsX5_keep (wsV RX5 214 RX0 yX0_take wsX0_take) := goodIn_app (goodIn_of _ (by decide +kernel)) ggX5_keep_X0_take
set_option maxRecDepth 20000 in
theorem ggX5_keep_X2_forget : GoodIn wsX5_keep wsX2_forget := goodIn_r _ [33, 34, 48, 49, 50] (by decide +kernel) (by decide +kernel)
set_option maxRecDepth 20000 in
theorem gX5_keep_X2_forget : GoodIn wsX5_keep (wsV RX5 218 RX2 yX2_forget wsX2_forget) := goodIn_app (goodIn_of _ (by decide +kernel)) ggX5_keep_X2_forget
theorem dX5_keep_0 : decode cX5_keep 0 = .ok (.iload_n 1, 1) := by decide +kernel
theorem dX5_keep_1 : decode cX5_keep 1 = .ok (.invokestatic 211, 3) := by decide +kernel
theorem dX5_keep_4 : decode cX5_keep 4 = .ok (.ifCond .ne 6, 3) := by decide +kernel
theorem dX5_keep_7 : decode cX5_keep 7 = .ok (.ldc 92, 2) := by decide +kernel
theorem dX5_keep_9 : decode cX5_keep 9 = .ok (.ireturn, 1) := by decide +kernel
theorem dX5_keep_10 : decode cX5_keep 10 = .ok (.aload_n 0, 1) := by decide +kernel
theorem dX5_keep_11 : decode cX5_keep 11 = .ok (.getfield 40, 3) := by decide +kernel
theorem dX5_keep_14 : decode cX5_keep 14 = .ok (.iload_n 1, 1) := by decide +kernel
theorem dX5_keep_15 : decode cX5_keep 15 = .ok (.aload_n 0, 1) := by decide +kernel
theorem dX5_keep_16 : decode cX5_keep 16 = .ok (.getfield 12, 3) := by decide +kernel
theorem dX5_keep_19 : decode cX5_keep 19 = .ok (.aload_n 0, 1) := by decide +kernel
theorem dX5_keep_20 : decode cX5_keep 20 = .ok (.getfield 44, 3) := by decide +kernel
theorem dX5_keep_23 : decode cX5_keep 23 = .ok (.invokevirtual 214, 3) := by decide +kernel
theorem dX5_keep_26 : decode cX5_keep 26 = .ok (.aload_n 0, 1) := by decide +kernel
theorem dX5_keep_27 : decode cX5_keep 27 = .ok (.getfield 33, 3) := by decide +kernel
theorem dX5_keep_30 : decode cX5_keep 30 = .ok (.invokevirtual 218, 3) := by decide +kernel
theorem dX5_keep_33 : decode cX5_keep 33 = .ok (.iconst 1, 1) := by decide +kernel
theorem dX5_keep_34 : decode cX5_keep 34 = .ok (.ireturn, 1) := by decide +kernel
set_option maxRecDepth 20000 in
theorem ggX5_goBack_X5_isImage : GoodIn wsX5_goBack wsX5_isImage := goodIn_r _ [11] (by decide +kernel) (by decide +kernel)
set_option maxRecDepth 20000 in
theorem gX5_goBack_X5_isImage : GoodIn wsX5_goBack (va_wsS RX5 211 yX5_isImage wsX5_isImage) := goodIn_app (goodIn_of _ (by decide +kernel)) ggX5_goBack_X5_isImage
set_option maxRecDepth 20000 in
theorem ggX5_goBack_X0_isTaken : GoodIn wsX5_goBack wsX0_isTaken := goodIn_r _ [16, 17, 9, 10, 11, 52, 53, 54] (by decide +kernel) (by decide +kernel)
set_option maxRecDepth 20000 in
theorem gX5_goBack_X0_isTaken : GoodIn wsX5_goBack (wsV RX5 221 RX0 yX0_isTaken wsX0_isTaken) := goodIn_app (goodIn_of _ (by decide +kernel)) ggX5_goBack_X0_isTaken
set_option maxRecDepth 20000 in
theorem ggX5_goBack_X0_show : GoodIn wsX5_goBack wsX0_show := goodIn_r _ [21, 22, 23, 24, 25, 26, 27, 28, 29, 30, 31, 32, 33, 52, 53, 54, 55, 56, 57] (by decide +kernel) (by decide +kernel)
set_option maxRecDepth 20000 in
theorem gX5_goBack_X0_show : GoodIn wsX5_goBack (wsV RX5 224 RX0 yX0_show wsX0_show) := goodIn_app (goodIn_of _ (by decide +kernel)) ggX5_goBack_X0_show
set_option maxRecDepth 20000 in
theorem ggX5_goBack_X0_seedOf : GoodIn wsX5_goBack wsX0_seedOf := goodIn_r _ [37, 38, 9, 10, 11, 52, 53, 54] (by decide +kernel) (by decide +kernel)
set_option maxRecDepth 20000 in
theorem gX5_goBack_X0_seedOf : GoodIn wsX5_goBack (wsV RX5 227 RX0 yX0_seedOf wsX0_seedOf) := goodIn_app (goodIn_of _ (by decide +kernel)) ggX5_goBack_X0_seedOf
set_option maxRecDepth 20000 in
theorem ggX5_goBack_X2_forget : GoodIn wsX5_goBack wsX2_forget := goodIn_r _ [43, 44, 58, 59, 60] (by decide +kernel) (by decide +kernel)
set_option maxRecDepth 20000 in
theorem gX5_goBack_X2_forget : GoodIn wsX5_goBack (wsV RX5 218 RX2 yX2_forget wsX2_forget) := goodIn_app (goodIn_of _ (by decide +kernel)) ggX5_goBack_X2_forget
theorem dX5_goBack_0 : decode cX5_goBack 0 = .ok (.iload_n 1, 1) := by decide +kernel
theorem dX5_goBack_1 : decode cX5_goBack 1 = .ok (.invokestatic 211, 3) := by decide +kernel
theorem dX5_goBack_4 : decode cX5_goBack 4 = .ok (.ifCond .ne 6, 3) := by decide +kernel
theorem dX5_goBack_7 : decode cX5_goBack 7 = .ok (.ldc 92, 2) := by decide +kernel
theorem dX5_goBack_9 : decode cX5_goBack 9 = .ok (.ireturn, 1) := by decide +kernel
theorem dX5_goBack_10 : decode cX5_goBack 10 = .ok (.aload_n 0, 1) := by decide +kernel
theorem dX5_goBack_11 : decode cX5_goBack 11 = .ok (.getfield 40, 3) := by decide +kernel
theorem dX5_goBack_14 : decode cX5_goBack 14 = .ok (.iload_n 1, 1) := by decide +kernel
theorem dX5_goBack_15 : decode cX5_goBack 15 = .ok (.invokevirtual 221, 3) := by decide +kernel
theorem dX5_goBack_18 : decode cX5_goBack 18 = .ok (.ifCond .ne 6, 3) := by decide +kernel
theorem dX5_goBack_21 : decode cX5_goBack 21 = .ok (.ldc 197, 2) := by decide +kernel
theorem dX5_goBack_23 : decode cX5_goBack 23 = .ok (.ireturn, 1) := by decide +kernel
theorem dX5_goBack_24 : decode cX5_goBack 24 = .ok (.aload_n 0, 1) := by decide +kernel
theorem dX5_goBack_25 : decode cX5_goBack 25 = .ok (.getfield 40, 3) := by decide +kernel
theorem dX5_goBack_28 : decode cX5_goBack 28 = .ok (.iload_n 1, 1) := by decide +kernel
theorem dX5_goBack_29 : decode cX5_goBack 29 = .ok (.aload_n 0, 1) := by decide +kernel
theorem dX5_goBack_30 : decode cX5_goBack 30 = .ok (.getfield 12, 3) := by decide +kernel
theorem dX5_goBack_33 : decode cX5_goBack 33 = .ok (.invokevirtual 224, 3) := by decide +kernel
theorem dX5_goBack_36 : decode cX5_goBack 36 = .ok (.aload_n 0, 1) := by decide +kernel
theorem dX5_goBack_37 : decode cX5_goBack 37 = .ok (.aload_n 0, 1) := by decide +kernel
theorem dX5_goBack_38 : decode cX5_goBack 38 = .ok (.getfield 40, 3) := by decide +kernel
theorem dX5_goBack_41 : decode cX5_goBack 41 = .ok (.iload_n 1, 1) := by decide +kernel
theorem dX5_goBack_42 : decode cX5_goBack 42 = .ok (.invokevirtual 227, 3) := by decide +kernel
theorem dX5_goBack_45 : decode cX5_goBack 45 = .ok (.putfield 44, 3) := by decide +kernel
theorem dX5_goBack_48 : decode cX5_goBack 48 = .ok (.aload_n 0, 1) := by decide +kernel
theorem dX5_goBack_49 : decode cX5_goBack 49 = .ok (.getfield 33, 3) := by decide +kernel
theorem dX5_goBack_52 : decode cX5_goBack 52 = .ok (.invokevirtual 218, 3) := by decide +kernel
theorem dX5_goBack_55 : decode cX5_goBack 55 = .ok (.aload_n 0, 1) := by decide +kernel
theorem dX5_goBack_56 : decode cX5_goBack 56 = .ok (.iconst 1, 1) := by decide +kernel
theorem dX5_goBack_57 : decode cX5_goBack 57 = .ok (.putfield 48, 3) := by decide +kernel
theorem dX5_goBack_60 : decode cX5_goBack 60 = .ok (.iconst 1, 1) := by decide +kernel
theorem dX5_goBack_61 : decode cX5_goBack 61 = .ok (.ireturn, 1) := by decide +kernel
theorem dX5_isLine_0 : decode cX5_isLine 0 = .ok (.iload_n 0, 1) := by decide +kernel
theorem dX5_isLine_1 : decode cX5_isLine 1 = .ok (.ifCond .lt 13, 3) := by decide +kernel
theorem dX5_isLine_4 : decode cX5_isLine 4 = .ok (.iload_n 0, 1) := by decide +kernel
theorem dX5_isLine_5 : decode cX5_isLine 5 = .ok (.bipush 16, 2) := by decide +kernel
theorem dX5_isLine_7 : decode cX5_isLine 7 = .ok (.if_icmp .ge 7, 3) := by decide +kernel
theorem dX5_isLine_10 : decode cX5_isLine 10 = .ok (.iconst 1, 1) := by decide +kernel
theorem dX5_isLine_11 : decode cX5_isLine 11 = .ok (.goto 4, 3) := by decide +kernel
theorem dX5_isLine_14 : decode cX5_isLine 14 = .ok (.iconst 0, 1) := by decide +kernel
theorem dX5_isLine_15 : decode cX5_isLine 15 = .ok (.ireturn, 1) := by decide +kernel
theorem dX5_isImage_0 : decode cX5_isImage 0 = .ok (.iload_n 0, 1) := by decide +kernel
theorem dX5_isImage_1 : decode cX5_isImage 1 = .ok (.ifCond .lt 12, 3) := by decide +kernel
theorem dX5_isImage_4 : decode cX5_isImage 4 = .ok (.iload_n 0, 1) := by decide +kernel
theorem dX5_isImage_5 : decode cX5_isImage 5 = .ok (.iconst 2, 1) := by decide +kernel
theorem dX5_isImage_6 : decode cX5_isImage 6 = .ok (.if_icmp .ge 7, 3) := by decide +kernel
theorem dX5_isImage_9 : decode cX5_isImage 9 = .ok (.iconst 1, 1) := by decide +kernel
theorem dX5_isImage_10 : decode cX5_isImage 10 = .ok (.goto 4, 3) := by decide +kernel
theorem dX5_isImage_13 : decode cX5_isImage 13 = .ok (.iconst 0, 1) := by decide +kernel
theorem dX5_isImage_14 : decode cX5_isImage 14 = .ok (.ireturn, 1) := by decide +kernel
set_option maxRecDepth 20000 in
theorem ggX5_runsOf_J6_bitCount_0f7a4 : GoodIn wsX5_runsOf wsJ6_bitCount_0f7a4 := goodIn_r _ [4, 5, 6, 7] (by decide +kernel) (by decide +kernel)
set_option maxRecDepth 20000 in
theorem gX5_runsOf_J6_bitCount_0f7a4 : GoodIn wsX5_runsOf (va_wsS RX5 230 yJ6_bitCount_0f7a4 wsJ6_bitCount_0f7a4) := goodIn_app (goodIn_of _ (by decide +kernel)) ggX5_runsOf_J6_bitCount_0f7a4
theorem dX5_runsOf_0 : decode cX5_runsOf 0 = .ok (.iload_n 0, 1) := by decide +kernel
theorem dX5_runsOf_1 : decode cX5_runsOf 1 = .ok (.iload_n 0, 1) := by decide +kernel
theorem dX5_runsOf_2 : decode cX5_runsOf 2 = .ok (.iconst 1, 1) := by decide +kernel
theorem dX5_runsOf_3 : decode cX5_runsOf 3 = .ok (.ishl, 1) := by decide +kernel
theorem dX5_runsOf_4 : decode cX5_runsOf 4 = .ok (.iconst (-1), 1) := by decide +kernel
theorem dX5_runsOf_5 : decode cX5_runsOf 5 = .ok (.ixor, 1) := by decide +kernel
theorem dX5_runsOf_6 : decode cX5_runsOf 6 = .ok (.iand, 1) := by decide +kernel
theorem dX5_runsOf_7 : decode cX5_runsOf 7 = .ok (.invokestatic 230, 3) := by decide +kernel
theorem dX5_runsOf_10 : decode cX5_runsOf 10 = .ok (.ireturn, 1) := by decide +kernel
set_option maxRecDepth 20000 in
theorem ggX5_parted_X1_read : GoodIn wsX5_parted wsX1_read := goodIn_r _ [8, 9, 10, 11, 12, 13, 14, 15, 16, 17, 18, 19, 20, 21, 22, 23, 24, 25, 26, 27, 28, 29, 30, 31, 32, 33, 34, 35, 36, 37, 38, 39, 40, 41, 42, 43, 44, 45, 46, 47, 48, 49, 50, 51, 52, 53, 54, 55, 56, 57, 58, 59, 60, 61, 62, 63, 64, 65, 66, 67, 68, 69, 70, 71, 72, 73, 74, 75, 76, 77, 78, 79, 80, 81, 82, 83, 84, 85, 86, 87, 88, 89, 90, 91, 7, 92, 93, 94, 95, 96, 97, 98, 99, 100, 101, 102, 103, 104, 105, 106, 107, 108, 109, 110, 111, 112, 113, 114, 115, 116, 117, 118, 119, 120, 121, 122, 123, 124, 125, 126, 127, 128, 129, 130, 131, 132, 133, 134, 135, 143, 144, 145, 146, 147, 148, 149, 150, 151, 152, 153, 154, 155, 156, 157, 158, 159, 160, 161, 162, 163, 164, 165, 166, 167] (by decide +kernel) (by decide +kernel)
set_option maxRecDepth 20000 in
theorem gX5_parted_X1_read : GoodIn wsX5_parted (wsV RX5 235 RX1 yX1_read wsX1_read) := goodIn_app (goodIn_of _ (by decide +kernel)) ggX5_parted_X1_read
theorem dX5_parted_0 : decode cX5_parted 0 = .ok (.aload_n 0, 1) := by decide +kernel
theorem dX5_parted_1 : decode cX5_parted 1 = .ok (.getfield 48, 3) := by decide +kernel
theorem dX5_parted_4 : decode cX5_parted 4 = .ok (.ifCond .eq 19, 3) := by decide +kernel
theorem dX5_parted_7 : decode cX5_parted 7 = .ok (.aload_n 0, 1) := by decide +kernel
theorem dX5_parted_8 : decode cX5_parted 8 = .ok (.getfield 19, 3) := by decide +kernel
theorem dX5_parted_11 : decode cX5_parted 11 = .ok (.aload_n 0, 1) := by decide +kernel
theorem dX5_parted_12 : decode cX5_parted 12 = .ok (.getfield 12, 3) := by decide +kernel
theorem dX5_parted_15 : decode cX5_parted 15 = .ok (.invokevirtual 235, 3) := by decide +kernel
theorem dX5_parted_18 : decode cX5_parted 18 = .ok (.aload_n 0, 1) := by decide +kernel
theorem dX5_parted_19 : decode cX5_parted 19 = .ok (.iconst 0, 1) := by decide +kernel
theorem dX5_parted_20 : decode cX5_parted 20 = .ok (.putfield 48, 3) := by decide +kernel
theorem dX5_parted_23 : decode cX5_parted 23 = .ok (.aload_n 0, 1) := by decide +kernel
theorem dX5_parted_24 : decode cX5_parted 24 = .ok (.getfield 19, 3) := by decide +kernel
theorem dX5_parted_27 : decode cX5_parted 27 = .ok (.areturn, 1) := by decide +kernel
set_option maxRecDepth 20000 in
theorem ggX5_remember_X2_push : GoodIn wsX5_remember wsX2_push := goodIn_r _ [8, 9, 10, 11, 12, 13, 14, 15, 16, 17, 18, 19, 20, 21, 22, 23, 24, 25, 26, 34, 35, 36, 37, 38, 39] (by decide +kernel) (by decide +kernel)
set_option maxRecDepth 20000 in
theorem gX5_remember_X2_push : GoodIn wsX5_remember (wsV RX5 239 RX2 yX2_push wsX2_push) := goodIn_app (goodIn_of _ (by decide +kernel)) ggX5_remember_X2_push
theorem dX5_remember_0 : decode cX5_remember 0 = .ok (.aload_n 0, 1) := by decide +kernel
theorem dX5_remember_1 : decode cX5_remember 1 = .ok (.getfield 33, 3) := by decide +kernel
theorem dX5_remember_4 : decode cX5_remember 4 = .ok (.aload_n 0, 1) := by decide +kernel
theorem dX5_remember_5 : decode cX5_remember 5 = .ok (.getfield 12, 3) := by decide +kernel
theorem dX5_remember_8 : decode cX5_remember 8 = .ok (.invokevirtual 239, 3) := by decide +kernel
theorem dX5_remember_11 : decode cX5_remember 11 = .ok (.aload_n 0, 1) := by decide +kernel
theorem dX5_remember_12 : decode cX5_remember 12 = .ok (.iconst 1, 1) := by decide +kernel
theorem dX5_remember_13 : decode cX5_remember 13 = .ok (.putfield 48, 3) := by decide +kernel
theorem dX5_remember_16 : decode cX5_remember 16 = .ok (.return_, 1) := by decide +kernel
set_option maxRecDepth 20000 in
theorem ggX5_flipGroup_X5_remember : GoodIn wsX5_flipGroup wsX5_remember := goodIn_r _ [7, 8, 2, 9, 10, 11, 12, 13, 14, 15, 16, 17, 18, 19, 20, 21, 22, 23, 24, 25, 26, 27, 28, 29, 30, 31, 32, 82, 83, 84, 85, 86, 87, 88, 89, 90, 91, 92, 93, 94] (by decide +kernel) (by decide +kernel)
set_option maxRecDepth 20000 in
theorem gX5_flipGroup_X5_remember : GoodIn wsX5_flipGroup (wsV RX5 172 RX5 yX5_remember wsX5_remember) := goodIn_app (goodIn_of _ (by decide +kernel)) ggX5_flipGroup_X5_remember
set_option maxRecDepth 20000 in
theorem ggX5_flipGroup_X1_flipDotsOf : GoodIn wsX5_flipGroup wsX1_flipDotsOf := goodIn_r _ [37, 38, 39, 40, 41, 42, 43, 44, 45, 46, 47, 48, 49, 50, 51, 52, 53, 54, 55, 56, 57, 58, 59, 60, 61, 62, 63, 64, 65, 66, 25, 67, 68, 69, 70, 71, 27, 72, 73, 74, 75, 76, 95, 96, 97, 98, 99, 100, 101, 102, 103, 104, 105, 106, 107, 108, 109, 110, 111, 112, 113, 114, 115, 116, 92, 93, 94] (by decide +kernel) (by decide +kernel)
set_option maxRecDepth 20000 in
theorem gX5_flipGroup_X1_flipDotsOf : GoodIn wsX5_flipGroup (wsV RX5 242 RX1 yX1_flipDotsOf wsX1_flipDotsOf) := goodIn_app (goodIn_of _ (by decide +kernel)) ggX5_flipGroup_X1_flipDotsOf
set_option maxRecDepth 20000 in
theorem ggX5_flipGroup_X1_sizeOf : GoodIn wsX5_flipGroup wsX1_sizeOf := goodIn_r _ [80, 81, 95, 96, 97, 98, 99, 100, 101, 102, 103, 104, 105, 106, 107, 108] (by decide +kernel) (by decide +kernel)
set_option maxRecDepth 20000 in
theorem gX5_flipGroup_X1_sizeOf : GoodIn wsX5_flipGroup (wsV RX5 129 RX1 yX1_sizeOf wsX1_sizeOf) := goodIn_app (goodIn_of _ (by decide +kernel)) ggX5_flipGroup_X1_sizeOf
theorem dX5_flipGroup_0 : decode cX5_flipGroup 0 = .ok (.aload_n 0, 1) := by decide +kernel
theorem dX5_flipGroup_1 : decode cX5_flipGroup 1 = .ok (.invokevirtual 172, 3) := by decide +kernel
theorem dX5_flipGroup_4 : decode cX5_flipGroup 4 = .ok (.aload_n 0, 1) := by decide +kernel
theorem dX5_flipGroup_5 : decode cX5_flipGroup 5 = .ok (.getfield 19, 3) := by decide +kernel
theorem dX5_flipGroup_8 : decode cX5_flipGroup 8 = .ok (.iload_n 1, 1) := by decide +kernel
theorem dX5_flipGroup_9 : decode cX5_flipGroup 9 = .ok (.aload_n 0, 1) := by decide +kernel
theorem dX5_flipGroup_10 : decode cX5_flipGroup 10 = .ok (.getfield 12, 3) := by decide +kernel
theorem dX5_flipGroup_13 : decode cX5_flipGroup 13 = .ok (.invokevirtual 242, 3) := by decide +kernel
theorem dX5_flipGroup_16 : decode cX5_flipGroup 16 = .ok (.aload_n 0, 1) := by decide +kernel
theorem dX5_flipGroup_17 : decode cX5_flipGroup 17 = .ok (.getfield 19, 3) := by decide +kernel
theorem dX5_flipGroup_20 : decode cX5_flipGroup 20 = .ok (.iload_n 1, 1) := by decide +kernel
theorem dX5_flipGroup_21 : decode cX5_flipGroup 21 = .ok (.invokevirtual 129, 3) := by decide +kernel
theorem dX5_flipGroup_24 : decode cX5_flipGroup 24 = .ok (.ireturn, 1) := by decide +kernel
theorem dX5_drawPlace_0 : decode cX5_drawPlace 0 = .ok (.aload_n 0, 1) := by decide +kernel
theorem dX5_drawPlace_1 : decode cX5_drawPlace 1 = .ok (.aload_n 0, 1) := by decide +kernel
theorem dX5_drawPlace_2 : decode cX5_drawPlace 2 = .ok (.getfield 44, 3) := by decide +kernel
theorem dX5_drawPlace_5 : decode cX5_drawPlace 5 = .ok (.ldc 245, 2) := by decide +kernel
theorem dX5_drawPlace_7 : decode cX5_drawPlace 7 = .ok (.imul, 1) := by decide +kernel
theorem dX5_drawPlace_8 : decode cX5_drawPlace 8 = .ok (.sipush 12345, 3) := by decide +kernel
theorem dX5_drawPlace_11 : decode cX5_drawPlace 11 = .ok (.iadd, 1) := by decide +kernel
theorem dX5_drawPlace_12 : decode cX5_drawPlace 12 = .ok (.ldc 246, 2) := by decide +kernel
theorem dX5_drawPlace_14 : decode cX5_drawPlace 14 = .ok (.iand, 1) := by decide +kernel
theorem dX5_drawPlace_15 : decode cX5_drawPlace 15 = .ok (.putfield 44, 3) := by decide +kernel
theorem dX5_drawPlace_18 : decode cX5_drawPlace 18 = .ok (.aload_n 0, 1) := by decide +kernel
theorem dX5_drawPlace_19 : decode cX5_drawPlace 19 = .ok (.getfield 44, 3) := by decide +kernel
theorem dX5_drawPlace_22 : decode cX5_drawPlace 22 = .ok (.ldc 247, 2) := by decide +kernel
theorem dX5_drawPlace_24 : decode cX5_drawPlace 24 = .ok (.idiv, 1) := by decide +kernel
theorem dX5_drawPlace_25 : decode cX5_drawPlace 25 = .ok (.sipush 256, 3) := by decide +kernel
theorem dX5_drawPlace_28 : decode cX5_drawPlace 28 = .ok (.irem, 1) := by decide +kernel
theorem dX5_drawPlace_29 : decode cX5_drawPlace 29 = .ok (.ireturn, 1) := by decide +kernel
set_option maxRecDepth 20000 in
theorem ggX5_splitsAt_X3_flip : GoodIn wsX5_splitsAt wsX3_flip := goodIn_r _ [7, 8, 9, 10, 6, 11, 12, 13, 14, 15, 16, 17, 100, 101, 102] (by decide +kernel) (by decide +kernel)
set_option maxRecDepth 20000 in
theorem gX5_splitsAt_X3_flip : GoodIn wsX5_splitsAt (wsV RX5 179 RX3 yX3_flip wsX3_flip) := goodIn_app (goodIn_of _ (by decide +kernel)) ggX5_splitsAt_X3_flip
set_option maxRecDepth 20000 in
theorem ggX5_splitsAt_X4_read : GoodIn wsX5_splitsAt wsX4_read := goodIn_r _ [22, 23, 24, 25, 26, 27, 9, 10, 6, 11, 12, 28, 29, 30, 21, 31, 32, 33, 34, 35, 36, 37, 38, 39, 40, 41, 42, 43, 44, 45, 46, 47, 48, 49, 50, 51, 52, 53, 54, 55, 56, 57, 58, 59, 60, 61, 62, 63, 64, 65, 66, 67, 68, 69, 70, 71, 72, 73, 74, 75, 76, 77, 78, 79, 80, 81, 82, 83, 84, 85, 86, 87, 88, 103, 104, 105, 106, 107, 108, 109, 110, 100, 101, 102] (by decide +kernel) (by decide +kernel)
set_option maxRecDepth 20000 in
theorem gX5_splitsAt_X4_read : GoodIn wsX5_splitsAt (wsV RX5 248 RX4 yX4_read wsX4_read) := goodIn_app (goodIn_of _ (by decide +kernel)) ggX5_splitsAt_X4_read
set_option maxRecDepth 20000 in
theorem ggX5_splitsAt_X4_darkGroups : GoodIn wsX5_splitsAt wsX4_darkGroups := goodIn_r _ [92, 23, 39, 40, 103, 104, 105, 106, 107, 108, 109, 110] (by decide +kernel) (by decide +kernel)
set_option maxRecDepth 20000 in
theorem gX5_splitsAt_X4_darkGroups : GoodIn wsX5_splitsAt (wsV RX5 249 RX4 yX4_darkGroups wsX4_darkGroups) := goodIn_app (goodIn_of _ (by decide +kernel)) ggX5_splitsAt_X4_darkGroups
theorem dX5_splitsAt_0 : decode cX5_splitsAt 0 = .ok (.aload_n 0, 1) := by decide +kernel
theorem dX5_splitsAt_1 : decode cX5_splitsAt 1 = .ok (.getfield 12, 3) := by decide +kernel
theorem dX5_splitsAt_4 : decode cX5_splitsAt 4 = .ok (.iload_n 1, 1) := by decide +kernel
theorem dX5_splitsAt_5 : decode cX5_splitsAt 5 = .ok (.iconst 1, 1) := by decide +kernel
theorem dX5_splitsAt_6 : decode cX5_splitsAt 6 = .ok (.iload_n 2, 1) := by decide +kernel
theorem dX5_splitsAt_7 : decode cX5_splitsAt 7 = .ok (.ishl, 1) := by decide +kernel
theorem dX5_splitsAt_8 : decode cX5_splitsAt 8 = .ok (.invokevirtual 179, 3) := by decide +kernel
theorem dX5_splitsAt_11 : decode cX5_splitsAt 11 = .ok (.aload_n 0, 1) := by decide +kernel
theorem dX5_splitsAt_12 : decode cX5_splitsAt 12 = .ok (.getfield 26, 3) := by decide +kernel
theorem dX5_splitsAt_15 : decode cX5_splitsAt 15 = .ok (.aload_n 0, 1) := by decide +kernel
theorem dX5_splitsAt_16 : decode cX5_splitsAt 16 = .ok (.getfield 12, 3) := by decide +kernel
theorem dX5_splitsAt_19 : decode cX5_splitsAt 19 = .ok (.invokevirtual 248, 3) := by decide +kernel
theorem dX5_splitsAt_22 : decode cX5_splitsAt 22 = .ok (.aload_n 0, 1) := by decide +kernel
theorem dX5_splitsAt_23 : decode cX5_splitsAt 23 = .ok (.getfield 12, 3) := by decide +kernel
theorem dX5_splitsAt_26 : decode cX5_splitsAt 26 = .ok (.iload_n 1, 1) := by decide +kernel
theorem dX5_splitsAt_27 : decode cX5_splitsAt 27 = .ok (.iconst 1, 1) := by decide +kernel
theorem dX5_splitsAt_28 : decode cX5_splitsAt 28 = .ok (.iload_n 2, 1) := by decide +kernel
theorem dX5_splitsAt_29 : decode cX5_splitsAt 29 = .ok (.ishl, 1) := by decide +kernel
theorem dX5_splitsAt_30 : decode cX5_splitsAt 30 = .ok (.invokevirtual 179, 3) := by decide +kernel
theorem dX5_splitsAt_33 : decode cX5_splitsAt 33 = .ok (.aload_n 0, 1) := by decide +kernel
theorem dX5_splitsAt_34 : decode cX5_splitsAt 34 = .ok (.getfield 26, 3) := by decide +kernel
theorem dX5_splitsAt_37 : decode cX5_splitsAt 37 = .ok (.invokevirtual 249, 3) := by decide +kernel
theorem dX5_splitsAt_40 : decode cX5_splitsAt 40 = .ok (.iload_n 3, 1) := by decide +kernel
theorem dX5_splitsAt_41 : decode cX5_splitsAt 41 = .ok (.isub, 1) := by decide +kernel
theorem dX5_splitsAt_42 : decode cX5_splitsAt 42 = .ok (.iconst 1, 1) := by decide +kernel
theorem dX5_splitsAt_43 : decode cX5_splitsAt 43 = .ok (.iadd, 1) := by decide +kernel
theorem dX5_splitsAt_44 : decode cX5_splitsAt 44 = .ok (.ireturn, 1) := by decide +kernel
theorem dX6_init_0 : decode cX6_init 0 = .ok (.aload_n 0, 1) := by decide +kernel
theorem dX6_init_1 : decode cX6_init 1 = .ok (.invokespecial 1, 3) := by decide +kernel
theorem dX6_init_4 : decode cX6_init 4 = .ok (.aload_n 0, 1) := by decide +kernel
theorem dX6_init_5 : decode cX6_init 5 = .ok (.bipush 17, 2) := by decide +kernel
theorem dX6_init_7 : decode cX6_init 7 = .ok (.newarray .int, 2) := by decide +kernel
theorem dX6_init_9 : decode cX6_init 9 = .ok (.putfield 7, 3) := by decide +kernel
theorem dX6_init_12 : decode cX6_init 12 = .ok (.aload_n 0, 1) := by decide +kernel
theorem dX6_init_13 : decode cX6_init 13 = .ok (.bipush 17, 2) := by decide +kernel
theorem dX6_init_15 : decode cX6_init 15 = .ok (.newarray .int, 2) := by decide +kernel
theorem dX6_init_17 : decode cX6_init 17 = .ok (.putfield 13, 3) := by decide +kernel
theorem dX6_init_20 : decode cX6_init 20 = .ok (.aload_n 0, 1) := by decide +kernel
theorem dX6_init_21 : decode cX6_init 21 = .ok (.sipush 256, 3) := by decide +kernel
theorem dX6_init_24 : decode cX6_init 24 = .ok (.newarray .int, 2) := by decide +kernel
theorem dX6_init_26 : decode cX6_init 26 = .ok (.putfield 16, 3) := by decide +kernel
theorem dX6_init_29 : decode cX6_init 29 = .ok (.aload_n 0, 1) := by decide +kernel
theorem dX6_init_30 : decode cX6_init 30 = .ok (.sipush 256, 3) := by decide +kernel
theorem dX6_init_33 : decode cX6_init 33 = .ok (.newarray .int, 2) := by decide +kernel
theorem dX6_init_35 : decode cX6_init 35 = .ok (.putfield 19, 3) := by decide +kernel
theorem dX6_init_38 : decode cX6_init 38 = .ok (.aload_n 0, 1) := by decide +kernel
theorem dX6_init_39 : decode cX6_init 39 = .ok (.sipush 128, 3) := by decide +kernel
theorem dX6_init_42 : decode cX6_init 42 = .ok (.newarray .int, 2) := by decide +kernel
theorem dX6_init_44 : decode cX6_init 44 = .ok (.putfield 22, 3) := by decide +kernel
theorem dX6_init_47 : decode cX6_init 47 = .ok (.aload_n 0, 1) := by decide +kernel
theorem dX6_init_48 : decode cX6_init 48 = .ok (.sipush 128, 3) := by decide +kernel
theorem dX6_init_51 : decode cX6_init 51 = .ok (.newarray .int, 2) := by decide +kernel
theorem dX6_init_53 : decode cX6_init 53 = .ok (.putfield 25, 3) := by decide +kernel
theorem dX6_init_56 : decode cX6_init 56 = .ok (.aload_n 0, 1) := by decide +kernel
theorem dX6_init_57 : decode cX6_init 57 = .ok (.sipush 128, 3) := by decide +kernel
theorem dX6_init_60 : decode cX6_init 60 = .ok (.newarray .int, 2) := by decide +kernel
theorem dX6_init_62 : decode cX6_init 62 = .ok (.putfield 28, 3) := by decide +kernel
theorem dX6_init_65 : decode cX6_init 65 = .ok (.aload_n 0, 1) := by decide +kernel
theorem dX6_init_66 : decode cX6_init 66 = .ok (.sipush 510, 3) := by decide +kernel
theorem dX6_init_69 : decode cX6_init 69 = .ok (.newarray .int, 2) := by decide +kernel
theorem dX6_init_71 : decode cX6_init 71 = .ok (.putfield 31, 3) := by decide +kernel
theorem dX6_init_74 : decode cX6_init 74 = .ok (.aload_n 0, 1) := by decide +kernel
theorem dX6_init_75 : decode cX6_init 75 = .ok (.iconst 2, 1) := by decide +kernel
theorem dX6_init_76 : decode cX6_init 76 = .ok (.newarray .boolean, 2) := by decide +kernel
theorem dX6_init_78 : decode cX6_init 78 = .ok (.putfield 34, 3) := by decide +kernel
theorem dX6_init_81 : decode cX6_init 81 = .ok (.aload_n 0, 1) := by decide +kernel
theorem dX6_init_82 : decode cX6_init 82 = .ok (.bipush 34, 2) := by decide +kernel
theorem dX6_init_84 : decode cX6_init 84 = .ok (.newarray .int, 2) := by decide +kernel
theorem dX6_init_86 : decode cX6_init 86 = .ok (.putfield 38, 3) := by decide +kernel
theorem dX6_init_89 : decode cX6_init 89 = .ok (.aload_n 0, 1) := by decide +kernel
theorem dX6_init_90 : decode cX6_init 90 = .ok (.iconst 2, 1) := by decide +kernel
theorem dX6_init_91 : decode cX6_init 91 = .ok (.newarray .int, 2) := by decide +kernel
theorem dX6_init_93 : decode cX6_init 93 = .ok (.putfield 41, 3) := by decide +kernel
theorem dX6_init_96 : decode cX6_init 96 = .ok (.aload_n 0, 1) := by decide +kernel
theorem dX6_init_97 : decode cX6_init 97 = .ok (.getfield 7, 3) := by decide +kernel
theorem dX6_init_100 : decode cX6_init 100 = .ok (.bipush 16, 2) := by decide +kernel
theorem dX6_init_102 : decode cX6_init 102 = .ok (.iconst 4, 1) := by decide +kernel
theorem dX6_init_103 : decode cX6_init 103 = .ok (.iastore, 1) := by decide +kernel
theorem dX6_init_104 : decode cX6_init 104 = .ok (.return_, 1) := by decide +kernel
theorem dX6_in_0 : decode cX6_in 0 = .ok (.iload_n 0, 1) := by decide +kernel
theorem dX6_in_1 : decode cX6_in 1 = .ok (.iload_n 1, 1) := by decide +kernel
theorem dX6_in_2 : decode cX6_in 2 = .ok (.if_icmp .lt 12, 3) := by decide +kernel
theorem dX6_in_5 : decode cX6_in 5 = .ok (.iload_n 0, 1) := by decide +kernel
theorem dX6_in_6 : decode cX6_in 6 = .ok (.iload_n 2, 1) := by decide +kernel
theorem dX6_in_7 : decode cX6_in 7 = .ok (.if_icmp .gt 7, 3) := by decide +kernel
theorem dX6_in_10 : decode cX6_in 10 = .ok (.iconst 1, 1) := by decide +kernel
theorem dX6_in_11 : decode cX6_in 11 = .ok (.goto 4, 3) := by decide +kernel
theorem dX6_in_14 : decode cX6_in 14 = .ok (.iconst 0, 1) := by decide +kernel
theorem dX6_in_15 : decode cX6_in 15 = .ok (.ireturn, 1) := by decide +kernel
theorem dX6_has_0 : decode cX6_has 0 = .ok (.iload_n 0, 1) := by decide +kernel
theorem dX6_has_1 : decode cX6_has 1 = .ok (.iload_n 1, 1) := by decide +kernel
theorem dX6_has_2 : decode cX6_has 2 = .ok (.ishr, 1) := by decide +kernel
theorem dX6_has_3 : decode cX6_has 3 = .ok (.iconst 1, 1) := by decide +kernel
theorem dX6_has_4 : decode cX6_has 4 = .ok (.iand, 1) := by decide +kernel
theorem dX6_has_5 : decode cX6_has 5 = .ok (.iconst 1, 1) := by decide +kernel
theorem dX6_has_6 : decode cX6_has 6 = .ok (.if_icmp .ne 7, 3) := by decide +kernel
theorem dX6_has_9 : decode cX6_has 9 = .ok (.iconst 1, 1) := by decide +kernel
theorem dX6_has_10 : decode cX6_has 10 = .ok (.goto 4, 3) := by decide +kernel
theorem dX6_has_13 : decode cX6_has 13 = .ok (.iconst 0, 1) := by decide +kernel
theorem dX6_has_14 : decode cX6_has 14 = .ok (.ireturn, 1) := by decide +kernel
theorem dX6_bits_0 : decode cX6_bits 0 = .ok (.iconst 0, 1) := by decide +kernel
theorem dX6_bits_1 : decode cX6_bits 1 = .ok (.istore_n 1, 1) := by decide +kernel
theorem dX6_bits_2 : decode cX6_bits 2 = .ok (.iload_n 0, 1) := by decide +kernel
theorem dX6_bits_3 : decode cX6_bits 3 = .ok (.istore_n 2, 1) := by decide +kernel
theorem dX6_bits_4 : decode cX6_bits 4 = .ok (.iload_n 2, 1) := by decide +kernel
theorem dX6_bits_5 : decode cX6_bits 5 = .ok (.ifCond .eq 15, 3) := by decide +kernel
theorem dX6_bits_8 : decode cX6_bits 8 = .ok (.iinc 1 1, 3) := by decide +kernel
theorem dX6_bits_11 : decode cX6_bits 11 = .ok (.iload_n 2, 1) := by decide +kernel
theorem dX6_bits_12 : decode cX6_bits 12 = .ok (.iload_n 2, 1) := by decide +kernel
theorem dX6_bits_13 : decode cX6_bits 13 = .ok (.iconst 1, 1) := by decide +kernel
theorem dX6_bits_14 : decode cX6_bits 14 = .ok (.isub, 1) := by decide +kernel
theorem dX6_bits_15 : decode cX6_bits 15 = .ok (.iand, 1) := by decide +kernel
theorem dX6_bits_16 : decode cX6_bits 16 = .ok (.istore_n 2, 1) := by decide +kernel
theorem dX6_bits_17 : decode cX6_bits 17 = .ok (.goto (-13), 3) := by decide +kernel
theorem dX6_bits_20 : decode cX6_bits 20 = .ok (.iload_n 1, 1) := by decide +kernel
theorem dX6_bits_21 : decode cX6_bits 21 = .ok (.ireturn, 1) := by decide +kernel
set_option maxRecDepth 20000 in
theorem ggX6_isDark_X6_has : GoodIn wsX6_isDark wsX6_has := goodIn_r _ [4] (by decide +kernel) (by decide +kernel)
set_option maxRecDepth 20000 in
theorem gX6_isDark_X6_has : GoodIn wsX6_isDark (va_wsS RX6 44 yX6_has wsX6_has) := goodIn_app (goodIn_of _ (by decide +kernel)) ggX6_isDark_X6_has
theorem dX6_isDark_0 : decode cX6_isDark 0 = .ok (.aload_n 0, 1) := by decide +kernel
theorem dX6_isDark_1 : decode cX6_isDark 1 = .ok (.iload_n 1, 1) := by decide +kernel
theorem dX6_isDark_2 : decode cX6_isDark 2 = .ok (.bipush 16, 2) := by decide +kernel
theorem dX6_isDark_4 : decode cX6_isDark 4 = .ok (.idiv, 1) := by decide +kernel
theorem dX6_isDark_5 : decode cX6_isDark 5 = .ok (.iaload, 1) := by decide +kernel
theorem dX6_isDark_6 : decode cX6_isDark 6 = .ok (.iload_n 1, 1) := by decide +kernel
theorem dX6_isDark_7 : decode cX6_isDark 7 = .ok (.bipush 16, 2) := by decide +kernel
theorem dX6_isDark_9 : decode cX6_isDark 9 = .ok (.irem, 1) := by decide +kernel
theorem dX6_isDark_10 : decode cX6_isDark 10 = .ok (.invokestatic 44, 3) := by decide +kernel
theorem dX6_isDark_13 : decode cX6_isDark 13 = .ok (.ireturn, 1) := by decide +kernel
theorem dX6_copies_0 : decode cX6_copies 0 = .ok (.iconst 0, 1) := by decide +kernel
theorem dX6_copies_1 : decode cX6_copies 1 = .ok (.istore_n 2, 1) := by decide +kernel
theorem dX6_copies_2 : decode cX6_copies 2 = .ok (.iload_n 2, 1) := by decide +kernel
theorem dX6_copies_3 : decode cX6_copies 3 = .ok (.bipush 17, 2) := by decide +kernel
theorem dX6_copies_5 : decode cX6_copies 5 = .ok (.if_icmp .ge 15, 3) := by decide +kernel
theorem dX6_copies_8 : decode cX6_copies 8 = .ok (.aload_n 1, 1) := by decide +kernel
theorem dX6_copies_9 : decode cX6_copies 9 = .ok (.iload_n 2, 1) := by decide +kernel
theorem dX6_copies_10 : decode cX6_copies 10 = .ok (.aload_n 0, 1) := by decide +kernel
theorem dX6_copies_11 : decode cX6_copies 11 = .ok (.iload_n 2, 1) := by decide +kernel
theorem dX6_copies_12 : decode cX6_copies 12 = .ok (.iaload, 1) := by decide +kernel
theorem dX6_copies_13 : decode cX6_copies 13 = .ok (.iastore, 1) := by decide +kernel
theorem dX6_copies_14 : decode cX6_copies 14 = .ok (.iinc 2 1, 3) := by decide +kernel
theorem dX6_copies_17 : decode cX6_copies 17 = .ok (.goto (-15), 3) := by decide +kernel
theorem dX6_copies_20 : decode cX6_copies 20 = .ok (.return_, 1) := by decide +kernel
set_option maxRecDepth 20000 in
theorem ggX6_isOn_X6_in : GoodIn wsX6_isOn wsX6_in := goodIn_r _ [4] (by decide +kernel) (by decide +kernel)
set_option maxRecDepth 20000 in
theorem gX6_isOn_X6_in : GoodIn wsX6_isOn (va_wsS RX6 48 yX6_in wsX6_in) := goodIn_app (goodIn_of _ (by decide +kernel)) ggX6_isOn_X6_in
theorem dX6_isOn_0 : decode cX6_isOn 0 = .ok (.iload_n 0, 1) := by decide +kernel
theorem dX6_isOn_1 : decode cX6_isOn 1 = .ok (.iconst 0, 1) := by decide +kernel
theorem dX6_isOn_2 : decode cX6_isOn 2 = .ok (.bipush 15, 2) := by decide +kernel
theorem dX6_isOn_4 : decode cX6_isOn 4 = .ok (.invokestatic 48, 3) := by decide +kernel
theorem dX6_isOn_7 : decode cX6_isOn 7 = .ok (.ifCond .eq 17, 3) := by decide +kernel
theorem dX6_isOn_10 : decode cX6_isOn 10 = .ok (.iload_n 1, 1) := by decide +kernel
theorem dX6_isOn_11 : decode cX6_isOn 11 = .ok (.iconst 0, 1) := by decide +kernel
theorem dX6_isOn_12 : decode cX6_isOn 12 = .ok (.bipush 15, 2) := by decide +kernel
theorem dX6_isOn_14 : decode cX6_isOn 14 = .ok (.invokestatic 48, 3) := by decide +kernel
theorem dX6_isOn_17 : decode cX6_isOn 17 = .ok (.ifCond .eq 7, 3) := by decide +kernel
theorem dX6_isOn_20 : decode cX6_isOn 20 = .ok (.iconst 1, 1) := by decide +kernel
theorem dX6_isOn_21 : decode cX6_isOn 21 = .ok (.goto 4, 3) := by decide +kernel
theorem dX6_isOn_24 : decode cX6_isOn 24 = .ok (.iconst 0, 1) := by decide +kernel
theorem dX6_isOn_25 : decode cX6_isOn 25 = .ok (.ireturn, 1) := by decide +kernel
set_option maxRecDepth 20000 in
theorem ggX6_floods_X6_isDark : GoodIn wsX6_floods wsX6_isDark := goodIn_r _ [6, 7, 8, 5, 9] (by decide +kernel) (by decide +kernel)
set_option maxRecDepth 20000 in
theorem gX6_floods_X6_isDark : GoodIn wsX6_floods (va_wsS RX6 52 yX6_isDark wsX6_isDark) := goodIn_app (goodIn_of _ (by decide +kernel)) ggX6_floods_X6_isDark
set_option maxRecDepth 20000 in
theorem ggX6_floods_X6_isOn : GoodIn wsX6_floods wsX6_isOn := goodIn_r _ [12, 13, 14, 5, 15] (by decide +kernel) (by decide +kernel)
set_option maxRecDepth 20000 in
theorem gX6_floods_X6_isOn : GoodIn wsX6_floods (va_wsS RX6 56 yX6_isOn wsX6_isOn) := goodIn_app (goodIn_of _ (by decide +kernel)) ggX6_floods_X6_isOn
theorem dX6_floods_0 : decode cX6_floods 0 = .ok (.aload_n 1, 1) := by decide +kernel
theorem dX6_floods_1 : decode cX6_floods 1 = .ok (.iload_n 2, 1) := by decide +kernel
theorem dX6_floods_2 : decode cX6_floods 2 = .ok (.invokestatic 52, 3) := by decide +kernel
theorem dX6_floods_5 : decode cX6_floods 5 = .ok (.istore 4, 2) := by decide +kernel
theorem dX6_floods_7 : decode cX6_floods 7 = .ok (.iload 4, 2) := by decide +kernel
theorem dX6_floods_9 : decode cX6_floods 9 = .ok (.aload_n 1, 1) := by decide +kernel
theorem dX6_floods_10 : decode cX6_floods 10 = .ok (.bipush 16, 2) := by decide +kernel
theorem dX6_floods_12 : decode cX6_floods 12 = .ok (.iaload, 1) := by decide +kernel
theorem dX6_floods_13 : decode cX6_floods 13 = .ok (.bipush 8, 2) := by decide +kernel
theorem dX6_floods_15 : decode cX6_floods 15 = .ok (.if_icmp .ne 7, 3) := by decide +kernel
theorem dX6_floods_18 : decode cX6_floods 18 = .ok (.iconst 1, 1) := by decide +kernel
theorem dX6_floods_19 : decode cX6_floods 19 = .ok (.goto 4, 3) := by decide +kernel
theorem dX6_floods_22 : decode cX6_floods 22 = .ok (.iconst 0, 1) := by decide +kernel
theorem dX6_floods_23 : decode cX6_floods 23 = .ok (.if_icmp .ne 7, 3) := by decide +kernel
theorem dX6_floods_26 : decode cX6_floods 26 = .ok (.iconst 1, 1) := by decide +kernel
theorem dX6_floods_27 : decode cX6_floods 27 = .ok (.goto 4, 3) := by decide +kernel
theorem dX6_floods_30 : decode cX6_floods 30 = .ok (.iconst 0, 1) := by decide +kernel
theorem dX6_floods_31 : decode cX6_floods 31 = .ok (.istore 5, 2) := by decide +kernel
end
section
theorem dX6_floods_33 : decode cX6_floods 33 = .ok (.iconst 0, 1) := by decide +kernel
theorem dX6_floods_34 : decode cX6_floods 34 = .ok (.istore 6, 2) := by decide +kernel
theorem dX6_floods_36 : decode cX6_floods 36 = .ok (.iconst 0, 1) := by decide +kernel
theorem dX6_floods_37 : decode cX6_floods 37 = .ok (.istore 7, 2) := by decide +kernel
theorem dX6_floods_39 : decode cX6_floods 39 = .ok (.iconst 1, 1) := by decide +kernel
theorem dX6_floods_40 : decode cX6_floods 40 = .ok (.istore 8, 2) := by decide +kernel
theorem dX6_floods_42 : decode cX6_floods 42 = .ok (.aload_n 0, 1) := by decide +kernel
theorem dX6_floods_43 : decode cX6_floods 43 = .ok (.getfield 19, 3) := by decide +kernel
theorem dX6_floods_46 : decode cX6_floods 46 = .ok (.iconst 0, 1) := by decide +kernel
theorem dX6_floods_47 : decode cX6_floods 47 = .ok (.iload_n 2, 1) := by decide +kernel
theorem dX6_floods_48 : decode cX6_floods 48 = .ok (.iastore, 1) := by decide +kernel
theorem dX6_floods_49 : decode cX6_floods 49 = .ok (.aload_n 0, 1) := by decide +kernel
theorem dX6_floods_50 : decode cX6_floods 50 = .ok (.getfield 16, 3) := by decide +kernel
theorem dX6_floods_53 : decode cX6_floods 53 = .ok (.iload_n 2, 1) := by decide +kernel
theorem dX6_floods_54 : decode cX6_floods 54 = .ok (.iload_n 3, 1) := by decide +kernel
theorem dX6_floods_55 : decode cX6_floods 55 = .ok (.iastore, 1) := by decide +kernel
theorem dX6_floods_56 : decode cX6_floods 56 = .ok (.iload 7, 2) := by decide +kernel
theorem dX6_floods_58 : decode cX6_floods 58 = .ok (.iload 8, 2) := by decide +kernel
theorem dX6_floods_60 : decode cX6_floods 60 = .ok (.if_icmp .ge 194, 3) := by decide +kernel
theorem dX6_floods_63 : decode cX6_floods 63 = .ok (.aload_n 0, 1) := by decide +kernel
theorem dX6_floods_64 : decode cX6_floods 64 = .ok (.getfield 19, 3) := by decide +kernel
theorem dX6_floods_67 : decode cX6_floods 67 = .ok (.iload 7, 2) := by decide +kernel
theorem dX6_floods_69 : decode cX6_floods 69 = .ok (.iaload, 1) := by decide +kernel
theorem dX6_floods_70 : decode cX6_floods 70 = .ok (.bipush 16, 2) := by decide +kernel
theorem dX6_floods_72 : decode cX6_floods 72 = .ok (.idiv, 1) := by decide +kernel
theorem dX6_floods_73 : decode cX6_floods 73 = .ok (.istore 9, 2) := by decide +kernel
theorem dX6_floods_75 : decode cX6_floods 75 = .ok (.aload_n 0, 1) := by decide +kernel
theorem dX6_floods_76 : decode cX6_floods 76 = .ok (.getfield 19, 3) := by decide +kernel
theorem dX6_floods_79 : decode cX6_floods 79 = .ok (.iload 7, 2) := by decide +kernel
theorem dX6_floods_81 : decode cX6_floods 81 = .ok (.iaload, 1) := by decide +kernel
theorem dX6_floods_82 : decode cX6_floods 82 = .ok (.bipush 16, 2) := by decide +kernel
theorem dX6_floods_84 : decode cX6_floods 84 = .ok (.irem, 1) := by decide +kernel
theorem dX6_floods_85 : decode cX6_floods 85 = .ok (.istore 10, 2) := by decide +kernel
theorem dX6_floods_87 : decode cX6_floods 87 = .ok (.iinc 7 1, 3) := by decide +kernel
theorem dX6_floods_90 : decode cX6_floods 90 = .ok (.iload 6, 2) := by decide +kernel
theorem dX6_floods_92 : decode cX6_floods 92 = .ok (.ifCond .ne 27, 3) := by decide +kernel
theorem dX6_floods_95 : decode cX6_floods 95 = .ok (.iload 9, 2) := by decide +kernel
theorem dX6_floods_97 : decode cX6_floods 97 = .ok (.ifCond .eq 22, 3) := by decide +kernel
theorem dX6_floods_100 : decode cX6_floods 100 = .ok (.iload 10, 2) := by decide +kernel
theorem dX6_floods_102 : decode cX6_floods 102 = .ok (.ifCond .eq 17, 3) := by decide +kernel
theorem dX6_floods_105 : decode cX6_floods 105 = .ok (.iload 9, 2) := by decide +kernel
theorem dX6_floods_107 : decode cX6_floods 107 = .ok (.bipush 15, 2) := by decide +kernel
theorem dX6_floods_109 : decode cX6_floods 109 = .ok (.if_icmp .eq 10, 3) := by decide +kernel
theorem dX6_floods_112 : decode cX6_floods 112 = .ok (.iload 10, 2) := by decide +kernel
theorem dX6_floods_114 : decode cX6_floods 114 = .ok (.bipush 15, 2) := by decide +kernel
theorem dX6_floods_116 : decode cX6_floods 116 = .ok (.if_icmp .ne 7, 3) := by decide +kernel
theorem dX6_floods_119 : decode cX6_floods 119 = .ok (.iconst 1, 1) := by decide +kernel
theorem dX6_floods_120 : decode cX6_floods 120 = .ok (.goto 4, 3) := by decide +kernel
theorem dX6_floods_123 : decode cX6_floods 123 = .ok (.iconst 0, 1) := by decide +kernel
theorem dX6_floods_124 : decode cX6_floods 124 = .ok (.istore 6, 2) := by decide +kernel
theorem dX6_floods_126 : decode cX6_floods 126 = .ok (.iconst 0, 1) := by decide +kernel
theorem dX6_floods_127 : decode cX6_floods 127 = .ok (.istore 11, 2) := by decide +kernel
theorem dX6_floods_129 : decode cX6_floods 129 = .ok (.iload 11, 2) := by decide +kernel
theorem dX6_floods_131 : decode cX6_floods 131 = .ok (.bipush 9, 2) := by decide +kernel
theorem dX6_floods_133 : decode cX6_floods 133 = .ok (.if_icmp .ge 118, 3) := by decide +kernel
theorem dX6_floods_136 : decode cX6_floods 136 = .ok (.iload 9, 2) := by decide +kernel
theorem dX6_floods_138 : decode cX6_floods 138 = .ok (.iload 11, 2) := by decide +kernel
theorem dX6_floods_140 : decode cX6_floods 140 = .ok (.iconst 3, 1) := by decide +kernel
theorem dX6_floods_141 : decode cX6_floods 141 = .ok (.idiv, 1) := by decide +kernel
theorem dX6_floods_142 : decode cX6_floods 142 = .ok (.iadd, 1) := by decide +kernel
theorem dX6_floods_143 : decode cX6_floods 143 = .ok (.iconst 1, 1) := by decide +kernel
theorem dX6_floods_144 : decode cX6_floods 144 = .ok (.isub, 1) := by decide +kernel
theorem dX6_floods_145 : decode cX6_floods 145 = .ok (.istore 12, 2) := by decide +kernel
theorem dX6_floods_147 : decode cX6_floods 147 = .ok (.iload 10, 2) := by decide +kernel
theorem dX6_floods_149 : decode cX6_floods 149 = .ok (.iload 11, 2) := by decide +kernel
theorem dX6_floods_151 : decode cX6_floods 151 = .ok (.iconst 3, 1) := by decide +kernel
theorem dX6_floods_152 : decode cX6_floods 152 = .ok (.irem, 1) := by decide +kernel
theorem dX6_floods_153 : decode cX6_floods 153 = .ok (.iadd, 1) := by decide +kernel
theorem dX6_floods_154 : decode cX6_floods 154 = .ok (.iconst 1, 1) := by decide +kernel
theorem dX6_floods_155 : decode cX6_floods 155 = .ok (.isub, 1) := by decide +kernel
theorem dX6_floods_156 : decode cX6_floods 156 = .ok (.istore 13, 2) := by decide +kernel
theorem dX6_floods_158 : decode cX6_floods 158 = .ok (.iload 12, 2) := by decide +kernel
theorem dX6_floods_160 : decode cX6_floods 160 = .ok (.iload 13, 2) := by decide +kernel
theorem dX6_floods_162 : decode cX6_floods 162 = .ok (.invokestatic 56, 3) := by decide +kernel
theorem dX6_floods_165 : decode cX6_floods 165 = .ok (.ifCond .eq 20, 3) := by decide +kernel
theorem dX6_floods_168 : decode cX6_floods 168 = .ok (.iload 5, 2) := by decide +kernel
theorem dX6_floods_170 : decode cX6_floods 170 = .ok (.ifCond .ne 11, 3) := by decide +kernel
theorem dX6_floods_173 : decode cX6_floods 173 = .ok (.iload 11, 2) := by decide +kernel
theorem dX6_floods_175 : decode cX6_floods 175 = .ok (.iconst 2, 1) := by decide +kernel
theorem dX6_floods_176 : decode cX6_floods 176 = .ok (.irem, 1) := by decide +kernel
theorem dX6_floods_177 : decode cX6_floods 177 = .ok (.iconst 1, 1) := by decide +kernel
theorem dX6_floods_178 : decode cX6_floods 178 = .ok (.if_icmp .ne 7, 3) := by decide +kernel
theorem dX6_floods_181 : decode cX6_floods 181 = .ok (.iconst 1, 1) := by decide +kernel
theorem dX6_floods_182 : decode cX6_floods 182 = .ok (.goto 4, 3) := by decide +kernel
theorem dX6_floods_185 : decode cX6_floods 185 = .ok (.iconst 0, 1) := by decide +kernel
theorem dX6_floods_186 : decode cX6_floods 186 = .ok (.istore 14, 2) := by decide +kernel
theorem dX6_floods_188 : decode cX6_floods 188 = .ok (.bipush 16, 2) := by decide +kernel
theorem dX6_floods_190 : decode cX6_floods 190 = .ok (.iload 12, 2) := by decide +kernel
theorem dX6_floods_192 : decode cX6_floods 192 = .ok (.imul, 1) := by decide +kernel
theorem dX6_floods_193 : decode cX6_floods 193 = .ok (.iload 13, 2) := by decide +kernel
theorem dX6_floods_195 : decode cX6_floods 195 = .ok (.iadd, 1) := by decide +kernel
theorem dX6_floods_196 : decode cX6_floods 196 = .ok (.istore 15, 2) := by decide +kernel
theorem dX6_floods_198 : decode cX6_floods 198 = .ok (.iload 14, 2) := by decide +kernel
theorem dX6_floods_200 : decode cX6_floods 200 = .ok (.ifCond .eq 45, 3) := by decide +kernel
theorem dX6_floods_203 : decode cX6_floods 203 = .ok (.aload_n 0, 1) := by decide +kernel
theorem dX6_floods_204 : decode cX6_floods 204 = .ok (.getfield 16, 3) := by decide +kernel
theorem dX6_floods_207 : decode cX6_floods 207 = .ok (.iload 15, 2) := by decide +kernel
theorem dX6_floods_209 : decode cX6_floods 209 = .ok (.iaload, 1) := by decide +kernel
theorem dX6_floods_210 : decode cX6_floods 210 = .ok (.iconst (-1), 1) := by decide +kernel
theorem dX6_floods_211 : decode cX6_floods 211 = .ok (.if_icmp .ne 34, 3) := by decide +kernel
theorem dX6_floods_214 : decode cX6_floods 214 = .ok (.aload_n 1, 1) := by decide +kernel
theorem dX6_floods_215 : decode cX6_floods 215 = .ok (.iload 15, 2) := by decide +kernel
theorem dX6_floods_217 : decode cX6_floods 217 = .ok (.invokestatic 52, 3) := by decide +kernel
theorem dX6_floods_220 : decode cX6_floods 220 = .ok (.iload 4, 2) := by decide +kernel
theorem dX6_floods_222 : decode cX6_floods 222 = .ok (.if_icmp .ne 23, 3) := by decide +kernel
theorem dX6_floods_225 : decode cX6_floods 225 = .ok (.aload_n 0, 1) := by decide +kernel
theorem dX6_floods_226 : decode cX6_floods 226 = .ok (.getfield 16, 3) := by decide +kernel
theorem dX6_floods_229 : decode cX6_floods 229 = .ok (.iload 15, 2) := by decide +kernel
theorem dX6_floods_231 : decode cX6_floods 231 = .ok (.iload_n 3, 1) := by decide +kernel
theorem dX6_floods_232 : decode cX6_floods 232 = .ok (.iastore, 1) := by decide +kernel
theorem dX6_floods_233 : decode cX6_floods 233 = .ok (.aload_n 0, 1) := by decide +kernel
theorem dX6_floods_234 : decode cX6_floods 234 = .ok (.getfield 19, 3) := by decide +kernel
theorem dX6_floods_237 : decode cX6_floods 237 = .ok (.iload 8, 2) := by decide +kernel
theorem dX6_floods_239 : decode cX6_floods 239 = .ok (.iload 15, 2) := by decide +kernel
theorem dX6_floods_241 : decode cX6_floods 241 = .ok (.iastore, 1) := by decide +kernel
theorem dX6_floods_242 : decode cX6_floods 242 = .ok (.iinc 8 1, 3) := by decide +kernel
theorem dX6_floods_245 : decode cX6_floods 245 = .ok (.iinc 11 1, 3) := by decide +kernel
theorem dX6_floods_248 : decode cX6_floods 248 = .ok (.goto (-119), 3) := by decide +kernel
theorem dX6_floods_251 : decode cX6_floods 251 = .ok (.goto (-195), 3) := by decide +kernel
theorem dX6_floods_254 : decode cX6_floods 254 = .ok (.iload 6, 2) := by decide +kernel
theorem dX6_floods_256 : decode cX6_floods 256 = .ok (.ireturn, 1) := by decide +kernel
set_option maxRecDepth 20000 in
theorem ggX6_parts_X6_isDark : GoodIn wsX6_parts wsX6_isDark := goodIn_r _ [11, 12, 13, 10, 14] (by decide +kernel) (by decide +kernel)
set_option maxRecDepth 20000 in
theorem gX6_parts_X6_isDark : GoodIn wsX6_parts (va_wsS RX6 52 yX6_isDark wsX6_isDark) := goodIn_app (goodIn_of _ (by decide +kernel)) ggX6_parts_X6_isDark
set_option maxRecDepth 20000 in
theorem ggX6_parts_X6_floods : GoodIn wsX6_parts wsX6_floods := goodIn_r _ [18, 19, 4, 8, 9, 10, 11, 12, 13, 14, 20, 21, 22, 23, 24, 25, 26, 27, 28, 29, 30, 31, 32, 33, 34, 35, 36, 37, 38, 39, 40, 41, 42] (by decide +kernel) (by decide +kernel)
set_option maxRecDepth 20000 in
theorem gX6_parts_X6_floods : GoodIn wsX6_parts (wsV RX6 69 RX6 yX6_floods wsX6_floods) := goodIn_app (goodIn_of _ (by decide +kernel)) ggX6_parts_X6_floods
theorem dX6_parts_0 : decode cX6_parts 0 = .ok (.aload_n 0, 1) := by decide +kernel
theorem dX6_parts_1 : decode cX6_parts 1 = .ok (.iconst 0, 1) := by decide +kernel
theorem dX6_parts_2 : decode cX6_parts 2 = .ok (.putfield 59, 3) := by decide +kernel
theorem dX6_parts_5 : decode cX6_parts 5 = .ok (.aload_n 0, 1) := by decide +kernel
theorem dX6_parts_6 : decode cX6_parts 6 = .ok (.iconst 0, 1) := by decide +kernel
theorem dX6_parts_7 : decode cX6_parts 7 = .ok (.putfield 63, 3) := by decide +kernel
theorem dX6_parts_10 : decode cX6_parts 10 = .ok (.aload_n 0, 1) := by decide +kernel
theorem dX6_parts_11 : decode cX6_parts 11 = .ok (.iconst 0, 1) := by decide +kernel
theorem dX6_parts_12 : decode cX6_parts 12 = .ok (.putfield 66, 3) := by decide +kernel
theorem dX6_parts_15 : decode cX6_parts 15 = .ok (.iconst 0, 1) := by decide +kernel
theorem dX6_parts_16 : decode cX6_parts 16 = .ok (.istore_n 2, 1) := by decide +kernel
theorem dX6_parts_17 : decode cX6_parts 17 = .ok (.iload_n 2, 1) := by decide +kernel
theorem dX6_parts_18 : decode cX6_parts 18 = .ok (.sipush 256, 3) := by decide +kernel
theorem dX6_parts_21 : decode cX6_parts 21 = .ok (.if_icmp .ge 16, 3) := by decide +kernel
theorem dX6_parts_24 : decode cX6_parts 24 = .ok (.aload_n 0, 1) := by decide +kernel
theorem dX6_parts_25 : decode cX6_parts 25 = .ok (.getfield 16, 3) := by decide +kernel
theorem dX6_parts_28 : decode cX6_parts 28 = .ok (.iload_n 2, 1) := by decide +kernel
theorem dX6_parts_29 : decode cX6_parts 29 = .ok (.iconst (-1), 1) := by decide +kernel
theorem dX6_parts_30 : decode cX6_parts 30 = .ok (.iastore, 1) := by decide +kernel
theorem dX6_parts_31 : decode cX6_parts 31 = .ok (.iinc 2 1, 3) := by decide +kernel
theorem dX6_parts_34 : decode cX6_parts 34 = .ok (.goto (-17), 3) := by decide +kernel
theorem dX6_parts_37 : decode cX6_parts 37 = .ok (.iconst 0, 1) := by decide +kernel
theorem dX6_parts_38 : decode cX6_parts 38 = .ok (.istore_n 2, 1) := by decide +kernel
theorem dX6_parts_39 : decode cX6_parts 39 = .ok (.iload_n 2, 1) := by decide +kernel
theorem dX6_parts_40 : decode cX6_parts 40 = .ok (.sipush 256, 3) := by decide +kernel
theorem dX6_parts_43 : decode cX6_parts 43 = .ok (.if_icmp .ge 141, 3) := by decide +kernel
theorem dX6_parts_46 : decode cX6_parts 46 = .ok (.aload_n 0, 1) := by decide +kernel
theorem dX6_parts_47 : decode cX6_parts 47 = .ok (.getfield 16, 3) := by decide +kernel
theorem dX6_parts_50 : decode cX6_parts 50 = .ok (.iload_n 2, 1) := by decide +kernel
theorem dX6_parts_51 : decode cX6_parts 51 = .ok (.iaload, 1) := by decide +kernel
theorem dX6_parts_52 : decode cX6_parts 52 = .ok (.iconst (-1), 1) := by decide +kernel
theorem dX6_parts_53 : decode cX6_parts 53 = .ok (.if_icmp .ne 45, 3) := by decide +kernel
theorem dX6_parts_56 : decode cX6_parts 56 = .ok (.aload_n 1, 1) := by decide +kernel
theorem dX6_parts_57 : decode cX6_parts 57 = .ok (.iload_n 2, 1) := by decide +kernel
theorem dX6_parts_58 : decode cX6_parts 58 = .ok (.invokestatic 52, 3) := by decide +kernel
theorem dX6_parts_61 : decode cX6_parts 61 = .ok (.ifCond .eq 37, 3) := by decide +kernel
theorem dX6_parts_64 : decode cX6_parts 64 = .ok (.aload_n 0, 1) := by decide +kernel
theorem dX6_parts_65 : decode cX6_parts 65 = .ok (.aload_n 1, 1) := by decide +kernel
theorem dX6_parts_66 : decode cX6_parts 66 = .ok (.iload_n 2, 1) := by decide +kernel
theorem dX6_parts_67 : decode cX6_parts 67 = .ok (.aload_n 0, 1) := by decide +kernel
theorem dX6_parts_68 : decode cX6_parts 68 = .ok (.getfield 59, 3) := by decide +kernel
theorem dX6_parts_71 : decode cX6_parts 71 = .ok (.invokevirtual 69, 3) := by decide +kernel
theorem dX6_parts_74 : decode cX6_parts 74 = .ok (.pop, 1) := by decide +kernel
theorem dX6_parts_75 : decode cX6_parts 75 = .ok (.aload_n 0, 1) := by decide +kernel
theorem dX6_parts_76 : decode cX6_parts 76 = .ok (.getfield 22, 3) := by decide +kernel
theorem dX6_parts_79 : decode cX6_parts 79 = .ok (.aload_n 0, 1) := by decide +kernel
theorem dX6_parts_80 : decode cX6_parts 80 = .ok (.getfield 59, 3) := by decide +kernel
theorem dX6_parts_83 : decode cX6_parts 83 = .ok (.iload_n 2, 1) := by decide +kernel
theorem dX6_parts_84 : decode cX6_parts 84 = .ok (.iastore, 1) := by decide +kernel
theorem dX6_parts_85 : decode cX6_parts 85 = .ok (.aload_n 0, 1) := by decide +kernel
theorem dX6_parts_86 : decode cX6_parts 86 = .ok (.dup, 1) := by decide +kernel
theorem dX6_parts_87 : decode cX6_parts 87 = .ok (.getfield 59, 3) := by decide +kernel
theorem dX6_parts_90 : decode cX6_parts 90 = .ok (.iconst 1, 1) := by decide +kernel
theorem dX6_parts_91 : decode cX6_parts 91 = .ok (.iadd, 1) := by decide +kernel
theorem dX6_parts_92 : decode cX6_parts 92 = .ok (.putfield 59, 3) := by decide +kernel
theorem dX6_parts_95 : decode cX6_parts 95 = .ok (.goto 83, 3) := by decide +kernel
theorem dX6_parts_98 : decode cX6_parts 98 = .ok (.aload_n 0, 1) := by decide +kernel
theorem dX6_parts_99 : decode cX6_parts 99 = .ok (.getfield 16, 3) := by decide +kernel
theorem dX6_parts_102 : decode cX6_parts 102 = .ok (.iload_n 2, 1) := by decide +kernel
theorem dX6_parts_103 : decode cX6_parts 103 = .ok (.iaload, 1) := by decide +kernel
theorem dX6_parts_104 : decode cX6_parts 104 = .ok (.iconst (-1), 1) := by decide +kernel
theorem dX6_parts_105 : decode cX6_parts 105 = .ok (.if_icmp .ne 73, 3) := by decide +kernel
theorem dX6_parts_108 : decode cX6_parts 108 = .ok (.aload_n 0, 1) := by decide +kernel
theorem dX6_parts_109 : decode cX6_parts 109 = .ok (.aload_n 1, 1) := by decide +kernel
theorem dX6_parts_110 : decode cX6_parts 110 = .ok (.iload_n 2, 1) := by decide +kernel
theorem dX6_parts_111 : decode cX6_parts 111 = .ok (.aload_n 0, 1) := by decide +kernel
theorem dX6_parts_112 : decode cX6_parts 112 = .ok (.getfield 63, 3) := by decide +kernel
theorem dX6_parts_115 : decode cX6_parts 115 = .ok (.invokevirtual 69, 3) := by decide +kernel
theorem dX6_parts_118 : decode cX6_parts 118 = .ok (.istore_n 3, 1) := by decide +kernel
theorem dX6_parts_119 : decode cX6_parts 119 = .ok (.aload_n 0, 1) := by decide +kernel
theorem dX6_parts_120 : decode cX6_parts 120 = .ok (.getfield 25, 3) := by decide +kernel
theorem dX6_parts_123 : decode cX6_parts 123 = .ok (.aload_n 0, 1) := by decide +kernel
theorem dX6_parts_124 : decode cX6_parts 124 = .ok (.getfield 63, 3) := by decide +kernel
theorem dX6_parts_127 : decode cX6_parts 127 = .ok (.iload_n 2, 1) := by decide +kernel
theorem dX6_parts_128 : decode cX6_parts 128 = .ok (.iastore, 1) := by decide +kernel
theorem dX6_parts_129 : decode cX6_parts 129 = .ok (.aload_n 0, 1) := by decide +kernel
theorem dX6_parts_130 : decode cX6_parts 130 = .ok (.getfield 28, 3) := by decide +kernel
theorem dX6_parts_133 : decode cX6_parts 133 = .ok (.aload_n 0, 1) := by decide +kernel
theorem dX6_parts_134 : decode cX6_parts 134 = .ok (.getfield 63, 3) := by decide +kernel
theorem dX6_parts_137 : decode cX6_parts 137 = .ok (.iload_n 3, 1) := by decide +kernel
theorem dX6_parts_138 : decode cX6_parts 138 = .ok (.ifCond .eq 7, 3) := by decide +kernel
theorem dX6_parts_141 : decode cX6_parts 141 = .ok (.iconst (-1), 1) := by decide +kernel
theorem dX6_parts_142 : decode cX6_parts 142 = .ok (.goto 7, 3) := by decide +kernel
theorem dX6_parts_145 : decode cX6_parts 145 = .ok (.aload_n 0, 1) := by decide +kernel
theorem dX6_parts_146 : decode cX6_parts 146 = .ok (.getfield 66, 3) := by decide +kernel
theorem dX6_parts_149 : decode cX6_parts 149 = .ok (.iastore, 1) := by decide +kernel
theorem dX6_parts_150 : decode cX6_parts 150 = .ok (.aload_n 0, 1) := by decide +kernel
theorem dX6_parts_151 : decode cX6_parts 151 = .ok (.dup, 1) := by decide +kernel
theorem dX6_parts_152 : decode cX6_parts 152 = .ok (.getfield 66, 3) := by decide +kernel
theorem dX6_parts_155 : decode cX6_parts 155 = .ok (.iload_n 3, 1) := by decide +kernel
theorem dX6_parts_156 : decode cX6_parts 156 = .ok (.ifCond .eq 7, 3) := by decide +kernel
theorem dX6_parts_159 : decode cX6_parts 159 = .ok (.iconst 0, 1) := by decide +kernel
theorem dX6_parts_160 : decode cX6_parts 160 = .ok (.goto 4, 3) := by decide +kernel
theorem dX6_parts_163 : decode cX6_parts 163 = .ok (.iconst 1, 1) := by decide +kernel
theorem dX6_parts_164 : decode cX6_parts 164 = .ok (.iadd, 1) := by decide +kernel
theorem dX6_parts_165 : decode cX6_parts 165 = .ok (.putfield 66, 3) := by decide +kernel
theorem dX6_parts_168 : decode cX6_parts 168 = .ok (.aload_n 0, 1) := by decide +kernel
theorem dX6_parts_169 : decode cX6_parts 169 = .ok (.dup, 1) := by decide +kernel
theorem dX6_parts_170 : decode cX6_parts 170 = .ok (.getfield 63, 3) := by decide +kernel
theorem dX6_parts_173 : decode cX6_parts 173 = .ok (.iconst 1, 1) := by decide +kernel
theorem dX6_parts_174 : decode cX6_parts 174 = .ok (.iadd, 1) := by decide +kernel
theorem dX6_parts_175 : decode cX6_parts 175 = .ok (.putfield 63, 3) := by decide +kernel
theorem dX6_parts_178 : decode cX6_parts 178 = .ok (.iinc 2 1, 3) := by decide +kernel
theorem dX6_parts_181 : decode cX6_parts 181 = .ok (.goto (-142), 3) := by decide +kernel
theorem dX6_parts_184 : decode cX6_parts 184 = .ok (.return_, 1) := by decide +kernel
set_option maxRecDepth 20000 in
theorem ggX6_partsOf_X6_parts : GoodIn wsX6_partsOf wsX6_parts := goodIn_r _ [6, 1, 7, 8, 9, 10, 11, 12, 13, 14, 5, 15, 16, 17, 18, 19, 20, 21, 22, 23, 24, 25, 26, 27, 28, 29, 30, 31, 32, 33, 34, 35, 36, 37, 38, 39, 40, 41, 42, 43, 44, 45, 46] (by decide +kernel) (by decide +kernel)
set_option maxRecDepth 20000 in
theorem gX6_partsOf_X6_parts : GoodIn wsX6_partsOf (wsV RX6 73 RX6 yX6_parts wsX6_parts) := goodIn_app (goodIn_of _ (by decide +kernel)) ggX6_partsOf_X6_parts
theorem dX6_partsOf_0 : decode cX6_partsOf 0 = .ok (.aload_n 0, 1) := by decide +kernel
theorem dX6_partsOf_1 : decode cX6_partsOf 1 = .ok (.aload_n 1, 1) := by decide +kernel
theorem dX6_partsOf_2 : decode cX6_partsOf 2 = .ok (.invokevirtual 73, 3) := by decide +kernel
theorem dX6_partsOf_5 : decode cX6_partsOf 5 = .ok (.aload_n 0, 1) := by decide +kernel
theorem dX6_partsOf_6 : decode cX6_partsOf 6 = .ok (.getfield 59, 3) := by decide +kernel
theorem dX6_partsOf_9 : decode cX6_partsOf 9 = .ok (.ireturn, 1) := by decide +kernel
set_option maxRecDepth 20000 in
theorem ggX6_darkOf_X6_bits : GoodIn wsX6_darkOf wsX6_bits := goodIn_r _ [4] (by decide +kernel) (by decide +kernel)
set_option maxRecDepth 20000 in
theorem gX6_darkOf_X6_bits : GoodIn wsX6_darkOf (va_wsS RX6 77 yX6_bits wsX6_bits) := goodIn_app (goodIn_of _ (by decide +kernel)) ggX6_darkOf_X6_bits
theorem dX6_darkOf_0 : decode cX6_darkOf 0 = .ok (.iconst 0, 1) := by decide +kernel
theorem dX6_darkOf_1 : decode cX6_darkOf 1 = .ok (.istore_n 2, 1) := by decide +kernel
theorem dX6_darkOf_2 : decode cX6_darkOf 2 = .ok (.iconst 0, 1) := by decide +kernel
theorem dX6_darkOf_3 : decode cX6_darkOf 3 = .ok (.istore_n 3, 1) := by decide +kernel
theorem dX6_darkOf_4 : decode cX6_darkOf 4 = .ok (.iload_n 3, 1) := by decide +kernel
theorem dX6_darkOf_5 : decode cX6_darkOf 5 = .ok (.bipush 16, 2) := by decide +kernel
theorem dX6_darkOf_7 : decode cX6_darkOf 7 = .ok (.if_icmp .ge 18, 3) := by decide +kernel
theorem dX6_darkOf_10 : decode cX6_darkOf 10 = .ok (.iload_n 2, 1) := by decide +kernel
theorem dX6_darkOf_11 : decode cX6_darkOf 11 = .ok (.aload_n 1, 1) := by decide +kernel
theorem dX6_darkOf_12 : decode cX6_darkOf 12 = .ok (.iload_n 3, 1) := by decide +kernel
theorem dX6_darkOf_13 : decode cX6_darkOf 13 = .ok (.iaload, 1) := by decide +kernel
theorem dX6_darkOf_14 : decode cX6_darkOf 14 = .ok (.invokestatic 77, 3) := by decide +kernel
theorem dX6_darkOf_17 : decode cX6_darkOf 17 = .ok (.iadd, 1) := by decide +kernel
theorem dX6_darkOf_18 : decode cX6_darkOf 18 = .ok (.istore_n 2, 1) := by decide +kernel
theorem dX6_darkOf_19 : decode cX6_darkOf 19 = .ok (.iinc 3 1, 3) := by decide +kernel
theorem dX6_darkOf_22 : decode cX6_darkOf 22 = .ok (.goto (-18), 3) := by decide +kernel
theorem dX6_darkOf_25 : decode cX6_darkOf 25 = .ok (.iload_n 2, 1) := by decide +kernel
theorem dX6_darkOf_26 : decode cX6_darkOf 26 = .ok (.ireturn, 1) := by decide +kernel
theorem dX6_lightOf_0 : decode cX6_lightOf 0 = .ok (.iconst 0, 1) := by decide +kernel
theorem dX6_lightOf_1 : decode cX6_lightOf 1 = .ok (.istore_n 2, 1) := by decide +kernel
theorem dX6_lightOf_2 : decode cX6_lightOf 2 = .ok (.aload_n 0, 1) := by decide +kernel
theorem dX6_lightOf_3 : decode cX6_lightOf 3 = .ok (.getfield 28, 3) := by decide +kernel
theorem dX6_lightOf_6 : decode cX6_lightOf 6 = .ok (.iload_n 2, 1) := by decide +kernel
theorem dX6_lightOf_7 : decode cX6_lightOf 7 = .ok (.iaload, 1) := by decide +kernel
theorem dX6_lightOf_8 : decode cX6_lightOf 8 = .ok (.iload_n 1, 1) := by decide +kernel
theorem dX6_lightOf_9 : decode cX6_lightOf 9 = .ok (.if_icmp .eq 9, 3) := by decide +kernel
theorem dX6_lightOf_12 : decode cX6_lightOf 12 = .ok (.iinc 2 1, 3) := by decide +kernel
theorem dX6_lightOf_15 : decode cX6_lightOf 15 = .ok (.goto (-13), 3) := by decide +kernel
theorem dX6_lightOf_18 : decode cX6_lightOf 18 = .ok (.iload_n 2, 1) := by decide +kernel
theorem dX6_lightOf_19 : decode cX6_lightOf 19 = .ok (.ireturn, 1) := by decide +kernel
set_option maxRecDepth 20000 in
theorem ggX6_isOf_X6_isDark : GoodIn wsX6_isOf wsX6_isDark := goodIn_r _ [6, 7, 8, 5, 9] (by decide +kernel) (by decide +kernel)
set_option maxRecDepth 20000 in
theorem gX6_isOf_X6_isDark : GoodIn wsX6_isOf (va_wsS RX6 52 yX6_isDark wsX6_isDark) := goodIn_app (goodIn_of _ (by decide +kernel)) ggX6_isOf_X6_isDark
theorem dX6_isOf_0 : decode cX6_isOf 0 = .ok (.aload_n 0, 1) := by decide +kernel
theorem dX6_isOf_1 : decode cX6_isOf 1 = .ok (.getfield 7, 3) := by decide +kernel
theorem dX6_isOf_4 : decode cX6_isOf 4 = .ok (.iload_n 1, 1) := by decide +kernel
theorem dX6_isOf_5 : decode cX6_isOf 5 = .ok (.invokestatic 52, 3) := by decide +kernel
theorem dX6_isOf_8 : decode cX6_isOf 8 = .ok (.iload_n 2, 1) := by decide +kernel
theorem dX6_isOf_9 : decode cX6_isOf 9 = .ok (.if_icmp .ne 17, 3) := by decide +kernel
theorem dX6_isOf_12 : decode cX6_isOf 12 = .ok (.aload_n 0, 1) := by decide +kernel
theorem dX6_isOf_13 : decode cX6_isOf 13 = .ok (.getfield 16, 3) := by decide +kernel
theorem dX6_isOf_16 : decode cX6_isOf 16 = .ok (.iload_n 1, 1) := by decide +kernel
theorem dX6_isOf_17 : decode cX6_isOf 17 = .ok (.iaload, 1) := by decide +kernel
theorem dX6_isOf_18 : decode cX6_isOf 18 = .ok (.iload_n 3, 1) := by decide +kernel
theorem dX6_isOf_19 : decode cX6_isOf 19 = .ok (.if_icmp .ne 7, 3) := by decide +kernel
theorem dX6_isOf_22 : decode cX6_isOf 22 = .ok (.iconst 1, 1) := by decide +kernel
theorem dX6_isOf_23 : decode cX6_isOf 23 = .ok (.goto 4, 3) := by decide +kernel
theorem dX6_isOf_26 : decode cX6_isOf 26 = .ok (.iconst 0, 1) := by decide +kernel
theorem dX6_isOf_27 : decode cX6_isOf 27 = .ok (.ireturn, 1) := by decide +kernel
set_option maxRecDepth 20000 in
theorem ggX6_sizeOf_X6_isOf : GoodIn wsX6_sizeOf wsX6_isOf := goodIn_r _ [5, 6, 7, 8, 9, 4, 10, 11, 12, 13, 14, 15, 16, 17, 18, 19, 20, 21, 22, 23, 24, 25, 26, 27, 28, 29, 30] (by decide +kernel) (by decide +kernel)
set_option maxRecDepth 20000 in
theorem gX6_sizeOf_X6_isOf : GoodIn wsX6_sizeOf (wsV RX6 81 RX6 yX6_isOf wsX6_isOf) := goodIn_app (goodIn_of _ (by decide +kernel)) ggX6_sizeOf_X6_isOf
theorem dX6_sizeOf_0 : decode cX6_sizeOf 0 = .ok (.iconst 0, 1) := by decide +kernel
theorem dX6_sizeOf_1 : decode cX6_sizeOf 1 = .ok (.istore_n 3, 1) := by decide +kernel
theorem dX6_sizeOf_2 : decode cX6_sizeOf 2 = .ok (.iconst 0, 1) := by decide +kernel
theorem dX6_sizeOf_3 : decode cX6_sizeOf 3 = .ok (.istore 4, 2) := by decide +kernel
theorem dX6_sizeOf_5 : decode cX6_sizeOf 5 = .ok (.iload 4, 2) := by decide +kernel
theorem dX6_sizeOf_7 : decode cX6_sizeOf 7 = .ok (.sipush 256, 3) := by decide +kernel
theorem dX6_sizeOf_10 : decode cX6_sizeOf 10 = .ok (.if_icmp .ge 28, 3) := by decide +kernel
theorem dX6_sizeOf_13 : decode cX6_sizeOf 13 = .ok (.iload_n 3, 1) := by decide +kernel
theorem dX6_sizeOf_14 : decode cX6_sizeOf 14 = .ok (.aload_n 0, 1) := by decide +kernel
theorem dX6_sizeOf_15 : decode cX6_sizeOf 15 = .ok (.iload 4, 2) := by decide +kernel
theorem dX6_sizeOf_17 : decode cX6_sizeOf 17 = .ok (.iload_n 1, 1) := by decide +kernel
theorem dX6_sizeOf_18 : decode cX6_sizeOf 18 = .ok (.iload_n 2, 1) := by decide +kernel
theorem dX6_sizeOf_19 : decode cX6_sizeOf 19 = .ok (.invokevirtual 81, 3) := by decide +kernel
theorem dX6_sizeOf_22 : decode cX6_sizeOf 22 = .ok (.ifCond .eq 7, 3) := by decide +kernel
theorem dX6_sizeOf_25 : decode cX6_sizeOf 25 = .ok (.iconst 1, 1) := by decide +kernel
theorem dX6_sizeOf_26 : decode cX6_sizeOf 26 = .ok (.goto 4, 3) := by decide +kernel
theorem dX6_sizeOf_29 : decode cX6_sizeOf 29 = .ok (.iconst 0, 1) := by decide +kernel
theorem dX6_sizeOf_30 : decode cX6_sizeOf 30 = .ok (.iadd, 1) := by decide +kernel
theorem dX6_sizeOf_31 : decode cX6_sizeOf 31 = .ok (.istore_n 3, 1) := by decide +kernel
theorem dX6_sizeOf_32 : decode cX6_sizeOf 32 = .ok (.iinc 4 1, 3) := by decide +kernel
theorem dX6_sizeOf_35 : decode cX6_sizeOf 35 = .ok (.goto (-30), 3) := by decide +kernel
theorem dX6_sizeOf_38 : decode cX6_sizeOf 38 = .ok (.iload_n 3, 1) := by decide +kernel
theorem dX6_sizeOf_39 : decode cX6_sizeOf 39 = .ok (.ireturn, 1) := by decide +kernel
theorem dX6_liesIn_0 : decode cX6_liesIn 0 = .ok (.aload_n 0, 1) := by decide +kernel
theorem dX6_liesIn_1 : decode cX6_liesIn 1 = .ok (.getfield 22, 3) := by decide +kernel
theorem dX6_liesIn_4 : decode cX6_liesIn 4 = .ok (.iload_n 1, 1) := by decide +kernel
theorem dX6_liesIn_5 : decode cX6_liesIn 5 = .ok (.iaload, 1) := by decide +kernel
theorem dX6_liesIn_6 : decode cX6_liesIn 6 = .ok (.bipush 16, 2) := by decide +kernel
theorem dX6_liesIn_8 : decode cX6_liesIn 8 = .ok (.isub, 1) := by decide +kernel
theorem dX6_liesIn_9 : decode cX6_liesIn 9 = .ok (.istore_n 2, 1) := by decide +kernel
theorem dX6_liesIn_10 : decode cX6_liesIn 10 = .ok (.iload_n 2, 1) := by decide +kernel
theorem dX6_liesIn_11 : decode cX6_liesIn 11 = .ok (.ifCond .ge 7, 3) := by decide +kernel
theorem dX6_liesIn_14 : decode cX6_liesIn 14 = .ok (.iconst (-1), 1) := by decide +kernel
theorem dX6_liesIn_15 : decode cX6_liesIn 15 = .ok (.goto 14, 3) := by decide +kernel
theorem dX6_liesIn_18 : decode cX6_liesIn 18 = .ok (.aload_n 0, 1) := by decide +kernel
theorem dX6_liesIn_19 : decode cX6_liesIn 19 = .ok (.getfield 28, 3) := by decide +kernel
theorem dX6_liesIn_22 : decode cX6_liesIn 22 = .ok (.aload_n 0, 1) := by decide +kernel
theorem dX6_liesIn_23 : decode cX6_liesIn 23 = .ok (.getfield 16, 3) := by decide +kernel
theorem dX6_liesIn_26 : decode cX6_liesIn 26 = .ok (.iload_n 2, 1) := by decide +kernel
theorem dX6_liesIn_27 : decode cX6_liesIn 27 = .ok (.iaload, 1) := by decide +kernel
theorem dX6_liesIn_28 : decode cX6_liesIn 28 = .ok (.iaload, 1) := by decide +kernel
theorem dX6_liesIn_29 : decode cX6_liesIn 29 = .ok (.ireturn, 1) := by decide +kernel
set_option maxRecDepth 20000 in
theorem ggX6_partOf_X6_lightOf : GoodIn wsX6_partOf wsX6_lightOf := goodIn_r _ [7, 8, 9, 10, 11, 12, 13, 14, 15, 16, 17, 18, 19, 20, 21, 22, 23, 24, 25] (by decide +kernel) (by decide +kernel)
set_option maxRecDepth 20000 in
theorem gX6_partOf_X6_lightOf : GoodIn wsX6_partOf (wsV RX6 85 RX6 yX6_lightOf wsX6_lightOf) := goodIn_app (goodIn_of _ (by decide +kernel)) ggX6_partOf_X6_lightOf
theorem dX6_partOf_0 : decode cX6_partOf 0 = .ok (.aload_n 0, 1) := by decide +kernel
theorem dX6_partOf_1 : decode cX6_partOf 1 = .ok (.getfield 16, 3) := by decide +kernel
theorem dX6_partOf_4 : decode cX6_partOf 4 = .ok (.aload_n 0, 1) := by decide +kernel
theorem dX6_partOf_5 : decode cX6_partOf 5 = .ok (.getfield 25, 3) := by decide +kernel
theorem dX6_partOf_8 : decode cX6_partOf 8 = .ok (.aload_n 0, 1) := by decide +kernel
theorem dX6_partOf_9 : decode cX6_partOf 9 = .ok (.iload_n 1, 1) := by decide +kernel
theorem dX6_partOf_10 : decode cX6_partOf 10 = .ok (.invokevirtual 85, 3) := by decide +kernel
theorem dX6_partOf_13 : decode cX6_partOf 13 = .ok (.iaload, 1) := by decide +kernel
theorem dX6_partOf_14 : decode cX6_partOf 14 = .ok (.bipush 16, 2) := by decide +kernel
theorem dX6_partOf_16 : decode cX6_partOf 16 = .ok (.isub, 1) := by decide +kernel
theorem dX6_partOf_17 : decode cX6_partOf 17 = .ok (.iaload, 1) := by decide +kernel
theorem dX6_partOf_18 : decode cX6_partOf 18 = .ok (.ireturn, 1) := by decide +kernel
set_option maxRecDepth 20000 in
theorem ggX6_deep_X6_liesIn : GoodIn wsX6_deep wsX6_liesIn := goodIn_r _ [5, 6, 7, 8, 18, 19, 20, 21, 22, 23, 24, 25, 26, 27, 28, 29, 30, 31, 32, 33, 34] (by decide +kernel) (by decide +kernel)
set_option maxRecDepth 20000 in
theorem gX6_deep_X6_liesIn : GoodIn wsX6_deep (wsV RX6 88 RX6 yX6_liesIn wsX6_liesIn) := goodIn_app (goodIn_of _ (by decide +kernel)) ggX6_deep_X6_liesIn
set_option maxRecDepth 20000 in
theorem ggX6_deep_X6_partOf : GoodIn wsX6_deep wsX6_partOf := goodIn_r _ [12, 8, 13, 14, 15, 16, 4, 17, 7, 18, 19, 20, 21, 22, 23, 24, 25, 26, 27, 28, 29, 30, 31, 32, 33, 34] (by decide +kernel) (by decide +kernel)
set_option maxRecDepth 20000 in
theorem gX6_deep_X6_partOf : GoodIn wsX6_deep (wsV RX6 91 RX6 yX6_partOf wsX6_partOf) := goodIn_app (goodIn_of _ (by decide +kernel)) ggX6_deep_X6_partOf
theorem dX6_deep_0 : decode cX6_deep 0 = .ok (.iconst 0, 1) := by decide +kernel
theorem dX6_deep_1 : decode cX6_deep 1 = .ok (.istore_n 2, 1) := by decide +kernel
theorem dX6_deep_2 : decode cX6_deep 2 = .ok (.iload_n 1, 1) := by decide +kernel
theorem dX6_deep_3 : decode cX6_deep 3 = .ok (.istore_n 3, 1) := by decide +kernel
theorem dX6_deep_4 : decode cX6_deep 4 = .ok (.aload_n 0, 1) := by decide +kernel
theorem dX6_deep_5 : decode cX6_deep 5 = .ok (.iload_n 3, 1) := by decide +kernel
theorem dX6_deep_6 : decode cX6_deep 6 = .ok (.invokevirtual 88, 3) := by decide +kernel
theorem dX6_deep_9 : decode cX6_deep 9 = .ok (.iconst (-1), 1) := by decide +kernel
theorem dX6_deep_10 : decode cX6_deep 10 = .ok (.if_icmp .eq 19, 3) := by decide +kernel
theorem dX6_deep_13 : decode cX6_deep 13 = .ok (.aload_n 0, 1) := by decide +kernel
theorem dX6_deep_14 : decode cX6_deep 14 = .ok (.aload_n 0, 1) := by decide +kernel
theorem dX6_deep_15 : decode cX6_deep 15 = .ok (.iload_n 3, 1) := by decide +kernel
theorem dX6_deep_16 : decode cX6_deep 16 = .ok (.invokevirtual 88, 3) := by decide +kernel
theorem dX6_deep_19 : decode cX6_deep 19 = .ok (.invokevirtual 91, 3) := by decide +kernel
theorem dX6_deep_22 : decode cX6_deep 22 = .ok (.istore_n 3, 1) := by decide +kernel
theorem dX6_deep_23 : decode cX6_deep 23 = .ok (.iinc 2 1, 3) := by decide +kernel
theorem dX6_deep_26 : decode cX6_deep 26 = .ok (.goto (-22), 3) := by decide +kernel
theorem dX6_deep_29 : decode cX6_deep 29 = .ok (.iload_n 2, 1) := by decide +kernel
theorem dX6_deep_30 : decode cX6_deep 30 = .ok (.ireturn, 1) := by decide +kernel
set_option maxRecDepth 20000 in
theorem ggX6_isRim_X6_isOn : GoodIn wsX6_isRim wsX6_isOn := goodIn_r _ [4, 5, 6, 3, 7] (by decide +kernel) (by decide +kernel)
set_option maxRecDepth 20000 in
theorem gX6_isRim_X6_isOn : GoodIn wsX6_isRim (va_wsS RX6 56 yX6_isOn wsX6_isOn) := goodIn_app (goodIn_of _ (by decide +kernel)) ggX6_isRim_X6_isOn
set_option maxRecDepth 20000 in
theorem ggX6_isRim_X6_has : GoodIn wsX6_isRim wsX6_has := goodIn_r _ [10] (by decide +kernel) (by decide +kernel)
set_option maxRecDepth 20000 in
theorem gX6_isRim_X6_has : GoodIn wsX6_isRim (va_wsS RX6 44 yX6_has wsX6_has) := goodIn_app (goodIn_of _ (by decide +kernel)) ggX6_isRim_X6_has
theorem dX6_isRim_0 : decode cX6_isRim 0 = .ok (.iload_n 1, 1) := by decide +kernel
theorem dX6_isRim_1 : decode cX6_isRim 1 = .ok (.iload_n 2, 1) := by decide +kernel
theorem dX6_isRim_2 : decode cX6_isRim 2 = .ok (.invokestatic 56, 3) := by decide +kernel
theorem dX6_isRim_5 : decode cX6_isRim 5 = .ok (.ifCond .eq 13, 3) := by decide +kernel
theorem dX6_isRim_8 : decode cX6_isRim 8 = .ok (.aload_n 0, 1) := by decide +kernel
theorem dX6_isRim_9 : decode cX6_isRim 9 = .ok (.iload_n 1, 1) := by decide +kernel
theorem dX6_isRim_10 : decode cX6_isRim 10 = .ok (.iaload, 1) := by decide +kernel
theorem dX6_isRim_11 : decode cX6_isRim 11 = .ok (.iload_n 2, 1) := by decide +kernel
theorem dX6_isRim_12 : decode cX6_isRim 12 = .ok (.invokestatic 44, 3) := by decide +kernel
theorem dX6_isRim_15 : decode cX6_isRim 15 = .ok (.ifCond .ne 7, 3) := by decide +kernel
theorem dX6_isRim_18 : decode cX6_isRim 18 = .ok (.iconst 1, 1) := by decide +kernel
theorem dX6_isRim_19 : decode cX6_isRim 19 = .ok (.goto 4, 3) := by decide +kernel
theorem dX6_isRim_22 : decode cX6_isRim 22 = .ok (.iconst 0, 1) := by decide +kernel
theorem dX6_isRim_23 : decode cX6_isRim 23 = .ok (.ireturn, 1) := by decide +kernel
set_option maxRecDepth 20000 in
theorem ggX6_sidesOf_X6_isRim : GoodIn wsX6_sidesOf wsX6_isRim := goodIn_r _ [5, 6, 7, 4, 8, 9, 10, 11, 12, 13, 14] (by decide +kernel) (by decide +kernel)
set_option maxRecDepth 20000 in
theorem gX6_sidesOf_X6_isRim : GoodIn wsX6_sidesOf (va_wsS RX6 94 yX6_isRim wsX6_isRim) := goodIn_app (goodIn_of _ (by decide +kernel)) ggX6_sidesOf_X6_isRim
theorem dX6_sidesOf_0 : decode cX6_sidesOf 0 = .ok (.iload_n 1, 1) := by decide +kernel
theorem dX6_sidesOf_1 : decode cX6_sidesOf 1 = .ok (.bipush 16, 2) := by decide +kernel
theorem dX6_sidesOf_3 : decode cX6_sidesOf 3 = .ok (.idiv, 1) := by decide +kernel
theorem dX6_sidesOf_4 : decode cX6_sidesOf 4 = .ok (.istore_n 2, 1) := by decide +kernel
theorem dX6_sidesOf_5 : decode cX6_sidesOf 5 = .ok (.iload_n 1, 1) := by decide +kernel
theorem dX6_sidesOf_6 : decode cX6_sidesOf 6 = .ok (.bipush 16, 2) := by decide +kernel
theorem dX6_sidesOf_8 : decode cX6_sidesOf 8 = .ok (.irem, 1) := by decide +kernel
theorem dX6_sidesOf_9 : decode cX6_sidesOf 9 = .ok (.istore_n 3, 1) := by decide +kernel
theorem dX6_sidesOf_10 : decode cX6_sidesOf 10 = .ok (.aload_n 0, 1) := by decide +kernel
theorem dX6_sidesOf_11 : decode cX6_sidesOf 11 = .ok (.getfield 7, 3) := by decide +kernel
theorem dX6_sidesOf_14 : decode cX6_sidesOf 14 = .ok (.iload_n 2, 1) := by decide +kernel
theorem dX6_sidesOf_15 : decode cX6_sidesOf 15 = .ok (.iconst 1, 1) := by decide +kernel
theorem dX6_sidesOf_16 : decode cX6_sidesOf 16 = .ok (.isub, 1) := by decide +kernel
theorem dX6_sidesOf_17 : decode cX6_sidesOf 17 = .ok (.iload_n 3, 1) := by decide +kernel
theorem dX6_sidesOf_18 : decode cX6_sidesOf 18 = .ok (.invokestatic 94, 3) := by decide +kernel
theorem dX6_sidesOf_21 : decode cX6_sidesOf 21 = .ok (.ifCond .eq 7, 3) := by decide +kernel
theorem dX6_sidesOf_24 : decode cX6_sidesOf 24 = .ok (.iconst 1, 1) := by decide +kernel
theorem dX6_sidesOf_25 : decode cX6_sidesOf 25 = .ok (.goto 4, 3) := by decide +kernel
theorem dX6_sidesOf_28 : decode cX6_sidesOf 28 = .ok (.iconst 0, 1) := by decide +kernel
theorem dX6_sidesOf_29 : decode cX6_sidesOf 29 = .ok (.aload_n 0, 1) := by decide +kernel
theorem dX6_sidesOf_30 : decode cX6_sidesOf 30 = .ok (.getfield 7, 3) := by decide +kernel
theorem dX6_sidesOf_33 : decode cX6_sidesOf 33 = .ok (.iload_n 2, 1) := by decide +kernel
theorem dX6_sidesOf_34 : decode cX6_sidesOf 34 = .ok (.iconst 1, 1) := by decide +kernel
theorem dX6_sidesOf_35 : decode cX6_sidesOf 35 = .ok (.iadd, 1) := by decide +kernel
theorem dX6_sidesOf_36 : decode cX6_sidesOf 36 = .ok (.iload_n 3, 1) := by decide +kernel
theorem dX6_sidesOf_37 : decode cX6_sidesOf 37 = .ok (.invokestatic 94, 3) := by decide +kernel
theorem dX6_sidesOf_40 : decode cX6_sidesOf 40 = .ok (.ifCond .eq 7, 3) := by decide +kernel
theorem dX6_sidesOf_43 : decode cX6_sidesOf 43 = .ok (.iconst 1, 1) := by decide +kernel
theorem dX6_sidesOf_44 : decode cX6_sidesOf 44 = .ok (.goto 4, 3) := by decide +kernel
theorem dX6_sidesOf_47 : decode cX6_sidesOf 47 = .ok (.iconst 0, 1) := by decide +kernel
theorem dX6_sidesOf_48 : decode cX6_sidesOf 48 = .ok (.iadd, 1) := by decide +kernel
theorem dX6_sidesOf_49 : decode cX6_sidesOf 49 = .ok (.aload_n 0, 1) := by decide +kernel
theorem dX6_sidesOf_50 : decode cX6_sidesOf 50 = .ok (.getfield 7, 3) := by decide +kernel
theorem dX6_sidesOf_53 : decode cX6_sidesOf 53 = .ok (.iload_n 2, 1) := by decide +kernel
theorem dX6_sidesOf_54 : decode cX6_sidesOf 54 = .ok (.iload_n 3, 1) := by decide +kernel
theorem dX6_sidesOf_55 : decode cX6_sidesOf 55 = .ok (.iconst 1, 1) := by decide +kernel
theorem dX6_sidesOf_56 : decode cX6_sidesOf 56 = .ok (.isub, 1) := by decide +kernel
theorem dX6_sidesOf_57 : decode cX6_sidesOf 57 = .ok (.invokestatic 94, 3) := by decide +kernel
theorem dX6_sidesOf_60 : decode cX6_sidesOf 60 = .ok (.ifCond .eq 7, 3) := by decide +kernel
theorem dX6_sidesOf_63 : decode cX6_sidesOf 63 = .ok (.iconst 1, 1) := by decide +kernel
theorem dX6_sidesOf_64 : decode cX6_sidesOf 64 = .ok (.goto 4, 3) := by decide +kernel
theorem dX6_sidesOf_67 : decode cX6_sidesOf 67 = .ok (.iconst 0, 1) := by decide +kernel
theorem dX6_sidesOf_68 : decode cX6_sidesOf 68 = .ok (.iadd, 1) := by decide +kernel
theorem dX6_sidesOf_69 : decode cX6_sidesOf 69 = .ok (.aload_n 0, 1) := by decide +kernel
theorem dX6_sidesOf_70 : decode cX6_sidesOf 70 = .ok (.getfield 7, 3) := by decide +kernel
theorem dX6_sidesOf_73 : decode cX6_sidesOf 73 = .ok (.iload_n 2, 1) := by decide +kernel
theorem dX6_sidesOf_74 : decode cX6_sidesOf 74 = .ok (.iload_n 3, 1) := by decide +kernel
theorem dX6_sidesOf_75 : decode cX6_sidesOf 75 = .ok (.iconst 1, 1) := by decide +kernel
theorem dX6_sidesOf_76 : decode cX6_sidesOf 76 = .ok (.iadd, 1) := by decide +kernel
theorem dX6_sidesOf_77 : decode cX6_sidesOf 77 = .ok (.invokestatic 94, 3) := by decide +kernel
theorem dX6_sidesOf_80 : decode cX6_sidesOf 80 = .ok (.ifCond .eq 7, 3) := by decide +kernel
theorem dX6_sidesOf_83 : decode cX6_sidesOf 83 = .ok (.iconst 1, 1) := by decide +kernel
theorem dX6_sidesOf_84 : decode cX6_sidesOf 84 = .ok (.goto 4, 3) := by decide +kernel
theorem dX6_sidesOf_87 : decode cX6_sidesOf 87 = .ok (.iconst 0, 1) := by decide +kernel
theorem dX6_sidesOf_88 : decode cX6_sidesOf 88 = .ok (.iadd, 1) := by decide +kernel
theorem dX6_sidesOf_89 : decode cX6_sidesOf 89 = .ok (.ireturn, 1) := by decide +kernel
set_option maxRecDepth 20000 in
theorem ggX6_rimOf_X6_isOf : GoodIn wsX6_rimOf wsX6_isOf := goodIn_r _ [5, 6, 7, 8, 9, 4, 10, 11, 12, 13, 27, 28, 29, 30, 31, 32, 33, 34, 35, 36, 37, 38, 39, 40, 41, 42, 43] (by decide +kernel) (by decide +kernel)
set_option maxRecDepth 20000 in
theorem gX6_rimOf_X6_isOf : GoodIn wsX6_rimOf (wsV RX6 81 RX6 yX6_isOf wsX6_isOf) := goodIn_app (goodIn_of _ (by decide +kernel)) ggX6_rimOf_X6_isOf
set_option maxRecDepth 20000 in
theorem ggX6_rimOf_X6_sidesOf : GoodIn wsX6_rimOf wsX6_sidesOf := goodIn_r _ [17, 6, 18, 19, 4, 20, 21, 22, 23, 24, 25, 26, 11, 12, 13, 27, 28, 29, 30, 31, 32, 33, 34, 35, 36, 37, 38, 39, 40, 41, 42, 43] (by decide +kernel) (by decide +kernel)
set_option maxRecDepth 20000 in
theorem gX6_rimOf_X6_sidesOf : GoodIn wsX6_rimOf (wsV RX6 97 RX6 yX6_sidesOf wsX6_sidesOf) := goodIn_app (goodIn_of _ (by decide +kernel)) ggX6_rimOf_X6_sidesOf
theorem dX6_rimOf_0 : decode cX6_rimOf 0 = .ok (.iconst 0, 1) := by decide +kernel
theorem dX6_rimOf_1 : decode cX6_rimOf 1 = .ok (.istore_n 2, 1) := by decide +kernel
theorem dX6_rimOf_2 : decode cX6_rimOf 2 = .ok (.iconst 0, 1) := by decide +kernel
theorem dX6_rimOf_3 : decode cX6_rimOf 3 = .ok (.istore_n 3, 1) := by decide +kernel
theorem dX6_rimOf_4 : decode cX6_rimOf 4 = .ok (.iload_n 3, 1) := by decide +kernel
theorem dX6_rimOf_5 : decode cX6_rimOf 5 = .ok (.sipush 256, 3) := by decide +kernel
theorem dX6_rimOf_8 : decode cX6_rimOf 8 = .ok (.if_icmp .ge 31, 3) := by decide +kernel
theorem dX6_rimOf_11 : decode cX6_rimOf 11 = .ok (.iload_n 2, 1) := by decide +kernel
theorem dX6_rimOf_12 : decode cX6_rimOf 12 = .ok (.aload_n 0, 1) := by decide +kernel
theorem dX6_rimOf_13 : decode cX6_rimOf 13 = .ok (.iload_n 3, 1) := by decide +kernel
theorem dX6_rimOf_14 : decode cX6_rimOf 14 = .ok (.iconst 1, 1) := by decide +kernel
theorem dX6_rimOf_15 : decode cX6_rimOf 15 = .ok (.iload_n 1, 1) := by decide +kernel
theorem dX6_rimOf_16 : decode cX6_rimOf 16 = .ok (.invokevirtual 81, 3) := by decide +kernel
theorem dX6_rimOf_19 : decode cX6_rimOf 19 = .ok (.ifCond .eq 11, 3) := by decide +kernel
theorem dX6_rimOf_22 : decode cX6_rimOf 22 = .ok (.aload_n 0, 1) := by decide +kernel
theorem dX6_rimOf_23 : decode cX6_rimOf 23 = .ok (.iload_n 3, 1) := by decide +kernel
theorem dX6_rimOf_24 : decode cX6_rimOf 24 = .ok (.invokevirtual 97, 3) := by decide +kernel
theorem dX6_rimOf_27 : decode cX6_rimOf 27 = .ok (.goto 4, 3) := by decide +kernel
theorem dX6_rimOf_30 : decode cX6_rimOf 30 = .ok (.iconst 0, 1) := by decide +kernel
theorem dX6_rimOf_31 : decode cX6_rimOf 31 = .ok (.iadd, 1) := by decide +kernel
theorem dX6_rimOf_32 : decode cX6_rimOf 32 = .ok (.istore_n 2, 1) := by decide +kernel
theorem dX6_rimOf_33 : decode cX6_rimOf 33 = .ok (.iinc 3 1, 3) := by decide +kernel
theorem dX6_rimOf_36 : decode cX6_rimOf 36 = .ok (.goto (-32), 3) := by decide +kernel
theorem dX6_rimOf_39 : decode cX6_rimOf 39 = .ok (.iload_n 2, 1) := by decide +kernel
theorem dX6_rimOf_40 : decode cX6_rimOf 40 = .ok (.ireturn, 1) := by decide +kernel
set_option maxRecDepth 20000 in
theorem ggX6_edge_X6_isOf : GoodIn wsX6_edge wsX6_isOf := goodIn_r _ [5, 6, 7, 8, 9, 4, 10, 11, 12, 13, 14, 15, 16, 17, 18, 19, 20, 21, 22, 23, 24, 25, 26, 27, 28, 29, 30] (by decide +kernel) (by decide +kernel)
set_option maxRecDepth 20000 in
theorem gX6_edge_X6_isOf : GoodIn wsX6_edge (wsV RX6 81 RX6 yX6_isOf wsX6_isOf) := goodIn_app (goodIn_of _ (by decide +kernel)) ggX6_edge_X6_isOf
theorem dX6_edge_0 : decode cX6_edge 0 = .ok (.iload_n 3, 1) := by decide +kernel
theorem dX6_edge_1 : decode cX6_edge 1 = .ok (.ifCond .eq 7, 3) := by decide +kernel
theorem dX6_edge_4 : decode cX6_edge 4 = .ok (.iconst (-1), 1) := by decide +kernel
theorem dX6_edge_5 : decode cX6_edge 5 = .ok (.goto 5, 3) := by decide +kernel
theorem dX6_edge_8 : decode cX6_edge 8 = .ok (.bipush 16, 2) := by decide +kernel
theorem dX6_edge_10 : decode cX6_edge 10 = .ok (.istore 4, 2) := by decide +kernel
theorem dX6_edge_12 : decode cX6_edge 12 = .ok (.iconst 0, 1) := by decide +kernel
theorem dX6_edge_13 : decode cX6_edge 13 = .ok (.istore 5, 2) := by decide +kernel
theorem dX6_edge_15 : decode cX6_edge 15 = .ok (.iload 5, 2) := by decide +kernel
theorem dX6_edge_17 : decode cX6_edge 17 = .ok (.sipush 256, 3) := by decide +kernel
theorem dX6_edge_20 : decode cX6_edge 20 = .ok (.if_icmp .ge 81, 3) := by decide +kernel
theorem dX6_edge_23 : decode cX6_edge 23 = .ok (.iload_n 2, 1) := by decide +kernel
theorem dX6_edge_24 : decode cX6_edge 24 = .ok (.ifCond .eq 11, 3) := by decide +kernel
theorem dX6_edge_27 : decode cX6_edge 27 = .ok (.iload 5, 2) := by decide +kernel
theorem dX6_edge_29 : decode cX6_edge 29 = .ok (.bipush 16, 2) := by decide +kernel
theorem dX6_edge_31 : decode cX6_edge 31 = .ok (.irem, 1) := by decide +kernel
theorem dX6_edge_32 : decode cX6_edge 32 = .ok (.goto 8, 3) := by decide +kernel
theorem dX6_edge_35 : decode cX6_edge 35 = .ok (.iload 5, 2) := by decide +kernel
theorem dX6_edge_37 : decode cX6_edge 37 = .ok (.bipush 16, 2) := by decide +kernel
theorem dX6_edge_39 : decode cX6_edge 39 = .ok (.idiv, 1) := by decide +kernel
theorem dX6_edge_40 : decode cX6_edge 40 = .ok (.istore 6, 2) := by decide +kernel
theorem dX6_edge_42 : decode cX6_edge 42 = .ok (.aload_n 0, 1) := by decide +kernel
theorem dX6_edge_43 : decode cX6_edge 43 = .ok (.iload 5, 2) := by decide +kernel
theorem dX6_edge_45 : decode cX6_edge 45 = .ok (.iconst 1, 1) := by decide +kernel
theorem dX6_edge_46 : decode cX6_edge 46 = .ok (.iload_n 1, 1) := by decide +kernel
theorem dX6_edge_47 : decode cX6_edge 47 = .ok (.invokevirtual 81, 3) := by decide +kernel
theorem dX6_edge_50 : decode cX6_edge 50 = .ok (.ifCond .eq 28, 3) := by decide +kernel
theorem dX6_edge_53 : decode cX6_edge 53 = .ok (.iload_n 3, 1) := by decide +kernel
theorem dX6_edge_54 : decode cX6_edge 54 = .ok (.ifCond .eq 13, 3) := by decide +kernel
theorem dX6_edge_57 : decode cX6_edge 57 = .ok (.iload 6, 2) := by decide +kernel
theorem dX6_edge_59 : decode cX6_edge 59 = .ok (.iload 4, 2) := by decide +kernel
theorem dX6_edge_61 : decode cX6_edge 61 = .ok (.if_icmp .le 17, 3) := by decide +kernel
theorem dX6_edge_64 : decode cX6_edge 64 = .ok (.goto 10, 3) := by decide +kernel
theorem dX6_edge_67 : decode cX6_edge 67 = .ok (.iload 6, 2) := by decide +kernel
theorem dX6_edge_69 : decode cX6_edge 69 = .ok (.iload 4, 2) := by decide +kernel
theorem dX6_edge_71 : decode cX6_edge 71 = .ok (.if_icmp .ge 7, 3) := by decide +kernel
theorem dX6_edge_74 : decode cX6_edge 74 = .ok (.iconst 1, 1) := by decide +kernel
theorem dX6_edge_75 : decode cX6_edge 75 = .ok (.goto 4, 3) := by decide +kernel
theorem dX6_edge_78 : decode cX6_edge 78 = .ok (.iconst 0, 1) := by decide +kernel
theorem dX6_edge_79 : decode cX6_edge 79 = .ok (.istore 7, 2) := by decide +kernel
theorem dX6_edge_81 : decode cX6_edge 81 = .ok (.iload 7, 2) := by decide +kernel
theorem dX6_edge_83 : decode cX6_edge 83 = .ok (.ifCond .eq 8, 3) := by decide +kernel
theorem dX6_edge_86 : decode cX6_edge 86 = .ok (.iload 6, 2) := by decide +kernel
theorem dX6_edge_88 : decode cX6_edge 88 = .ok (.goto 5, 3) := by decide +kernel
theorem dX6_edge_91 : decode cX6_edge 91 = .ok (.iload 4, 2) := by decide +kernel
theorem dX6_edge_93 : decode cX6_edge 93 = .ok (.istore 4, 2) := by decide +kernel
theorem dX6_edge_95 : decode cX6_edge 95 = .ok (.iinc 5 1, 3) := by decide +kernel
theorem dX6_edge_98 : decode cX6_edge 98 = .ok (.goto (-83), 3) := by decide +kernel
theorem dX6_edge_101 : decode cX6_edge 101 = .ok (.iload 4, 2) := by decide +kernel
theorem dX6_edge_103 : decode cX6_edge 103 = .ok (.ireturn, 1) := by decide +kernel
set_option maxRecDepth 20000 in
theorem ggX6_holesOf_X6_partOf : GoodIn wsX6_holesOf wsX6_partOf := goodIn_r _ [6, 7, 8, 9, 10, 11, 5, 12, 13, 14, 15, 16, 17, 18, 19, 20, 21, 22, 23, 24, 25, 26, 27, 28, 29, 30] (by decide +kernel) (by decide +kernel)
set_option maxRecDepth 20000 in
theorem gX6_holesOf_X6_partOf : GoodIn wsX6_holesOf (wsV RX6 91 RX6 yX6_partOf wsX6_partOf) := goodIn_app (goodIn_of _ (by decide +kernel)) ggX6_holesOf_X6_partOf
theorem dX6_holesOf_0 : decode cX6_holesOf 0 = .ok (.iconst 0, 1) := by decide +kernel
theorem dX6_holesOf_1 : decode cX6_holesOf 1 = .ok (.istore_n 2, 1) := by decide +kernel
theorem dX6_holesOf_2 : decode cX6_holesOf 2 = .ok (.iconst 0, 1) := by decide +kernel
theorem dX6_holesOf_3 : decode cX6_holesOf 3 = .ok (.istore_n 3, 1) := by decide +kernel
theorem dX6_holesOf_4 : decode cX6_holesOf 4 = .ok (.iload_n 3, 1) := by decide +kernel
theorem dX6_holesOf_5 : decode cX6_holesOf 5 = .ok (.aload_n 0, 1) := by decide +kernel
theorem dX6_holesOf_6 : decode cX6_holesOf 6 = .ok (.getfield 66, 3) := by decide +kernel
theorem dX6_holesOf_9 : decode cX6_holesOf 9 = .ok (.if_icmp .ge 26, 3) := by decide +kernel
theorem dX6_holesOf_12 : decode cX6_holesOf 12 = .ok (.iload_n 2, 1) := by decide +kernel
theorem dX6_holesOf_13 : decode cX6_holesOf 13 = .ok (.aload_n 0, 1) := by decide +kernel
theorem dX6_holesOf_14 : decode cX6_holesOf 14 = .ok (.iload_n 3, 1) := by decide +kernel
theorem dX6_holesOf_15 : decode cX6_holesOf 15 = .ok (.invokevirtual 91, 3) := by decide +kernel
theorem dX6_holesOf_18 : decode cX6_holesOf 18 = .ok (.iload_n 1, 1) := by decide +kernel
theorem dX6_holesOf_19 : decode cX6_holesOf 19 = .ok (.if_icmp .ne 7, 3) := by decide +kernel
theorem dX6_holesOf_22 : decode cX6_holesOf 22 = .ok (.iconst 1, 1) := by decide +kernel
theorem dX6_holesOf_23 : decode cX6_holesOf 23 = .ok (.goto 4, 3) := by decide +kernel
theorem dX6_holesOf_26 : decode cX6_holesOf 26 = .ok (.iconst 0, 1) := by decide +kernel
theorem dX6_holesOf_27 : decode cX6_holesOf 27 = .ok (.iadd, 1) := by decide +kernel
theorem dX6_holesOf_28 : decode cX6_holesOf 28 = .ok (.istore_n 2, 1) := by decide +kernel
theorem dX6_holesOf_29 : decode cX6_holesOf 29 = .ok (.iinc 3 1, 3) := by decide +kernel
theorem dX6_holesOf_32 : decode cX6_holesOf 32 = .ok (.goto (-28), 3) := by decide +kernel
theorem dX6_holesOf_35 : decode cX6_holesOf 35 = .ok (.iload_n 2, 1) := by decide +kernel
theorem dX6_holesOf_36 : decode cX6_holesOf 36 = .ok (.ireturn, 1) := by decide +kernel
set_option maxRecDepth 20000 in
theorem ggX6_partsIn_X6_liesIn : GoodIn wsX6_partsIn wsX6_liesIn := goodIn_r _ [6, 7, 8, 9, 10, 11, 12, 13, 14, 15, 16, 17, 18, 19, 20, 21, 22, 23, 24, 25, 26] (by decide +kernel) (by decide +kernel)
set_option maxRecDepth 20000 in
theorem gX6_partsIn_X6_liesIn : GoodIn wsX6_partsIn (wsV RX6 88 RX6 yX6_liesIn wsX6_liesIn) := goodIn_app (goodIn_of _ (by decide +kernel)) ggX6_partsIn_X6_liesIn
theorem dX6_partsIn_0 : decode cX6_partsIn 0 = .ok (.iconst 0, 1) := by decide +kernel
theorem dX6_partsIn_1 : decode cX6_partsIn 1 = .ok (.istore_n 2, 1) := by decide +kernel
theorem dX6_partsIn_2 : decode cX6_partsIn 2 = .ok (.iconst 0, 1) := by decide +kernel
theorem dX6_partsIn_3 : decode cX6_partsIn 3 = .ok (.istore_n 3, 1) := by decide +kernel
theorem dX6_partsIn_4 : decode cX6_partsIn 4 = .ok (.iload_n 3, 1) := by decide +kernel
theorem dX6_partsIn_5 : decode cX6_partsIn 5 = .ok (.aload_n 0, 1) := by decide +kernel
theorem dX6_partsIn_6 : decode cX6_partsIn 6 = .ok (.getfield 59, 3) := by decide +kernel
theorem dX6_partsIn_9 : decode cX6_partsIn 9 = .ok (.if_icmp .ge 26, 3) := by decide +kernel
theorem dX6_partsIn_12 : decode cX6_partsIn 12 = .ok (.iload_n 2, 1) := by decide +kernel
theorem dX6_partsIn_13 : decode cX6_partsIn 13 = .ok (.aload_n 0, 1) := by decide +kernel
theorem dX6_partsIn_14 : decode cX6_partsIn 14 = .ok (.iload_n 3, 1) := by decide +kernel
theorem dX6_partsIn_15 : decode cX6_partsIn 15 = .ok (.invokevirtual 88, 3) := by decide +kernel
theorem dX6_partsIn_18 : decode cX6_partsIn 18 = .ok (.iload_n 1, 1) := by decide +kernel
theorem dX6_partsIn_19 : decode cX6_partsIn 19 = .ok (.if_icmp .ne 7, 3) := by decide +kernel
theorem dX6_partsIn_22 : decode cX6_partsIn 22 = .ok (.iconst 1, 1) := by decide +kernel
theorem dX6_partsIn_23 : decode cX6_partsIn 23 = .ok (.goto 4, 3) := by decide +kernel
theorem dX6_partsIn_26 : decode cX6_partsIn 26 = .ok (.iconst 0, 1) := by decide +kernel
theorem dX6_partsIn_27 : decode cX6_partsIn 27 = .ok (.iadd, 1) := by decide +kernel
theorem dX6_partsIn_28 : decode cX6_partsIn 28 = .ok (.istore_n 2, 1) := by decide +kernel
theorem dX6_partsIn_29 : decode cX6_partsIn 29 = .ok (.iinc 3 1, 3) := by decide +kernel
theorem dX6_partsIn_32 : decode cX6_partsIn 32 = .ok (.goto (-28), 3) := by decide +kernel
theorem dX6_partsIn_35 : decode cX6_partsIn 35 = .ok (.iload_n 2, 1) := by decide +kernel
theorem dX6_partsIn_36 : decode cX6_partsIn 36 = .ok (.ireturn, 1) := by decide +kernel
set_option maxRecDepth 20000 in
theorem ggX6_runsOf_X6_bits : GoodIn wsX6_runsOf wsX6_bits := goodIn_r _ [4] (by decide +kernel) (by decide +kernel)
set_option maxRecDepth 20000 in
theorem gX6_runsOf_X6_bits : GoodIn wsX6_runsOf (va_wsS RX6 77 yX6_bits wsX6_bits) := goodIn_app (goodIn_of _ (by decide +kernel)) ggX6_runsOf_X6_bits
theorem dX6_runsOf_0 : decode cX6_runsOf 0 = .ok (.iload_n 0, 1) := by decide +kernel
theorem dX6_runsOf_1 : decode cX6_runsOf 1 = .ok (.iload_n 0, 1) := by decide +kernel
theorem dX6_runsOf_2 : decode cX6_runsOf 2 = .ok (.iconst 1, 1) := by decide +kernel
theorem dX6_runsOf_3 : decode cX6_runsOf 3 = .ok (.ishl, 1) := by decide +kernel
theorem dX6_runsOf_4 : decode cX6_runsOf 4 = .ok (.iconst (-1), 1) := by decide +kernel
theorem dX6_runsOf_5 : decode cX6_runsOf 5 = .ok (.ixor, 1) := by decide +kernel
theorem dX6_runsOf_6 : decode cX6_runsOf 6 = .ok (.iand, 1) := by decide +kernel
theorem dX6_runsOf_7 : decode cX6_runsOf 7 = .ok (.invokestatic 77, 3) := by decide +kernel
theorem dX6_runsOf_10 : decode cX6_runsOf 10 = .ok (.ireturn, 1) := by decide +kernel
set_option maxRecDepth 20000 in
theorem ggX6_largest_X6_sizeOf : GoodIn wsX6_largest wsX6_sizeOf := goodIn_r _ [6, 7, 8, 9, 5, 10, 11, 12, 13, 14, 15, 16, 17, 18, 19, 20, 21, 22, 23, 24, 25, 26, 27, 28, 29, 30, 31, 32, 33, 34, 35] (by decide +kernel) (by decide +kernel)
set_option maxRecDepth 20000 in
theorem gX6_largest_X6_sizeOf : GoodIn wsX6_largest (wsV RX6 100 RX6 yX6_sizeOf wsX6_sizeOf) := goodIn_app (goodIn_of _ (by decide +kernel)) ggX6_largest_X6_sizeOf
theorem dX6_largest_0 : decode cX6_largest 0 = .ok (.iconst (-1), 1) := by decide +kernel
theorem dX6_largest_1 : decode cX6_largest 1 = .ok (.istore_n 1, 1) := by decide +kernel
theorem dX6_largest_2 : decode cX6_largest 2 = .ok (.iconst 0, 1) := by decide +kernel
theorem dX6_largest_3 : decode cX6_largest 3 = .ok (.istore_n 2, 1) := by decide +kernel
theorem dX6_largest_4 : decode cX6_largest 4 = .ok (.iconst 0, 1) := by decide +kernel
theorem dX6_largest_5 : decode cX6_largest 5 = .ok (.istore_n 3, 1) := by decide +kernel
theorem dX6_largest_6 : decode cX6_largest 6 = .ok (.iload_n 3, 1) := by decide +kernel
theorem dX6_largest_7 : decode cX6_largest 7 = .ok (.aload_n 0, 1) := by decide +kernel
theorem dX6_largest_8 : decode cX6_largest 8 = .ok (.getfield 59, 3) := by decide +kernel
theorem dX6_largest_11 : decode cX6_largest 11 = .ok (.if_icmp .ge 42, 3) := by decide +kernel
theorem dX6_largest_14 : decode cX6_largest 14 = .ok (.aload_n 0, 1) := by decide +kernel
theorem dX6_largest_15 : decode cX6_largest 15 = .ok (.iconst 1, 1) := by decide +kernel
theorem dX6_largest_16 : decode cX6_largest 16 = .ok (.iload_n 3, 1) := by decide +kernel
theorem dX6_largest_17 : decode cX6_largest 17 = .ok (.invokevirtual 100, 3) := by decide +kernel
theorem dX6_largest_20 : decode cX6_largest 20 = .ok (.istore 4, 2) := by decide +kernel
theorem dX6_largest_22 : decode cX6_largest 22 = .ok (.iload 4, 2) := by decide +kernel
theorem dX6_largest_24 : decode cX6_largest 24 = .ok (.iload_n 2, 1) := by decide +kernel
theorem dX6_largest_25 : decode cX6_largest 25 = .ok (.if_icmp .le 7, 3) := by decide +kernel
theorem dX6_largest_28 : decode cX6_largest 28 = .ok (.iload_n 3, 1) := by decide +kernel
theorem dX6_largest_29 : decode cX6_largest 29 = .ok (.goto 4, 3) := by decide +kernel
theorem dX6_largest_32 : decode cX6_largest 32 = .ok (.iload_n 1, 1) := by decide +kernel
theorem dX6_largest_33 : decode cX6_largest 33 = .ok (.istore_n 1, 1) := by decide +kernel
theorem dX6_largest_34 : decode cX6_largest 34 = .ok (.iload 4, 2) := by decide +kernel
theorem dX6_largest_36 : decode cX6_largest 36 = .ok (.iload_n 2, 1) := by decide +kernel
theorem dX6_largest_37 : decode cX6_largest 37 = .ok (.if_icmp .le 8, 3) := by decide +kernel
theorem dX6_largest_40 : decode cX6_largest 40 = .ok (.iload 4, 2) := by decide +kernel
theorem dX6_largest_42 : decode cX6_largest 42 = .ok (.goto 4, 3) := by decide +kernel
theorem dX6_largest_45 : decode cX6_largest 45 = .ok (.iload_n 2, 1) := by decide +kernel
theorem dX6_largest_46 : decode cX6_largest 46 = .ok (.istore_n 2, 1) := by decide +kernel
theorem dX6_largest_47 : decode cX6_largest 47 = .ok (.iinc 3 1, 3) := by decide +kernel
theorem dX6_largest_50 : decode cX6_largest 50 = .ok (.goto (-44), 3) := by decide +kernel
theorem dX6_largest_53 : decode cX6_largest 53 = .ok (.iload_n 1, 1) := by decide +kernel
theorem dX6_largest_54 : decode cX6_largest 54 = .ok (.ireturn, 1) := by decide +kernel
set_option maxRecDepth 20000 in
theorem ggX6_told_X6_parts : GoodIn wsX6_told wsX6_parts := goodIn_r _ [11, 2, 4, 3, 12, 13, 14, 15, 16, 17, 10, 18, 19, 20, 21, 22, 23, 24, 25, 26, 27, 28, 29, 30, 31, 32, 78, 79, 80, 81, 82, 83, 84, 85, 86, 87, 88, 89, 90, 91, 92, 93, 94] (by decide +kernel) (by decide +kernel)
set_option maxRecDepth 20000 in
theorem gX6_told_X6_parts : GoodIn wsX6_told (wsV RX6 73 RX6 yX6_parts wsX6_parts) := goodIn_app (goodIn_of _ (by decide +kernel)) ggX6_told_X6_parts
set_option maxRecDepth 20000 in
theorem ggX6_told_X6_darkOf : GoodIn wsX6_told wsX6_darkOf := goodIn_r _ [36, 37, 38, 10, 39] (by decide +kernel) (by decide +kernel)
set_option maxRecDepth 20000 in
theorem gX6_told_X6_darkOf : GoodIn wsX6_told (wsV RX6 104 RX6 yX6_darkOf wsX6_darkOf) := goodIn_app (goodIn_of _ (by decide +kernel)) ggX6_told_X6_darkOf
set_option maxRecDepth 20000 in
theorem ggX6_told_X6_runsOf : GoodIn wsX6_told wsX6_runsOf := goodIn_r _ [42, 37, 38, 10, 39] (by decide +kernel) (by decide +kernel)
set_option maxRecDepth 20000 in
theorem gX6_told_X6_runsOf : GoodIn wsX6_told (va_wsS RX6 108 yX6_runsOf wsX6_runsOf) := goodIn_app (goodIn_of _ (by decide +kernel)) ggX6_told_X6_runsOf
set_option maxRecDepth 20000 in
theorem ggX6_told_X6_isDark : GoodIn wsX6_told wsX6_isDark := goodIn_r _ [18, 19, 20, 10, 21] (by decide +kernel) (by decide +kernel)
set_option maxRecDepth 20000 in
theorem gX6_told_X6_isDark : GoodIn wsX6_told (va_wsS RX6 52 yX6_isDark wsX6_isDark) := goodIn_app (goodIn_of _ (by decide +kernel)) ggX6_told_X6_isDark
set_option maxRecDepth 20000 in
theorem ggX6_told_X6_sidesOf : GoodIn wsX6_told wsX6_sidesOf := goodIn_r _ [46, 1, 47, 48, 10, 49, 27, 28, 29, 30, 31, 32, 19, 20, 21, 78, 79, 80, 81, 82, 83, 84, 85, 86, 87, 88, 89, 90, 91, 92, 93, 94] (by decide +kernel) (by decide +kernel)
set_option maxRecDepth 20000 in
theorem gX6_told_X6_sidesOf : GoodIn wsX6_told (wsV RX6 97 RX6 yX6_sidesOf wsX6_sidesOf) := goodIn_app (goodIn_of _ (by decide +kernel)) ggX6_told_X6_sidesOf
set_option maxRecDepth 20000 in
theorem ggX6_told_X6_deep : GoodIn wsX6_told wsX6_deep := goodIn_r _ [53, 54, 55, 56, 10, 57, 13, 15, 12, 58, 59, 60, 61, 14, 62, 63, 64, 65, 78, 79, 80, 81, 82, 83, 84, 85, 86, 87, 88, 89, 90, 91, 92, 93, 94] (by decide +kernel) (by decide +kernel)
set_option maxRecDepth 20000 in
theorem gX6_told_X6_deep : GoodIn wsX6_told (wsV RX6 111 RX6 yX6_deep wsX6_deep) := goodIn_app (goodIn_of _ (by decide +kernel)) ggX6_told_X6_deep
set_option maxRecDepth 20000 in
theorem ggX6_told_X6_largest : GoodIn wsX6_told wsX6_largest := goodIn_r _ [69, 2, 70, 71, 72, 10, 73, 74, 75, 76, 77, 1, 12, 16, 17, 18, 19, 20, 21, 78, 79, 80, 81, 82, 83, 84, 85, 86, 87, 88, 89, 90, 91, 92, 93, 94] (by decide +kernel) (by decide +kernel)
set_option maxRecDepth 20000 in
theorem gX6_told_X6_largest : GoodIn wsX6_told (wsV RX6 114 RX6 yX6_largest wsX6_largest) := goodIn_app (goodIn_of _ (by decide +kernel)) ggX6_told_X6_largest
theorem dX6_told_0 : decode cX6_told 0 = .ok (.aload_n 0, 1) := by decide +kernel
theorem dX6_told_1 : decode cX6_told 1 = .ok (.aload_n 0, 1) := by decide +kernel
theorem dX6_told_2 : decode cX6_told 2 = .ok (.getfield 7, 3) := by decide +kernel
theorem dX6_told_5 : decode cX6_told 5 = .ok (.invokevirtual 73, 3) := by decide +kernel
theorem dX6_told_8 : decode cX6_told 8 = .ok (.iconst 0, 1) := by decide +kernel
theorem dX6_told_9 : decode cX6_told 9 = .ok (.istore_n 2, 1) := by decide +kernel
theorem dX6_told_10 : decode cX6_told 10 = .ok (.iload_n 1, 1) := by decide +kernel
theorem dX6_told_11 : decode cX6_told 11 = .ok (.tableswitch 220 0 10 #[57, 65, 74, 79, 84, 89, 103, 131, 171, 210, 215], 57) := by decide +kernel
theorem dX6_told_68 : decode cX6_told 68 = .ok (.aload_n 0, 1) := by decide +kernel
theorem dX6_told_69 : decode cX6_told 69 = .ok (.getfield 7, 3) := by decide +kernel
theorem dX6_told_72 : decode cX6_told 72 = .ok (.bipush 16, 2) := by decide +kernel
theorem dX6_told_74 : decode cX6_told 74 = .ok (.iaload, 1) := by decide +kernel
theorem dX6_told_75 : decode cX6_told 75 = .ok (.ireturn, 1) := by decide +kernel
theorem dX6_told_76 : decode cX6_told 76 = .ok (.aload_n 0, 1) := by decide +kernel
theorem dX6_told_77 : decode cX6_told 77 = .ok (.aload_n 0, 1) := by decide +kernel
theorem dX6_told_78 : decode cX6_told 78 = .ok (.getfield 7, 3) := by decide +kernel
theorem dX6_told_81 : decode cX6_told 81 = .ok (.invokevirtual 104, 3) := by decide +kernel
theorem dX6_told_84 : decode cX6_told 84 = .ok (.ireturn, 1) := by decide +kernel
theorem dX6_told_85 : decode cX6_told 85 = .ok (.aload_n 0, 1) := by decide +kernel
theorem dX6_told_86 : decode cX6_told 86 = .ok (.getfield 59, 3) := by decide +kernel
theorem dX6_told_89 : decode cX6_told 89 = .ok (.ireturn, 1) := by decide +kernel
theorem dX6_told_90 : decode cX6_told 90 = .ok (.aload_n 0, 1) := by decide +kernel
theorem dX6_told_91 : decode cX6_told 91 = .ok (.getfield 66, 3) := by decide +kernel
theorem dX6_told_94 : decode cX6_told 94 = .ok (.ireturn, 1) := by decide +kernel
theorem dX6_told_95 : decode cX6_told 95 = .ok (.aload_n 0, 1) := by decide +kernel
theorem dX6_told_96 : decode cX6_told 96 = .ok (.getfield 63, 3) := by decide +kernel
theorem dX6_told_99 : decode cX6_told 99 = .ok (.ireturn, 1) := by decide +kernel
theorem dX6_told_100 : decode cX6_told 100 = .ok (.aload_n 0, 1) := by decide +kernel
theorem dX6_told_101 : decode cX6_told 101 = .ok (.getfield 59, 3) := by decide +kernel
theorem dX6_told_104 : decode cX6_told 104 = .ok (.aload_n 0, 1) := by decide +kernel
theorem dX6_told_105 : decode cX6_told 105 = .ok (.getfield 66, 3) := by decide +kernel
theorem dX6_told_108 : decode cX6_told 108 = .ok (.isub, 1) := by decide +kernel
theorem dX6_told_109 : decode cX6_told 109 = .ok (.sipush 1000, 3) := by decide +kernel
theorem dX6_told_112 : decode cX6_told 112 = .ok (.iadd, 1) := by decide +kernel
theorem dX6_told_113 : decode cX6_told 113 = .ok (.ireturn, 1) := by decide +kernel
theorem dX6_told_114 : decode cX6_told 114 = .ok (.iconst 0, 1) := by decide +kernel
theorem dX6_told_115 : decode cX6_told 115 = .ok (.istore_n 3, 1) := by decide +kernel
theorem dX6_told_116 : decode cX6_told 116 = .ok (.iload_n 3, 1) := by decide +kernel
theorem dX6_told_117 : decode cX6_told 117 = .ok (.bipush 16, 2) := by decide +kernel
theorem dX6_told_119 : decode cX6_told 119 = .ok (.if_icmp .ge 21, 3) := by decide +kernel
theorem dX6_told_122 : decode cX6_told 122 = .ok (.iload_n 2, 1) := by decide +kernel
theorem dX6_told_123 : decode cX6_told 123 = .ok (.aload_n 0, 1) := by decide +kernel
theorem dX6_told_124 : decode cX6_told 124 = .ok (.getfield 7, 3) := by decide +kernel
theorem dX6_told_127 : decode cX6_told 127 = .ok (.iload_n 3, 1) := by decide +kernel
theorem dX6_told_128 : decode cX6_told 128 = .ok (.iaload, 1) := by decide +kernel
theorem dX6_told_129 : decode cX6_told 129 = .ok (.invokestatic 108, 3) := by decide +kernel
theorem dX6_told_132 : decode cX6_told 132 = .ok (.iadd, 1) := by decide +kernel
theorem dX6_told_133 : decode cX6_told 133 = .ok (.istore_n 2, 1) := by decide +kernel
theorem dX6_told_134 : decode cX6_told 134 = .ok (.iinc 3 1, 3) := by decide +kernel
theorem dX6_told_137 : decode cX6_told 137 = .ok (.goto (-21), 3) := by decide +kernel
theorem dX6_told_140 : decode cX6_told 140 = .ok (.iload_n 2, 1) := by decide +kernel
theorem dX6_told_141 : decode cX6_told 141 = .ok (.ireturn, 1) := by decide +kernel
theorem dX6_told_142 : decode cX6_told 142 = .ok (.iconst 0, 1) := by decide +kernel
theorem dX6_told_143 : decode cX6_told 143 = .ok (.istore_n 3, 1) := by decide +kernel
theorem dX6_told_144 : decode cX6_told 144 = .ok (.iload_n 3, 1) := by decide +kernel
theorem dX6_told_145 : decode cX6_told 145 = .ok (.sipush 256, 3) := by decide +kernel
theorem dX6_told_148 : decode cX6_told 148 = .ok (.if_icmp .ge 32, 3) := by decide +kernel
theorem dX6_told_151 : decode cX6_told 151 = .ok (.iload_n 2, 1) := by decide +kernel
theorem dX6_told_152 : decode cX6_told 152 = .ok (.aload_n 0, 1) := by decide +kernel
theorem dX6_told_153 : decode cX6_told 153 = .ok (.getfield 7, 3) := by decide +kernel
theorem dX6_told_156 : decode cX6_told 156 = .ok (.iload_n 3, 1) := by decide +kernel
theorem dX6_told_157 : decode cX6_told 157 = .ok (.invokestatic 52, 3) := by decide +kernel
theorem dX6_told_160 : decode cX6_told 160 = .ok (.ifCond .eq 11, 3) := by decide +kernel
theorem dX6_told_163 : decode cX6_told 163 = .ok (.aload_n 0, 1) := by decide +kernel
theorem dX6_told_164 : decode cX6_told 164 = .ok (.iload_n 3, 1) := by decide +kernel
theorem dX6_told_165 : decode cX6_told 165 = .ok (.invokevirtual 97, 3) := by decide +kernel
theorem dX6_told_168 : decode cX6_told 168 = .ok (.goto 4, 3) := by decide +kernel
theorem dX6_told_171 : decode cX6_told 171 = .ok (.iconst 0, 1) := by decide +kernel
theorem dX6_told_172 : decode cX6_told 172 = .ok (.iadd, 1) := by decide +kernel
theorem dX6_told_173 : decode cX6_told 173 = .ok (.istore_n 2, 1) := by decide +kernel
theorem dX6_told_174 : decode cX6_told 174 = .ok (.iinc 3 1, 3) := by decide +kernel
theorem dX6_told_177 : decode cX6_told 177 = .ok (.goto (-33), 3) := by decide +kernel
theorem dX6_told_180 : decode cX6_told 180 = .ok (.iload_n 2, 1) := by decide +kernel
theorem dX6_told_181 : decode cX6_told 181 = .ok (.ireturn, 1) := by decide +kernel
theorem dX6_told_182 : decode cX6_told 182 = .ok (.iconst (-1), 1) := by decide +kernel
theorem dX6_told_183 : decode cX6_told 183 = .ok (.istore_n 2, 1) := by decide +kernel
theorem dX6_told_184 : decode cX6_told 184 = .ok (.iconst 0, 1) := by decide +kernel
theorem dX6_told_185 : decode cX6_told 185 = .ok (.istore_n 3, 1) := by decide +kernel
theorem dX6_told_186 : decode cX6_told 186 = .ok (.iload_n 3, 1) := by decide +kernel
theorem dX6_told_187 : decode cX6_told 187 = .ok (.aload_n 0, 1) := by decide +kernel
theorem dX6_told_188 : decode cX6_told 188 = .ok (.getfield 59, 3) := by decide +kernel
theorem dX6_told_191 : decode cX6_told 191 = .ok (.if_icmp .ge 28, 3) := by decide +kernel
theorem dX6_told_194 : decode cX6_told 194 = .ok (.aload_n 0, 1) := by decide +kernel
theorem dX6_told_195 : decode cX6_told 195 = .ok (.iload_n 3, 1) := by decide +kernel
theorem dX6_told_196 : decode cX6_told 196 = .ok (.invokevirtual 111, 3) := by decide +kernel
theorem dX6_told_199 : decode cX6_told 199 = .ok (.iload_n 2, 1) := by decide +kernel
theorem dX6_told_200 : decode cX6_told 200 = .ok (.if_icmp .le 11, 3) := by decide +kernel
theorem dX6_told_203 : decode cX6_told 203 = .ok (.aload_n 0, 1) := by decide +kernel
theorem dX6_told_204 : decode cX6_told 204 = .ok (.iload_n 3, 1) := by decide +kernel
theorem dX6_told_205 : decode cX6_told 205 = .ok (.invokevirtual 111, 3) := by decide +kernel
theorem dX6_told_208 : decode cX6_told 208 = .ok (.goto 4, 3) := by decide +kernel
theorem dX6_told_211 : decode cX6_told 211 = .ok (.iload_n 2, 1) := by decide +kernel
theorem dX6_told_212 : decode cX6_told 212 = .ok (.istore_n 2, 1) := by decide +kernel
theorem dX6_told_213 : decode cX6_told 213 = .ok (.iinc 3 1, 3) := by decide +kernel
theorem dX6_told_216 : decode cX6_told 216 = .ok (.goto (-30), 3) := by decide +kernel
theorem dX6_told_219 : decode cX6_told 219 = .ok (.iload_n 2, 1) := by decide +kernel
theorem dX6_told_220 : decode cX6_told 220 = .ok (.ireturn, 1) := by decide +kernel
theorem dX6_told_221 : decode cX6_told 221 = .ok (.aload_n 0, 1) := by decide +kernel
theorem dX6_told_222 : decode cX6_told 222 = .ok (.invokevirtual 114, 3) := by decide +kernel
theorem dX6_told_225 : decode cX6_told 225 = .ok (.ireturn, 1) := by decide +kernel
theorem dX6_told_226 : decode cX6_told 226 = .ok (.aload_n 0, 1) := by decide +kernel
theorem dX6_told_227 : decode cX6_told 227 = .ok (.getfield 118, 3) := by decide +kernel
theorem dX6_told_230 : decode cX6_told 230 = .ok (.ireturn, 1) := by decide +kernel
theorem dX6_told_231 : decode cX6_told 231 = .ok (.ldc 121, 2) := by decide +kernel
theorem dX6_told_233 : decode cX6_told 233 = .ok (.ireturn, 1) := by decide +kernel
set_option maxRecDepth 20000 in
theorem ggX6_rowAt_X6_in : GoodIn wsX6_rowAt wsX6_in := goodIn_r _ [7] (by decide +kernel) (by decide +kernel)
set_option maxRecDepth 20000 in
theorem gX6_rowAt_X6_in : GoodIn wsX6_rowAt (va_wsS RX6 48 yX6_in wsX6_in) := goodIn_app (goodIn_of _ (by decide +kernel)) ggX6_rowAt_X6_in
set_option maxRecDepth 20000 in
theorem ggX6_rowAt_X6_runsOf : GoodIn wsX6_rowAt wsX6_runsOf := goodIn_r _ [10, 11, 12, 6, 13] (by decide +kernel) (by decide +kernel)
set_option maxRecDepth 20000 in
theorem gX6_rowAt_X6_runsOf : GoodIn wsX6_rowAt (va_wsS RX6 108 yX6_runsOf wsX6_runsOf) := goodIn_app (goodIn_of _ (by decide +kernel)) ggX6_rowAt_X6_runsOf
theorem dX6_rowAt_0 : decode cX6_rowAt 0 = .ok (.iload_n 1, 1) := by decide +kernel
theorem dX6_rowAt_1 : decode cX6_rowAt 1 = .ok (.iconst 0, 1) := by decide +kernel
theorem dX6_rowAt_2 : decode cX6_rowAt 2 = .ok (.bipush 15, 2) := by decide +kernel
theorem dX6_rowAt_4 : decode cX6_rowAt 4 = .ok (.invokestatic 48, 3) := by decide +kernel
theorem dX6_rowAt_7 : decode cX6_rowAt 7 = .ok (.ifCond .ne 8, 3) := by decide +kernel
theorem dX6_rowAt_10 : decode cX6_rowAt 10 = .ok (.ldc 122, 2) := by decide +kernel
theorem dX6_rowAt_12 : decode cX6_rowAt 12 = .ok (.goto 35, 3) := by decide +kernel
theorem dX6_rowAt_15 : decode cX6_rowAt 15 = .ok (.iload_n 2, 1) := by decide +kernel
theorem dX6_rowAt_16 : decode cX6_rowAt 16 = .ok (.ifCond .ne 12, 3) := by decide +kernel
theorem dX6_rowAt_19 : decode cX6_rowAt 19 = .ok (.aload_n 0, 1) := by decide +kernel
theorem dX6_rowAt_20 : decode cX6_rowAt 20 = .ok (.getfield 7, 3) := by decide +kernel
theorem dX6_rowAt_23 : decode cX6_rowAt 23 = .ok (.iload_n 1, 1) := by decide +kernel
theorem dX6_rowAt_24 : decode cX6_rowAt 24 = .ok (.iaload, 1) := by decide +kernel
theorem dX6_rowAt_25 : decode cX6_rowAt 25 = .ok (.goto 22, 3) := by decide +kernel
theorem dX6_rowAt_28 : decode cX6_rowAt 28 = .ok (.iload_n 2, 1) := by decide +kernel
theorem dX6_rowAt_29 : decode cX6_rowAt 29 = .ok (.iconst 1, 1) := by decide +kernel
theorem dX6_rowAt_30 : decode cX6_rowAt 30 = .ok (.if_icmp .ne 15, 3) := by decide +kernel
theorem dX6_rowAt_33 : decode cX6_rowAt 33 = .ok (.aload_n 0, 1) := by decide +kernel
theorem dX6_rowAt_34 : decode cX6_rowAt 34 = .ok (.getfield 7, 3) := by decide +kernel
theorem dX6_rowAt_37 : decode cX6_rowAt 37 = .ok (.iload_n 1, 1) := by decide +kernel
theorem dX6_rowAt_38 : decode cX6_rowAt 38 = .ok (.iaload, 1) := by decide +kernel
theorem dX6_rowAt_39 : decode cX6_rowAt 39 = .ok (.invokestatic 108, 3) := by decide +kernel
theorem dX6_rowAt_42 : decode cX6_rowAt 42 = .ok (.goto 5, 3) := by decide +kernel
theorem dX6_rowAt_45 : decode cX6_rowAt 45 = .ok (.ldc 121, 2) := by decide +kernel
theorem dX6_rowAt_47 : decode cX6_rowAt 47 = .ok (.ireturn, 1) := by decide +kernel
set_option maxRecDepth 20000 in
theorem ggX6_partsTurned_X6_copies : GoodIn wsX6_partsTurned wsX6_copies := goodIn_r _ [6] (by decide +kernel) (by decide +kernel)
set_option maxRecDepth 20000 in
theorem gX6_partsTurned_X6_copies : GoodIn wsX6_partsTurned (va_wsS RX6 123 yX6_copies wsX6_copies) := goodIn_app (goodIn_of _ (by decide +kernel)) ggX6_partsTurned_X6_copies
set_option maxRecDepth 20000 in
theorem ggX6_partsTurned_X6_partsOf : GoodIn wsX6_partsTurned wsX6_partsOf := goodIn_r _ [10, 11, 12, 13, 14, 5, 15, 16, 17, 18, 19, 20, 21, 22, 23, 24, 25, 26, 27, 28, 29, 30, 31, 32, 33, 34, 35, 36, 37, 38, 39, 40, 41, 42, 43, 44, 45, 46, 47, 48, 49, 50, 51, 52, 53, 54, 55] (by decide +kernel) (by decide +kernel)
set_option maxRecDepth 20000 in
theorem gX6_partsTurned_X6_partsOf : GoodIn wsX6_partsTurned (wsV RX6 127 RX6 yX6_partsOf wsX6_partsOf) := goodIn_app (goodIn_of _ (by decide +kernel)) ggX6_partsTurned_X6_partsOf
theorem dX6_partsTurned_0 : decode cX6_partsTurned 0 = .ok (.aload_n 0, 1) := by decide +kernel
theorem dX6_partsTurned_1 : decode cX6_partsTurned 1 = .ok (.getfield 7, 3) := by decide +kernel
theorem dX6_partsTurned_4 : decode cX6_partsTurned 4 = .ok (.aload_n 0, 1) := by decide +kernel
theorem dX6_partsTurned_5 : decode cX6_partsTurned 5 = .ok (.getfield 13, 3) := by decide +kernel
theorem dX6_partsTurned_8 : decode cX6_partsTurned 8 = .ok (.invokestatic 123, 3) := by decide +kernel
theorem dX6_partsTurned_11 : decode cX6_partsTurned 11 = .ok (.aload_n 0, 1) := by decide +kernel
theorem dX6_partsTurned_12 : decode cX6_partsTurned 12 = .ok (.getfield 13, 3) := by decide +kernel
theorem dX6_partsTurned_15 : decode cX6_partsTurned 15 = .ok (.iload_n 1, 1) := by decide +kernel
theorem dX6_partsTurned_16 : decode cX6_partsTurned 16 = .ok (.bipush 16, 2) := by decide +kernel
theorem dX6_partsTurned_18 : decode cX6_partsTurned 18 = .ok (.idiv, 1) := by decide +kernel
theorem dX6_partsTurned_19 : decode cX6_partsTurned 19 = .ok (.dup2, 1) := by decide +kernel
theorem dX6_partsTurned_20 : decode cX6_partsTurned 20 = .ok (.iaload, 1) := by decide +kernel
theorem dX6_partsTurned_21 : decode cX6_partsTurned 21 = .ok (.iconst 1, 1) := by decide +kernel
theorem dX6_partsTurned_22 : decode cX6_partsTurned 22 = .ok (.iload_n 1, 1) := by decide +kernel
theorem dX6_partsTurned_23 : decode cX6_partsTurned 23 = .ok (.bipush 16, 2) := by decide +kernel
theorem dX6_partsTurned_25 : decode cX6_partsTurned 25 = .ok (.irem, 1) := by decide +kernel
theorem dX6_partsTurned_26 : decode cX6_partsTurned 26 = .ok (.ishl, 1) := by decide +kernel
theorem dX6_partsTurned_27 : decode cX6_partsTurned 27 = .ok (.ixor, 1) := by decide +kernel
theorem dX6_partsTurned_28 : decode cX6_partsTurned 28 = .ok (.iastore, 1) := by decide +kernel
theorem dX6_partsTurned_29 : decode cX6_partsTurned 29 = .ok (.aload_n 0, 1) := by decide +kernel
theorem dX6_partsTurned_30 : decode cX6_partsTurned 30 = .ok (.aload_n 0, 1) := by decide +kernel
theorem dX6_partsTurned_31 : decode cX6_partsTurned 31 = .ok (.getfield 13, 3) := by decide +kernel
theorem dX6_partsTurned_34 : decode cX6_partsTurned 34 = .ok (.invokevirtual 127, 3) := by decide +kernel
theorem dX6_partsTurned_37 : decode cX6_partsTurned 37 = .ok (.ireturn, 1) := by decide +kernel
set_option maxRecDepth 20000 in
theorem ggX6_dot_X6_isOn : GoodIn wsX6_dot wsX6_isOn := goodIn_r _ [10, 11, 12, 9, 13] (by decide +kernel) (by decide +kernel)
set_option maxRecDepth 20000 in
theorem gX6_dot_X6_isOn : GoodIn wsX6_dot (va_wsS RX6 56 yX6_isOn wsX6_isOn) := goodIn_app (goodIn_of _ (by decide +kernel)) ggX6_dot_X6_isOn
set_option maxRecDepth 20000 in
theorem ggX6_dot_X6_isDark : GoodIn wsX6_dot wsX6_isDark := goodIn_r _ [16, 17, 18, 9, 19] (by decide +kernel) (by decide +kernel)
set_option maxRecDepth 20000 in
theorem gX6_dot_X6_isDark : GoodIn wsX6_dot (va_wsS RX6 52 yX6_isDark wsX6_isDark) := goodIn_app (goodIn_of _ (by decide +kernel)) ggX6_dot_X6_isDark
set_option maxRecDepth 20000 in
theorem ggX6_dot_X6_in : GoodIn wsX6_dot wsX6_in := goodIn_r _ [13] (by decide +kernel) (by decide +kernel)
set_option maxRecDepth 20000 in
theorem gX6_dot_X6_in : GoodIn wsX6_dot (va_wsS RX6 48 yX6_in wsX6_in) := goodIn_app (goodIn_of _ (by decide +kernel)) ggX6_dot_X6_in
set_option maxRecDepth 20000 in
theorem ggX6_dot_X6_partsTurned : GoodIn wsX6_dot wsX6_partsTurned := goodIn_r _ [23, 2, 24, 25, 26, 9, 27, 28, 29, 30, 31, 5, 32, 33, 34, 35, 36, 37, 3, 38, 39, 4, 14, 15, 16, 17, 18, 19, 40, 41, 42, 43, 44, 7, 8, 10, 11, 12, 13, 45, 46, 47, 48, 49, 50, 51, 52, 53, 54, 55, 56, 57, 58, 59, 60, 61] (by decide +kernel) (by decide +kernel)
set_option maxRecDepth 20000 in
theorem gX6_dot_X6_partsTurned : GoodIn wsX6_dot (wsV RX6 130 RX6 yX6_partsTurned wsX6_partsTurned) := goodIn_app (goodIn_of _ (by decide +kernel)) ggX6_dot_X6_partsTurned
set_option maxRecDepth 20000 in
theorem ggX6_dot_X6_parts : GoodIn wsX6_dot wsX6_parts := goodIn_r _ [35, 5, 36, 37, 3, 38, 39, 4, 14, 15, 9, 16, 17, 18, 19, 40, 41, 42, 43, 44, 7, 8, 10, 11, 12, 13, 45, 46, 47, 48, 49, 50, 51, 52, 53, 54, 55, 56, 57, 58, 59, 60, 61] (by decide +kernel) (by decide +kernel)
set_option maxRecDepth 20000 in
theorem gX6_dot_X6_parts : GoodIn wsX6_dot (wsV RX6 73 RX6 yX6_parts wsX6_parts) := goodIn_app (goodIn_of _ (by decide +kernel)) ggX6_dot_X6_parts
theorem dX6_dot_0 : decode cX6_dot 0 = .ok (.iload_n 1, 1) := by decide +kernel
theorem dX6_dot_1 : decode cX6_dot 1 = .ok (.iload_n 2, 1) := by decide +kernel
theorem dX6_dot_2 : decode cX6_dot 2 = .ok (.invokestatic 56, 3) := by decide +kernel
theorem dX6_dot_5 : decode cX6_dot 5 = .ok (.ifCond .ne 6, 3) := by decide +kernel
theorem dX6_dot_8 : decode cX6_dot 8 = .ok (.ldc 122, 2) := by decide +kernel
theorem dX6_dot_10 : decode cX6_dot 10 = .ok (.ireturn, 1) := by decide +kernel
theorem dX6_dot_11 : decode cX6_dot 11 = .ok (.bipush 16, 2) := by decide +kernel
theorem dX6_dot_13 : decode cX6_dot 13 = .ok (.iload_n 1, 1) := by decide +kernel
theorem dX6_dot_14 : decode cX6_dot 14 = .ok (.imul, 1) := by decide +kernel
theorem dX6_dot_15 : decode cX6_dot 15 = .ok (.iload_n 2, 1) := by decide +kernel
theorem dX6_dot_16 : decode cX6_dot 16 = .ok (.iadd, 1) := by decide +kernel
theorem dX6_dot_17 : decode cX6_dot 17 = .ok (.istore 4, 2) := by decide +kernel
theorem dX6_dot_19 : decode cX6_dot 19 = .ok (.aload_n 0, 1) := by decide +kernel
theorem dX6_dot_20 : decode cX6_dot 20 = .ok (.getfield 7, 3) := by decide +kernel
theorem dX6_dot_23 : decode cX6_dot 23 = .ok (.iload 4, 2) := by decide +kernel
theorem dX6_dot_25 : decode cX6_dot 25 = .ok (.invokestatic 52, 3) := by decide +kernel
theorem dX6_dot_28 : decode cX6_dot 28 = .ok (.istore 5, 2) := by decide +kernel
theorem dX6_dot_30 : decode cX6_dot 30 = .ok (.iload_n 3, 1) := by decide +kernel
theorem dX6_dot_31 : decode cX6_dot 31 = .ok (.iconst 3, 1) := by decide +kernel
theorem dX6_dot_32 : decode cX6_dot 32 = .ok (.iconst 4, 1) := by decide +kernel
theorem dX6_dot_33 : decode cX6_dot 33 = .ok (.invokestatic 48, 3) := by decide +kernel
theorem dX6_dot_36 : decode cX6_dot 36 = .ok (.ifCond .eq 12, 3) := by decide +kernel
theorem dX6_dot_39 : decode cX6_dot 39 = .ok (.aload_n 0, 1) := by decide +kernel
theorem dX6_dot_40 : decode cX6_dot 40 = .ok (.iload 4, 2) := by decide +kernel
theorem dX6_dot_42 : decode cX6_dot 42 = .ok (.invokevirtual 130, 3) := by decide +kernel
theorem dX6_dot_45 : decode cX6_dot 45 = .ok (.goto 4, 3) := by decide +kernel
theorem dX6_dot_48 : decode cX6_dot 48 = .ok (.iconst 0, 1) := by decide +kernel
theorem dX6_dot_49 : decode cX6_dot 49 = .ok (.istore 6, 2) := by decide +kernel
theorem dX6_dot_51 : decode cX6_dot 51 = .ok (.aload_n 0, 1) := by decide +kernel
theorem dX6_dot_52 : decode cX6_dot 52 = .ok (.aload_n 0, 1) := by decide +kernel
theorem dX6_dot_53 : decode cX6_dot 53 = .ok (.getfield 7, 3) := by decide +kernel
theorem dX6_dot_56 : decode cX6_dot 56 = .ok (.invokevirtual 73, 3) := by decide +kernel
theorem dX6_dot_59 : decode cX6_dot 59 = .ok (.iload_n 3, 1) := by decide +kernel
theorem dX6_dot_60 : decode cX6_dot 60 = .ok (.tableswitch 124 0 4 #[36, 47, 64, 86, 105], 36) := by decide +kernel
theorem dX6_dot_96 : decode cX6_dot 96 = .ok (.iload 5, 2) := by decide +kernel
theorem dX6_dot_98 : decode cX6_dot 98 = .ok (.ifCond .eq 7, 3) := by decide +kernel
theorem dX6_dot_101 : decode cX6_dot 101 = .ok (.iconst 1, 1) := by decide +kernel
theorem dX6_dot_102 : decode cX6_dot 102 = .ok (.goto 4, 3) := by decide +kernel
theorem dX6_dot_105 : decode cX6_dot 105 = .ok (.iconst 0, 1) := by decide +kernel
theorem dX6_dot_106 : decode cX6_dot 106 = .ok (.ireturn, 1) := by decide +kernel
theorem dX6_dot_107 : decode cX6_dot 107 = .ok (.iload 5, 2) := by decide +kernel
theorem dX6_dot_109 : decode cX6_dot 109 = .ok (.ifCond .eq 13, 3) := by decide +kernel
theorem dX6_dot_112 : decode cX6_dot 112 = .ok (.aload_n 0, 1) := by decide +kernel
theorem dX6_dot_113 : decode cX6_dot 113 = .ok (.getfield 16, 3) := by decide +kernel
theorem dX6_dot_116 : decode cX6_dot 116 = .ok (.iload 4, 2) := by decide +kernel
theorem dX6_dot_118 : decode cX6_dot 118 = .ok (.iaload, 1) := by decide +kernel
theorem dX6_dot_119 : decode cX6_dot 119 = .ok (.goto 4, 3) := by decide +kernel
theorem dX6_dot_122 : decode cX6_dot 122 = .ok (.iconst (-1), 1) := by decide +kernel
theorem dX6_dot_123 : decode cX6_dot 123 = .ok (.ireturn, 1) := by decide +kernel
theorem dX6_dot_124 : decode cX6_dot 124 = .ok (.iload 5, 2) := by decide +kernel
theorem dX6_dot_126 : decode cX6_dot 126 = .ok (.ifCond .eq 7, 3) := by decide +kernel
theorem dX6_dot_129 : decode cX6_dot 129 = .ok (.iconst (-1), 1) := by decide +kernel
theorem dX6_dot_130 : decode cX6_dot 130 = .ok (.goto 15, 3) := by decide +kernel
theorem dX6_dot_133 : decode cX6_dot 133 = .ok (.aload_n 0, 1) := by decide +kernel
theorem dX6_dot_134 : decode cX6_dot 134 = .ok (.getfield 28, 3) := by decide +kernel
theorem dX6_dot_137 : decode cX6_dot 137 = .ok (.aload_n 0, 1) := by decide +kernel
theorem dX6_dot_138 : decode cX6_dot 138 = .ok (.getfield 16, 3) := by decide +kernel
theorem dX6_dot_141 : decode cX6_dot 141 = .ok (.iload 4, 2) := by decide +kernel
theorem dX6_dot_143 : decode cX6_dot 143 = .ok (.iaload, 1) := by decide +kernel
theorem dX6_dot_144 : decode cX6_dot 144 = .ok (.iaload, 1) := by decide +kernel
theorem dX6_dot_145 : decode cX6_dot 145 = .ok (.ireturn, 1) := by decide +kernel
theorem dX6_dot_146 : decode cX6_dot 146 = .ok (.iload 5, 2) := by decide +kernel
theorem dX6_dot_148 : decode cX6_dot 148 = .ok (.ifCond .eq 7, 3) := by decide +kernel
theorem dX6_dot_151 : decode cX6_dot 151 = .ok (.iconst (-1), 1) := by decide +kernel
theorem dX6_dot_152 : decode cX6_dot 152 = .ok (.goto 12, 3) := by decide +kernel
theorem dX6_dot_155 : decode cX6_dot 155 = .ok (.aload_n 0, 1) := by decide +kernel
theorem dX6_dot_156 : decode cX6_dot 156 = .ok (.getfield 59, 3) := by decide +kernel
theorem dX6_dot_159 : decode cX6_dot 159 = .ok (.iload 6, 2) := by decide +kernel
theorem dX6_dot_161 : decode cX6_dot 161 = .ok (.isub, 1) := by decide +kernel
theorem dX6_dot_162 : decode cX6_dot 162 = .ok (.iconst 1, 1) := by decide +kernel
theorem dX6_dot_163 : decode cX6_dot 163 = .ok (.iadd, 1) := by decide +kernel
theorem dX6_dot_164 : decode cX6_dot 164 = .ok (.ireturn, 1) := by decide +kernel
theorem dX6_dot_165 : decode cX6_dot 165 = .ok (.iload 5, 2) := by decide +kernel
theorem dX6_dot_167 : decode cX6_dot 167 = .ok (.ifCond .eq 15, 3) := by decide +kernel
theorem dX6_dot_170 : decode cX6_dot 170 = .ok (.iload 6, 2) := by decide +kernel
theorem dX6_dot_172 : decode cX6_dot 172 = .ok (.aload_n 0, 1) := by decide +kernel
theorem dX6_dot_173 : decode cX6_dot 173 = .ok (.getfield 59, 3) := by decide +kernel
theorem dX6_dot_176 : decode cX6_dot 176 = .ok (.isub, 1) := by decide +kernel
theorem dX6_dot_177 : decode cX6_dot 177 = .ok (.iconst 1, 1) := by decide +kernel
theorem dX6_dot_178 : decode cX6_dot 178 = .ok (.iadd, 1) := by decide +kernel
theorem dX6_dot_179 : decode cX6_dot 179 = .ok (.goto 4, 3) := by decide +kernel
theorem dX6_dot_182 : decode cX6_dot 182 = .ok (.iconst (-1), 1) := by decide +kernel
theorem dX6_dot_183 : decode cX6_dot 183 = .ok (.ireturn, 1) := by decide +kernel
theorem dX6_dot_184 : decode cX6_dot 184 = .ok (.ldc 121, 2) := by decide +kernel
theorem dX6_dot_186 : decode cX6_dot 186 = .ok (.ireturn, 1) := by decide +kernel
set_option maxRecDepth 20000 in
theorem ggX6_part_X6_partsOf : GoodIn wsX6_part wsX6_partsOf := goodIn_r _ [9, 10, 11, 12, 13, 8, 14, 15, 16, 17, 3, 18, 19, 20, 21, 22, 23, 24, 25, 26, 27, 28, 29, 30, 31, 32, 33, 34, 35, 36, 80, 81, 82, 83, 84, 85, 86, 87, 88, 89, 90, 91, 92, 93, 94, 95, 96] (by decide +kernel) (by decide +kernel)
set_option maxRecDepth 20000 in
theorem gX6_part_X6_partsOf : GoodIn wsX6_part (wsV RX6 127 RX6 yX6_partsOf wsX6_partsOf) := goodIn_app (goodIn_of _ (by decide +kernel)) ggX6_part_X6_partsOf
set_option maxRecDepth 20000 in
theorem ggX6_part_X6_in : GoodIn wsX6_part wsX6_in := goodIn_r _ [36] (by decide +kernel) (by decide +kernel)
set_option maxRecDepth 20000 in
theorem gX6_part_X6_in : GoodIn wsX6_part (va_wsS RX6 48 yX6_in wsX6_in) := goodIn_app (goodIn_of _ (by decide +kernel)) ggX6_part_X6_in
set_option maxRecDepth 20000 in
theorem ggX6_part_X6_sizeOf : GoodIn wsX6_part wsX6_sizeOf := goodIn_r _ [40, 41, 42, 43, 8, 44, 1, 17, 20, 21, 22, 23, 24, 25, 80, 81, 82, 83, 84, 85, 86, 87, 88, 89, 90, 91, 92, 93, 94, 95, 96] (by decide +kernel) (by decide +kernel)
set_option maxRecDepth 20000 in
theorem gX6_part_X6_sizeOf : GoodIn wsX6_part (wsV RX6 100 RX6 yX6_sizeOf wsX6_sizeOf) := goodIn_app (goodIn_of _ (by decide +kernel)) ggX6_part_X6_sizeOf
set_option maxRecDepth 20000 in
theorem ggX6_part_X6_rimOf : GoodIn wsX6_part wsX6_rimOf := goodIn_r _ [48, 41, 42, 43, 8, 44, 1, 17, 20, 21, 22, 23, 24, 25, 49, 50, 51, 52, 53, 54, 55, 31, 32, 33, 34, 35, 36, 80, 81, 82, 83, 84, 85, 86, 87, 88, 89, 90, 91, 92, 93, 94, 95, 96] (by decide +kernel) (by decide +kernel)
set_option maxRecDepth 20000 in
theorem gX6_part_X6_rimOf : GoodIn wsX6_part (wsV RX6 133 RX6 yX6_rimOf wsX6_rimOf) := goodIn_app (goodIn_of _ (by decide +kernel)) ggX6_part_X6_rimOf
set_option maxRecDepth 20000 in
theorem ggX6_part_X6_edge : GoodIn wsX6_part wsX6_edge := goodIn_r _ [59, 41, 42, 43, 8, 44, 1, 17, 20, 21, 22, 23, 24, 25, 80, 81, 82, 83, 84, 85, 86, 87, 88, 89, 90, 91, 92, 93, 94, 95, 96] (by decide +kernel) (by decide +kernel)
set_option maxRecDepth 20000 in
theorem gX6_part_X6_edge : GoodIn wsX6_part (wsV RX6 136 RX6 yX6_edge wsX6_edge) := goodIn_app (goodIn_of _ (by decide +kernel)) ggX6_part_X6_edge
set_option maxRecDepth 20000 in
theorem ggX6_part_X6_holesOf : GoodIn wsX6_part wsX6_holesOf := goodIn_r _ [63, 16, 64, 65, 66, 8, 67, 17, 18, 68, 69, 70, 71, 19, 80, 81, 82, 83, 84, 85, 86, 87, 88, 89, 90, 91, 92, 93, 94, 95, 96] (by decide +kernel) (by decide +kernel)
set_option maxRecDepth 20000 in
theorem gX6_part_X6_holesOf : GoodIn wsX6_part (wsV RX6 140 RX6 yX6_holesOf wsX6_holesOf) := goodIn_app (goodIn_of _ (by decide +kernel)) ggX6_part_X6_holesOf
set_option maxRecDepth 20000 in
theorem ggX6_part_X6_liesIn : GoodIn wsX6_part wsX6_liesIn := goodIn_r _ [75, 3, 19, 17, 80, 81, 82, 83, 84, 85, 86, 87, 88, 89, 90, 91, 92, 93, 94, 95, 96] (by decide +kernel) (by decide +kernel)
set_option maxRecDepth 20000 in
theorem gX6_part_X6_liesIn : GoodIn wsX6_part (wsV RX6 88 RX6 yX6_liesIn wsX6_liesIn) := goodIn_app (goodIn_of _ (by decide +kernel)) ggX6_part_X6_liesIn
set_option maxRecDepth 20000 in
theorem ggX6_part_X6_deep : GoodIn wsX6_part wsX6_deep := goodIn_r _ [79, 72, 73, 74, 8, 75, 3, 19, 17, 64, 65, 66, 67, 18, 68, 69, 70, 71, 80, 81, 82, 83, 84, 85, 86, 87, 88, 89, 90, 91, 92, 93, 94, 95, 96] (by decide +kernel) (by decide +kernel)
set_option maxRecDepth 20000 in
theorem gX6_part_X6_deep : GoodIn wsX6_part (wsV RX6 111 RX6 yX6_deep wsX6_deep) := goodIn_app (goodIn_of _ (by decide +kernel)) ggX6_part_X6_deep
theorem dX6_part_0 : decode cX6_part 0 = .ok (.iload_n 1, 1) := by decide +kernel
theorem dX6_part_1 : decode cX6_part 1 = .ok (.iconst 0, 1) := by decide +kernel
theorem dX6_part_2 : decode cX6_part 2 = .ok (.aload_n 0, 1) := by decide +kernel
theorem dX6_part_3 : decode cX6_part 3 = .ok (.aload_n 0, 1) := by decide +kernel
theorem dX6_part_4 : decode cX6_part 4 = .ok (.getfield 7, 3) := by decide +kernel
theorem dX6_part_7 : decode cX6_part 7 = .ok (.invokevirtual 127, 3) := by decide +kernel
theorem dX6_part_10 : decode cX6_part 10 = .ok (.iconst 1, 1) := by decide +kernel
theorem dX6_part_11 : decode cX6_part 11 = .ok (.isub, 1) := by decide +kernel
theorem dX6_part_12 : decode cX6_part 12 = .ok (.invokestatic 48, 3) := by decide +kernel
theorem dX6_part_15 : decode cX6_part 15 = .ok (.ifCond .ne 6, 3) := by decide +kernel
theorem dX6_part_18 : decode cX6_part 18 = .ok (.ldc 122, 2) := by decide +kernel
theorem dX6_part_20 : decode cX6_part 20 = .ok (.ireturn, 1) := by decide +kernel
theorem dX6_part_21 : decode cX6_part 21 = .ok (.iload_n 2, 1) := by decide +kernel
theorem dX6_part_22 : decode cX6_part 22 = .ok (.tableswitch 124 0 9 #[54, 61, 67, 75, 83, 91, 99, 105, 111, 117], 54) := by decide +kernel
theorem dX6_part_76 : decode cX6_part 76 = .ok (.aload_n 0, 1) := by decide +kernel
theorem dX6_part_77 : decode cX6_part 77 = .ok (.iconst 1, 1) := by decide +kernel
theorem dX6_part_78 : decode cX6_part 78 = .ok (.iload_n 1, 1) := by decide +kernel
theorem dX6_part_79 : decode cX6_part 79 = .ok (.invokevirtual 100, 3) := by decide +kernel
theorem dX6_part_82 : decode cX6_part 82 = .ok (.ireturn, 1) := by decide +kernel
theorem dX6_part_83 : decode cX6_part 83 = .ok (.aload_n 0, 1) := by decide +kernel
theorem dX6_part_84 : decode cX6_part 84 = .ok (.iload_n 1, 1) := by decide +kernel
theorem dX6_part_85 : decode cX6_part 85 = .ok (.invokevirtual 133, 3) := by decide +kernel
theorem dX6_part_88 : decode cX6_part 88 = .ok (.ireturn, 1) := by decide +kernel
theorem dX6_part_89 : decode cX6_part 89 = .ok (.aload_n 0, 1) := by decide +kernel
theorem dX6_part_90 : decode cX6_part 90 = .ok (.iload_n 1, 1) := by decide +kernel
theorem dX6_part_91 : decode cX6_part 91 = .ok (.iconst 0, 1) := by decide +kernel
theorem dX6_part_92 : decode cX6_part 92 = .ok (.iconst 0, 1) := by decide +kernel
theorem dX6_part_93 : decode cX6_part 93 = .ok (.invokevirtual 136, 3) := by decide +kernel
theorem dX6_part_96 : decode cX6_part 96 = .ok (.ireturn, 1) := by decide +kernel
theorem dX6_part_97 : decode cX6_part 97 = .ok (.aload_n 0, 1) := by decide +kernel
theorem dX6_part_98 : decode cX6_part 98 = .ok (.iload_n 1, 1) := by decide +kernel
theorem dX6_part_99 : decode cX6_part 99 = .ok (.iconst 0, 1) := by decide +kernel
theorem dX6_part_100 : decode cX6_part 100 = .ok (.iconst 1, 1) := by decide +kernel
theorem dX6_part_101 : decode cX6_part 101 = .ok (.invokevirtual 136, 3) := by decide +kernel
theorem dX6_part_104 : decode cX6_part 104 = .ok (.ireturn, 1) := by decide +kernel
theorem dX6_part_105 : decode cX6_part 105 = .ok (.aload_n 0, 1) := by decide +kernel
theorem dX6_part_106 : decode cX6_part 106 = .ok (.iload_n 1, 1) := by decide +kernel
theorem dX6_part_107 : decode cX6_part 107 = .ok (.iconst 1, 1) := by decide +kernel
theorem dX6_part_108 : decode cX6_part 108 = .ok (.iconst 0, 1) := by decide +kernel
theorem dX6_part_109 : decode cX6_part 109 = .ok (.invokevirtual 136, 3) := by decide +kernel
theorem dX6_part_112 : decode cX6_part 112 = .ok (.ireturn, 1) := by decide +kernel
theorem dX6_part_113 : decode cX6_part 113 = .ok (.aload_n 0, 1) := by decide +kernel
theorem dX6_part_114 : decode cX6_part 114 = .ok (.iload_n 1, 1) := by decide +kernel
theorem dX6_part_115 : decode cX6_part 115 = .ok (.iconst 1, 1) := by decide +kernel
theorem dX6_part_116 : decode cX6_part 116 = .ok (.iconst 1, 1) := by decide +kernel
theorem dX6_part_117 : decode cX6_part 117 = .ok (.invokevirtual 136, 3) := by decide +kernel
theorem dX6_part_120 : decode cX6_part 120 = .ok (.ireturn, 1) := by decide +kernel
theorem dX6_part_121 : decode cX6_part 121 = .ok (.aload_n 0, 1) := by decide +kernel
theorem dX6_part_122 : decode cX6_part 122 = .ok (.iload_n 1, 1) := by decide +kernel
theorem dX6_part_123 : decode cX6_part 123 = .ok (.invokevirtual 140, 3) := by decide +kernel
theorem dX6_part_126 : decode cX6_part 126 = .ok (.ireturn, 1) := by decide +kernel
theorem dX6_part_127 : decode cX6_part 127 = .ok (.aload_n 0, 1) := by decide +kernel
theorem dX6_part_128 : decode cX6_part 128 = .ok (.iload_n 1, 1) := by decide +kernel
theorem dX6_part_129 : decode cX6_part 129 = .ok (.invokevirtual 88, 3) := by decide +kernel
theorem dX6_part_132 : decode cX6_part 132 = .ok (.ireturn, 1) := by decide +kernel
theorem dX6_part_133 : decode cX6_part 133 = .ok (.aload_n 0, 1) := by decide +kernel
theorem dX6_part_134 : decode cX6_part 134 = .ok (.iload_n 1, 1) := by decide +kernel
theorem dX6_part_135 : decode cX6_part 135 = .ok (.invokevirtual 111, 3) := by decide +kernel
theorem dX6_part_138 : decode cX6_part 138 = .ok (.ireturn, 1) := by decide +kernel
theorem dX6_part_139 : decode cX6_part 139 = .ok (.aload_n 0, 1) := by decide +kernel
theorem dX6_part_140 : decode cX6_part 140 = .ok (.getfield 22, 3) := by decide +kernel
theorem dX6_part_143 : decode cX6_part 143 = .ok (.iload_n 1, 1) := by decide +kernel
theorem dX6_part_144 : decode cX6_part 144 = .ok (.iaload, 1) := by decide +kernel
theorem dX6_part_145 : decode cX6_part 145 = .ok (.ireturn, 1) := by decide +kernel
theorem dX6_part_146 : decode cX6_part 146 = .ok (.ldc 121, 2) := by decide +kernel
theorem dX6_part_148 : decode cX6_part 148 = .ok (.ireturn, 1) := by decide +kernel
set_option maxRecDepth 20000 in
theorem ggX6_hole_X6_parts : GoodIn wsX6_hole wsX6_parts := goodIn_r _ [10, 11, 12, 2, 13, 14, 4, 15, 16, 17, 9, 18, 19, 20, 21, 22, 23, 24, 25, 26, 27, 28, 29, 30, 31, 32, 57, 58, 59, 60, 61, 62, 63, 64, 65, 66, 67, 68, 69, 70, 71, 72, 73] (by decide +kernel) (by decide +kernel)
set_option maxRecDepth 20000 in
theorem gX6_hole_X6_parts : GoodIn wsX6_hole (wsV RX6 73 RX6 yX6_parts wsX6_parts) := goodIn_app (goodIn_of _ (by decide +kernel)) ggX6_hole_X6_parts
set_option maxRecDepth 20000 in
theorem ggX6_hole_X6_in : GoodIn wsX6_hole wsX6_in := goodIn_r _ [32] (by decide +kernel) (by decide +kernel)
set_option maxRecDepth 20000 in
theorem gX6_hole_X6_in : GoodIn wsX6_hole (va_wsS RX6 48 yX6_in wsX6_in) := goodIn_app (goodIn_of _ (by decide +kernel)) ggX6_hole_X6_in
set_option maxRecDepth 20000 in
theorem ggX6_hole_X6_lightOf : GoodIn wsX6_hole wsX6_lightOf := goodIn_r _ [36, 15, 57, 58, 59, 60, 61, 62, 63, 64, 65, 66, 67, 68, 69, 70, 71, 72, 73] (by decide +kernel) (by decide +kernel)
set_option maxRecDepth 20000 in
theorem gX6_hole_X6_lightOf : GoodIn wsX6_hole (wsV RX6 85 RX6 yX6_lightOf wsX6_lightOf) := goodIn_app (goodIn_of _ (by decide +kernel)) ggX6_hole_X6_lightOf
set_option maxRecDepth 20000 in
theorem ggX6_hole_X6_sizeOf : GoodIn wsX6_hole wsX6_sizeOf := goodIn_r _ [40, 41, 42, 43, 9, 44, 1, 13, 16, 17, 18, 19, 20, 21, 57, 58, 59, 60, 61, 62, 63, 64, 65, 66, 67, 68, 69, 70, 71, 72, 73] (by decide +kernel) (by decide +kernel)
set_option maxRecDepth 20000 in
theorem gX6_hole_X6_sizeOf : GoodIn wsX6_hole (wsV RX6 100 RX6 yX6_sizeOf wsX6_sizeOf) := goodIn_app (goodIn_of _ (by decide +kernel)) ggX6_hole_X6_sizeOf
set_option maxRecDepth 20000 in
theorem ggX6_hole_X6_partOf : GoodIn wsX6_hole wsX6_partOf := goodIn_r _ [48, 13, 4, 33, 34, 35, 9, 36, 15, 57, 58, 59, 60, 61, 62, 63, 64, 65, 66, 67, 68, 69, 70, 71, 72, 73] (by decide +kernel) (by decide +kernel)
set_option maxRecDepth 20000 in
theorem gX6_hole_X6_partOf : GoodIn wsX6_hole (wsV RX6 91 RX6 yX6_partOf wsX6_partOf) := goodIn_app (goodIn_of _ (by decide +kernel)) ggX6_hole_X6_partOf
set_option maxRecDepth 20000 in
theorem ggX6_hole_X6_partsIn : GoodIn wsX6_hole wsX6_partsIn := goodIn_r _ [52, 11, 53, 54, 55, 9, 56, 14, 15, 13, 57, 58, 59, 60, 61, 62, 63, 64, 65, 66, 67, 68, 69, 70, 71, 72, 73] (by decide +kernel) (by decide +kernel)
set_option maxRecDepth 20000 in
theorem gX6_hole_X6_partsIn : GoodIn wsX6_hole (wsV RX6 143 RX6 yX6_partsIn wsX6_partsIn) := goodIn_app (goodIn_of _ (by decide +kernel)) ggX6_hole_X6_partsIn
theorem dX6_hole_0 : decode cX6_hole 0 = .ok (.aload_n 0, 1) := by decide +kernel
theorem dX6_hole_1 : decode cX6_hole 1 = .ok (.aload_n 0, 1) := by decide +kernel
theorem dX6_hole_2 : decode cX6_hole 2 = .ok (.getfield 7, 3) := by decide +kernel
theorem dX6_hole_5 : decode cX6_hole 5 = .ok (.invokevirtual 73, 3) := by decide +kernel
theorem dX6_hole_8 : decode cX6_hole 8 = .ok (.iload_n 1, 1) := by decide +kernel
theorem dX6_hole_9 : decode cX6_hole 9 = .ok (.iconst 0, 1) := by decide +kernel
theorem dX6_hole_10 : decode cX6_hole 10 = .ok (.aload_n 0, 1) := by decide +kernel
theorem dX6_hole_11 : decode cX6_hole 11 = .ok (.getfield 66, 3) := by decide +kernel
theorem dX6_hole_14 : decode cX6_hole 14 = .ok (.iconst 1, 1) := by decide +kernel
theorem dX6_hole_15 : decode cX6_hole 15 = .ok (.isub, 1) := by decide +kernel
theorem dX6_hole_16 : decode cX6_hole 16 = .ok (.invokestatic 48, 3) := by decide +kernel
theorem dX6_hole_19 : decode cX6_hole 19 = .ok (.ifCond .ne 6, 3) := by decide +kernel
theorem dX6_hole_22 : decode cX6_hole 22 = .ok (.ldc 122, 2) := by decide +kernel
theorem dX6_hole_24 : decode cX6_hole 24 = .ok (.ireturn, 1) := by decide +kernel
theorem dX6_hole_25 : decode cX6_hole 25 = .ok (.iload_n 2, 1) := by decide +kernel
theorem dX6_hole_26 : decode cX6_hole 26 = .ok (.tableswitch 64 0 3 #[30, 41, 47, 53], 30) := by decide +kernel
theorem dX6_hole_56 : decode cX6_hole 56 = .ok (.aload_n 0, 1) := by decide +kernel
theorem dX6_hole_57 : decode cX6_hole 57 = .ok (.iconst 0, 1) := by decide +kernel
theorem dX6_hole_58 : decode cX6_hole 58 = .ok (.aload_n 0, 1) := by decide +kernel
theorem dX6_hole_59 : decode cX6_hole 59 = .ok (.iload_n 1, 1) := by decide +kernel
theorem dX6_hole_60 : decode cX6_hole 60 = .ok (.invokevirtual 85, 3) := by decide +kernel
theorem dX6_hole_63 : decode cX6_hole 63 = .ok (.invokevirtual 100, 3) := by decide +kernel
theorem dX6_hole_66 : decode cX6_hole 66 = .ok (.ireturn, 1) := by decide +kernel
theorem dX6_hole_67 : decode cX6_hole 67 = .ok (.aload_n 0, 1) := by decide +kernel
theorem dX6_hole_68 : decode cX6_hole 68 = .ok (.iload_n 1, 1) := by decide +kernel
theorem dX6_hole_69 : decode cX6_hole 69 = .ok (.invokevirtual 91, 3) := by decide +kernel
theorem dX6_hole_72 : decode cX6_hole 72 = .ok (.ireturn, 1) := by decide +kernel
theorem dX6_hole_73 : decode cX6_hole 73 = .ok (.aload_n 0, 1) := by decide +kernel
theorem dX6_hole_74 : decode cX6_hole 74 = .ok (.iload_n 1, 1) := by decide +kernel
theorem dX6_hole_75 : decode cX6_hole 75 = .ok (.invokevirtual 143, 3) := by decide +kernel
theorem dX6_hole_78 : decode cX6_hole 78 = .ok (.ireturn, 1) := by decide +kernel
theorem dX6_hole_79 : decode cX6_hole 79 = .ok (.aload_n 0, 1) := by decide +kernel
theorem dX6_hole_80 : decode cX6_hole 80 = .ok (.getfield 25, 3) := by decide +kernel
theorem dX6_hole_83 : decode cX6_hole 83 = .ok (.aload_n 0, 1) := by decide +kernel
theorem dX6_hole_84 : decode cX6_hole 84 = .ok (.iload_n 1, 1) := by decide +kernel
theorem dX6_hole_85 : decode cX6_hole 85 = .ok (.invokevirtual 85, 3) := by decide +kernel
theorem dX6_hole_88 : decode cX6_hole 88 = .ok (.iaload, 1) := by decide +kernel
theorem dX6_hole_89 : decode cX6_hole 89 = .ok (.ireturn, 1) := by decide +kernel
theorem dX6_hole_90 : decode cX6_hole 90 = .ok (.ldc 121, 2) := by decide +kernel
theorem dX6_hole_92 : decode cX6_hole 92 = .ok (.ireturn, 1) := by decide +kernel
theorem dX6_remember_0 : decode cX6_remember 0 = .ok (.iconst 0, 1) := by decide +kernel
theorem dX6_remember_1 : decode cX6_remember 1 = .ok (.istore_n 1, 1) := by decide +kernel
theorem dX6_remember_2 : decode cX6_remember 2 = .ok (.iload_n 1, 1) := by decide +kernel
theorem dX6_remember_3 : decode cX6_remember 3 = .ok (.bipush 17, 2) := by decide +kernel
theorem dX6_remember_5 : decode cX6_remember 5 = .ok (.if_icmp .ge 29, 3) := by decide +kernel
theorem dX6_remember_8 : decode cX6_remember 8 = .ok (.aload_n 0, 1) := by decide +kernel
theorem dX6_remember_9 : decode cX6_remember 9 = .ok (.getfield 31, 3) := by decide +kernel
theorem dX6_remember_12 : decode cX6_remember 12 = .ok (.bipush 17, 2) := by decide +kernel
theorem dX6_remember_14 : decode cX6_remember 14 = .ok (.aload_n 0, 1) := by decide +kernel
theorem dX6_remember_15 : decode cX6_remember 15 = .ok (.getfield 146, 3) := by decide +kernel
theorem dX6_remember_18 : decode cX6_remember 18 = .ok (.imul, 1) := by decide +kernel
theorem dX6_remember_19 : decode cX6_remember 19 = .ok (.iload_n 1, 1) := by decide +kernel
theorem dX6_remember_20 : decode cX6_remember 20 = .ok (.iadd, 1) := by decide +kernel
theorem dX6_remember_21 : decode cX6_remember 21 = .ok (.aload_n 0, 1) := by decide +kernel
theorem dX6_remember_22 : decode cX6_remember 22 = .ok (.getfield 7, 3) := by decide +kernel
theorem dX6_remember_25 : decode cX6_remember 25 = .ok (.iload_n 1, 1) := by decide +kernel
theorem dX6_remember_26 : decode cX6_remember 26 = .ok (.iaload, 1) := by decide +kernel
theorem dX6_remember_27 : decode cX6_remember 27 = .ok (.iastore, 1) := by decide +kernel
theorem dX6_remember_28 : decode cX6_remember 28 = .ok (.iinc 1 1, 3) := by decide +kernel
theorem dX6_remember_31 : decode cX6_remember 31 = .ok (.goto (-29), 3) := by decide +kernel
theorem dX6_remember_34 : decode cX6_remember 34 = .ok (.aload_n 0, 1) := by decide +kernel
theorem dX6_remember_35 : decode cX6_remember 35 = .ok (.aload_n 0, 1) := by decide +kernel
theorem dX6_remember_36 : decode cX6_remember 36 = .ok (.getfield 146, 3) := by decide +kernel
theorem dX6_remember_39 : decode cX6_remember 39 = .ok (.iconst 1, 1) := by decide +kernel
theorem dX6_remember_40 : decode cX6_remember 40 = .ok (.iadd, 1) := by decide +kernel
theorem dX6_remember_41 : decode cX6_remember 41 = .ok (.bipush 30, 2) := by decide +kernel
theorem dX6_remember_43 : decode cX6_remember 43 = .ok (.irem, 1) := by decide +kernel
theorem dX6_remember_44 : decode cX6_remember 44 = .ok (.putfield 146, 3) := by decide +kernel
theorem dX6_remember_47 : decode cX6_remember 47 = .ok (.aload_n 0, 1) := by decide +kernel
theorem dX6_remember_48 : decode cX6_remember 48 = .ok (.dup, 1) := by decide +kernel
theorem dX6_remember_49 : decode cX6_remember 49 = .ok (.getfield 118, 3) := by decide +kernel
theorem dX6_remember_52 : decode cX6_remember 52 = .ok (.aload_n 0, 1) := by decide +kernel
theorem dX6_remember_53 : decode cX6_remember 53 = .ok (.getfield 118, 3) := by decide +kernel
theorem dX6_remember_56 : decode cX6_remember 56 = .ok (.bipush 30, 2) := by decide +kernel
theorem dX6_remember_58 : decode cX6_remember 58 = .ok (.if_icmp .ge 7, 3) := by decide +kernel
theorem dX6_remember_61 : decode cX6_remember 61 = .ok (.iconst 1, 1) := by decide +kernel
theorem dX6_remember_62 : decode cX6_remember 62 = .ok (.goto 4, 3) := by decide +kernel
theorem dX6_remember_65 : decode cX6_remember 65 = .ok (.iconst 0, 1) := by decide +kernel
theorem dX6_remember_66 : decode cX6_remember 66 = .ok (.iadd, 1) := by decide +kernel
theorem dX6_remember_67 : decode cX6_remember 67 = .ok (.putfield 118, 3) := by decide +kernel
theorem dX6_remember_70 : decode cX6_remember 70 = .ok (.return_, 1) := by decide +kernel
set_option maxRecDepth 20000 in
theorem ggX6_row_X6_in : GoodIn wsX6_row wsX6_in := goodIn_r _ [8] (by decide +kernel) (by decide +kernel)
set_option maxRecDepth 20000 in
theorem gX6_row_X6_in : GoodIn wsX6_row (va_wsS RX6 48 yX6_in wsX6_in) := goodIn_app (goodIn_of _ (by decide +kernel)) ggX6_row_X6_in
set_option maxRecDepth 20000 in
theorem ggX6_row_X6_remember : GoodIn wsX6_row wsX6_remember := goodIn_r _ [12, 13, 14, 4, 15, 45, 46, 47, 48, 49, 50, 51, 52, 53, 54, 55, 56, 57, 58, 59, 60, 61] (by decide +kernel) (by decide +kernel)
set_option maxRecDepth 20000 in
theorem gX6_row_X6_remember : GoodIn wsX6_row (wsV RX6 150 RX6 yX6_remember wsX6_remember) := goodIn_app (goodIn_of _ (by decide +kernel)) ggX6_row_X6_remember
set_option maxRecDepth 20000 in
theorem ggX6_row_X6_partsOf : GoodIn wsX6_row wsX6_partsOf := goodIn_r _ [19, 20, 21, 22, 23, 7, 24, 25, 26, 27, 28, 29, 30, 31, 32, 33, 34, 35, 36, 37, 38, 39, 40, 41, 42, 43, 44, 5, 6, 8, 45, 46, 47, 48, 49, 50, 51, 52, 53, 54, 55, 56, 57, 58, 59, 60, 61] (by decide +kernel) (by decide +kernel)
set_option maxRecDepth 20000 in
theorem gX6_row_X6_partsOf : GoodIn wsX6_row (wsV RX6 127 RX6 yX6_partsOf wsX6_partsOf) := goodIn_app (goodIn_of _ (by decide +kernel)) ggX6_row_X6_partsOf
theorem dX6_row_0 : decode cX6_row 0 = .ok (.iload_n 1, 1) := by decide +kernel
theorem dX6_row_1 : decode cX6_row 1 = .ok (.iconst 0, 1) := by decide +kernel
theorem dX6_row_2 : decode cX6_row 2 = .ok (.bipush 15, 2) := by decide +kernel
theorem dX6_row_4 : decode cX6_row 4 = .ok (.invokestatic 48, 3) := by decide +kernel
theorem dX6_row_7 : decode cX6_row 7 = .ok (.ifCond .ne 6, 3) := by decide +kernel
theorem dX6_row_10 : decode cX6_row 10 = .ok (.ldc 122, 2) := by decide +kernel
theorem dX6_row_12 : decode cX6_row 12 = .ok (.ireturn, 1) := by decide +kernel
theorem dX6_row_13 : decode cX6_row 13 = .ok (.iload_n 2, 1) := by decide +kernel
theorem dX6_row_14 : decode cX6_row 14 = .ok (.iconst 0, 1) := by decide +kernel
theorem dX6_row_15 : decode cX6_row 15 = .ok (.ldc 149, 2) := by decide +kernel
theorem dX6_row_17 : decode cX6_row 17 = .ok (.invokestatic 48, 3) := by decide +kernel
theorem dX6_row_20 : decode cX6_row 20 = .ok (.ifCond .ne 6, 3) := by decide +kernel
theorem dX6_row_23 : decode cX6_row 23 = .ok (.ldc 121, 2) := by decide +kernel
theorem dX6_row_25 : decode cX6_row 25 = .ok (.ireturn, 1) := by decide +kernel
theorem dX6_row_26 : decode cX6_row 26 = .ok (.aload_n 0, 1) := by decide +kernel
theorem dX6_row_27 : decode cX6_row 27 = .ok (.invokevirtual 150, 3) := by decide +kernel
theorem dX6_row_30 : decode cX6_row 30 = .ok (.aload_n 0, 1) := by decide +kernel
theorem dX6_row_31 : decode cX6_row 31 = .ok (.getfield 7, 3) := by decide +kernel
theorem dX6_row_34 : decode cX6_row 34 = .ok (.iload_n 1, 1) := by decide +kernel
theorem dX6_row_35 : decode cX6_row 35 = .ok (.iload_n 2, 1) := by decide +kernel
theorem dX6_row_36 : decode cX6_row 36 = .ok (.iastore, 1) := by decide +kernel
theorem dX6_row_37 : decode cX6_row 37 = .ok (.aload_n 0, 1) := by decide +kernel
theorem dX6_row_38 : decode cX6_row 38 = .ok (.aload_n 0, 1) := by decide +kernel
theorem dX6_row_39 : decode cX6_row 39 = .ok (.getfield 7, 3) := by decide +kernel
theorem dX6_row_42 : decode cX6_row 42 = .ok (.invokevirtual 127, 3) := by decide +kernel
theorem dX6_row_45 : decode cX6_row 45 = .ok (.ireturn, 1) := by decide +kernel
set_option maxRecDepth 20000 in
theorem ggX6_turns_X6_remember : GoodIn wsX6_turns wsX6_remember := goodIn_r _ [6, 7, 8, 1, 9, 10, 11, 12, 13, 14, 15, 16, 17, 18, 19, 20, 21, 22, 23, 24, 25, 26] (by decide +kernel) (by decide +kernel)
set_option maxRecDepth 20000 in
theorem gX6_turns_X6_remember : GoodIn wsX6_turns (wsV RX6 150 RX6 yX6_remember wsX6_remember) := goodIn_app (goodIn_of _ (by decide +kernel)) ggX6_turns_X6_remember
theorem dX6_turns_0 : decode cX6_turns 0 = .ok (.aload_n 0, 1) := by decide +kernel
theorem dX6_turns_1 : decode cX6_turns 1 = .ok (.invokevirtual 150, 3) := by decide +kernel
theorem dX6_turns_4 : decode cX6_turns 4 = .ok (.aload_n 0, 1) := by decide +kernel
theorem dX6_turns_5 : decode cX6_turns 5 = .ok (.getfield 7, 3) := by decide +kernel
theorem dX6_turns_8 : decode cX6_turns 8 = .ok (.iload_n 1, 1) := by decide +kernel
theorem dX6_turns_9 : decode cX6_turns 9 = .ok (.bipush 16, 2) := by decide +kernel
theorem dX6_turns_11 : decode cX6_turns 11 = .ok (.idiv, 1) := by decide +kernel
theorem dX6_turns_12 : decode cX6_turns 12 = .ok (.dup2, 1) := by decide +kernel
theorem dX6_turns_13 : decode cX6_turns 13 = .ok (.iaload, 1) := by decide +kernel
theorem dX6_turns_14 : decode cX6_turns 14 = .ok (.iconst 1, 1) := by decide +kernel
theorem dX6_turns_15 : decode cX6_turns 15 = .ok (.iload_n 1, 1) := by decide +kernel
theorem dX6_turns_16 : decode cX6_turns 16 = .ok (.bipush 16, 2) := by decide +kernel
theorem dX6_turns_18 : decode cX6_turns 18 = .ok (.irem, 1) := by decide +kernel
theorem dX6_turns_19 : decode cX6_turns 19 = .ok (.ishl, 1) := by decide +kernel
theorem dX6_turns_20 : decode cX6_turns 20 = .ok (.ixor, 1) := by decide +kernel
theorem dX6_turns_21 : decode cX6_turns 21 = .ok (.iastore, 1) := by decide +kernel
theorem dX6_turns_22 : decode cX6_turns 22 = .ok (.return_, 1) := by decide +kernel
set_option maxRecDepth 20000 in
theorem ggX6_turn_X6_isOn : GoodIn wsX6_turn wsX6_isOn := goodIn_r _ [6, 7, 8, 5, 9] (by decide +kernel) (by decide +kernel)
set_option maxRecDepth 20000 in
theorem gX6_turn_X6_isOn : GoodIn wsX6_turn (va_wsS RX6 56 yX6_isOn wsX6_isOn) := goodIn_app (goodIn_of _ (by decide +kernel)) ggX6_turn_X6_isOn
set_option maxRecDepth 20000 in
theorem ggX6_turn_X6_turns : GoodIn wsX6_turn wsX6_turns := goodIn_r _ [13, 2, 14, 15, 16, 5, 17, 18, 19, 20, 24, 25, 26, 27, 28, 29, 30, 31, 32, 33, 34, 35, 36, 37, 38, 39, 40] (by decide +kernel) (by decide +kernel)
set_option maxRecDepth 20000 in
theorem gX6_turn_X6_turns : GoodIn wsX6_turn (wsV RX6 153 RX6 yX6_turns wsX6_turns) := goodIn_app (goodIn_of _ (by decide +kernel)) ggX6_turn_X6_turns
set_option maxRecDepth 20000 in
theorem ggX6_turn_X6_has : GoodIn wsX6_turn wsX6_has := goodIn_r _ [23] (by decide +kernel) (by decide +kernel)
set_option maxRecDepth 20000 in
theorem gX6_turn_X6_has : GoodIn wsX6_turn (va_wsS RX6 44 yX6_has wsX6_has) := goodIn_app (goodIn_of _ (by decide +kernel)) ggX6_turn_X6_has
theorem dX6_turn_0 : decode cX6_turn 0 = .ok (.iload_n 1, 1) := by decide +kernel
theorem dX6_turn_1 : decode cX6_turn 1 = .ok (.iload_n 2, 1) := by decide +kernel
theorem dX6_turn_2 : decode cX6_turn 2 = .ok (.invokestatic 56, 3) := by decide +kernel
theorem dX6_turn_5 : decode cX6_turn 5 = .ok (.ifCond .ne 6, 3) := by decide +kernel
theorem dX6_turn_8 : decode cX6_turn 8 = .ok (.ldc 122, 2) := by decide +kernel
theorem dX6_turn_10 : decode cX6_turn 10 = .ok (.ireturn, 1) := by decide +kernel
theorem dX6_turn_11 : decode cX6_turn 11 = .ok (.aload_n 0, 1) := by decide +kernel
theorem dX6_turn_12 : decode cX6_turn 12 = .ok (.bipush 16, 2) := by decide +kernel
theorem dX6_turn_14 : decode cX6_turn 14 = .ok (.iload_n 1, 1) := by decide +kernel
theorem dX6_turn_15 : decode cX6_turn 15 = .ok (.imul, 1) := by decide +kernel
theorem dX6_turn_16 : decode cX6_turn 16 = .ok (.iload_n 2, 1) := by decide +kernel
theorem dX6_turn_17 : decode cX6_turn 17 = .ok (.iadd, 1) := by decide +kernel
theorem dX6_turn_18 : decode cX6_turn 18 = .ok (.invokevirtual 153, 3) := by decide +kernel
theorem dX6_turn_21 : decode cX6_turn 21 = .ok (.aload_n 0, 1) := by decide +kernel
theorem dX6_turn_22 : decode cX6_turn 22 = .ok (.getfield 7, 3) := by decide +kernel
theorem dX6_turn_25 : decode cX6_turn 25 = .ok (.iload_n 1, 1) := by decide +kernel
theorem dX6_turn_26 : decode cX6_turn 26 = .ok (.iaload, 1) := by decide +kernel
theorem dX6_turn_27 : decode cX6_turn 27 = .ok (.iload_n 2, 1) := by decide +kernel
theorem dX6_turn_28 : decode cX6_turn 28 = .ok (.invokestatic 44, 3) := by decide +kernel
theorem dX6_turn_31 : decode cX6_turn 31 = .ok (.ifCond .eq 7, 3) := by decide +kernel
theorem dX6_turn_34 : decode cX6_turn 34 = .ok (.iconst 1, 1) := by decide +kernel
theorem dX6_turn_35 : decode cX6_turn 35 = .ok (.goto 4, 3) := by decide +kernel
theorem dX6_turn_38 : decode cX6_turn 38 = .ok (.iconst 0, 1) := by decide +kernel
theorem dX6_turn_39 : decode cX6_turn 39 = .ok (.ireturn, 1) := by decide +kernel
set_option maxRecDepth 20000 in
theorem ggX6_turnsAll_X6_remember : GoodIn wsX6_turnsAll wsX6_remember := goodIn_r _ [7, 8, 9, 1, 10, 25, 26, 27, 28, 29, 30, 31, 32, 33, 34, 35, 36, 37, 38, 39, 40, 41] (by decide +kernel) (by decide +kernel)
set_option maxRecDepth 20000 in
theorem gX6_turnsAll_X6_remember : GoodIn wsX6_turnsAll (wsV RX6 150 RX6 yX6_remember wsX6_remember) := goodIn_app (goodIn_of _ (by decide +kernel)) ggX6_turnsAll_X6_remember
set_option maxRecDepth 20000 in
theorem ggX6_turnsAll_X6_copies : GoodIn wsX6_turnsAll wsX6_copies := goodIn_r _ [13] (by decide +kernel) (by decide +kernel)
set_option maxRecDepth 20000 in
theorem gX6_turnsAll_X6_copies : GoodIn wsX6_turnsAll (va_wsS RX6 123 yX6_copies wsX6_copies) := goodIn_app (goodIn_of _ (by decide +kernel)) ggX6_turnsAll_X6_copies
set_option maxRecDepth 20000 in
theorem ggX6_turnsAll_X6_isOf : GoodIn wsX6_turnsAll wsX6_isOf := goodIn_r _ [17, 1, 18, 19, 20, 6, 21, 22, 23, 24, 25, 26, 27, 28, 29, 30, 31, 32, 33, 34, 35, 36, 37, 38, 39, 40, 41] (by decide +kernel) (by decide +kernel)
set_option maxRecDepth 20000 in
theorem gX6_turnsAll_X6_isOf : GoodIn wsX6_turnsAll (wsV RX6 81 RX6 yX6_isOf wsX6_isOf) := goodIn_app (goodIn_of _ (by decide +kernel)) ggX6_turnsAll_X6_isOf
theorem dX6_turnsAll_0 : decode cX6_turnsAll 0 = .ok (.aload_n 0, 1) := by decide +kernel
theorem dX6_turnsAll_1 : decode cX6_turnsAll 1 = .ok (.invokevirtual 150, 3) := by decide +kernel
theorem dX6_turnsAll_4 : decode cX6_turnsAll 4 = .ok (.iconst 0, 1) := by decide +kernel
theorem dX6_turnsAll_5 : decode cX6_turnsAll 5 = .ok (.istore_n 3, 1) := by decide +kernel
theorem dX6_turnsAll_6 : decode cX6_turnsAll 6 = .ok (.aload_n 0, 1) := by decide +kernel
theorem dX6_turnsAll_7 : decode cX6_turnsAll 7 = .ok (.getfield 7, 3) := by decide +kernel
theorem dX6_turnsAll_10 : decode cX6_turnsAll 10 = .ok (.aload_n 0, 1) := by decide +kernel
theorem dX6_turnsAll_11 : decode cX6_turnsAll 11 = .ok (.getfield 13, 3) := by decide +kernel
theorem dX6_turnsAll_14 : decode cX6_turnsAll 14 = .ok (.invokestatic 123, 3) := by decide +kernel
theorem dX6_turnsAll_17 : decode cX6_turnsAll 17 = .ok (.iconst 0, 1) := by decide +kernel
theorem dX6_turnsAll_18 : decode cX6_turnsAll 18 = .ok (.istore 4, 2) := by decide +kernel
theorem dX6_turnsAll_20 : decode cX6_turnsAll 20 = .ok (.iload 4, 2) := by decide +kernel
theorem dX6_turnsAll_22 : decode cX6_turnsAll 22 = .ok (.sipush 256, 3) := by decide +kernel
theorem dX6_turnsAll_25 : decode cX6_turnsAll 25 = .ok (.if_icmp .ge 43, 3) := by decide +kernel
theorem dX6_turnsAll_28 : decode cX6_turnsAll 28 = .ok (.aload_n 0, 1) := by decide +kernel
theorem dX6_turnsAll_29 : decode cX6_turnsAll 29 = .ok (.iload 4, 2) := by decide +kernel
theorem dX6_turnsAll_31 : decode cX6_turnsAll 31 = .ok (.iload_n 1, 1) := by decide +kernel
theorem dX6_turnsAll_32 : decode cX6_turnsAll 32 = .ok (.iload_n 2, 1) := by decide +kernel
theorem dX6_turnsAll_33 : decode cX6_turnsAll 33 = .ok (.invokevirtual 81, 3) := by decide +kernel
theorem dX6_turnsAll_36 : decode cX6_turnsAll 36 = .ok (.ifCond .eq 26, 3) := by decide +kernel
theorem dX6_turnsAll_39 : decode cX6_turnsAll 39 = .ok (.aload_n 0, 1) := by decide +kernel
theorem dX6_turnsAll_40 : decode cX6_turnsAll 40 = .ok (.getfield 13, 3) := by decide +kernel
theorem dX6_turnsAll_43 : decode cX6_turnsAll 43 = .ok (.iload 4, 2) := by decide +kernel
theorem dX6_turnsAll_45 : decode cX6_turnsAll 45 = .ok (.bipush 16, 2) := by decide +kernel
theorem dX6_turnsAll_47 : decode cX6_turnsAll 47 = .ok (.idiv, 1) := by decide +kernel
theorem dX6_turnsAll_48 : decode cX6_turnsAll 48 = .ok (.dup2, 1) := by decide +kernel
theorem dX6_turnsAll_49 : decode cX6_turnsAll 49 = .ok (.iaload, 1) := by decide +kernel
theorem dX6_turnsAll_50 : decode cX6_turnsAll 50 = .ok (.iconst 1, 1) := by decide +kernel
theorem dX6_turnsAll_51 : decode cX6_turnsAll 51 = .ok (.iload 4, 2) := by decide +kernel
theorem dX6_turnsAll_53 : decode cX6_turnsAll 53 = .ok (.bipush 16, 2) := by decide +kernel
theorem dX6_turnsAll_55 : decode cX6_turnsAll 55 = .ok (.irem, 1) := by decide +kernel
theorem dX6_turnsAll_56 : decode cX6_turnsAll 56 = .ok (.ishl, 1) := by decide +kernel
theorem dX6_turnsAll_57 : decode cX6_turnsAll 57 = .ok (.ixor, 1) := by decide +kernel
theorem dX6_turnsAll_58 : decode cX6_turnsAll 58 = .ok (.iastore, 1) := by decide +kernel
theorem dX6_turnsAll_59 : decode cX6_turnsAll 59 = .ok (.iinc 3 1, 3) := by decide +kernel
theorem dX6_turnsAll_62 : decode cX6_turnsAll 62 = .ok (.iinc 4 1, 3) := by decide +kernel
theorem dX6_turnsAll_65 : decode cX6_turnsAll 65 = .ok (.goto (-45), 3) := by decide +kernel
theorem dX6_turnsAll_68 : decode cX6_turnsAll 68 = .ok (.aload_n 0, 1) := by decide +kernel
theorem dX6_turnsAll_69 : decode cX6_turnsAll 69 = .ok (.getfield 13, 3) := by decide +kernel
theorem dX6_turnsAll_72 : decode cX6_turnsAll 72 = .ok (.aload_n 0, 1) := by decide +kernel
theorem dX6_turnsAll_73 : decode cX6_turnsAll 73 = .ok (.getfield 7, 3) := by decide +kernel
theorem dX6_turnsAll_76 : decode cX6_turnsAll 76 = .ok (.invokestatic 123, 3) := by decide +kernel
theorem dX6_turnsAll_79 : decode cX6_turnsAll 79 = .ok (.iload_n 3, 1) := by decide +kernel
theorem dX6_turnsAll_80 : decode cX6_turnsAll 80 = .ok (.ireturn, 1) := by decide +kernel
set_option maxRecDepth 20000 in
theorem ggX6_wipe_X6_partsOf : GoodIn wsX6_wipe wsX6_partsOf := goodIn_r _ [7, 8, 9, 10, 11, 6, 12, 13, 14, 15, 16, 17, 18, 19, 20, 21, 22, 23, 24, 25, 26, 27, 28, 29, 30, 31, 32, 33, 34, 35, 55, 56, 57, 58, 59, 60, 61, 62, 63, 64, 65, 66, 67, 68, 69, 70, 71] (by decide +kernel) (by decide +kernel)
set_option maxRecDepth 20000 in
theorem gX6_wipe_X6_partsOf : GoodIn wsX6_wipe (wsV RX6 127 RX6 yX6_partsOf wsX6_partsOf) := goodIn_app (goodIn_of _ (by decide +kernel)) ggX6_wipe_X6_partsOf
set_option maxRecDepth 20000 in
theorem ggX6_wipe_X6_in : GoodIn wsX6_wipe wsX6_in := goodIn_r _ [35] (by decide +kernel) (by decide +kernel)
set_option maxRecDepth 20000 in
theorem gX6_wipe_X6_in : GoodIn wsX6_wipe (va_wsS RX6 48 yX6_in wsX6_in) := goodIn_app (goodIn_of _ (by decide +kernel)) ggX6_wipe_X6_in
set_option maxRecDepth 20000 in
theorem ggX6_wipe_X6_turnsAll : GoodIn wsX6_wipe wsX6_turnsAll := goodIn_r _ [39, 1, 40, 41, 42, 43, 6, 44, 45, 46, 47, 48, 49, 50, 51, 52, 53, 54, 15, 19, 20, 21, 22, 23, 24, 55, 56, 57, 58, 59, 60, 61, 62, 63, 64, 65, 66, 67, 68, 69, 70, 71] (by decide +kernel) (by decide +kernel)
set_option maxRecDepth 20000 in
theorem gX6_wipe_X6_turnsAll : GoodIn wsX6_wipe (wsV RX6 157 RX6 yX6_turnsAll wsX6_turnsAll) := goodIn_app (goodIn_of _ (by decide +kernel)) ggX6_wipe_X6_turnsAll
theorem dX6_wipe_0 : decode cX6_wipe 0 = .ok (.iload_n 1, 1) := by decide +kernel
theorem dX6_wipe_1 : decode cX6_wipe 1 = .ok (.iconst 0, 1) := by decide +kernel
theorem dX6_wipe_2 : decode cX6_wipe 2 = .ok (.aload_n 0, 1) := by decide +kernel
theorem dX6_wipe_3 : decode cX6_wipe 3 = .ok (.aload_n 0, 1) := by decide +kernel
theorem dX6_wipe_4 : decode cX6_wipe 4 = .ok (.getfield 7, 3) := by decide +kernel
theorem dX6_wipe_7 : decode cX6_wipe 7 = .ok (.invokevirtual 127, 3) := by decide +kernel
theorem dX6_wipe_10 : decode cX6_wipe 10 = .ok (.iconst 1, 1) := by decide +kernel
theorem dX6_wipe_11 : decode cX6_wipe 11 = .ok (.isub, 1) := by decide +kernel
theorem dX6_wipe_12 : decode cX6_wipe 12 = .ok (.invokestatic 48, 3) := by decide +kernel
theorem dX6_wipe_15 : decode cX6_wipe 15 = .ok (.ifCond .eq 12, 3) := by decide +kernel
theorem dX6_wipe_18 : decode cX6_wipe 18 = .ok (.aload_n 0, 1) := by decide +kernel
theorem dX6_wipe_19 : decode cX6_wipe 19 = .ok (.iconst 1, 1) := by decide +kernel
theorem dX6_wipe_20 : decode cX6_wipe 20 = .ok (.iload_n 1, 1) := by decide +kernel
theorem dX6_wipe_21 : decode cX6_wipe 21 = .ok (.invokevirtual 157, 3) := by decide +kernel
theorem dX6_wipe_24 : decode cX6_wipe 24 = .ok (.goto 5, 3) := by decide +kernel
theorem dX6_wipe_27 : decode cX6_wipe 27 = .ok (.ldc 122, 2) := by decide +kernel
theorem dX6_wipe_29 : decode cX6_wipe 29 = .ok (.ireturn, 1) := by decide +kernel
set_option maxRecDepth 20000 in
theorem ggX6_fill_X6_parts : GoodIn wsX6_fill wsX6_parts := goodIn_r _ [8, 9, 10, 2, 11, 12, 13, 14, 15, 16, 7, 17, 18, 19, 20, 21, 22, 23, 24, 25, 26, 27, 28, 29, 30, 31, 55, 56, 57, 58, 59, 60, 61, 62, 63, 64, 65, 66, 67, 68, 69, 70, 71] (by decide +kernel) (by decide +kernel)
set_option maxRecDepth 20000 in
theorem gX6_fill_X6_parts : GoodIn wsX6_fill (wsV RX6 73 RX6 yX6_parts wsX6_parts) := goodIn_app (goodIn_of _ (by decide +kernel)) ggX6_fill_X6_parts
set_option maxRecDepth 20000 in
theorem ggX6_fill_X6_in : GoodIn wsX6_fill wsX6_in := goodIn_r _ [31] (by decide +kernel) (by decide +kernel)
set_option maxRecDepth 20000 in
theorem gX6_fill_X6_in : GoodIn wsX6_fill (va_wsS RX6 48 yX6_in wsX6_in) := goodIn_app (goodIn_of _ (by decide +kernel)) ggX6_fill_X6_in
set_option maxRecDepth 20000 in
theorem ggX6_fill_X6_lightOf : GoodIn wsX6_fill wsX6_lightOf := goodIn_r _ [35, 14, 55, 56, 57, 58, 59, 60, 61, 62, 63, 64, 65, 66, 67, 68, 69, 70, 71] (by decide +kernel) (by decide +kernel)
set_option maxRecDepth 20000 in
theorem gX6_fill_X6_lightOf : GoodIn wsX6_fill (wsV RX6 85 RX6 yX6_lightOf wsX6_lightOf) := goodIn_app (goodIn_of _ (by decide +kernel)) ggX6_fill_X6_lightOf
set_option maxRecDepth 20000 in
theorem ggX6_fill_X6_turnsAll : GoodIn wsX6_fill wsX6_turnsAll := goodIn_r _ [39, 1, 40, 41, 42, 43, 7, 44, 45, 46, 47, 48, 49, 50, 51, 52, 53, 54, 11, 15, 16, 17, 18, 19, 20, 55, 56, 57, 58, 59, 60, 61, 62, 63, 64, 65, 66, 67, 68, 69, 70, 71] (by decide +kernel) (by decide +kernel)
set_option maxRecDepth 20000 in
theorem gX6_fill_X6_turnsAll : GoodIn wsX6_fill (wsV RX6 157 RX6 yX6_turnsAll wsX6_turnsAll) := goodIn_app (goodIn_of _ (by decide +kernel)) ggX6_fill_X6_turnsAll
theorem dX6_fill_0 : decode cX6_fill 0 = .ok (.aload_n 0, 1) := by decide +kernel
theorem dX6_fill_1 : decode cX6_fill 1 = .ok (.aload_n 0, 1) := by decide +kernel
theorem dX6_fill_2 : decode cX6_fill 2 = .ok (.getfield 7, 3) := by decide +kernel
theorem dX6_fill_5 : decode cX6_fill 5 = .ok (.invokevirtual 73, 3) := by decide +kernel
theorem dX6_fill_8 : decode cX6_fill 8 = .ok (.iload_n 1, 1) := by decide +kernel
theorem dX6_fill_9 : decode cX6_fill 9 = .ok (.iconst 0, 1) := by decide +kernel
theorem dX6_fill_10 : decode cX6_fill 10 = .ok (.aload_n 0, 1) := by decide +kernel
theorem dX6_fill_11 : decode cX6_fill 11 = .ok (.getfield 66, 3) := by decide +kernel
theorem dX6_fill_14 : decode cX6_fill 14 = .ok (.iconst 1, 1) := by decide +kernel
theorem dX6_fill_15 : decode cX6_fill 15 = .ok (.isub, 1) := by decide +kernel
theorem dX6_fill_16 : decode cX6_fill 16 = .ok (.invokestatic 48, 3) := by decide +kernel
theorem dX6_fill_19 : decode cX6_fill 19 = .ok (.ifCond .eq 16, 3) := by decide +kernel
theorem dX6_fill_22 : decode cX6_fill 22 = .ok (.aload_n 0, 1) := by decide +kernel
theorem dX6_fill_23 : decode cX6_fill 23 = .ok (.iconst 0, 1) := by decide +kernel
theorem dX6_fill_24 : decode cX6_fill 24 = .ok (.aload_n 0, 1) := by decide +kernel
theorem dX6_fill_25 : decode cX6_fill 25 = .ok (.iload_n 1, 1) := by decide +kernel
theorem dX6_fill_26 : decode cX6_fill 26 = .ok (.invokevirtual 85, 3) := by decide +kernel
theorem dX6_fill_29 : decode cX6_fill 29 = .ok (.invokevirtual 157, 3) := by decide +kernel
theorem dX6_fill_32 : decode cX6_fill 32 = .ok (.goto 5, 3) := by decide +kernel
theorem dX6_fill_35 : decode cX6_fill 35 = .ok (.ldc 122, 2) := by decide +kernel
theorem dX6_fill_37 : decode cX6_fill 37 = .ok (.ireturn, 1) := by decide +kernel
set_option maxRecDepth 20000 in
theorem ggX6_isNear_X6_isOn : GoodIn wsX6_isNear wsX6_isOn := goodIn_r _ [5, 6, 7, 4, 8] (by decide +kernel) (by decide +kernel)
set_option maxRecDepth 20000 in
theorem gX6_isNear_X6_isOn : GoodIn wsX6_isNear (va_wsS RX6 56 yX6_isOn wsX6_isOn) := goodIn_app (goodIn_of _ (by decide +kernel)) ggX6_isNear_X6_isOn
set_option maxRecDepth 20000 in
theorem ggX6_isNear_X6_has : GoodIn wsX6_isNear wsX6_has := goodIn_r _ [11] (by decide +kernel) (by decide +kernel)
set_option maxRecDepth 20000 in
theorem gX6_isNear_X6_has : GoodIn wsX6_isNear (va_wsS RX6 44 yX6_has wsX6_has) := goodIn_app (goodIn_of _ (by decide +kernel)) ggX6_isNear_X6_has
theorem dX6_isNear_0 : decode cX6_isNear 0 = .ok (.iconst 0, 1) := by decide +kernel
theorem dX6_isNear_1 : decode cX6_isNear 1 = .ok (.istore_n 3, 1) := by decide +kernel
theorem dX6_isNear_2 : decode cX6_isNear 2 = .ok (.iconst 0, 1) := by decide +kernel
theorem dX6_isNear_3 : decode cX6_isNear 3 = .ok (.istore 4, 2) := by decide +kernel
theorem dX6_isNear_5 : decode cX6_isNear 5 = .ok (.iload 4, 2) := by decide +kernel
theorem dX6_isNear_7 : decode cX6_isNear 7 = .ok (.bipush 9, 2) := by decide +kernel
theorem dX6_isNear_9 : decode cX6_isNear 9 = .ok (.if_icmp .ge 116, 3) := by decide +kernel
theorem dX6_isNear_12 : decode cX6_isNear 12 = .ok (.iload_n 1, 1) := by decide +kernel
theorem dX6_isNear_13 : decode cX6_isNear 13 = .ok (.bipush 16, 2) := by decide +kernel
theorem dX6_isNear_15 : decode cX6_isNear 15 = .ok (.idiv, 1) := by decide +kernel
theorem dX6_isNear_16 : decode cX6_isNear 16 = .ok (.iload 4, 2) := by decide +kernel
theorem dX6_isNear_18 : decode cX6_isNear 18 = .ok (.iconst 3, 1) := by decide +kernel
theorem dX6_isNear_19 : decode cX6_isNear 19 = .ok (.idiv, 1) := by decide +kernel
theorem dX6_isNear_20 : decode cX6_isNear 20 = .ok (.iadd, 1) := by decide +kernel
theorem dX6_isNear_21 : decode cX6_isNear 21 = .ok (.iconst 1, 1) := by decide +kernel
theorem dX6_isNear_22 : decode cX6_isNear 22 = .ok (.isub, 1) := by decide +kernel
theorem dX6_isNear_23 : decode cX6_isNear 23 = .ok (.istore 5, 2) := by decide +kernel
theorem dX6_isNear_25 : decode cX6_isNear 25 = .ok (.iload_n 1, 1) := by decide +kernel
theorem dX6_isNear_26 : decode cX6_isNear 26 = .ok (.bipush 16, 2) := by decide +kernel
theorem dX6_isNear_28 : decode cX6_isNear 28 = .ok (.irem, 1) := by decide +kernel
theorem dX6_isNear_29 : decode cX6_isNear 29 = .ok (.iload 4, 2) := by decide +kernel
theorem dX6_isNear_31 : decode cX6_isNear 31 = .ok (.iconst 3, 1) := by decide +kernel
theorem dX6_isNear_32 : decode cX6_isNear 32 = .ok (.irem, 1) := by decide +kernel
theorem dX6_isNear_33 : decode cX6_isNear 33 = .ok (.iadd, 1) := by decide +kernel
theorem dX6_isNear_34 : decode cX6_isNear 34 = .ok (.iconst 1, 1) := by decide +kernel
theorem dX6_isNear_35 : decode cX6_isNear 35 = .ok (.isub, 1) := by decide +kernel
theorem dX6_isNear_36 : decode cX6_isNear 36 = .ok (.istore 6, 2) := by decide +kernel
theorem dX6_isNear_38 : decode cX6_isNear 38 = .ok (.iload 4, 2) := by decide +kernel
theorem dX6_isNear_40 : decode cX6_isNear 40 = .ok (.iconst 4, 1) := by decide +kernel
theorem dX6_isNear_41 : decode cX6_isNear 41 = .ok (.if_icmp .eq 27, 3) := by decide +kernel
theorem dX6_isNear_44 : decode cX6_isNear 44 = .ok (.aload_n 0, 1) := by decide +kernel
theorem dX6_isNear_45 : decode cX6_isNear 45 = .ok (.getfield 7, 3) := by decide +kernel
theorem dX6_isNear_48 : decode cX6_isNear 48 = .ok (.bipush 16, 2) := by decide +kernel
theorem dX6_isNear_50 : decode cX6_isNear 50 = .ok (.iaload, 1) := by decide +kernel
theorem dX6_isNear_51 : decode cX6_isNear 51 = .ok (.bipush 8, 2) := by decide +kernel
theorem dX6_isNear_53 : decode cX6_isNear 53 = .ok (.if_icmp .eq 11, 3) := by decide +kernel
theorem dX6_isNear_56 : decode cX6_isNear 56 = .ok (.iload 4, 2) := by decide +kernel
theorem dX6_isNear_58 : decode cX6_isNear 58 = .ok (.iconst 2, 1) := by decide +kernel
theorem dX6_isNear_59 : decode cX6_isNear 59 = .ok (.irem, 1) := by decide +kernel
theorem dX6_isNear_60 : decode cX6_isNear 60 = .ok (.iconst 1, 1) := by decide +kernel
theorem dX6_isNear_61 : decode cX6_isNear 61 = .ok (.if_icmp .ne 7, 3) := by decide +kernel
theorem dX6_isNear_64 : decode cX6_isNear 64 = .ok (.iconst 1, 1) := by decide +kernel
theorem dX6_isNear_65 : decode cX6_isNear 65 = .ok (.goto 4, 3) := by decide +kernel
theorem dX6_isNear_68 : decode cX6_isNear 68 = .ok (.iconst 0, 1) := by decide +kernel
theorem dX6_isNear_69 : decode cX6_isNear 69 = .ok (.istore 7, 2) := by decide +kernel
end
section
theorem dX6_isNear_71 : decode cX6_isNear 71 = .ok (.iload_n 3, 1) := by decide +kernel
theorem dX6_isNear_72 : decode cX6_isNear 72 = .ok (.ifCond .ne 41, 3) := by decide +kernel
theorem dX6_isNear_75 : decode cX6_isNear 75 = .ok (.iload 7, 2) := by decide +kernel
theorem dX6_isNear_77 : decode cX6_isNear 77 = .ok (.ifCond .eq 40, 3) := by decide +kernel
theorem dX6_isNear_80 : decode cX6_isNear 80 = .ok (.iload 5, 2) := by decide +kernel
theorem dX6_isNear_82 : decode cX6_isNear 82 = .ok (.iload 6, 2) := by decide +kernel
theorem dX6_isNear_84 : decode cX6_isNear 84 = .ok (.invokestatic 56, 3) := by decide +kernel
theorem dX6_isNear_87 : decode cX6_isNear 87 = .ok (.ifCond .eq 22, 3) := by decide +kernel
theorem dX6_isNear_90 : decode cX6_isNear 90 = .ok (.aload_n 0, 1) := by decide +kernel
theorem dX6_isNear_91 : decode cX6_isNear 91 = .ok (.getfield 7, 3) := by decide +kernel
theorem dX6_isNear_94 : decode cX6_isNear 94 = .ok (.iload 5, 2) := by decide +kernel
theorem dX6_isNear_96 : decode cX6_isNear 96 = .ok (.iaload, 1) := by decide +kernel
theorem dX6_isNear_97 : decode cX6_isNear 97 = .ok (.iload 6, 2) := by decide +kernel
theorem dX6_isNear_99 : decode cX6_isNear 99 = .ok (.invokestatic 44, 3) := by decide +kernel
theorem dX6_isNear_102 : decode cX6_isNear 102 = .ok (.iload_n 2, 1) := by decide +kernel
theorem dX6_isNear_103 : decode cX6_isNear 103 = .ok (.if_icmp .eq 14, 3) := by decide +kernel
theorem dX6_isNear_106 : decode cX6_isNear 106 = .ok (.goto 7, 3) := by decide +kernel
theorem dX6_isNear_109 : decode cX6_isNear 109 = .ok (.iload_n 2, 1) := by decide +kernel
theorem dX6_isNear_110 : decode cX6_isNear 110 = .ok (.ifCond .eq 7, 3) := by decide +kernel
theorem dX6_isNear_113 : decode cX6_isNear 113 = .ok (.iconst 1, 1) := by decide +kernel
theorem dX6_isNear_114 : decode cX6_isNear 114 = .ok (.goto 4, 3) := by decide +kernel
theorem dX6_isNear_117 : decode cX6_isNear 117 = .ok (.iconst 0, 1) := by decide +kernel
theorem dX6_isNear_118 : decode cX6_isNear 118 = .ok (.istore_n 3, 1) := by decide +kernel
theorem dX6_isNear_119 : decode cX6_isNear 119 = .ok (.iinc 4 1, 3) := by decide +kernel
theorem dX6_isNear_122 : decode cX6_isNear 122 = .ok (.goto (-117), 3) := by decide +kernel
theorem dX6_isNear_125 : decode cX6_isNear 125 = .ok (.iload_n 3, 1) := by decide +kernel
theorem dX6_isNear_126 : decode cX6_isNear 126 = .ok (.ireturn, 1) := by decide +kernel
set_option maxRecDepth 20000 in
theorem ggX6_turnsNear_X6_remember : GoodIn wsX6_turnsNear wsX6_remember := goodIn_r _ [7, 8, 9, 1, 10, 30, 31, 32, 33, 34, 35, 36, 37, 38, 39, 40, 41, 42, 43, 44, 45, 46] (by decide +kernel) (by decide +kernel)
set_option maxRecDepth 20000 in
theorem gX6_turnsNear_X6_remember : GoodIn wsX6_turnsNear (wsV RX6 150 RX6 yX6_remember wsX6_remember) := goodIn_app (goodIn_of _ (by decide +kernel)) ggX6_turnsNear_X6_remember
set_option maxRecDepth 20000 in
theorem ggX6_turnsNear_X6_copies : GoodIn wsX6_turnsNear wsX6_copies := goodIn_r _ [13] (by decide +kernel) (by decide +kernel)
set_option maxRecDepth 20000 in
theorem gX6_turnsNear_X6_copies : GoodIn wsX6_turnsNear (va_wsS RX6 123 yX6_copies wsX6_copies) := goodIn_app (goodIn_of _ (by decide +kernel)) ggX6_turnsNear_X6_copies
set_option maxRecDepth 20000 in
theorem ggX6_turnsNear_X6_isDark : GoodIn wsX6_turnsNear wsX6_isDark := goodIn_r _ [16, 17, 18, 6, 19] (by decide +kernel) (by decide +kernel)
set_option maxRecDepth 20000 in
theorem gX6_turnsNear_X6_isDark : GoodIn wsX6_turnsNear (va_wsS RX6 52 yX6_isDark wsX6_isDark) := goodIn_app (goodIn_of _ (by decide +kernel)) ggX6_turnsNear_X6_isDark
set_option maxRecDepth 20000 in
theorem ggX6_turnsNear_X6_isNear : GoodIn wsX6_turnsNear wsX6_isNear := goodIn_r _ [23, 1, 24, 25, 6, 26, 27, 28, 29, 17, 18, 19, 30, 31, 32, 33, 34, 35, 36, 37, 38, 39, 40, 41, 42, 43, 44, 45, 46] (by decide +kernel) (by decide +kernel)
set_option maxRecDepth 20000 in
theorem gX6_turnsNear_X6_isNear : GoodIn wsX6_turnsNear (wsV RX6 160 RX6 yX6_isNear wsX6_isNear) := goodIn_app (goodIn_of _ (by decide +kernel)) ggX6_turnsNear_X6_isNear
theorem dX6_turnsNear_0 : decode cX6_turnsNear 0 = .ok (.aload_n 0, 1) := by decide +kernel
theorem dX6_turnsNear_1 : decode cX6_turnsNear 1 = .ok (.invokevirtual 150, 3) := by decide +kernel
theorem dX6_turnsNear_4 : decode cX6_turnsNear 4 = .ok (.iconst 0, 1) := by decide +kernel
theorem dX6_turnsNear_5 : decode cX6_turnsNear 5 = .ok (.istore_n 2, 1) := by decide +kernel
theorem dX6_turnsNear_6 : decode cX6_turnsNear 6 = .ok (.aload_n 0, 1) := by decide +kernel
theorem dX6_turnsNear_7 : decode cX6_turnsNear 7 = .ok (.getfield 7, 3) := by decide +kernel
theorem dX6_turnsNear_10 : decode cX6_turnsNear 10 = .ok (.aload_n 0, 1) := by decide +kernel
theorem dX6_turnsNear_11 : decode cX6_turnsNear 11 = .ok (.getfield 13, 3) := by decide +kernel
theorem dX6_turnsNear_14 : decode cX6_turnsNear 14 = .ok (.invokestatic 123, 3) := by decide +kernel
theorem dX6_turnsNear_17 : decode cX6_turnsNear 17 = .ok (.iconst 0, 1) := by decide +kernel
theorem dX6_turnsNear_18 : decode cX6_turnsNear 18 = .ok (.istore_n 3, 1) := by decide +kernel
theorem dX6_turnsNear_19 : decode cX6_turnsNear 19 = .ok (.iload_n 3, 1) := by decide +kernel
theorem dX6_turnsNear_20 : decode cX6_turnsNear 20 = .ok (.sipush 256, 3) := by decide +kernel
theorem dX6_turnsNear_23 : decode cX6_turnsNear 23 = .ok (.if_icmp .ge 51, 3) := by decide +kernel
theorem dX6_turnsNear_26 : decode cX6_turnsNear 26 = .ok (.aload_n 0, 1) := by decide +kernel
theorem dX6_turnsNear_27 : decode cX6_turnsNear 27 = .ok (.getfield 7, 3) := by decide +kernel
theorem dX6_turnsNear_30 : decode cX6_turnsNear 30 = .ok (.iload_n 3, 1) := by decide +kernel
theorem dX6_turnsNear_31 : decode cX6_turnsNear 31 = .ok (.invokestatic 52, 3) := by decide +kernel
theorem dX6_turnsNear_34 : decode cX6_turnsNear 34 = .ok (.iload_n 1, 1) := by decide +kernel
theorem dX6_turnsNear_35 : decode cX6_turnsNear 35 = .ok (.if_icmp .ne 33, 3) := by decide +kernel
theorem dX6_turnsNear_38 : decode cX6_turnsNear 38 = .ok (.aload_n 0, 1) := by decide +kernel
theorem dX6_turnsNear_39 : decode cX6_turnsNear 39 = .ok (.iload_n 3, 1) := by decide +kernel
theorem dX6_turnsNear_40 : decode cX6_turnsNear 40 = .ok (.iload_n 1, 1) := by decide +kernel
theorem dX6_turnsNear_41 : decode cX6_turnsNear 41 = .ok (.invokevirtual 160, 3) := by decide +kernel
theorem dX6_turnsNear_44 : decode cX6_turnsNear 44 = .ok (.ifCond .eq 24, 3) := by decide +kernel
theorem dX6_turnsNear_47 : decode cX6_turnsNear 47 = .ok (.aload_n 0, 1) := by decide +kernel
theorem dX6_turnsNear_48 : decode cX6_turnsNear 48 = .ok (.getfield 13, 3) := by decide +kernel
theorem dX6_turnsNear_51 : decode cX6_turnsNear 51 = .ok (.iload_n 3, 1) := by decide +kernel
theorem dX6_turnsNear_52 : decode cX6_turnsNear 52 = .ok (.bipush 16, 2) := by decide +kernel
theorem dX6_turnsNear_54 : decode cX6_turnsNear 54 = .ok (.idiv, 1) := by decide +kernel
theorem dX6_turnsNear_55 : decode cX6_turnsNear 55 = .ok (.dup2, 1) := by decide +kernel
theorem dX6_turnsNear_56 : decode cX6_turnsNear 56 = .ok (.iaload, 1) := by decide +kernel
theorem dX6_turnsNear_57 : decode cX6_turnsNear 57 = .ok (.iconst 1, 1) := by decide +kernel
theorem dX6_turnsNear_58 : decode cX6_turnsNear 58 = .ok (.iload_n 3, 1) := by decide +kernel
theorem dX6_turnsNear_59 : decode cX6_turnsNear 59 = .ok (.bipush 16, 2) := by decide +kernel
theorem dX6_turnsNear_61 : decode cX6_turnsNear 61 = .ok (.irem, 1) := by decide +kernel
theorem dX6_turnsNear_62 : decode cX6_turnsNear 62 = .ok (.ishl, 1) := by decide +kernel
theorem dX6_turnsNear_63 : decode cX6_turnsNear 63 = .ok (.ixor, 1) := by decide +kernel
theorem dX6_turnsNear_64 : decode cX6_turnsNear 64 = .ok (.iastore, 1) := by decide +kernel
theorem dX6_turnsNear_65 : decode cX6_turnsNear 65 = .ok (.iinc 2 1, 3) := by decide +kernel
theorem dX6_turnsNear_68 : decode cX6_turnsNear 68 = .ok (.iinc 3 1, 3) := by decide +kernel
theorem dX6_turnsNear_71 : decode cX6_turnsNear 71 = .ok (.goto (-52), 3) := by decide +kernel
theorem dX6_turnsNear_74 : decode cX6_turnsNear 74 = .ok (.aload_n 0, 1) := by decide +kernel
theorem dX6_turnsNear_75 : decode cX6_turnsNear 75 = .ok (.getfield 13, 3) := by decide +kernel
theorem dX6_turnsNear_78 : decode cX6_turnsNear 78 = .ok (.aload_n 0, 1) := by decide +kernel
theorem dX6_turnsNear_79 : decode cX6_turnsNear 79 = .ok (.getfield 7, 3) := by decide +kernel
theorem dX6_turnsNear_82 : decode cX6_turnsNear 82 = .ok (.invokestatic 123, 3) := by decide +kernel
theorem dX6_turnsNear_85 : decode cX6_turnsNear 85 = .ok (.iload_n 2, 1) := by decide +kernel
theorem dX6_turnsNear_86 : decode cX6_turnsNear 86 = .ok (.ireturn, 1) := by decide +kernel
set_option maxRecDepth 20000 in
theorem ggX6_grow_X6_turnsNear : GoodIn wsX6_grow wsX6_turnsNear := goodIn_r _ [5, 6, 7, 8, 9, 10, 4, 11, 12, 13, 14, 15, 16, 17, 18, 19, 20, 21, 22, 23, 24, 25, 26, 27, 28, 29, 30, 31, 32, 33, 34, 35, 36, 37, 38, 39, 40, 41, 42, 43, 44, 45, 46, 47, 48, 49, 50] (by decide +kernel) (by decide +kernel)
set_option maxRecDepth 20000 in
theorem gX6_grow_X6_turnsNear : GoodIn wsX6_grow (wsV RX6 164 RX6 yX6_turnsNear wsX6_turnsNear) := goodIn_app (goodIn_of _ (by decide +kernel)) ggX6_grow_X6_turnsNear
theorem dX6_grow_0 : decode cX6_grow 0 = .ok (.aload_n 0, 1) := by decide +kernel
theorem dX6_grow_1 : decode cX6_grow 1 = .ok (.iconst 0, 1) := by decide +kernel
theorem dX6_grow_2 : decode cX6_grow 2 = .ok (.invokevirtual 164, 3) := by decide +kernel
theorem dX6_grow_5 : decode cX6_grow 5 = .ok (.ireturn, 1) := by decide +kernel
set_option maxRecDepth 20000 in
theorem ggX6_shrink_X6_turnsNear : GoodIn wsX6_shrink wsX6_turnsNear := goodIn_r _ [5, 6, 7, 8, 9, 10, 4, 11, 12, 13, 14, 15, 16, 17, 18, 19, 20, 21, 22, 23, 24, 25, 26, 27, 28, 29, 30, 31, 32, 33, 34, 35, 36, 37, 38, 39, 40, 41, 42, 43, 44, 45, 46, 47, 48, 49, 50] (by decide +kernel) (by decide +kernel)
set_option maxRecDepth 20000 in
theorem gX6_shrink_X6_turnsNear : GoodIn wsX6_shrink (wsV RX6 164 RX6 yX6_turnsNear wsX6_turnsNear) := goodIn_app (goodIn_of _ (by decide +kernel)) ggX6_shrink_X6_turnsNear
theorem dX6_shrink_0 : decode cX6_shrink 0 = .ok (.aload_n 0, 1) := by decide +kernel
theorem dX6_shrink_1 : decode cX6_shrink 1 = .ok (.iconst 1, 1) := by decide +kernel
theorem dX6_shrink_2 : decode cX6_shrink 2 = .ok (.invokevirtual 164, 3) := by decide +kernel
theorem dX6_shrink_5 : decode cX6_shrink 5 = .ok (.ireturn, 1) := by decide +kernel
set_option maxRecDepth 20000 in
theorem ggX6_move_X6_in : GoodIn wsX6_move wsX6_in := goodIn_r _ [8] (by decide +kernel) (by decide +kernel)
set_option maxRecDepth 20000 in
theorem gX6_move_X6_in : GoodIn wsX6_move (va_wsS RX6 48 yX6_in wsX6_in) := goodIn_app (goodIn_of _ (by decide +kernel)) ggX6_move_X6_in
set_option maxRecDepth 20000 in
theorem ggX6_move_X6_remember : GoodIn wsX6_move wsX6_remember := goodIn_r _ [12, 13, 14, 2, 15, 26, 27, 28, 29, 30, 31, 32, 33, 34, 35, 36, 37, 38, 39, 40, 41, 42] (by decide +kernel) (by decide +kernel)
set_option maxRecDepth 20000 in
theorem gX6_move_X6_remember : GoodIn wsX6_move (wsV RX6 150 RX6 yX6_remember wsX6_remember) := goodIn_app (goodIn_of _ (by decide +kernel)) ggX6_move_X6_remember
set_option maxRecDepth 20000 in
theorem ggX6_move_X6_copies : GoodIn wsX6_move wsX6_copies := goodIn_r _ [18] (by decide +kernel) (by decide +kernel)
set_option maxRecDepth 20000 in
theorem gX6_move_X6_copies : GoodIn wsX6_move (va_wsS RX6 123 yX6_copies wsX6_copies) := goodIn_app (goodIn_of _ (by decide +kernel)) ggX6_move_X6_copies
set_option maxRecDepth 20000 in
theorem ggX6_move_X6_darkOf : GoodIn wsX6_move wsX6_darkOf := goodIn_r _ [22, 23, 24, 7, 25] (by decide +kernel) (by decide +kernel)
set_option maxRecDepth 20000 in
theorem gX6_move_X6_darkOf : GoodIn wsX6_move (wsV RX6 104 RX6 yX6_darkOf wsX6_darkOf) := goodIn_app (goodIn_of _ (by decide +kernel)) ggX6_move_X6_darkOf
theorem dX6_move_0 : decode cX6_move 0 = .ok (.iload_n 1, 1) := by decide +kernel
theorem dX6_move_1 : decode cX6_move 1 = .ok (.bipush (-15), 2) := by decide +kernel
theorem dX6_move_3 : decode cX6_move 3 = .ok (.bipush 15, 2) := by decide +kernel
theorem dX6_move_5 : decode cX6_move 5 = .ok (.invokestatic 48, 3) := by decide +kernel
theorem dX6_move_8 : decode cX6_move 8 = .ok (.ifCond .eq 14, 3) := by decide +kernel
theorem dX6_move_11 : decode cX6_move 11 = .ok (.iload_n 2, 1) := by decide +kernel
theorem dX6_move_12 : decode cX6_move 12 = .ok (.bipush (-15), 2) := by decide +kernel
theorem dX6_move_14 : decode cX6_move 14 = .ok (.bipush 15, 2) := by decide +kernel
theorem dX6_move_16 : decode cX6_move 16 = .ok (.invokestatic 48, 3) := by decide +kernel
theorem dX6_move_19 : decode cX6_move 19 = .ok (.ifCond .ne 6, 3) := by decide +kernel
theorem dX6_move_22 : decode cX6_move 22 = .ok (.ldc 121, 2) := by decide +kernel
theorem dX6_move_24 : decode cX6_move 24 = .ok (.ireturn, 1) := by decide +kernel
theorem dX6_move_25 : decode cX6_move 25 = .ok (.aload_n 0, 1) := by decide +kernel
theorem dX6_move_26 : decode cX6_move 26 = .ok (.invokevirtual 150, 3) := by decide +kernel
theorem dX6_move_29 : decode cX6_move 29 = .ok (.aload_n 0, 1) := by decide +kernel
theorem dX6_move_30 : decode cX6_move 30 = .ok (.getfield 7, 3) := by decide +kernel
theorem dX6_move_33 : decode cX6_move 33 = .ok (.aload_n 0, 1) := by decide +kernel
theorem dX6_move_34 : decode cX6_move 34 = .ok (.getfield 13, 3) := by decide +kernel
theorem dX6_move_37 : decode cX6_move 37 = .ok (.invokestatic 123, 3) := by decide +kernel
theorem dX6_move_40 : decode cX6_move 40 = .ok (.iconst 0, 1) := by decide +kernel
theorem dX6_move_41 : decode cX6_move 41 = .ok (.istore_n 3, 1) := by decide +kernel
theorem dX6_move_42 : decode cX6_move 42 = .ok (.iload_n 3, 1) := by decide +kernel
theorem dX6_move_43 : decode cX6_move 43 = .ok (.bipush 16, 2) := by decide +kernel
theorem dX6_move_45 : decode cX6_move 45 = .ok (.if_icmp .ge 60, 3) := by decide +kernel
theorem dX6_move_48 : decode cX6_move 48 = .ok (.iload_n 3, 1) := by decide +kernel
theorem dX6_move_49 : decode cX6_move 49 = .ok (.iload_n 1, 1) := by decide +kernel
theorem dX6_move_50 : decode cX6_move 50 = .ok (.isub, 1) := by decide +kernel
theorem dX6_move_51 : decode cX6_move 51 = .ok (.iconst 0, 1) := by decide +kernel
theorem dX6_move_52 : decode cX6_move 52 = .ok (.bipush 15, 2) := by decide +kernel
theorem dX6_move_54 : decode cX6_move 54 = .ok (.invokestatic 48, 3) := by decide +kernel
theorem dX6_move_57 : decode cX6_move 57 = .ok (.ifCond .eq 14, 3) := by decide +kernel
theorem dX6_move_60 : decode cX6_move 60 = .ok (.aload_n 0, 1) := by decide +kernel
theorem dX6_move_61 : decode cX6_move 61 = .ok (.getfield 13, 3) := by decide +kernel
theorem dX6_move_64 : decode cX6_move 64 = .ok (.iload_n 3, 1) := by decide +kernel
theorem dX6_move_65 : decode cX6_move 65 = .ok (.iload_n 1, 1) := by decide +kernel
theorem dX6_move_66 : decode cX6_move 66 = .ok (.isub, 1) := by decide +kernel
theorem dX6_move_67 : decode cX6_move 67 = .ok (.iaload, 1) := by decide +kernel
theorem dX6_move_68 : decode cX6_move 68 = .ok (.goto 4, 3) := by decide +kernel
theorem dX6_move_71 : decode cX6_move 71 = .ok (.iconst 0, 1) := by decide +kernel
theorem dX6_move_72 : decode cX6_move 72 = .ok (.istore 4, 2) := by decide +kernel
theorem dX6_move_74 : decode cX6_move 74 = .ok (.aload_n 0, 1) := by decide +kernel
theorem dX6_move_75 : decode cX6_move 75 = .ok (.getfield 7, 3) := by decide +kernel
theorem dX6_move_78 : decode cX6_move 78 = .ok (.iload_n 3, 1) := by decide +kernel
theorem dX6_move_79 : decode cX6_move 79 = .ok (.iload_n 2, 1) := by decide +kernel
theorem dX6_move_80 : decode cX6_move 80 = .ok (.ifCond .ge 11, 3) := by decide +kernel
theorem dX6_move_83 : decode cX6_move 83 = .ok (.iload 4, 2) := by decide +kernel
theorem dX6_move_85 : decode cX6_move 85 = .ok (.iload_n 2, 1) := by decide +kernel
theorem dX6_move_86 : decode cX6_move 86 = .ok (.ineg, 1) := by decide +kernel
theorem dX6_move_87 : decode cX6_move 87 = .ok (.ishr, 1) := by decide +kernel
theorem dX6_move_88 : decode cX6_move 88 = .ok (.goto 10, 3) := by decide +kernel
theorem dX6_move_91 : decode cX6_move 91 = .ok (.iload 4, 2) := by decide +kernel
theorem dX6_move_93 : decode cX6_move 93 = .ok (.iload_n 2, 1) := by decide +kernel
theorem dX6_move_94 : decode cX6_move 94 = .ok (.ishl, 1) := by decide +kernel
theorem dX6_move_95 : decode cX6_move 95 = .ok (.ldc 149, 2) := by decide +kernel
theorem dX6_move_97 : decode cX6_move 97 = .ok (.iand, 1) := by decide +kernel
theorem dX6_move_98 : decode cX6_move 98 = .ok (.iastore, 1) := by decide +kernel
theorem dX6_move_99 : decode cX6_move 99 = .ok (.iinc 3 1, 3) := by decide +kernel
theorem dX6_move_102 : decode cX6_move 102 = .ok (.goto (-60), 3) := by decide +kernel
theorem dX6_move_105 : decode cX6_move 105 = .ok (.aload_n 0, 1) := by decide +kernel
theorem dX6_move_106 : decode cX6_move 106 = .ok (.aload_n 0, 1) := by decide +kernel
theorem dX6_move_107 : decode cX6_move 107 = .ok (.getfield 7, 3) := by decide +kernel
theorem dX6_move_110 : decode cX6_move 110 = .ok (.invokevirtual 104, 3) := by decide +kernel
theorem dX6_move_113 : decode cX6_move 113 = .ok (.ireturn, 1) := by decide +kernel
set_option maxRecDepth 20000 in
theorem ggX6_over_X6_remember : GoodIn wsX6_over wsX6_remember := goodIn_r _ [7, 8, 9, 1, 10, 18, 19, 20, 21, 22, 23, 24, 25, 26, 27, 28, 29, 30, 31, 32, 33, 34] (by decide +kernel) (by decide +kernel)
set_option maxRecDepth 20000 in
theorem gX6_over_X6_remember : GoodIn wsX6_over (wsV RX6 150 RX6 yX6_remember wsX6_remember) := goodIn_app (goodIn_of _ (by decide +kernel)) ggX6_over_X6_remember
set_option maxRecDepth 20000 in
theorem ggX6_over_X6_darkOf : GoodIn wsX6_over wsX6_darkOf := goodIn_r _ [14, 15, 16, 6, 17] (by decide +kernel) (by decide +kernel)
set_option maxRecDepth 20000 in
theorem gX6_over_X6_darkOf : GoodIn wsX6_over (wsV RX6 104 RX6 yX6_darkOf wsX6_darkOf) := goodIn_app (goodIn_of _ (by decide +kernel)) ggX6_over_X6_darkOf
theorem dX6_over_0 : decode cX6_over 0 = .ok (.aload_n 0, 1) := by decide +kernel
theorem dX6_over_1 : decode cX6_over 1 = .ok (.invokevirtual 150, 3) := by decide +kernel
theorem dX6_over_4 : decode cX6_over 4 = .ok (.iconst 0, 1) := by decide +kernel
theorem dX6_over_5 : decode cX6_over 5 = .ok (.istore_n 1, 1) := by decide +kernel
theorem dX6_over_6 : decode cX6_over 6 = .ok (.iload_n 1, 1) := by decide +kernel
theorem dX6_over_7 : decode cX6_over 7 = .ok (.bipush 16, 2) := by decide +kernel
theorem dX6_over_9 : decode cX6_over 9 = .ok (.if_icmp .ge 24, 3) := by decide +kernel
theorem dX6_over_12 : decode cX6_over 12 = .ok (.aload_n 0, 1) := by decide +kernel
theorem dX6_over_13 : decode cX6_over 13 = .ok (.getfield 7, 3) := by decide +kernel
theorem dX6_over_16 : decode cX6_over 16 = .ok (.iload_n 1, 1) := by decide +kernel
theorem dX6_over_17 : decode cX6_over 17 = .ok (.ldc 149, 2) := by decide +kernel
theorem dX6_over_19 : decode cX6_over 19 = .ok (.aload_n 0, 1) := by decide +kernel
theorem dX6_over_20 : decode cX6_over 20 = .ok (.getfield 7, 3) := by decide +kernel
theorem dX6_over_23 : decode cX6_over 23 = .ok (.iload_n 1, 1) := by decide +kernel
theorem dX6_over_24 : decode cX6_over 24 = .ok (.iaload, 1) := by decide +kernel
theorem dX6_over_25 : decode cX6_over 25 = .ok (.isub, 1) := by decide +kernel
theorem dX6_over_26 : decode cX6_over 26 = .ok (.iastore, 1) := by decide +kernel
theorem dX6_over_27 : decode cX6_over 27 = .ok (.iinc 1 1, 3) := by decide +kernel
theorem dX6_over_30 : decode cX6_over 30 = .ok (.goto (-24), 3) := by decide +kernel
theorem dX6_over_33 : decode cX6_over 33 = .ok (.aload_n 0, 1) := by decide +kernel
theorem dX6_over_34 : decode cX6_over 34 = .ok (.aload_n 0, 1) := by decide +kernel
theorem dX6_over_35 : decode cX6_over 35 = .ok (.getfield 7, 3) := by decide +kernel
theorem dX6_over_38 : decode cX6_over 38 = .ok (.invokevirtual 104, 3) := by decide +kernel
theorem dX6_over_41 : decode cX6_over 41 = .ok (.ireturn, 1) := by decide +kernel
set_option maxRecDepth 20000 in
theorem ggX6_mode_X6_remember : GoodIn wsX6_mode wsX6_remember := goodIn_r _ [8, 9, 10, 2, 11, 44, 45, 46, 47, 48, 49, 50, 51, 52, 53, 54, 55, 56, 57, 58, 59, 60] (by decide +kernel) (by decide +kernel)
set_option maxRecDepth 20000 in
theorem gX6_mode_X6_remember : GoodIn wsX6_mode (wsV RX6 150 RX6 yX6_remember wsX6_remember) := goodIn_app (goodIn_of _ (by decide +kernel)) ggX6_mode_X6_remember
set_option maxRecDepth 20000 in
theorem ggX6_mode_X6_partsOf : GoodIn wsX6_mode wsX6_partsOf := goodIn_r _ [15, 16, 17, 18, 19, 7, 20, 21, 22, 23, 24, 25, 26, 27, 28, 29, 30, 31, 32, 33, 34, 35, 36, 37, 38, 39, 40, 41, 42, 43, 44, 45, 46, 47, 48, 49, 50, 51, 52, 53, 54, 55, 56, 57, 58, 59, 60] (by decide +kernel) (by decide +kernel)
set_option maxRecDepth 20000 in
theorem gX6_mode_X6_partsOf : GoodIn wsX6_mode (wsV RX6 127 RX6 yX6_partsOf wsX6_partsOf) := goodIn_app (goodIn_of _ (by decide +kernel)) ggX6_mode_X6_partsOf
theorem dX6_mode_0 : decode cX6_mode 0 = .ok (.iload_n 1, 1) := by decide +kernel
theorem dX6_mode_1 : decode cX6_mode 1 = .ok (.iconst 4, 1) := by decide +kernel
theorem dX6_mode_2 : decode cX6_mode 2 = .ok (.if_icmp .eq 12, 3) := by decide +kernel
theorem dX6_mode_5 : decode cX6_mode 5 = .ok (.iload_n 1, 1) := by decide +kernel
theorem dX6_mode_6 : decode cX6_mode 6 = .ok (.bipush 8, 2) := by decide +kernel
theorem dX6_mode_8 : decode cX6_mode 8 = .ok (.if_icmp .eq 6, 3) := by decide +kernel
theorem dX6_mode_11 : decode cX6_mode 11 = .ok (.ldc 121, 2) := by decide +kernel
theorem dX6_mode_13 : decode cX6_mode 13 = .ok (.ireturn, 1) := by decide +kernel
theorem dX6_mode_14 : decode cX6_mode 14 = .ok (.aload_n 0, 1) := by decide +kernel
theorem dX6_mode_15 : decode cX6_mode 15 = .ok (.getfield 7, 3) := by decide +kernel
theorem dX6_mode_18 : decode cX6_mode 18 = .ok (.bipush 16, 2) := by decide +kernel
theorem dX6_mode_20 : decode cX6_mode 20 = .ok (.iaload, 1) := by decide +kernel
theorem dX6_mode_21 : decode cX6_mode 21 = .ok (.iload_n 1, 1) := by decide +kernel
theorem dX6_mode_22 : decode cX6_mode 22 = .ok (.if_icmp .ne 6, 3) := by decide +kernel
theorem dX6_mode_25 : decode cX6_mode 25 = .ok (.ldc 168, 2) := by decide +kernel
theorem dX6_mode_27 : decode cX6_mode 27 = .ok (.ireturn, 1) := by decide +kernel
theorem dX6_mode_28 : decode cX6_mode 28 = .ok (.aload_n 0, 1) := by decide +kernel
theorem dX6_mode_29 : decode cX6_mode 29 = .ok (.invokevirtual 150, 3) := by decide +kernel
theorem dX6_mode_32 : decode cX6_mode 32 = .ok (.aload_n 0, 1) := by decide +kernel
theorem dX6_mode_33 : decode cX6_mode 33 = .ok (.getfield 7, 3) := by decide +kernel
theorem dX6_mode_36 : decode cX6_mode 36 = .ok (.bipush 16, 2) := by decide +kernel
theorem dX6_mode_38 : decode cX6_mode 38 = .ok (.iload_n 1, 1) := by decide +kernel
theorem dX6_mode_39 : decode cX6_mode 39 = .ok (.iastore, 1) := by decide +kernel
theorem dX6_mode_40 : decode cX6_mode 40 = .ok (.aload_n 0, 1) := by decide +kernel
theorem dX6_mode_41 : decode cX6_mode 41 = .ok (.aload_n 0, 1) := by decide +kernel
theorem dX6_mode_42 : decode cX6_mode 42 = .ok (.getfield 7, 3) := by decide +kernel
theorem dX6_mode_45 : decode cX6_mode 45 = .ok (.invokevirtual 127, 3) := by decide +kernel
theorem dX6_mode_48 : decode cX6_mode 48 = .ok (.ireturn, 1) := by decide +kernel
theorem dX6_draw_0 : decode cX6_draw 0 = .ok (.aload_n 0, 1) := by decide +kernel
theorem dX6_draw_1 : decode cX6_draw 1 = .ok (.aload_n 0, 1) := by decide +kernel
theorem dX6_draw_2 : decode cX6_draw 2 = .ok (.getfield 169, 3) := by decide +kernel
theorem dX6_draw_5 : decode cX6_draw 5 = .ok (.i2l, 1) := by decide +kernel
theorem dX6_draw_6 : decode cX6_draw 6 = .ok (.ldc2_w 172, 3) := by decide +kernel
theorem dX6_draw_9 : decode cX6_draw 9 = .ok (.lmul, 1) := by decide +kernel
theorem dX6_draw_10 : decode cX6_draw 10 = .ok (.ldc2_w 174, 3) := by decide +kernel
theorem dX6_draw_13 : decode cX6_draw 13 = .ok (.ladd, 1) := by decide +kernel
theorem dX6_draw_14 : decode cX6_draw 14 = .ok (.ldc2_w 176, 3) := by decide +kernel
theorem dX6_draw_17 : decode cX6_draw 17 = .ok (.lrem, 1) := by decide +kernel
theorem dX6_draw_18 : decode cX6_draw 18 = .ok (.l2i, 1) := by decide +kernel
theorem dX6_draw_19 : decode cX6_draw 19 = .ok (.putfield 169, 3) := by decide +kernel
theorem dX6_draw_22 : decode cX6_draw 22 = .ok (.aload_n 0, 1) := by decide +kernel
theorem dX6_draw_23 : decode cX6_draw 23 = .ok (.getfield 169, 3) := by decide +kernel
theorem dX6_draw_26 : decode cX6_draw 26 = .ok (.ldc 178, 2) := by decide +kernel
theorem dX6_draw_28 : decode cX6_draw 28 = .ok (.idiv, 1) := by decide +kernel
theorem dX6_draw_29 : decode cX6_draw 29 = .ok (.iload_n 1, 1) := by decide +kernel
theorem dX6_draw_30 : decode cX6_draw 30 = .ok (.irem, 1) := by decide +kernel
theorem dX6_draw_31 : decode cX6_draw 31 = .ok (.ireturn, 1) := by decide +kernel
set_option maxRecDepth 20000 in
theorem ggX6_drift_X6_in : GoodIn wsX6_drift wsX6_in := goodIn_r _ [6] (by decide +kernel) (by decide +kernel)
set_option maxRecDepth 20000 in
theorem gX6_drift_X6_in : GoodIn wsX6_drift (va_wsS RX6 48 yX6_in wsX6_in) := goodIn_app (goodIn_of _ (by decide +kernel)) ggX6_drift_X6_in
set_option maxRecDepth 20000 in
theorem ggX6_drift_X6_draw : GoodIn wsX6_drift wsX6_draw := goodIn_r _ [10, 11, 12, 13, 14, 15, 34, 35, 36, 37, 38, 39, 40, 41, 42, 43, 44, 45, 46, 47, 48, 49, 50] (by decide +kernel) (by decide +kernel)
set_option maxRecDepth 20000 in
theorem gX6_drift_X6_draw : GoodIn wsX6_drift (wsV RX6 179 RX6 yX6_draw wsX6_draw) := goodIn_app (goodIn_of _ (by decide +kernel)) ggX6_drift_X6_draw
set_option maxRecDepth 20000 in
theorem ggX6_drift_X6_turns : GoodIn wsX6_drift wsX6_turns := goodIn_r _ [19, 2, 20, 21, 22, 5, 23, 24, 25, 26, 34, 35, 36, 37, 38, 39, 40, 41, 42, 43, 44, 45, 46, 47, 48, 49, 50] (by decide +kernel) (by decide +kernel)
set_option maxRecDepth 20000 in
theorem gX6_drift_X6_turns : GoodIn wsX6_drift (wsV RX6 153 RX6 yX6_turns wsX6_turns) := goodIn_app (goodIn_of _ (by decide +kernel)) ggX6_drift_X6_turns
set_option maxRecDepth 20000 in
theorem ggX6_drift_X6_darkOf : GoodIn wsX6_drift wsX6_darkOf := goodIn_r _ [30, 31, 32, 5, 33] (by decide +kernel) (by decide +kernel)
set_option maxRecDepth 20000 in
theorem gX6_drift_X6_darkOf : GoodIn wsX6_drift (wsV RX6 104 RX6 yX6_darkOf wsX6_darkOf) := goodIn_app (goodIn_of _ (by decide +kernel)) ggX6_drift_X6_darkOf
theorem dX6_drift_0 : decode cX6_drift 0 = .ok (.iload_n 1, 1) := by decide +kernel
theorem dX6_drift_1 : decode cX6_drift 1 = .ok (.iconst 1, 1) := by decide +kernel
theorem dX6_drift_2 : decode cX6_drift 2 = .ok (.bipush 60, 2) := by decide +kernel
theorem dX6_drift_4 : decode cX6_drift 4 = .ok (.invokestatic 48, 3) := by decide +kernel
theorem dX6_drift_7 : decode cX6_drift 7 = .ok (.ifCond .ne 6, 3) := by decide +kernel
theorem dX6_drift_10 : decode cX6_drift 10 = .ok (.ldc 121, 2) := by decide +kernel
theorem dX6_drift_12 : decode cX6_drift 12 = .ok (.ireturn, 1) := by decide +kernel
theorem dX6_drift_13 : decode cX6_drift 13 = .ok (.iconst 0, 1) := by decide +kernel
theorem dX6_drift_14 : decode cX6_drift 14 = .ok (.istore_n 2, 1) := by decide +kernel
theorem dX6_drift_15 : decode cX6_drift 15 = .ok (.iload_n 2, 1) := by decide +kernel
theorem dX6_drift_16 : decode cX6_drift 16 = .ok (.iload_n 1, 1) := by decide +kernel
theorem dX6_drift_17 : decode cX6_drift 17 = .ok (.if_icmp .ge 20, 3) := by decide +kernel
theorem dX6_drift_20 : decode cX6_drift 20 = .ok (.aload_n 0, 1) := by decide +kernel
theorem dX6_drift_21 : decode cX6_drift 21 = .ok (.aload_n 0, 1) := by decide +kernel
theorem dX6_drift_22 : decode cX6_drift 22 = .ok (.sipush 256, 3) := by decide +kernel
theorem dX6_drift_25 : decode cX6_drift 25 = .ok (.invokevirtual 179, 3) := by decide +kernel
theorem dX6_drift_28 : decode cX6_drift 28 = .ok (.invokevirtual 153, 3) := by decide +kernel
theorem dX6_drift_31 : decode cX6_drift 31 = .ok (.iinc 2 1, 3) := by decide +kernel
theorem dX6_drift_34 : decode cX6_drift 34 = .ok (.goto (-19), 3) := by decide +kernel
theorem dX6_drift_37 : decode cX6_drift 37 = .ok (.aload_n 0, 1) := by decide +kernel
theorem dX6_drift_38 : decode cX6_drift 38 = .ok (.aload_n 0, 1) := by decide +kernel
theorem dX6_drift_39 : decode cX6_drift 39 = .ok (.getfield 7, 3) := by decide +kernel
theorem dX6_drift_42 : decode cX6_drift 42 = .ok (.invokevirtual 104, 3) := by decide +kernel
theorem dX6_drift_45 : decode cX6_drift 45 = .ok (.ireturn, 1) := by decide +kernel
set_option maxRecDepth 20000 in
theorem ggX6_undo_X6_in : GoodIn wsX6_undo wsX6_in := goodIn_r _ [10] (by decide +kernel) (by decide +kernel)
set_option maxRecDepth 20000 in
theorem gX6_undo_X6_in : GoodIn wsX6_undo (va_wsS RX6 48 yX6_in wsX6_in) := goodIn_app (goodIn_of _ (by decide +kernel)) ggX6_undo_X6_in
set_option maxRecDepth 20000 in
theorem ggX6_undo_X6_darkOf : GoodIn wsX6_undo wsX6_darkOf := goodIn_r _ [14, 15, 16, 9, 17] (by decide +kernel) (by decide +kernel)
set_option maxRecDepth 20000 in
theorem gX6_undo_X6_darkOf : GoodIn wsX6_undo (wsV RX6 104 RX6 yX6_darkOf wsX6_darkOf) := goodIn_app (goodIn_of _ (by decide +kernel)) ggX6_undo_X6_darkOf
theorem dX6_undo_0 : decode cX6_undo 0 = .ok (.iload_n 1, 1) := by decide +kernel
theorem dX6_undo_1 : decode cX6_undo 1 = .ok (.iconst 1, 1) := by decide +kernel
theorem dX6_undo_2 : decode cX6_undo 2 = .ok (.bipush 30, 2) := by decide +kernel
theorem dX6_undo_4 : decode cX6_undo 4 = .ok (.invokestatic 48, 3) := by decide +kernel
theorem dX6_undo_7 : decode cX6_undo 7 = .ok (.ifCond .ne 6, 3) := by decide +kernel
theorem dX6_undo_10 : decode cX6_undo 10 = .ok (.ldc 121, 2) := by decide +kernel
theorem dX6_undo_12 : decode cX6_undo 12 = .ok (.ireturn, 1) := by decide +kernel
theorem dX6_undo_13 : decode cX6_undo 13 = .ok (.iload_n 1, 1) := by decide +kernel
theorem dX6_undo_14 : decode cX6_undo 14 = .ok (.aload_n 0, 1) := by decide +kernel
theorem dX6_undo_15 : decode cX6_undo 15 = .ok (.getfield 118, 3) := by decide +kernel
theorem dX6_undo_18 : decode cX6_undo 18 = .ok (.if_icmp .le 6, 3) := by decide +kernel
theorem dX6_undo_21 : decode cX6_undo 21 = .ok (.ldc 168, 2) := by decide +kernel
theorem dX6_undo_23 : decode cX6_undo 23 = .ok (.ireturn, 1) := by decide +kernel
theorem dX6_undo_24 : decode cX6_undo 24 = .ok (.aload_n 0, 1) := by decide +kernel
theorem dX6_undo_25 : decode cX6_undo 25 = .ok (.aload_n 0, 1) := by decide +kernel
theorem dX6_undo_26 : decode cX6_undo 26 = .ok (.getfield 146, 3) := by decide +kernel
theorem dX6_undo_29 : decode cX6_undo 29 = .ok (.bipush 30, 2) := by decide +kernel
theorem dX6_undo_31 : decode cX6_undo 31 = .ok (.iadd, 1) := by decide +kernel
theorem dX6_undo_32 : decode cX6_undo 32 = .ok (.iload_n 1, 1) := by decide +kernel
theorem dX6_undo_33 : decode cX6_undo 33 = .ok (.isub, 1) := by decide +kernel
theorem dX6_undo_34 : decode cX6_undo 34 = .ok (.bipush 30, 2) := by decide +kernel
theorem dX6_undo_36 : decode cX6_undo 36 = .ok (.irem, 1) := by decide +kernel
theorem dX6_undo_37 : decode cX6_undo 37 = .ok (.putfield 146, 3) := by decide +kernel
theorem dX6_undo_40 : decode cX6_undo 40 = .ok (.aload_n 0, 1) := by decide +kernel
theorem dX6_undo_41 : decode cX6_undo 41 = .ok (.dup, 1) := by decide +kernel
theorem dX6_undo_42 : decode cX6_undo 42 = .ok (.getfield 118, 3) := by decide +kernel
theorem dX6_undo_45 : decode cX6_undo 45 = .ok (.iload_n 1, 1) := by decide +kernel
theorem dX6_undo_46 : decode cX6_undo 46 = .ok (.isub, 1) := by decide +kernel
theorem dX6_undo_47 : decode cX6_undo 47 = .ok (.putfield 118, 3) := by decide +kernel
theorem dX6_undo_50 : decode cX6_undo 50 = .ok (.iconst 0, 1) := by decide +kernel
theorem dX6_undo_51 : decode cX6_undo 51 = .ok (.istore_n 2, 1) := by decide +kernel
theorem dX6_undo_52 : decode cX6_undo 52 = .ok (.iload_n 2, 1) := by decide +kernel
theorem dX6_undo_53 : decode cX6_undo 53 = .ok (.bipush 17, 2) := by decide +kernel
theorem dX6_undo_55 : decode cX6_undo 55 = .ok (.if_icmp .ge 29, 3) := by decide +kernel
theorem dX6_undo_58 : decode cX6_undo 58 = .ok (.aload_n 0, 1) := by decide +kernel
theorem dX6_undo_59 : decode cX6_undo 59 = .ok (.getfield 7, 3) := by decide +kernel
theorem dX6_undo_62 : decode cX6_undo 62 = .ok (.iload_n 2, 1) := by decide +kernel
theorem dX6_undo_63 : decode cX6_undo 63 = .ok (.aload_n 0, 1) := by decide +kernel
theorem dX6_undo_64 : decode cX6_undo 64 = .ok (.getfield 31, 3) := by decide +kernel
theorem dX6_undo_67 : decode cX6_undo 67 = .ok (.bipush 17, 2) := by decide +kernel
theorem dX6_undo_69 : decode cX6_undo 69 = .ok (.aload_n 0, 1) := by decide +kernel
theorem dX6_undo_70 : decode cX6_undo 70 = .ok (.getfield 146, 3) := by decide +kernel
theorem dX6_undo_73 : decode cX6_undo 73 = .ok (.imul, 1) := by decide +kernel
theorem dX6_undo_74 : decode cX6_undo 74 = .ok (.iload_n 2, 1) := by decide +kernel
theorem dX6_undo_75 : decode cX6_undo 75 = .ok (.iadd, 1) := by decide +kernel
theorem dX6_undo_76 : decode cX6_undo 76 = .ok (.iaload, 1) := by decide +kernel
theorem dX6_undo_77 : decode cX6_undo 77 = .ok (.iastore, 1) := by decide +kernel
theorem dX6_undo_78 : decode cX6_undo 78 = .ok (.iinc 2 1, 3) := by decide +kernel
theorem dX6_undo_81 : decode cX6_undo 81 = .ok (.goto (-29), 3) := by decide +kernel
theorem dX6_undo_84 : decode cX6_undo 84 = .ok (.aload_n 0, 1) := by decide +kernel
theorem dX6_undo_85 : decode cX6_undo 85 = .ok (.aload_n 0, 1) := by decide +kernel
theorem dX6_undo_86 : decode cX6_undo 86 = .ok (.getfield 7, 3) := by decide +kernel
theorem dX6_undo_89 : decode cX6_undo 89 = .ok (.invokevirtual 104, 3) := by decide +kernel
theorem dX6_undo_92 : decode cX6_undo 92 = .ok (.ireturn, 1) := by decide +kernel
set_option maxRecDepth 20000 in
theorem ggX6_alike_X6_parts : GoodIn wsX6_alike wsX6_parts := goodIn_r _ [9, 2, 10, 11, 12, 4, 13, 14, 15, 16, 8, 17, 18, 19, 20, 21, 22, 23, 24, 25, 26, 27, 28, 29, 30, 31, 40, 41, 42, 43, 44, 45, 46, 47, 48, 49, 50, 51, 52, 53, 54, 55, 56] (by decide +kernel) (by decide +kernel)
set_option maxRecDepth 20000 in
theorem gX6_alike_X6_parts : GoodIn wsX6_alike (wsV RX6 73 RX6 yX6_parts wsX6_parts) := goodIn_app (goodIn_of _ (by decide +kernel)) ggX6_alike_X6_parts
set_option maxRecDepth 20000 in
theorem ggX6_alike_X6_in : GoodIn wsX6_alike wsX6_in := goodIn_r _ [31] (by decide +kernel) (by decide +kernel)
set_option maxRecDepth 20000 in
theorem gX6_alike_X6_in : GoodIn wsX6_alike (va_wsS RX6 48 yX6_in wsX6_in) := goodIn_app (goodIn_of _ (by decide +kernel)) ggX6_alike_X6_in
set_option maxRecDepth 20000 in
theorem ggX6_alike_X6_sizeOf : GoodIn wsX6_alike wsX6_sizeOf := goodIn_r _ [35, 36, 37, 38, 8, 39, 1, 12, 15, 16, 17, 18, 19, 20, 40, 41, 42, 43, 44, 45, 46, 47, 48, 49, 50, 51, 52, 53, 54, 55, 56] (by decide +kernel) (by decide +kernel)
set_option maxRecDepth 20000 in
theorem gX6_alike_X6_sizeOf : GoodIn wsX6_alike (wsV RX6 100 RX6 yX6_sizeOf wsX6_sizeOf) := goodIn_app (goodIn_of _ (by decide +kernel)) ggX6_alike_X6_sizeOf
set_option maxRecDepth 20000 in
theorem ggX6_alike_X6_isOf : GoodIn wsX6_alike wsX6_isOf := goodIn_r _ [39, 1, 12, 15, 16, 8, 17, 18, 19, 20, 40, 41, 42, 43, 44, 45, 46, 47, 48, 49, 50, 51, 52, 53, 54, 55, 56] (by decide +kernel) (by decide +kernel)
set_option maxRecDepth 20000 in
theorem gX6_alike_X6_isOf : GoodIn wsX6_alike (wsV RX6 81 RX6 yX6_isOf wsX6_isOf) := goodIn_app (goodIn_of _ (by decide +kernel)) ggX6_alike_X6_isOf
set_option maxRecDepth 20000 in
theorem ggX6_alike_X6_isOn : GoodIn wsX6_alike wsX6_isOn := goodIn_r _ [28, 29, 30, 8, 31] (by decide +kernel) (by decide +kernel)
set_option maxRecDepth 20000 in
theorem gX6_alike_X6_isOn : GoodIn wsX6_alike (va_wsS RX6 56 yX6_isOn wsX6_isOn) := goodIn_app (goodIn_of _ (by decide +kernel)) ggX6_alike_X6_isOn
theorem dX6_alike_0 : decode cX6_alike 0 = .ok (.aload_n 0, 1) := by decide +kernel
theorem dX6_alike_1 : decode cX6_alike 1 = .ok (.aload_n 0, 1) := by decide +kernel
theorem dX6_alike_2 : decode cX6_alike 2 = .ok (.getfield 7, 3) := by decide +kernel
theorem dX6_alike_5 : decode cX6_alike 5 = .ok (.invokevirtual 73, 3) := by decide +kernel
theorem dX6_alike_8 : decode cX6_alike 8 = .ok (.iload_n 1, 1) := by decide +kernel
theorem dX6_alike_9 : decode cX6_alike 9 = .ok (.iconst 0, 1) := by decide +kernel
theorem dX6_alike_10 : decode cX6_alike 10 = .ok (.aload_n 0, 1) := by decide +kernel
theorem dX6_alike_11 : decode cX6_alike 11 = .ok (.getfield 59, 3) := by decide +kernel
theorem dX6_alike_14 : decode cX6_alike 14 = .ok (.iconst 1, 1) := by decide +kernel
theorem dX6_alike_15 : decode cX6_alike 15 = .ok (.isub, 1) := by decide +kernel
theorem dX6_alike_16 : decode cX6_alike 16 = .ok (.invokestatic 48, 3) := by decide +kernel
theorem dX6_alike_19 : decode cX6_alike 19 = .ok (.ifCond .eq 22, 3) := by decide +kernel
theorem dX6_alike_22 : decode cX6_alike 22 = .ok (.iload_n 2, 1) := by decide +kernel
theorem dX6_alike_23 : decode cX6_alike 23 = .ok (.iconst 0, 1) := by decide +kernel
theorem dX6_alike_24 : decode cX6_alike 24 = .ok (.aload_n 0, 1) := by decide +kernel
theorem dX6_alike_25 : decode cX6_alike 25 = .ok (.getfield 59, 3) := by decide +kernel
theorem dX6_alike_28 : decode cX6_alike 28 = .ok (.iconst 1, 1) := by decide +kernel
theorem dX6_alike_29 : decode cX6_alike 29 = .ok (.isub, 1) := by decide +kernel
theorem dX6_alike_30 : decode cX6_alike 30 = .ok (.invokestatic 48, 3) := by decide +kernel
theorem dX6_alike_33 : decode cX6_alike 33 = .ok (.ifCond .eq 8, 3) := by decide +kernel
theorem dX6_alike_36 : decode cX6_alike 36 = .ok (.iload_n 1, 1) := by decide +kernel
theorem dX6_alike_37 : decode cX6_alike 37 = .ok (.iload_n 2, 1) := by decide +kernel
theorem dX6_alike_38 : decode cX6_alike 38 = .ok (.if_icmp .ne 6, 3) := by decide +kernel
theorem dX6_alike_41 : decode cX6_alike 41 = .ok (.ldc 122, 2) := by decide +kernel
theorem dX6_alike_43 : decode cX6_alike 43 = .ok (.ireturn, 1) := by decide +kernel
theorem dX6_alike_44 : decode cX6_alike 44 = .ok (.aload_n 0, 1) := by decide +kernel
theorem dX6_alike_45 : decode cX6_alike 45 = .ok (.getfield 22, 3) := by decide +kernel
theorem dX6_alike_48 : decode cX6_alike 48 = .ok (.iload_n 2, 1) := by decide +kernel
theorem dX6_alike_49 : decode cX6_alike 49 = .ok (.iaload, 1) := by decide +kernel
theorem dX6_alike_50 : decode cX6_alike 50 = .ok (.bipush 16, 2) := by decide +kernel
theorem dX6_alike_52 : decode cX6_alike 52 = .ok (.idiv, 1) := by decide +kernel
theorem dX6_alike_53 : decode cX6_alike 53 = .ok (.aload_n 0, 1) := by decide +kernel
theorem dX6_alike_54 : decode cX6_alike 54 = .ok (.getfield 22, 3) := by decide +kernel
theorem dX6_alike_57 : decode cX6_alike 57 = .ok (.iload_n 1, 1) := by decide +kernel
theorem dX6_alike_58 : decode cX6_alike 58 = .ok (.iaload, 1) := by decide +kernel
theorem dX6_alike_59 : decode cX6_alike 59 = .ok (.bipush 16, 2) := by decide +kernel
theorem dX6_alike_61 : decode cX6_alike 61 = .ok (.idiv, 1) := by decide +kernel
theorem dX6_alike_62 : decode cX6_alike 62 = .ok (.isub, 1) := by decide +kernel
theorem dX6_alike_63 : decode cX6_alike 63 = .ok (.istore_n 3, 1) := by decide +kernel
theorem dX6_alike_64 : decode cX6_alike 64 = .ok (.aload_n 0, 1) := by decide +kernel
theorem dX6_alike_65 : decode cX6_alike 65 = .ok (.getfield 22, 3) := by decide +kernel
theorem dX6_alike_68 : decode cX6_alike 68 = .ok (.iload_n 2, 1) := by decide +kernel
theorem dX6_alike_69 : decode cX6_alike 69 = .ok (.iaload, 1) := by decide +kernel
theorem dX6_alike_70 : decode cX6_alike 70 = .ok (.bipush 16, 2) := by decide +kernel
theorem dX6_alike_72 : decode cX6_alike 72 = .ok (.irem, 1) := by decide +kernel
theorem dX6_alike_73 : decode cX6_alike 73 = .ok (.aload_n 0, 1) := by decide +kernel
theorem dX6_alike_74 : decode cX6_alike 74 = .ok (.getfield 22, 3) := by decide +kernel
theorem dX6_alike_77 : decode cX6_alike 77 = .ok (.iload_n 1, 1) := by decide +kernel
theorem dX6_alike_78 : decode cX6_alike 78 = .ok (.iaload, 1) := by decide +kernel
theorem dX6_alike_79 : decode cX6_alike 79 = .ok (.bipush 16, 2) := by decide +kernel
theorem dX6_alike_81 : decode cX6_alike 81 = .ok (.irem, 1) := by decide +kernel
theorem dX6_alike_82 : decode cX6_alike 82 = .ok (.isub, 1) := by decide +kernel
theorem dX6_alike_83 : decode cX6_alike 83 = .ok (.istore 4, 2) := by decide +kernel
theorem dX6_alike_85 : decode cX6_alike 85 = .ok (.aload_n 0, 1) := by decide +kernel
theorem dX6_alike_86 : decode cX6_alike 86 = .ok (.iconst 1, 1) := by decide +kernel
theorem dX6_alike_87 : decode cX6_alike 87 = .ok (.iload_n 1, 1) := by decide +kernel
theorem dX6_alike_88 : decode cX6_alike 88 = .ok (.invokevirtual 100, 3) := by decide +kernel
theorem dX6_alike_91 : decode cX6_alike 91 = .ok (.aload_n 0, 1) := by decide +kernel
theorem dX6_alike_92 : decode cX6_alike 92 = .ok (.iconst 1, 1) := by decide +kernel
theorem dX6_alike_93 : decode cX6_alike 93 = .ok (.iload_n 2, 1) := by decide +kernel
theorem dX6_alike_94 : decode cX6_alike 94 = .ok (.invokevirtual 100, 3) := by decide +kernel
theorem dX6_alike_97 : decode cX6_alike 97 = .ok (.if_icmp .ne 7, 3) := by decide +kernel
theorem dX6_alike_100 : decode cX6_alike 100 = .ok (.iconst 1, 1) := by decide +kernel
theorem dX6_alike_101 : decode cX6_alike 101 = .ok (.goto 4, 3) := by decide +kernel
theorem dX6_alike_104 : decode cX6_alike 104 = .ok (.iconst 0, 1) := by decide +kernel
theorem dX6_alike_105 : decode cX6_alike 105 = .ok (.istore 5, 2) := by decide +kernel
theorem dX6_alike_107 : decode cX6_alike 107 = .ok (.iconst 0, 1) := by decide +kernel
theorem dX6_alike_108 : decode cX6_alike 108 = .ok (.istore 6, 2) := by decide +kernel
theorem dX6_alike_110 : decode cX6_alike 110 = .ok (.iload 6, 2) := by decide +kernel
theorem dX6_alike_112 : decode cX6_alike 112 = .ok (.sipush 256, 3) := by decide +kernel
theorem dX6_alike_115 : decode cX6_alike 115 = .ok (.if_icmp .ge 78, 3) := by decide +kernel
theorem dX6_alike_118 : decode cX6_alike 118 = .ok (.iload 5, 2) := by decide +kernel
theorem dX6_alike_120 : decode cX6_alike 120 = .ok (.ifCond .eq 73, 3) := by decide +kernel
theorem dX6_alike_123 : decode cX6_alike 123 = .ok (.iload 6, 2) := by decide +kernel
theorem dX6_alike_125 : decode cX6_alike 125 = .ok (.bipush 16, 2) := by decide +kernel
theorem dX6_alike_127 : decode cX6_alike 127 = .ok (.idiv, 1) := by decide +kernel
theorem dX6_alike_128 : decode cX6_alike 128 = .ok (.iload_n 3, 1) := by decide +kernel
theorem dX6_alike_129 : decode cX6_alike 129 = .ok (.iadd, 1) := by decide +kernel
theorem dX6_alike_130 : decode cX6_alike 130 = .ok (.istore 7, 2) := by decide +kernel
theorem dX6_alike_132 : decode cX6_alike 132 = .ok (.iload 6, 2) := by decide +kernel
theorem dX6_alike_134 : decode cX6_alike 134 = .ok (.bipush 16, 2) := by decide +kernel
theorem dX6_alike_136 : decode cX6_alike 136 = .ok (.irem, 1) := by decide +kernel
theorem dX6_alike_137 : decode cX6_alike 137 = .ok (.iload 4, 2) := by decide +kernel
theorem dX6_alike_139 : decode cX6_alike 139 = .ok (.iadd, 1) := by decide +kernel
theorem dX6_alike_140 : decode cX6_alike 140 = .ok (.istore 8, 2) := by decide +kernel
theorem dX6_alike_142 : decode cX6_alike 142 = .ok (.aload_n 0, 1) := by decide +kernel
theorem dX6_alike_143 : decode cX6_alike 143 = .ok (.iload 6, 2) := by decide +kernel
theorem dX6_alike_145 : decode cX6_alike 145 = .ok (.iconst 1, 1) := by decide +kernel
theorem dX6_alike_146 : decode cX6_alike 146 = .ok (.iload_n 1, 1) := by decide +kernel
theorem dX6_alike_147 : decode cX6_alike 147 = .ok (.invokevirtual 81, 3) := by decide +kernel
theorem dX6_alike_150 : decode cX6_alike 150 = .ok (.ifCond .eq 30, 3) := by decide +kernel
theorem dX6_alike_153 : decode cX6_alike 153 = .ok (.iload 7, 2) := by decide +kernel
theorem dX6_alike_155 : decode cX6_alike 155 = .ok (.iload 8, 2) := by decide +kernel
theorem dX6_alike_157 : decode cX6_alike 157 = .ok (.invokestatic 56, 3) := by decide +kernel
theorem dX6_alike_160 : decode cX6_alike 160 = .ok (.ifCond .eq 24, 3) := by decide +kernel
theorem dX6_alike_163 : decode cX6_alike 163 = .ok (.aload_n 0, 1) := by decide +kernel
theorem dX6_alike_164 : decode cX6_alike 164 = .ok (.bipush 16, 2) := by decide +kernel
theorem dX6_alike_166 : decode cX6_alike 166 = .ok (.iload 7, 2) := by decide +kernel
theorem dX6_alike_168 : decode cX6_alike 168 = .ok (.imul, 1) := by decide +kernel
theorem dX6_alike_169 : decode cX6_alike 169 = .ok (.iload 8, 2) := by decide +kernel
theorem dX6_alike_171 : decode cX6_alike 171 = .ok (.iadd, 1) := by decide +kernel
theorem dX6_alike_172 : decode cX6_alike 172 = .ok (.iconst 1, 1) := by decide +kernel
theorem dX6_alike_173 : decode cX6_alike 173 = .ok (.iload_n 2, 1) := by decide +kernel
theorem dX6_alike_174 : decode cX6_alike 174 = .ok (.invokevirtual 81, 3) := by decide +kernel
theorem dX6_alike_177 : decode cX6_alike 177 = .ok (.ifCond .eq 7, 3) := by decide +kernel
theorem dX6_alike_180 : decode cX6_alike 180 = .ok (.iconst 1, 1) := by decide +kernel
theorem dX6_alike_181 : decode cX6_alike 181 = .ok (.goto 4, 3) := by decide +kernel
theorem dX6_alike_184 : decode cX6_alike 184 = .ok (.iconst 0, 1) := by decide +kernel
theorem dX6_alike_185 : decode cX6_alike 185 = .ok (.istore 5, 2) := by decide +kernel
theorem dX6_alike_187 : decode cX6_alike 187 = .ok (.iinc 6 1, 3) := by decide +kernel
theorem dX6_alike_190 : decode cX6_alike 190 = .ok (.goto (-80), 3) := by decide +kernel
theorem dX6_alike_193 : decode cX6_alike 193 = .ok (.iload 5, 2) := by decide +kernel
theorem dX6_alike_195 : decode cX6_alike 195 = .ok (.ifCond .eq 7, 3) := by decide +kernel
theorem dX6_alike_198 : decode cX6_alike 198 = .ok (.iconst 1, 1) := by decide +kernel
theorem dX6_alike_199 : decode cX6_alike 199 = .ok (.goto 4, 3) := by decide +kernel
theorem dX6_alike_202 : decode cX6_alike 202 = .ok (.iconst 0, 1) := by decide +kernel
theorem dX6_alike_203 : decode cX6_alike 203 = .ok (.ireturn, 1) := by decide +kernel
set_option maxRecDepth 20000 in
theorem ggX6_small_X6_in : GoodIn wsX6_small wsX6_in := goodIn_r _ [7] (by decide +kernel) (by decide +kernel)
set_option maxRecDepth 20000 in
theorem gX6_small_X6_in : GoodIn wsX6_small (va_wsS RX6 48 yX6_in wsX6_in) := goodIn_app (goodIn_of _ (by decide +kernel)) ggX6_small_X6_in
set_option maxRecDepth 20000 in
theorem ggX6_small_X6_parts : GoodIn wsX6_small wsX6_parts := goodIn_r _ [11, 3, 12, 13, 14, 15, 16, 17, 18, 19, 6, 20, 21, 22, 23, 24, 25, 26, 27, 28, 29, 30, 31, 4, 5, 7, 40, 41, 42, 43, 44, 45, 46, 47, 48, 49, 50, 51, 52, 53, 54, 55, 56] (by decide +kernel) (by decide +kernel)
set_option maxRecDepth 20000 in
theorem gX6_small_X6_parts : GoodIn wsX6_small (wsV RX6 73 RX6 yX6_parts wsX6_parts) := goodIn_app (goodIn_of _ (by decide +kernel)) ggX6_small_X6_parts
set_option maxRecDepth 20000 in
theorem ggX6_small_X6_sizeOf : GoodIn wsX6_small wsX6_sizeOf := goodIn_r _ [35, 36, 37, 38, 6, 39, 2, 14, 18, 19, 20, 21, 22, 23, 40, 41, 42, 43, 44, 45, 46, 47, 48, 49, 50, 51, 52, 53, 54, 55, 56] (by decide +kernel) (by decide +kernel)
set_option maxRecDepth 20000 in
theorem gX6_small_X6_sizeOf : GoodIn wsX6_small (wsV RX6 100 RX6 yX6_sizeOf wsX6_sizeOf) := goodIn_app (goodIn_of _ (by decide +kernel)) ggX6_small_X6_sizeOf
theorem dX6_small_0 : decode cX6_small 0 = .ok (.iload_n 1, 1) := by decide +kernel
theorem dX6_small_1 : decode cX6_small 1 = .ok (.iconst 0, 1) := by decide +kernel
theorem dX6_small_2 : decode cX6_small 2 = .ok (.sipush 256, 3) := by decide +kernel
theorem dX6_small_5 : decode cX6_small 5 = .ok (.invokestatic 48, 3) := by decide +kernel
theorem dX6_small_8 : decode cX6_small 8 = .ok (.ifCond .ne 6, 3) := by decide +kernel
theorem dX6_small_11 : decode cX6_small 11 = .ok (.ldc 121, 2) := by decide +kernel
theorem dX6_small_13 : decode cX6_small 13 = .ok (.ireturn, 1) := by decide +kernel
theorem dX6_small_14 : decode cX6_small 14 = .ok (.aload_n 0, 1) := by decide +kernel
theorem dX6_small_15 : decode cX6_small 15 = .ok (.aload_n 0, 1) := by decide +kernel
theorem dX6_small_16 : decode cX6_small 16 = .ok (.getfield 7, 3) := by decide +kernel
theorem dX6_small_19 : decode cX6_small 19 = .ok (.invokevirtual 73, 3) := by decide +kernel
theorem dX6_small_22 : decode cX6_small 22 = .ok (.iconst 0, 1) := by decide +kernel
theorem dX6_small_23 : decode cX6_small 23 = .ok (.istore_n 2, 1) := by decide +kernel
theorem dX6_small_24 : decode cX6_small 24 = .ok (.iconst 0, 1) := by decide +kernel
theorem dX6_small_25 : decode cX6_small 25 = .ok (.istore_n 3, 1) := by decide +kernel
theorem dX6_small_26 : decode cX6_small 26 = .ok (.iload_n 3, 1) := by decide +kernel
theorem dX6_small_27 : decode cX6_small 27 = .ok (.aload_n 0, 1) := by decide +kernel
theorem dX6_small_28 : decode cX6_small 28 = .ok (.getfield 59, 3) := by decide +kernel
theorem dX6_small_31 : decode cX6_small 31 = .ok (.if_icmp .ge 27, 3) := by decide +kernel
theorem dX6_small_34 : decode cX6_small 34 = .ok (.iload_n 2, 1) := by decide +kernel
theorem dX6_small_35 : decode cX6_small 35 = .ok (.aload_n 0, 1) := by decide +kernel
theorem dX6_small_36 : decode cX6_small 36 = .ok (.iconst 1, 1) := by decide +kernel
theorem dX6_small_37 : decode cX6_small 37 = .ok (.iload_n 3, 1) := by decide +kernel
theorem dX6_small_38 : decode cX6_small 38 = .ok (.invokevirtual 100, 3) := by decide +kernel
theorem dX6_small_41 : decode cX6_small 41 = .ok (.iload_n 1, 1) := by decide +kernel
theorem dX6_small_42 : decode cX6_small 42 = .ok (.if_icmp .gt 7, 3) := by decide +kernel
theorem dX6_small_45 : decode cX6_small 45 = .ok (.iconst 1, 1) := by decide +kernel
theorem dX6_small_46 : decode cX6_small 46 = .ok (.goto 4, 3) := by decide +kernel
theorem dX6_small_49 : decode cX6_small 49 = .ok (.iconst 0, 1) := by decide +kernel
theorem dX6_small_50 : decode cX6_small 50 = .ok (.iadd, 1) := by decide +kernel
theorem dX6_small_51 : decode cX6_small 51 = .ok (.istore_n 2, 1) := by decide +kernel
theorem dX6_small_52 : decode cX6_small 52 = .ok (.iinc 3 1, 3) := by decide +kernel
theorem dX6_small_55 : decode cX6_small 55 = .ok (.goto (-29), 3) := by decide +kernel
theorem dX6_small_58 : decode cX6_small 58 = .ok (.iload_n 2, 1) := by decide +kernel
theorem dX6_small_59 : decode cX6_small 59 = .ok (.ireturn, 1) := by decide +kernel
theorem dX6_seed_0 : decode cX6_seed 0 = .ok (.iload_n 1, 1) := by decide +kernel
theorem dX6_seed_1 : decode cX6_seed 1 = .ok (.ifCond .ge 6, 3) := by decide +kernel
theorem dX6_seed_4 : decode cX6_seed 4 = .ok (.ldc 121, 2) := by decide +kernel
theorem dX6_seed_6 : decode cX6_seed 6 = .ok (.ireturn, 1) := by decide +kernel
theorem dX6_seed_7 : decode cX6_seed 7 = .ok (.aload_n 0, 1) := by decide +kernel
theorem dX6_seed_8 : decode cX6_seed 8 = .ok (.getfield 169, 3) := by decide +kernel
theorem dX6_seed_11 : decode cX6_seed 11 = .ok (.istore_n 2, 1) := by decide +kernel
theorem dX6_seed_12 : decode cX6_seed 12 = .ok (.aload_n 0, 1) := by decide +kernel
theorem dX6_seed_13 : decode cX6_seed 13 = .ok (.iload_n 1, 1) := by decide +kernel
theorem dX6_seed_14 : decode cX6_seed 14 = .ok (.putfield 169, 3) := by decide +kernel
theorem dX6_seed_17 : decode cX6_seed 17 = .ok (.iload_n 2, 1) := by decide +kernel
theorem dX6_seed_18 : decode cX6_seed 18 = .ok (.ireturn, 1) := by decide +kernel
set_option maxRecDepth 20000 in
theorem ggX6_keep_X6_in : GoodIn wsX6_keep wsX6_in := goodIn_r _ [11] (by decide +kernel) (by decide +kernel)
set_option maxRecDepth 20000 in
theorem gX6_keep_X6_in : GoodIn wsX6_keep (va_wsS RX6 48 yX6_in wsX6_in) := goodIn_app (goodIn_of _ (by decide +kernel)) ggX6_keep_X6_in
theorem dX6_keep_0 : decode cX6_keep 0 = .ok (.iload_n 1, 1) := by decide +kernel
theorem dX6_keep_1 : decode cX6_keep 1 = .ok (.iconst 0, 1) := by decide +kernel
theorem dX6_keep_2 : decode cX6_keep 2 = .ok (.iconst 1, 1) := by decide +kernel
theorem dX6_keep_3 : decode cX6_keep 3 = .ok (.invokestatic 48, 3) := by decide +kernel
theorem dX6_keep_6 : decode cX6_keep 6 = .ok (.ifCond .ne 6, 3) := by decide +kernel
theorem dX6_keep_9 : decode cX6_keep 9 = .ok (.ldc 122, 2) := by decide +kernel
theorem dX6_keep_11 : decode cX6_keep 11 = .ok (.ireturn, 1) := by decide +kernel
theorem dX6_keep_12 : decode cX6_keep 12 = .ok (.aload_n 0, 1) := by decide +kernel
theorem dX6_keep_13 : decode cX6_keep 13 = .ok (.getfield 34, 3) := by decide +kernel
theorem dX6_keep_16 : decode cX6_keep 16 = .ok (.iload_n 1, 1) := by decide +kernel
theorem dX6_keep_17 : decode cX6_keep 17 = .ok (.iconst 1, 1) := by decide +kernel
theorem dX6_keep_18 : decode cX6_keep 18 = .ok (.bastore, 1) := by decide +kernel
theorem dX6_keep_19 : decode cX6_keep 19 = .ok (.aload_n 0, 1) := by decide +kernel
theorem dX6_keep_20 : decode cX6_keep 20 = .ok (.getfield 41, 3) := by decide +kernel
theorem dX6_keep_23 : decode cX6_keep 23 = .ok (.iload_n 1, 1) := by decide +kernel
theorem dX6_keep_24 : decode cX6_keep 24 = .ok (.aload_n 0, 1) := by decide +kernel
theorem dX6_keep_25 : decode cX6_keep 25 = .ok (.getfield 169, 3) := by decide +kernel
theorem dX6_keep_28 : decode cX6_keep 28 = .ok (.iastore, 1) := by decide +kernel
theorem dX6_keep_29 : decode cX6_keep 29 = .ok (.iconst 0, 1) := by decide +kernel
theorem dX6_keep_30 : decode cX6_keep 30 = .ok (.istore_n 2, 1) := by decide +kernel
theorem dX6_keep_31 : decode cX6_keep 31 = .ok (.iload_n 2, 1) := by decide +kernel
theorem dX6_keep_32 : decode cX6_keep 32 = .ok (.bipush 17, 2) := by decide +kernel
theorem dX6_keep_34 : decode cX6_keep 34 = .ok (.if_icmp .ge 26, 3) := by decide +kernel
theorem dX6_keep_37 : decode cX6_keep 37 = .ok (.aload_n 0, 1) := by decide +kernel
theorem dX6_keep_38 : decode cX6_keep 38 = .ok (.getfield 38, 3) := by decide +kernel
theorem dX6_keep_41 : decode cX6_keep 41 = .ok (.bipush 17, 2) := by decide +kernel
theorem dX6_keep_43 : decode cX6_keep 43 = .ok (.iload_n 1, 1) := by decide +kernel
theorem dX6_keep_44 : decode cX6_keep 44 = .ok (.imul, 1) := by decide +kernel
theorem dX6_keep_45 : decode cX6_keep 45 = .ok (.iload_n 2, 1) := by decide +kernel
theorem dX6_keep_46 : decode cX6_keep 46 = .ok (.iadd, 1) := by decide +kernel
theorem dX6_keep_47 : decode cX6_keep 47 = .ok (.aload_n 0, 1) := by decide +kernel
theorem dX6_keep_48 : decode cX6_keep 48 = .ok (.getfield 7, 3) := by decide +kernel
theorem dX6_keep_51 : decode cX6_keep 51 = .ok (.iload_n 2, 1) := by decide +kernel
theorem dX6_keep_52 : decode cX6_keep 52 = .ok (.iaload, 1) := by decide +kernel
theorem dX6_keep_53 : decode cX6_keep 53 = .ok (.iastore, 1) := by decide +kernel
theorem dX6_keep_54 : decode cX6_keep 54 = .ok (.iinc 2 1, 3) := by decide +kernel
theorem dX6_keep_57 : decode cX6_keep 57 = .ok (.goto (-26), 3) := by decide +kernel
theorem dX6_keep_60 : decode cX6_keep 60 = .ok (.aload_n 0, 1) := by decide +kernel
theorem dX6_keep_61 : decode cX6_keep 61 = .ok (.iconst 0, 1) := by decide +kernel
theorem dX6_keep_62 : decode cX6_keep 62 = .ok (.putfield 118, 3) := by decide +kernel
theorem dX6_keep_65 : decode cX6_keep 65 = .ok (.iconst 1, 1) := by decide +kernel
theorem dX6_keep_66 : decode cX6_keep 66 = .ok (.ireturn, 1) := by decide +kernel
set_option maxRecDepth 20000 in
theorem ggX6_goBack_X6_in : GoodIn wsX6_goBack wsX6_in := goodIn_r _ [12] (by decide +kernel) (by decide +kernel)
set_option maxRecDepth 20000 in
theorem gX6_goBack_X6_in : GoodIn wsX6_goBack (va_wsS RX6 48 yX6_in wsX6_in) := goodIn_app (goodIn_of _ (by decide +kernel)) ggX6_goBack_X6_in
theorem dX6_goBack_0 : decode cX6_goBack 0 = .ok (.iload_n 1, 1) := by decide +kernel
theorem dX6_goBack_1 : decode cX6_goBack 1 = .ok (.iconst 0, 1) := by decide +kernel
theorem dX6_goBack_2 : decode cX6_goBack 2 = .ok (.iconst 1, 1) := by decide +kernel
theorem dX6_goBack_3 : decode cX6_goBack 3 = .ok (.invokestatic 48, 3) := by decide +kernel
theorem dX6_goBack_6 : decode cX6_goBack 6 = .ok (.ifCond .ne 6, 3) := by decide +kernel
theorem dX6_goBack_9 : decode cX6_goBack 9 = .ok (.ldc 122, 2) := by decide +kernel
theorem dX6_goBack_11 : decode cX6_goBack 11 = .ok (.ireturn, 1) := by decide +kernel
theorem dX6_goBack_12 : decode cX6_goBack 12 = .ok (.aload_n 0, 1) := by decide +kernel
theorem dX6_goBack_13 : decode cX6_goBack 13 = .ok (.getfield 34, 3) := by decide +kernel
theorem dX6_goBack_16 : decode cX6_goBack 16 = .ok (.iload_n 1, 1) := by decide +kernel
theorem dX6_goBack_17 : decode cX6_goBack 17 = .ok (.baload, 1) := by decide +kernel
theorem dX6_goBack_18 : decode cX6_goBack 18 = .ok (.ifCond .ne 6, 3) := by decide +kernel
theorem dX6_goBack_21 : decode cX6_goBack 21 = .ok (.ldc 168, 2) := by decide +kernel
theorem dX6_goBack_23 : decode cX6_goBack 23 = .ok (.ireturn, 1) := by decide +kernel
theorem dX6_goBack_24 : decode cX6_goBack 24 = .ok (.aload_n 0, 1) := by decide +kernel
theorem dX6_goBack_25 : decode cX6_goBack 25 = .ok (.aload_n 0, 1) := by decide +kernel
theorem dX6_goBack_26 : decode cX6_goBack 26 = .ok (.getfield 41, 3) := by decide +kernel
theorem dX6_goBack_29 : decode cX6_goBack 29 = .ok (.iload_n 1, 1) := by decide +kernel
theorem dX6_goBack_30 : decode cX6_goBack 30 = .ok (.iaload, 1) := by decide +kernel
theorem dX6_goBack_31 : decode cX6_goBack 31 = .ok (.putfield 169, 3) := by decide +kernel
theorem dX6_goBack_34 : decode cX6_goBack 34 = .ok (.iconst 0, 1) := by decide +kernel
theorem dX6_goBack_35 : decode cX6_goBack 35 = .ok (.istore_n 2, 1) := by decide +kernel
theorem dX6_goBack_36 : decode cX6_goBack 36 = .ok (.iload_n 2, 1) := by decide +kernel
theorem dX6_goBack_37 : decode cX6_goBack 37 = .ok (.bipush 17, 2) := by decide +kernel
theorem dX6_goBack_39 : decode cX6_goBack 39 = .ok (.if_icmp .ge 26, 3) := by decide +kernel
theorem dX6_goBack_42 : decode cX6_goBack 42 = .ok (.aload_n 0, 1) := by decide +kernel
theorem dX6_goBack_43 : decode cX6_goBack 43 = .ok (.getfield 7, 3) := by decide +kernel
theorem dX6_goBack_46 : decode cX6_goBack 46 = .ok (.iload_n 2, 1) := by decide +kernel
theorem dX6_goBack_47 : decode cX6_goBack 47 = .ok (.aload_n 0, 1) := by decide +kernel
theorem dX6_goBack_48 : decode cX6_goBack 48 = .ok (.getfield 38, 3) := by decide +kernel
theorem dX6_goBack_51 : decode cX6_goBack 51 = .ok (.bipush 17, 2) := by decide +kernel
theorem dX6_goBack_53 : decode cX6_goBack 53 = .ok (.iload_n 1, 1) := by decide +kernel
theorem dX6_goBack_54 : decode cX6_goBack 54 = .ok (.imul, 1) := by decide +kernel
theorem dX6_goBack_55 : decode cX6_goBack 55 = .ok (.iload_n 2, 1) := by decide +kernel
theorem dX6_goBack_56 : decode cX6_goBack 56 = .ok (.iadd, 1) := by decide +kernel
theorem dX6_goBack_57 : decode cX6_goBack 57 = .ok (.iaload, 1) := by decide +kernel
theorem dX6_goBack_58 : decode cX6_goBack 58 = .ok (.iastore, 1) := by decide +kernel
theorem dX6_goBack_59 : decode cX6_goBack 59 = .ok (.iinc 2 1, 3) := by decide +kernel
theorem dX6_goBack_62 : decode cX6_goBack 62 = .ok (.goto (-26), 3) := by decide +kernel
theorem dX6_goBack_65 : decode cX6_goBack 65 = .ok (.aload_n 0, 1) := by decide +kernel
theorem dX6_goBack_66 : decode cX6_goBack 66 = .ok (.iconst 0, 1) := by decide +kernel
theorem dX6_goBack_67 : decode cX6_goBack 67 = .ok (.putfield 118, 3) := by decide +kernel
theorem dX6_goBack_70 : decode cX6_goBack 70 = .ok (.iconst 1, 1) := by decide +kernel
theorem dX6_goBack_71 : decode cX6_goBack 71 = .ok (.ireturn, 1) := by decide +kernel
theorem dJ6_bitCount_0f7a4_0 : decode cJ6_bitCount_0f7a4 0 = .ok (.iload_n 0, 1) := by decide +kernel
theorem dJ6_bitCount_0f7a4_1 : decode cJ6_bitCount_0f7a4 1 = .ok (.iload_n 0, 1) := by decide +kernel
theorem dJ6_bitCount_0f7a4_2 : decode cJ6_bitCount_0f7a4 2 = .ok (.iconst 1, 1) := by decide +kernel
theorem dJ6_bitCount_0f7a4_3 : decode cJ6_bitCount_0f7a4 3 = .ok (.iushr, 1) := by decide +kernel
theorem dJ6_bitCount_0f7a4_4 : decode cJ6_bitCount_0f7a4 4 = .ok (.ldc_w 265, 3) := by decide +kernel
theorem dJ6_bitCount_0f7a4_7 : decode cJ6_bitCount_0f7a4 7 = .ok (.iand, 1) := by decide +kernel
theorem dJ6_bitCount_0f7a4_8 : decode cJ6_bitCount_0f7a4 8 = .ok (.isub, 1) := by decide +kernel
theorem dJ6_bitCount_0f7a4_9 : decode cJ6_bitCount_0f7a4 9 = .ok (.istore_n 0, 1) := by decide +kernel
theorem dJ6_bitCount_0f7a4_10 : decode cJ6_bitCount_0f7a4 10 = .ok (.iload_n 0, 1) := by decide +kernel
theorem dJ6_bitCount_0f7a4_11 : decode cJ6_bitCount_0f7a4 11 = .ok (.ldc_w 266, 3) := by decide +kernel
theorem dJ6_bitCount_0f7a4_14 : decode cJ6_bitCount_0f7a4 14 = .ok (.iand, 1) := by decide +kernel
theorem dJ6_bitCount_0f7a4_15 : decode cJ6_bitCount_0f7a4 15 = .ok (.iload_n 0, 1) := by decide +kernel
theorem dJ6_bitCount_0f7a4_16 : decode cJ6_bitCount_0f7a4 16 = .ok (.iconst 2, 1) := by decide +kernel
theorem dJ6_bitCount_0f7a4_17 : decode cJ6_bitCount_0f7a4 17 = .ok (.iushr, 1) := by decide +kernel
theorem dJ6_bitCount_0f7a4_18 : decode cJ6_bitCount_0f7a4 18 = .ok (.ldc_w 266, 3) := by decide +kernel
theorem dJ6_bitCount_0f7a4_21 : decode cJ6_bitCount_0f7a4 21 = .ok (.iand, 1) := by decide +kernel
theorem dJ6_bitCount_0f7a4_22 : decode cJ6_bitCount_0f7a4 22 = .ok (.iadd, 1) := by decide +kernel
theorem dJ6_bitCount_0f7a4_23 : decode cJ6_bitCount_0f7a4 23 = .ok (.istore_n 0, 1) := by decide +kernel
theorem dJ6_bitCount_0f7a4_24 : decode cJ6_bitCount_0f7a4 24 = .ok (.iload_n 0, 1) := by decide +kernel
theorem dJ6_bitCount_0f7a4_25 : decode cJ6_bitCount_0f7a4 25 = .ok (.iload_n 0, 1) := by decide +kernel
theorem dJ6_bitCount_0f7a4_26 : decode cJ6_bitCount_0f7a4 26 = .ok (.iconst 4, 1) := by decide +kernel
theorem dJ6_bitCount_0f7a4_27 : decode cJ6_bitCount_0f7a4 27 = .ok (.iushr, 1) := by decide +kernel
theorem dJ6_bitCount_0f7a4_28 : decode cJ6_bitCount_0f7a4 28 = .ok (.iadd, 1) := by decide +kernel
theorem dJ6_bitCount_0f7a4_29 : decode cJ6_bitCount_0f7a4 29 = .ok (.ldc_w 267, 3) := by decide +kernel
theorem dJ6_bitCount_0f7a4_32 : decode cJ6_bitCount_0f7a4 32 = .ok (.iand, 1) := by decide +kernel
theorem dJ6_bitCount_0f7a4_33 : decode cJ6_bitCount_0f7a4 33 = .ok (.istore_n 0, 1) := by decide +kernel
theorem dJ6_bitCount_0f7a4_34 : decode cJ6_bitCount_0f7a4 34 = .ok (.iload_n 0, 1) := by decide +kernel
theorem dJ6_bitCount_0f7a4_35 : decode cJ6_bitCount_0f7a4 35 = .ok (.iload_n 0, 1) := by decide +kernel
theorem dJ6_bitCount_0f7a4_36 : decode cJ6_bitCount_0f7a4 36 = .ok (.bipush 8, 2) := by decide +kernel
theorem dJ6_bitCount_0f7a4_38 : decode cJ6_bitCount_0f7a4 38 = .ok (.iushr, 1) := by decide +kernel
theorem dJ6_bitCount_0f7a4_39 : decode cJ6_bitCount_0f7a4 39 = .ok (.iadd, 1) := by decide +kernel
theorem dJ6_bitCount_0f7a4_40 : decode cJ6_bitCount_0f7a4 40 = .ok (.istore_n 0, 1) := by decide +kernel
theorem dJ6_bitCount_0f7a4_41 : decode cJ6_bitCount_0f7a4 41 = .ok (.iload_n 0, 1) := by decide +kernel
theorem dJ6_bitCount_0f7a4_42 : decode cJ6_bitCount_0f7a4 42 = .ok (.iload_n 0, 1) := by decide +kernel
theorem dJ6_bitCount_0f7a4_43 : decode cJ6_bitCount_0f7a4 43 = .ok (.bipush 16, 2) := by decide +kernel
theorem dJ6_bitCount_0f7a4_45 : decode cJ6_bitCount_0f7a4 45 = .ok (.iushr, 1) := by decide +kernel
theorem dJ6_bitCount_0f7a4_46 : decode cJ6_bitCount_0f7a4 46 = .ok (.iadd, 1) := by decide +kernel
theorem dJ6_bitCount_0f7a4_47 : decode cJ6_bitCount_0f7a4 47 = .ok (.istore_n 0, 1) := by decide +kernel
theorem dJ6_bitCount_0f7a4_48 : decode cJ6_bitCount_0f7a4 48 = .ok (.iload_n 0, 1) := by decide +kernel
theorem dJ6_bitCount_0f7a4_49 : decode cJ6_bitCount_0f7a4 49 = .ok (.bipush 63, 2) := by decide +kernel
theorem dJ6_bitCount_0f7a4_51 : decode cJ6_bitCount_0f7a4 51 = .ok (.iand, 1) := by decide +kernel
theorem dJ6_bitCount_0f7a4_52 : decode cJ6_bitCount_0f7a4 52 = .ok (.ireturn, 1) := by decide +kernel
theorem dJ9_floorMod_7cf53_0 : decode cJ9_floorMod_7cf53 0 = .ok (.iload_n 0, 1) := by decide +kernel
theorem dJ9_floorMod_7cf53_1 : decode cJ9_floorMod_7cf53 1 = .ok (.iload_n 1, 1) := by decide +kernel
theorem dJ9_floorMod_7cf53_2 : decode cJ9_floorMod_7cf53 2 = .ok (.irem, 1) := by decide +kernel
theorem dJ9_floorMod_7cf53_3 : decode cJ9_floorMod_7cf53 3 = .ok (.istore_n 2, 1) := by decide +kernel
theorem dJ9_floorMod_7cf53_4 : decode cJ9_floorMod_7cf53 4 = .ok (.iload_n 0, 1) := by decide +kernel
theorem dJ9_floorMod_7cf53_5 : decode cJ9_floorMod_7cf53 5 = .ok (.iload_n 1, 1) := by decide +kernel
theorem dJ9_floorMod_7cf53_6 : decode cJ9_floorMod_7cf53 6 = .ok (.ixor, 1) := by decide +kernel
theorem dJ9_floorMod_7cf53_7 : decode cJ9_floorMod_7cf53 7 = .ok (.ifCond .ge 11, 3) := by decide +kernel
theorem dJ9_floorMod_7cf53_10 : decode cJ9_floorMod_7cf53 10 = .ok (.iload_n 2, 1) := by decide +kernel
theorem dJ9_floorMod_7cf53_11 : decode cJ9_floorMod_7cf53 11 = .ok (.ifCond .eq 7, 3) := by decide +kernel
theorem dJ9_floorMod_7cf53_14 : decode cJ9_floorMod_7cf53 14 = .ok (.iload_n 2, 1) := by decide +kernel
theorem dJ9_floorMod_7cf53_15 : decode cJ9_floorMod_7cf53 15 = .ok (.iload_n 1, 1) := by decide +kernel
theorem dJ9_floorMod_7cf53_16 : decode cJ9_floorMod_7cf53 16 = .ok (.iadd, 1) := by decide +kernel
theorem dJ9_floorMod_7cf53_17 : decode cJ9_floorMod_7cf53 17 = .ok (.ireturn, 1) := by decide +kernel
theorem dJ9_floorMod_7cf53_18 : decode cJ9_floorMod_7cf53 18 = .ok (.iload_n 2, 1) := by decide +kernel
theorem dJ9_floorMod_7cf53_19 : decode cJ9_floorMod_7cf53 19 = .ok (.ireturn, 1) := by decide +kernel
theorem dJ9_max_7cf53_0 : decode cJ9_max_7cf53 0 = .ok (.iload_n 0, 1) := by decide +kernel
theorem dJ9_max_7cf53_1 : decode cJ9_max_7cf53 1 = .ok (.iload_n 1, 1) := by decide +kernel
theorem dJ9_max_7cf53_2 : decode cJ9_max_7cf53 2 = .ok (.if_icmp .lt 7, 3) := by decide +kernel
theorem dJ9_max_7cf53_5 : decode cJ9_max_7cf53 5 = .ok (.iload_n 0, 1) := by decide +kernel
theorem dJ9_max_7cf53_6 : decode cJ9_max_7cf53 6 = .ok (.goto 4, 3) := by decide +kernel
theorem dJ9_max_7cf53_9 : decode cJ9_max_7cf53 9 = .ok (.iload_n 1, 1) := by decide +kernel
theorem dJ9_max_7cf53_10 : decode cJ9_max_7cf53 10 = .ok (.ireturn, 1) := by decide +kernel
theorem dJ9_min_7cf53_0 : decode cJ9_min_7cf53 0 = .ok (.iload_n 0, 1) := by decide +kernel
theorem dJ9_min_7cf53_1 : decode cJ9_min_7cf53 1 = .ok (.iload_n 1, 1) := by decide +kernel
theorem dJ9_min_7cf53_2 : decode cJ9_min_7cf53 2 = .ok (.if_icmp .gt 7, 3) := by decide +kernel
theorem dJ9_min_7cf53_5 : decode cJ9_min_7cf53 5 = .ok (.iload_n 0, 1) := by decide +kernel
theorem dJ9_min_7cf53_6 : decode cJ9_min_7cf53 6 = .ok (.goto 4, 3) := by decide +kernel
theorem dJ9_min_7cf53_9 : decode cJ9_min_7cf53 9 = .ok (.iload_n 1, 1) := by decide +kernel
theorem dJ9_min_7cf53_10 : decode cJ9_min_7cf53 10 = .ok (.ireturn, 1) := by decide +kernel
abbrev vwCl : List vw_C := [(RX0, TX0, 3), (RX1, TX1, 14), (RX2, TX2, 3), (RX3, TX3, 3), (RX4, TX4, 8), (RX5, TX5, 7), (RX6, TX6, 17)]
end
section
/-! ===== ints as whole numbers ===== -/
def zI (z : Int) : Int32 := Int32.ofInt z
theorem zI_add (a b : Int) : zI a + zI b = zI (a + b) := (Int32.ofInt_add a b).symm
theorem zI_sub (a b : Int) : zI a - zI b = zI (a - b) := (Int32.ofInt_sub a b).symm
theorem zI_mul (a b : Int) : zI a * zI b = zI (a * b) := (Int32.ofInt_mul a b).symm
theorem zI_neg (a : Int) : -zI a = zI (-a) := (Int32.ofInt_neg a).symm
theorem zI_toInt {a : Int} (h : -2147483648 ≤ a ∧ a ≤ 2147483647) : (zI a).toInt = a := Int32.toInt_ofInt_of_le (by omega) (by omega)
theorem zI_self (x : Int32) : zI x.toInt = x := Int32.ofInt_toInt x
theorem zI_ex (x : Int32) : ∃ z : Int, (-2147483648 ≤ z ∧ z ≤ 2147483647) ∧ x = zI z := ⟨x.toInt, ⟨by have := Int32.le_toInt x; omega, by have := Int32.toInt_lt x; omega⟩, (zI_self x).symm⟩
theorem zI_nat (n : Nat) : zI (n : Int) = nI n := Int32.ofInt_eq_ofNat
theorem zI_lt {a b : Int} (ha : -2147483648 ≤ a ∧ a ≤ 2147483647) (hb : -2147483648 ≤ b ∧ b ≤ 2147483647) : zI a < zI b ↔ a < b := by
  rw [Int32.lt_iff_toInt_lt, zI_toInt ha, zI_toInt hb]
theorem zI_le {a b : Int} (ha : -2147483648 ≤ a ∧ a ≤ 2147483647) (hb : -2147483648 ≤ b ∧ b ≤ 2147483647) : zI a ≤ zI b ↔ a ≤ b := by
  rw [Int32.le_iff_toInt_le, zI_toInt ha, zI_toInt hb]
theorem zI_eq {a b : Int} (ha : -2147483648 ≤ a ∧ a ≤ 2147483647) (hb : -2147483648 ≤ b ∧ b ≤ 2147483647) : zI a = zI b ↔ a = b := by
  rw [← Int32.toInt_inj, zI_toInt ha, zI_toInt hb]
theorem zI_0 : zI 0 = 0 := rfl
theorem zI_cl (k : Nat) (h : k < 2147483648) : (zI (k : Int)).toNatClampNeg = k := by rw [zI_nat]; exact nI_clamp h
theorem zI_in {a : Int} {n : Nat} (k : Nat) (e : a = (k : Int)) (h : k < n) (hn : n ≤ 65536) : vp_in (zI a) n := by
  subst e; rw [zI_nat]; exact nI_in h (by omega)
theorem zI_div {a b : Int} (ha : 0 ≤ a ∧ a ≤ 2147483647) (hb : 0 < b ∧ b ≤ 2147483647) : zI a / zI b = zI (a / b) := by
  obtain ⟨x, rfl⟩ : ∃ x : Nat, a = x := ⟨a.toNat, by omega⟩
  obtain ⟨y, rfl⟩ : ∃ y : Nat, b = y := ⟨b.toNat, by omega⟩
  rw [zI_nat, zI_nat, pk_div (by omega) (by omega) (by omega), ← zI_nat]
  rfl
theorem zI_rem {a b : Int} (ha : 0 ≤ a ∧ a ≤ 2147483647) (hb : 0 < b ∧ b ≤ 2147483647) : zI a - zI a / zI b * zI b = zI (a % b) := by
  obtain ⟨x, rfl⟩ : ∃ x : Nat, a = x := ⟨a.toNat, by omega⟩
  obtain ⟨y, rfl⟩ : ∃ y : Nat, b = y := ⟨b.toNat, by omega⟩
  rw [zI_nat, zI_nat, pk_rem (by omega) (by omega) (by omega), ← zI_nat]
  rfl
/-- a truth as an int -/
def bI (b : Bool) : Int32 := zI (if b then 1 else 0)
theorem bI_t {b : Bool} (h : b = true) : zI 1 = bI b := by subst h; rfl
theorem bI_f {b : Bool} (h : b = false) : zI 0 = bI b := by subst h; rfl
theorem bI_eq0 (b : Bool) : bI b = 0 ↔ b = false := by cases b <;> decide
theorem bI_inj {a b : Bool} : bI a = bI b ↔ a = b := by cases a <;> cases b <;> decide
theorem bI_narrow (b : Bool) : narrow .boolean (.int (bI b)) = .int (bI b) := by cases b <;> decide
theorem bI_nar (b : Bool) : vp_nar .boolean (bI b) = bI b := by cases b <;> decide
theorem bI_fits (b : Bool) : fits .boolean (.int (bI b)) = true := by cases b <;> decide
/-- arrays of whole numbers, of truths -/
def aZ (F : Nat → Int) : Nat → Int32 := fun k => zI (F k)
def aB (F : Nat → Bool) : Nat → Int32 := fun k => bI (F k)
def uZ (F : Nat → Int) (k : Nat) (v : Int) : Nat → Int := fun j => if j = k then v else F j
def uB (F : Nat → Bool) (k : Nat) (v : Bool) : Nat → Bool := fun j => if j = k then v else F j
theorem uZ_s (F : Nat → Int) (k : Nat) (v : Int) : uZ F k v k = v := by simp [uZ]
theorem uZ_n (F : Nat → Int) {k j : Nat} (v : Int) (h : j ≠ k) : uZ F k v j = F j := by simp [uZ, h]
theorem uB_s (F : Nat → Bool) (k : Nat) (v : Bool) : uB F k v k = v := by simp [uB]
theorem uB_n (F : Nat → Bool) {k j : Nat} (v : Bool) (h : j ≠ k) : uB F k v j = F j := by simp [uB, h]
theorem aZ_upd (F : Nat → Int) (k : Nat) (v : Int) : upd (aZ F) k (zI v) = aZ (uZ F k v) := by
  funext j
  by_cases h : j = k
  · subst h; simp [upd, aZ, uZ]
  · simp [upd, aZ, uZ, h]
theorem aB_upd (F : Nat → Bool) (k : Nat) (v : Bool) : upd (aB F) k (bI v) = aB (uB F k v) := by
  funext j
  by_cases h : j = k
  · subst h; simp [upd, aB, uB]
  · simp [upd, aB, uB, h]
theorem aZ_ex (f : Nat → Int32) : ∃ F : Nat → Int, f = aZ F := ⟨fun k => (f k).toInt, funext fun k => (zI_self (f k)).symm⟩
def cpZ (F G : Nat → Int) (sp dp n : Nat) : Nat → Int := fun j => if dp ≤ j ∧ j < dp + n then F (sp + (j - dp)) else G j
theorem aZ_cpy (F G : Nat → Int) (sp dp n : Nat) : va_cpy (aZ F) (aZ G) sp dp n = aZ (cpZ F G sp dp n) := by
  funext j
  by_cases h : dp ≤ j ∧ j < dp + n
  · rw [pk_cpy_in h.1 h.2]; simp [aZ, cpZ, h]
  · rw [pk_cpy_out (by omega)]; simp only [aZ, cpZ, if_neg h]
/-! ===== bits ===== -/
theorem zb_and (a b : Nat) : zI (a : Int) &&& zI (b : Int) = zI ((a &&& b : Nat) : Int) := by
  rw [zI_nat, zI_nat, zI_nat]
  unfold nI
  apply Int32.toBitVec.inj
  simp [BitVec.ofNat_and]
theorem zb_or (a b : Nat) : zI (a : Int) ||| zI (b : Int) = zI ((a ||| b : Nat) : Int) := by
  rw [zI_nat, zI_nat, zI_nat]
  unfold nI
  apply Int32.toBitVec.inj
  simp [BitVec.ofNat_or]
theorem zb_xor (a b : Nat) : zI (a : Int) ^^^ zI (b : Int) = zI ((a ^^^ b : Nat) : Int) := by
  rw [zI_nat, zI_nat, zI_nat]
  unfold nI
  apply Int32.toBitVec.inj
  simp [BitVec.ofNat_xor]
theorem zb_sm : ∀ n, n < 32 → ((zI ((n : Nat) : Int) &&& 31).toBitVec.smod 32).toNat = n := by decide +kernel
theorem zb_shl {a n : Nat} (hn : n < 32) (h : a * 2 ^ n < 2 ^ 32) : zI (a : Int) <<< (zI (n : Int) &&& 31) = zI ((a <<< n : Nat) : Int) := by
  rw [zI_nat a, pk_shlN _ n (zb_sm n hn) h, Nat.shiftLeft_eq, zI_nat]
theorem zb_shr {a n : Nat} (ha : a < 2 ^ 31) (hn : n < 32) : zI (a : Int) >>> (zI (n : Int) &&& 31) = zI ((a >>> n : Nat) : Int) := by
  rw [zI_nat a, pk_shrN ha _ n (zb_sm n hn), Nat.shiftRight_eq_div_pow, zI_nat]
theorem zb_bit (a n : Nat) : (a >>> n) &&& 1 = if a.testBit n then 1 else 0 := by
  have : (a >>> n) &&& 1 = (a >>> n) % 2 := Nat.and_one_is_mod _
  rw [this, Nat.testBit_eq_decide_div_mod_eq, Nat.shiftRight_eq_div_pow]
  rcases Nat.mod_two_eq_zero_or_one (a / 2 ^ n) with h | h <;> simp [h]
theorem zb_m255 {a : Int} (h : 0 ≤ a ∧ a < 256) : zI a &&& zI 255 = zI a := by
  obtain ⟨x, rfl⟩ : ∃ x : Nat, a = x := ⟨a.toNat, by omega⟩
  have e := zb_and x 255
  rw [show ((255 : Nat) : Int) = 255 from rfl] at e
  rw [e, show (255 : Nat) = 2 ^ 8 - 1 from rfl, Nat.and_two_pow_sub_one_eq_mod, Nat.mod_eq_of_lt (by omega)]
theorem zb_m15 {a : Int} (h : 0 ≤ a ∧ a < 16) : zI a &&& zI 15 = zI a := by
  obtain ⟨x, rfl⟩ : ∃ x : Nat, a = x := ⟨a.toNat, by omega⟩
  have e := zb_and x 15
  rw [show ((15 : Nat) : Int) = 15 from rfl] at e
  rw [e, show (15 : Nat) = 2 ^ 4 - 1 from rfl, Nat.and_two_pow_sub_one_eq_mod, Nat.mod_eq_of_lt (by omega)]
theorem zI_max {a b : Int} (ha : -2147483648 ≤ a ∧ a ≤ 2147483647) (hb : -2147483648 ≤ b ∧ b ≤ 2147483647) : (if zI a < zI b then zI b else zI a) = zI (max a b) := by
  by_cases h : a < b
  · rw [if_pos ((zI_lt ha hb).mpr h), Int.max_eq_right (by omega)]
  · rw [if_neg (fun z => h ((zI_lt ha hb).mp z)), Int.max_eq_left (by omega)]
theorem zI_min {a b : Int} (ha : -2147483648 ≤ a ∧ a ≤ 2147483647) (hb : -2147483648 ≤ b ∧ b ≤ 2147483647) : (if zI b < zI a then zI b else zI a) = zI (min a b) := by
  by_cases h : b < a
  · rw [if_pos ((zI_lt hb ha).mpr h), Int.min_eq_right (by omega)]
  · rw [if_neg (fun z => h ((zI_lt hb ha).mp z)), Int.min_eq_left (by omega)]
end
