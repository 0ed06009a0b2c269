section
-- ===== PART A: goes FIRST, ahead of the names: the tables' words, and 'selects' of the private methods out of them =====
/-- a private method of a class that the tables say can be made, by its rows of tables_1 -/
def lw_okq (q : MethodName × Nat) : Prop := (q.1.cls ≠ "java/lang/invoke/MethodHandle" ∧ q.1.cls ≠ "java/lang/invoke/VarHandle") ∧ Cond.instantiable q.1.cls q.2 ∈ tables_1 ∧ Cond.privateMethod q.1 ∈ tables_1 ∧ Cond.instanceMethod q.1 ∈ tables_1
theorem lw_p0 : lw_okq (⟨"GatedWorks", "refuseBad", "()I"⟩, 8) := ⟨⟨by decide +kernel, by decide +kernel⟩, List.mem_of_getElem? (i := 16) (by decide +kernel), List.mem_of_getElem? (i := 369) (by decide +kernel), List.mem_of_getElem? (i := 370) (by decide +kernel)⟩
theorem lw_p1 : lw_okq (⟨"GatedWorks$Floor", "serveFirst", "()Z"⟩, 9) := ⟨⟨by decide +kernel, by decide +kernel⟩, List.mem_of_getElem? (i := 24) (by decide +kernel), List.mem_of_getElem? (i := 422) (by decide +kernel), List.mem_of_getElem? (i := 423) (by decide +kernel)⟩
theorem lw_p2 : lw_okq (⟨"GatedWorks", "refuseFull", "()I"⟩, 8) := ⟨⟨by decide +kernel, by decide +kernel⟩, List.mem_of_getElem? (i := 16) (by decide +kernel), List.mem_of_getElem? (i := 481) (by decide +kernel), List.mem_of_getElem? (i := 482) (by decide +kernel)⟩
theorem lw_p3 : lw_okq (⟨"GatedWorks$Floor", "tickStation", "(LGatedWorks$Station;)I"⟩, 9) := ⟨⟨by decide +kernel, by decide +kernel⟩, List.mem_of_getElem? (i := 24) (by decide +kernel), List.mem_of_getElem? (i := 509) (by decide +kernel), List.mem_of_getElem? (i := 510) (by decide +kernel)⟩
theorem lw_p4 : lw_okq (⟨"GatedWorks$Floor", "work", "(LGatedWorks$Station;)I"⟩, 9) := ⟨⟨by decide +kernel, by decide +kernel⟩, List.mem_of_getElem? (i := 24) (by decide +kernel), List.mem_of_getElem? (i := 513) (by decide +kernel), List.mem_of_getElem? (i := 514) (by decide +kernel)⟩
theorem lw_p5 : lw_okq (⟨"GatedWorks$Floor", "deliver", "(LGatedWorks$Station;)I"⟩, 9) := ⟨⟨by decide +kernel, by decide +kernel⟩, List.mem_of_getElem? (i := 24) (by decide +kernel), List.mem_of_getElem? (i := 521) (by decide +kernel), List.mem_of_getElem? (i := 522) (by decide +kernel)⟩
theorem lw_p6 : lw_okq (⟨"GatedWorks$Floor", "takePair", "(II)I"⟩, 9) := ⟨⟨by decide +kernel, by decide +kernel⟩, List.mem_of_getElem? (i := 24) (by decide +kernel), List.mem_of_getElem? (i := 526) (by decide +kernel), List.mem_of_getElem? (i := 527) (by decide +kernel)⟩
theorem lw_p7 : lw_okq (⟨"GatedWorks", "refuseNo", "()I"⟩, 8) := ⟨⟨by decide +kernel, by decide +kernel⟩, List.mem_of_getElem? (i := 16) (by decide +kernel), List.mem_of_getElem? (i := 595) (by decide +kernel), List.mem_of_getElem? (i := 596) (by decide +kernel)⟩
theorem lw_p8 : lw_okq (⟨"GatedWorks$Floor", "isStuck", "(I)Z"⟩, 9) := ⟨⟨by decide +kernel, by decide +kernel⟩, List.mem_of_getElem? (i := 24) (by decide +kernel), List.mem_of_getElem? (i := 661) (by decide +kernel), List.mem_of_getElem? (i := 662) (by decide +kernel)⟩
theorem lw_p9 : lw_okq (⟨"GatedWorks$Floor", "allItems", "()I"⟩, 9) := ⟨⟨by decide +kernel, by decide +kernel⟩, List.mem_of_getElem? (i := 24) (by decide +kernel), List.mem_of_getElem? (i := 707) (by decide +kernel), List.mem_of_getElem? (i := 708) (by decide +kernel)⟩
theorem lw_p10 : lw_okq (⟨"GatedWorks$Floor", "allEntries", "()I"⟩, 9) := ⟨⟨by decide +kernel, by decide +kernel⟩, List.mem_of_getElem? (i := 24) (by decide +kernel), List.mem_of_getElem? (i := 711) (by decide +kernel), List.mem_of_getElem? (i := 712) (by decide +kernel)⟩
theorem lw_p11 : lw_okq (⟨"GatedWorks$Runner", "enterLevel", "()V"⟩, 8) := ⟨⟨by decide +kernel, by decide +kernel⟩, List.mem_of_getElem? (i := 290) (by decide +kernel), List.mem_of_getElem? (i := 752) (by decide +kernel), List.mem_of_getElem? (i := 753) (by decide +kernel)⟩
theorem lw_p12 : lw_okq (⟨"GatedWorks$Runner", "nextByte", "()I"⟩, 8) := ⟨⟨by decide +kernel, by decide +kernel⟩, List.mem_of_getElem? (i := 290) (by decide +kernel), List.mem_of_getElem? (i := 758) (by decide +kernel), List.mem_of_getElem? (i := 759) (by decide +kernel)⟩
theorem lw_p13 : lw_okq (⟨"GatedWorks$Runner", "leaveLevel", "()V"⟩, 8) := ⟨⟨by decide +kernel, by decide +kernel⟩, List.mem_of_getElem? (i := 290) (by decide +kernel), List.mem_of_getElem? (i := 763) (by decide +kernel), List.mem_of_getElem? (i := 764) (by decide +kernel)⟩
theorem lw_p14 : lw_okq (⟨"GatedWorks$Runner", "orderDone", "(I)Z"⟩, 8) := ⟨⟨by decide +kernel, by decide +kernel⟩, List.mem_of_getElem? (i := 290) (by decide +kernel), List.mem_of_getElem? (i := 768) (by decide +kernel), List.mem_of_getElem? (i := 769) (by decide +kernel)⟩
theorem lw_p15 : lw_okq (⟨"GatedWorks$Runner", "nextFigure", "()I"⟩, 8) := ⟨⟨by decide +kernel, by decide +kernel⟩, List.mem_of_getElem? (i := 290) (by decide +kernel), List.mem_of_getElem? (i := 772) (by decide +kernel), List.mem_of_getElem? (i := 773) (by decide +kernel)⟩
def lw_privs_1 : List (MethodName × Nat) := [(⟨"GatedWorks", "refuseBad", "()I"⟩, 8), (⟨"GatedWorks$Floor", "serveFirst", "()Z"⟩, 9), (⟨"GatedWorks", "refuseFull", "()I"⟩, 8), (⟨"GatedWorks$Floor", "tickStation", "(LGatedWorks$Station;)I"⟩, 9), (⟨"GatedWorks$Floor", "work", "(LGatedWorks$Station;)I"⟩, 9), (⟨"GatedWorks$Floor", "deliver", "(LGatedWorks$Station;)I"⟩, 9), (⟨"GatedWorks$Floor", "takePair", "(II)I"⟩, 9), (⟨"GatedWorks", "refuseNo", "()I"⟩, 8), (⟨"GatedWorks$Floor", "isStuck", "(I)Z"⟩, 9), (⟨"GatedWorks$Floor", "allItems", "()I"⟩, 9), (⟨"GatedWorks$Floor", "allEntries", "()I"⟩, 9), (⟨"GatedWorks$Runner", "enterLevel", "()V"⟩, 8), (⟨"GatedWorks$Runner", "nextByte", "()I"⟩, 8), (⟨"GatedWorks$Runner", "leaveLevel", "()V"⟩, 8), (⟨"GatedWorks$Runner", "orderDone", "(I)Z"⟩, 8), (⟨"GatedWorks$Runner", "nextFigure", "()I"⟩, 8)]
theorem lw_r1 : ∀ q ∈ lw_privs_1, lw_okq q := List.forall_mem_cons.mpr ⟨lw_p0, List.forall_mem_cons.mpr ⟨lw_p1, List.forall_mem_cons.mpr ⟨lw_p2, List.forall_mem_cons.mpr ⟨lw_p3, List.forall_mem_cons.mpr ⟨lw_p4, List.forall_mem_cons.mpr ⟨lw_p5, List.forall_mem_cons.mpr ⟨lw_p6, List.forall_mem_cons.mpr ⟨lw_p7, List.forall_mem_cons.mpr ⟨lw_p8, List.forall_mem_cons.mpr ⟨lw_p9, List.forall_mem_cons.mpr ⟨lw_p10, List.forall_mem_cons.mpr ⟨lw_p11, List.forall_mem_cons.mpr ⟨lw_p12, List.forall_mem_cons.mpr ⟨lw_p13, List.forall_mem_cons.mpr ⟨lw_p14, List.forall_mem_cons.mpr ⟨lw_p15, fun _ h => absurd h List.not_mem_nil⟩⟩⟩⟩⟩⟩⟩⟩⟩⟩⟩⟩⟩⟩⟩⟩
theorem lw_p16 : lw_okq (⟨"GatedWorks$Runner", "undoLevel", "()V"⟩, 8) := ⟨⟨by decide +kernel, by decide +kernel⟩, List.mem_of_getElem? (i := 290) (by decide +kernel), List.mem_of_getElem? (i := 780) (by decide +kernel), List.mem_of_getElem? (i := 781) (by decide +kernel)⟩
theorem lw_p17 : lw_okq (⟨"GatedWorks$Runner", "skipGroup", "()V"⟩, 8) := ⟨⟨by decide +kernel, by decide +kernel⟩, List.mem_of_getElem? (i := 290) (by decide +kernel), List.mem_of_getElem? (i := 786) (by decide +kernel), List.mem_of_getElem? (i := 787) (by decide +kernel)⟩
theorem lw_p18 : lw_okq (⟨"GatedWorks", "toldOf", "(I)I"⟩, 8) := ⟨⟨by decide +kernel, by decide +kernel⟩, List.mem_of_getElem? (i := 16) (by decide +kernel), List.mem_of_getElem? (i := 802) (by decide +kernel), List.mem_of_getElem? (i := 803) (by decide +kernel)⟩
theorem lw_p19 : lw_okq (⟨"GatedWorksModel", "lays", "(I)V"⟩, 17) := ⟨⟨by decide +kernel, by decide +kernel⟩, List.mem_of_getElem? (i := 827) (by decide +kernel), List.mem_of_getElem? (i := 833) (by decide +kernel), List.mem_of_getElem? (i := 834) (by decide +kernel)⟩
theorem lw_p20 : lw_okq (⟨"GatedWorksModel", "no", "()I"⟩, 17) := ⟨⟨by decide +kernel, by decide +kernel⟩, List.mem_of_getElem? (i := 827) (by decide +kernel), List.mem_of_getElem? (i := 899) (by decide +kernel), List.mem_of_getElem? (i := 900) (by decide +kernel)⟩
theorem lw_p21 : lw_okq (⟨"GatedWorksModel", "bad", "()I"⟩, 17) := ⟨⟨by decide +kernel, by decide +kernel⟩, List.mem_of_getElem? (i := 827) (by decide +kernel), List.mem_of_getElem? (i := 910) (by decide +kernel), List.mem_of_getElem? (i := 911) (by decide +kernel)⟩
theorem lw_p22 : lw_okq (⟨"GatedWorksModel", "leavesState", "()V"⟩, 17) := ⟨⟨by decide +kernel, by decide +kernel⟩, List.mem_of_getElem? (i := 827) (by decide +kernel), List.mem_of_getElem? (i := 914) (by decide +kernel), List.mem_of_getElem? (i := 915) (by decide +kernel)⟩
theorem lw_p23 : lw_okq (⟨"GatedWorksModel", "isBuffer", "(I)Z"⟩, 17) := ⟨⟨by decide +kernel, by decide +kernel⟩, List.mem_of_getElem? (i := 827) (by decide +kernel), List.mem_of_getElem? (i := 922) (by decide +kernel), List.mem_of_getElem? (i := 923) (by decide +kernel)⟩
theorem lw_p24 : lw_okq (⟨"GatedWorksModel", "serves", "()V"⟩, 17) := ⟨⟨by decide +kernel, by decide +kernel⟩, List.mem_of_getElem? (i := 827) (by decide +kernel), List.mem_of_getElem? (i := 926) (by decide +kernel), List.mem_of_getElem? (i := 927) (by decide +kernel)⟩
theorem lw_p25 : lw_okq (⟨"GatedWorksModel", "tries", "(IIII)Z"⟩, 17) := ⟨⟨by decide +kernel, by decide +kernel⟩, List.mem_of_getElem? (i := 827) (by decide +kernel), List.mem_of_getElem? (i := 930) (by decide +kernel), List.mem_of_getElem? (i := 931) (by decide +kernel)⟩
theorem lw_p26 : lw_okq (⟨"GatedWorksModel", "put", "(III)Z"⟩, 17) := ⟨⟨by decide +kernel, by decide +kernel⟩, List.mem_of_getElem? (i := 827) (by decide +kernel), List.mem_of_getElem? (i := 934) (by decide +kernel), List.mem_of_getElem? (i := 935) (by decide +kernel)⟩
theorem lw_p27 : lw_okq (⟨"GatedWorksModel", "enters", "(I)V"⟩, 17) := ⟨⟨by decide +kernel, by decide +kernel⟩, List.mem_of_getElem? (i := 827) (by decide +kernel), List.mem_of_getElem? (i := 938) (by decide +kernel), List.mem_of_getElem? (i := 939) (by decide +kernel)⟩
theorem lw_p28 : lw_okq (⟨"GatedWorksModel", "isKeptFor", "(II)Z"⟩, 17) := ⟨⟨by decide +kernel, by decide +kernel⟩, List.mem_of_getElem? (i := 827) (by decide +kernel), List.mem_of_getElem? (i := 945) (by decide +kernel), List.mem_of_getElem? (i := 946) (by decide +kernel)⟩
theorem lw_p29 : lw_okq (⟨"GatedWorksModel", "thrownOut", "(I)V"⟩, 17) := ⟨⟨by decide +kernel, by decide +kernel⟩, List.mem_of_getElem? (i := 827) (by decide +kernel), List.mem_of_getElem? (i := 949) (by decide +kernel), List.mem_of_getElem? (i := 950) (by decide +kernel)⟩
theorem lw_p30 : lw_okq (⟨"GatedWorksModel", "leaves", "(I)V"⟩, 17) := ⟨⟨by decide +kernel, by decide +kernel⟩, List.mem_of_getElem? (i := 827) (by decide +kernel), List.mem_of_getElem? (i := 953) (by decide +kernel), List.mem_of_getElem? (i := 954) (by decide +kernel)⟩
theorem lw_p31 : lw_okq (⟨"GatedWorksModel", "take", "(II)I"⟩, 17) := ⟨⟨by decide +kernel, by decide +kernel⟩, List.mem_of_getElem? (i := 827) (by decide +kernel), List.mem_of_getElem? (i := 957) (by decide +kernel), List.mem_of_getElem? (i := 958) (by decide +kernel)⟩
def lw_privs_2 : List (MethodName × Nat) := [(⟨"GatedWorks$Runner", "undoLevel", "()V"⟩, 8), (⟨"GatedWorks$Runner", "skipGroup", "()V"⟩, 8), (⟨"GatedWorks", "toldOf", "(I)I"⟩, 8), (⟨"GatedWorksModel", "lays", "(I)V"⟩, 17), (⟨"GatedWorksModel", "no", "()I"⟩, 17), (⟨"GatedWorksModel", "bad", "()I"⟩, 17), (⟨"GatedWorksModel", "leavesState", "()V"⟩, 17), (⟨"GatedWorksModel", "isBuffer", "(I)Z"⟩, 17), (⟨"GatedWorksModel", "serves", "()V"⟩, 17), (⟨"GatedWorksModel", "tries", "(IIII)Z"⟩, 17), (⟨"GatedWorksModel", "put", "(III)Z"⟩, 17), (⟨"GatedWorksModel", "enters", "(I)V"⟩, 17), (⟨"GatedWorksModel", "isKeptFor", "(II)Z"⟩, 17), (⟨"GatedWorksModel", "thrownOut", "(I)V"⟩, 17), (⟨"GatedWorksModel", "leaves", "(I)V"⟩, 17), (⟨"GatedWorksModel", "take", "(II)I"⟩, 17)]
theorem lw_r2 : ∀ q ∈ lw_privs_2, lw_okq q := List.forall_mem_cons.mpr ⟨lw_p16, List.forall_mem_cons.mpr ⟨lw_p17, List.forall_mem_cons.mpr ⟨lw_p18, List.forall_mem_cons.mpr ⟨lw_p19, List.forall_mem_cons.mpr ⟨lw_p20, List.forall_mem_cons.mpr ⟨lw_p21, List.forall_mem_cons.mpr ⟨lw_p22, List.forall_mem_cons.mpr ⟨lw_p23, List.forall_mem_cons.mpr ⟨lw_p24, List.forall_mem_cons.mpr ⟨lw_p25, List.forall_mem_cons.mpr ⟨lw_p26, List.forall_mem_cons.mpr ⟨lw_p27, List.forall_mem_cons.mpr ⟨lw_p28, List.forall_mem_cons.mpr ⟨lw_p29, List.forall_mem_cons.mpr ⟨lw_p30, List.forall_mem_cons.mpr ⟨lw_p31, fun _ h => absurd h List.not_mem_nil⟩⟩⟩⟩⟩⟩⟩⟩⟩⟩⟩⟩⟩⟩⟩⟩
theorem lw_p32 : lw_okq (⟨"GatedWorksModel", "firstOf", "(I)I"⟩, 17) := ⟨⟨by decide +kernel, by decide +kernel⟩, List.mem_of_getElem? (i := 827) (by decide +kernel), List.mem_of_getElem? (i := 961) (by decide +kernel), List.mem_of_getElem? (i := 962) (by decide +kernel)⟩
theorem lw_p33 : lw_okq (⟨"GatedWorksModel", "goesFromLine", "(I)V"⟩, 17) := ⟨⟨by decide +kernel, by decide +kernel⟩, List.mem_of_getElem? (i := 827) (by decide +kernel), List.mem_of_getElem? (i := 965) (by decide +kernel), List.mem_of_getElem? (i := 966) (by decide +kernel)⟩
theorem lw_p34 : lw_okq (⟨"GatedWorksModel", "full", "()I"⟩, 17) := ⟨⟨by decide +kernel, by decide +kernel⟩, List.mem_of_getElem? (i := 827) (by decide +kernel), List.mem_of_getElem? (i := 973) (by decide +kernel), List.mem_of_getElem? (i := 974) (by decide +kernel)⟩
theorem lw_p35 : lw_okq (⟨"GatedWorksModel", "isStation", "(I)Z"⟩, 17) := ⟨⟨by decide +kernel, by decide +kernel⟩, List.mem_of_getElem? (i := 827) (by decide +kernel), List.mem_of_getElem? (i := 984) (by decide +kernel), List.mem_of_getElem? (i := 985) (by decide +kernel)⟩
theorem lw_p36 : lw_okq (⟨"GatedWorksModel", "madeOfAll", "()I"⟩, 17) := ⟨⟨by decide +kernel, by decide +kernel⟩, List.mem_of_getElem? (i := 827) (by decide +kernel), List.mem_of_getElem? (i := 992) (by decide +kernel), List.mem_of_getElem? (i := 993) (by decide +kernel)⟩
theorem lw_p37 : lw_okq (⟨"GatedWorksModel", "tick", "()V"⟩, 17) := ⟨⟨by decide +kernel, by decide +kernel⟩, List.mem_of_getElem? (i := 827) (by decide +kernel), List.mem_of_getElem? (i := 996) (by decide +kernel), List.mem_of_getElem? (i := 997) (by decide +kernel)⟩
theorem lw_p38 : lw_okq (⟨"GatedWorksModel", "worksOn", "(I)V"⟩, 17) := ⟨⟨by decide +kernel, by decide +kernel⟩, List.mem_of_getElem? (i := 827) (by decide +kernel), List.mem_of_getElem? (i := 1000) (by decide +kernel), List.mem_of_getElem? (i := 1001) (by decide +kernel)⟩
theorem lw_p39 : lw_okq (⟨"GatedWorksModel", "takesOne", "(I)V"⟩, 17) := ⟨⟨by decide +kernel, by decide +kernel⟩, List.mem_of_getElem? (i := 827) (by decide +kernel), List.mem_of_getElem? (i := 1004) (by decide +kernel), List.mem_of_getElem? (i := 1005) (by decide +kernel)⟩
theorem lw_p40 : lw_okq (⟨"GatedWorksModel", "starts", "(II)V"⟩, 17) := ⟨⟨by decide +kernel, by decide +kernel⟩, List.mem_of_getElem? (i := 827) (by decide +kernel), List.mem_of_getElem? (i := 1008) (by decide +kernel), List.mem_of_getElem? (i := 1009) (by decide +kernel)⟩
theorem lw_p41 : lw_okq (⟨"GatedWorksModel", "takesBoth", "(I)V"⟩, 17) := ⟨⟨by decide +kernel, by decide +kernel⟩, List.mem_of_getElem? (i := 827) (by decide +kernel), List.mem_of_getElem? (i := 1012) (by decide +kernel), List.mem_of_getElem? (i := 1013) (by decide +kernel)⟩
theorem lw_p42 : lw_okq (⟨"GatedWorksModel", "laysAside", "(I)V"⟩, 17) := ⟨⟨by decide +kernel, by decide +kernel⟩, List.mem_of_getElem? (i := 827) (by decide +kernel), List.mem_of_getElem? (i := 1034) (by decide +kernel), List.mem_of_getElem? (i := 1035) (by decide +kernel)⟩
theorem lw_p43 : lw_okq (⟨"GatedWorksModel", "move", "(III)I"⟩, 17) := ⟨⟨by decide +kernel, by decide +kernel⟩, List.mem_of_getElem? (i := 827) (by decide +kernel), List.mem_of_getElem? (i := 1038) (by decide +kernel), List.mem_of_getElem? (i := 1039) (by decide +kernel)⟩
theorem lw_p44 : lw_okq (⟨"GatedWorksModel", "firstAgain", "(II)V"⟩, 17) := ⟨⟨by decide +kernel, by decide +kernel⟩, List.mem_of_getElem? (i := 827) (by decide +kernel), List.mem_of_getElem? (i := 1042) (by decide +kernel), List.mem_of_getElem? (i := 1043) (by decide +kernel)⟩
theorem lw_p45 : lw_okq (⟨"GatedWorksModel", "undoes", "(I)V"⟩, 17) := ⟨⟨by decide +kernel, by decide +kernel⟩, List.mem_of_getElem? (i := 827) (by decide +kernel), List.mem_of_getElem? (i := 1046) (by decide +kernel), List.mem_of_getElem? (i := 1047) (by decide +kernel)⟩
theorem lw_p46 : lw_okq (⟨"GatedWorksModel", "queueOf", "(I)I"⟩, 17) := ⟨⟨by decide +kernel, by decide +kernel⟩, List.mem_of_getElem? (i := 827) (by decide +kernel), List.mem_of_getElem? (i := 1065) (by decide +kernel), List.mem_of_getElem? (i := 1066) (by decide +kernel)⟩
theorem lw_p47 : lw_okq (⟨"GatedWorksModel", "goesFromQueue", "(II)V"⟩, 17) := ⟨⟨by decide +kernel, by decide +kernel⟩, List.mem_of_getElem? (i := 827) (by decide +kernel), List.mem_of_getElem? (i := 1073) (by decide +kernel), List.mem_of_getElem? (i := 1074) (by decide +kernel)⟩
def lw_privs_3 : List (MethodName × Nat) := [(⟨"GatedWorksModel", "firstOf", "(I)I"⟩, 17), (⟨"GatedWorksModel", "goesFromLine", "(I)V"⟩, 17), (⟨"GatedWorksModel", "full", "()I"⟩, 17), (⟨"GatedWorksModel", "isStation", "(I)Z"⟩, 17), (⟨"GatedWorksModel", "madeOfAll", "()I"⟩, 17), (⟨"GatedWorksModel", "tick", "()V"⟩, 17), (⟨"GatedWorksModel", "worksOn", "(I)V"⟩, 17), (⟨"GatedWorksModel", "takesOne", "(I)V"⟩, 17), (⟨"GatedWorksModel", "starts", "(II)V"⟩, 17), (⟨"GatedWorksModel", "takesBoth", "(I)V"⟩, 17), (⟨"GatedWorksModel", "laysAside", "(I)V"⟩, 17), (⟨"GatedWorksModel", "move", "(III)I"⟩, 17), (⟨"GatedWorksModel", "firstAgain", "(II)V"⟩, 17), (⟨"GatedWorksModel", "undoes", "(I)V"⟩, 17), (⟨"GatedWorksModel", "queueOf", "(I)I"⟩, 17), (⟨"GatedWorksModel", "goesFromQueue", "(II)V"⟩, 17)]
theorem lw_r3 : ∀ q ∈ lw_privs_3, lw_okq q := List.forall_mem_cons.mpr ⟨lw_p32, List.forall_mem_cons.mpr ⟨lw_p33, List.forall_mem_cons.mpr ⟨lw_p34, List.forall_mem_cons.mpr ⟨lw_p35, List.forall_mem_cons.mpr ⟨lw_p36, List.forall_mem_cons.mpr ⟨lw_p37, List.forall_mem_cons.mpr ⟨lw_p38, List.forall_mem_cons.mpr ⟨lw_p39, List.forall_mem_cons.mpr ⟨lw_p40, List.forall_mem_cons.mpr ⟨lw_p41, List.forall_mem_cons.mpr ⟨lw_p42, List.forall_mem_cons.mpr ⟨lw_p43, List.forall_mem_cons.mpr ⟨lw_p44, List.forall_mem_cons.mpr ⟨lw_p45, List.forall_mem_cons.mpr ⟨lw_p46, List.forall_mem_cons.mpr ⟨lw_p47, fun _ h => absurd h List.not_mem_nil⟩⟩⟩⟩⟩⟩⟩⟩⟩⟩⟩⟩⟩⟩⟩⟩
theorem lw_p48 : lw_okq (⟨"GatedWorksModel", "isStuck", "(I)Z"⟩, 17) := ⟨⟨by decide +kernel, by decide +kernel⟩, List.mem_of_getElem? (i := 827) (by decide +kernel), List.mem_of_getElem? (i := 1093) (by decide +kernel), List.mem_of_getElem? (i := 1094) (by decide +kernel)⟩
theorem lw_p49 : lw_okq (⟨"GatedWorksModel", "ofBuffer", "(II)I"⟩, 17) := ⟨⟨by decide +kernel, by decide +kernel⟩, List.mem_of_getElem? (i := 827) (by decide +kernel), List.mem_of_getElem? (i := 1101) (by decide +kernel), List.mem_of_getElem? (i := 1102) (by decide +kernel)⟩
theorem lw_p50 : lw_okq (⟨"GatedWorksModel", "ofStation", "(II)I"⟩, 17) := ⟨⟨by decide +kernel, by decide +kernel⟩, List.mem_of_getElem? (i := 827) (by decide +kernel), List.mem_of_getElem? (i := 1113) (by decide +kernel), List.mem_of_getElem? (i := 1114) (by decide +kernel)⟩
theorem lw_p51 : lw_okq (⟨"GatedWorksModel", "worksBy", "(I)I"⟩, 17) := ⟨⟨by decide +kernel, by decide +kernel⟩, List.mem_of_getElem? (i := 827) (by decide +kernel), List.mem_of_getElem? (i := 1129) (by decide +kernel), List.mem_of_getElem? (i := 1130) (by decide +kernel)⟩
theorem lw_p52 : lw_okq (⟨"GatedWorksModel", "itemsOfAll", "()I"⟩, 17) := ⟨⟨by decide +kernel, by decide +kernel⟩, List.mem_of_getElem? (i := 827) (by decide +kernel), List.mem_of_getElem? (i := 1133) (by decide +kernel), List.mem_of_getElem? (i := 1134) (by decide +kernel)⟩
theorem lw_p53 : lw_okq (⟨"GatedWorksModel", "entriesOfAll", "()I"⟩, 17) := ⟨⟨by decide +kernel, by decide +kernel⟩, List.mem_of_getElem? (i := 827) (by decide +kernel), List.mem_of_getElem? (i := 1137) (by decide +kernel), List.mem_of_getElem? (i := 1138) (by decide +kernel)⟩
theorem lw_p54 : lw_okq (⟨"GatedWorksModel", "reads", "()Z"⟩, 17) := ⟨⟨by decide +kernel, by decide +kernel⟩, List.mem_of_getElem? (i := 827) (by decide +kernel), List.mem_of_getElem? (i := 1153) (by decide +kernel), List.mem_of_getElem? (i := 1154) (by decide +kernel)⟩
theorem lw_p55 : lw_okq (⟨"GatedWorksModel", "here", "()I"⟩, 17) := ⟨⟨by decide +kernel, by decide +kernel⟩, List.mem_of_getElem? (i := 827) (by decide +kernel), List.mem_of_getElem? (i := 1157) (by decide +kernel), List.mem_of_getElem? (i := 1158) (by decide +kernel)⟩
theorem lw_p56 : lw_okq (⟨"GatedWorksModel", "comes", "(I)V"⟩, 17) := ⟨⟨by decide +kernel, by decide +kernel⟩, List.mem_of_getElem? (i := 827) (by decide +kernel), List.mem_of_getElem? (i := 1161) (by decide +kernel), List.mem_of_getElem? (i := 1162) (by decide +kernel)⟩
theorem lw_p57 : lw_okq (⟨"GatedWorksModel", "figure", "()I"⟩, 17) := ⟨⟨by decide +kernel, by decide +kernel⟩, List.mem_of_getElem? (i := 827) (by decide +kernel), List.mem_of_getElem? (i := 1165) (by decide +kernel), List.mem_of_getElem? (i := 1166) (by decide +kernel)⟩
theorem lw_p58 : lw_okq (⟨"GatedWorksModel", "doesAll", "()I"⟩, 17) := ⟨⟨by decide +kernel, by decide +kernel⟩, List.mem_of_getElem? (i := 827) (by decide +kernel), List.mem_of_getElem? (i := 1169) (by decide +kernel), List.mem_of_getElem? (i := 1170) (by decide +kernel)⟩
theorem lw_p59 : lw_okq (⟨"GatedWorksModel", "doesOne", "(I)Z"⟩, 17) := ⟨⟨by decide +kernel, by decide +kernel⟩, List.mem_of_getElem? (i := 827) (by decide +kernel), List.mem_of_getElem? (i := 1173) (by decide +kernel), List.mem_of_getElem? (i := 1174) (by decide +kernel)⟩
theorem lw_p60 : lw_okq (⟨"GatedWorksModel", "toldOf", "(I)I"⟩, 17) := ⟨⟨by decide +kernel, by decide +kernel⟩, List.mem_of_getElem? (i := 827) (by decide +kernel), List.mem_of_getElem? (i := 1181) (by decide +kernel), List.mem_of_getElem? (i := 1182) (by decide +kernel)⟩
def lw_privs_4 : List (MethodName × Nat) := [(⟨"GatedWorksModel", "isStuck", "(I)Z"⟩, 17), (⟨"GatedWorksModel", "ofBuffer", "(II)I"⟩, 17), (⟨"GatedWorksModel", "ofStation", "(II)I"⟩, 17), (⟨"GatedWorksModel", "worksBy", "(I)I"⟩, 17), (⟨"GatedWorksModel", "itemsOfAll", "()I"⟩, 17), (⟨"GatedWorksModel", "entriesOfAll", "()I"⟩, 17), (⟨"GatedWorksModel", "reads", "()Z"⟩, 17), (⟨"GatedWorksModel", "here", "()I"⟩, 17), (⟨"GatedWorksModel", "comes", "(I)V"⟩, 17), (⟨"GatedWorksModel", "figure", "()I"⟩, 17), (⟨"GatedWorksModel", "doesAll", "()I"⟩, 17), (⟨"GatedWorksModel", "doesOne", "(I)Z"⟩, 17), (⟨"GatedWorksModel", "toldOf", "(I)I"⟩, 17)]
theorem lw_r4 : ∀ q ∈ lw_privs_4, lw_okq q := List.forall_mem_cons.mpr ⟨lw_p48, List.forall_mem_cons.mpr ⟨lw_p49, List.forall_mem_cons.mpr ⟨lw_p50, List.forall_mem_cons.mpr ⟨lw_p51, List.forall_mem_cons.mpr ⟨lw_p52, List.forall_mem_cons.mpr ⟨lw_p53, List.forall_mem_cons.mpr ⟨lw_p54, List.forall_mem_cons.mpr ⟨lw_p55, List.forall_mem_cons.mpr ⟨lw_p56, List.forall_mem_cons.mpr ⟨lw_p57, List.forall_mem_cons.mpr ⟨lw_p58, List.forall_mem_cons.mpr ⟨lw_p59, List.forall_mem_cons.mpr ⟨lw_p60, fun _ h => absurd h List.not_mem_nil⟩⟩⟩⟩⟩⟩⟩⟩⟩⟩⟩⟩⟩
def lw_privs : List (MethodName × Nat) := lw_privs_1 ++ (lw_privs_2 ++ (lw_privs_3 ++ (lw_privs_4)))
def lw_tbl : List Cond := k2_sels lw_privs ++ tables_1
theorem lw_privs_ok : ∀ q ∈ lw_privs, lw_okq q := by
  show ∀ q ∈ lw_privs_1 ++ (lw_privs_2 ++ (lw_privs_3 ++ (lw_privs_4))), lw_okq q
  exact List.forall_mem_append.mpr ⟨lw_r1, List.forall_mem_append.mpr ⟨lw_r2, List.forall_mem_append.mpr ⟨lw_r3, lw_r4⟩⟩⟩
-- ===== end of PART A; then your names; then what follows =====
end
section
def RX0 : String := "GatedWorks$Buffer"
def TX0 : u_T := fun k => match k with
  | 0 => ("GatedWorks$Buffer", "gate", "LGatedWorks$Gate;", true)
  | 1 => ("GatedWorks$Buffer", "items", "LGatedWorks$Row;", true)
  | 2 => ("GatedWorks$Buffer", "queued", "LGatedWorks$Row;", true)
  | 3 => ("GatedWorks$Buffer", "room", "I", false)
  | 4 => ("GatedWorks$Buffer", "ins", "I", false)
  | 5 => ("GatedWorks$Buffer", "outs", "I", false)
  | 6 => ("GatedWorks$Buffer", "peak", "I", false)
  | 7 => ("GatedWorks$Buffer", "keptBy", "I", false)
  | _ => ("GatedWorks$Buffer", "keptTimes", "I", false)
def tyX0 : Nat → FieldType := fun k => match k with
  | 0 => .object "GatedWorks$Gate"
  | 1 => .object "GatedWorks$Row"
  | 2 => .object "GatedWorks$Row"
  | 3 => .int
  | 4 => .int
  | 5 => .int
  | 6 => .int
  | 7 => .int
  | _ => .int
abbrev wsX00 : List Cond := u_ws RX0 TX0 9
theorem nmX0 : ∀ a, a < 9 → ∀ b, b < 9 → a ≠ b → (TX0 a).2.1 ≠ (TX0 b).2.1 := by decide +kernel
theorem tyX0_ok : ∀ k, k < 9 → parseFieldDescriptor (TX0 k).2.2.1 = some (tyX0 k) := by decide +kernel
abbrev cX0_init : ByteArray := prog_2_method_1_code
def yX0_init : MethodName := ⟨RX0, "<init>", "()V"⟩
abbrev cX0_put : ByteArray := prog_2_method_2_code
def yX0_put : MethodName := ⟨RX0, "put", "(II)Z"⟩
abbrev cX0_take : ByteArray := prog_2_method_3_code
def yX0_take : MethodName := ⟨RX0, "take", "(I)I"⟩
abbrev cX0_canGive : ByteArray := prog_2_method_4_code
def yX0_canGive : MethodName := ⟨RX0, "canGive", "(I)Z"⟩
abbrev cX0_giveFirst : ByteArray := prog_2_method_5_code
def yX0_giveFirst : MethodName := ⟨RX0, "giveFirst", "()I"⟩
abbrev cX0_isKeptByAnother : ByteArray := prog_2_method_6_code
def yX0_isKeptByAnother : MethodName := ⟨RX0, "isKeptByAnother", "(I)Z"⟩
abbrev cX0_keepFor : ByteArray := prog_2_method_7_code
def yX0_keepFor : MethodName := ⟨RX0, "keepFor", "(I)I"⟩
abbrev cX0_letGo : ByteArray := prog_2_method_8_code
def yX0_letGo : MethodName := ⟨RX0, "letGo", "()I"⟩
abbrev cX0_bufferTold : ByteArray := prog_2_method_9_code
def yX0_bufferTold : MethodName := ⟨RX0, "bufferTold", "(I)I"⟩
abbrev cX0_keepingTold : ByteArray := prog_2_method_10_code
def yX0_keepingTold : MethodName := ⟨RX0, "keepingTold", "(I)I"⟩
abbrev cX0_startAnew : ByteArray := prog_2_method_11_code
def yX0_startAnew : MethodName := ⟨RX0, "startAnew", "()V"⟩
abbrev cX0_copyFrom : ByteArray := prog_2_method_12_code
def yX0_copyFrom : MethodName := ⟨RX0, "copyFrom", "(LGatedWorks$Buffer;)V"⟩
def RX1 : String := "GatedWorks$Floor"
def TX1 : u_T := fun k => match k with
  | 0 => ("GatedWorks$Floor", "buffers", "[LGatedWorks$Buffer;", true)
  | 1 => ("GatedWorks$Floor", "stations", "[LGatedWorks$Station;", true)
  | 2 => ("GatedWorks$Floor", "workers", "[LGatedWorks$Worker;", true)
  | 3 => ("GatedWorks$Floor", "waiting", "LGatedWorks$Row;", true)
  | 4 => ("GatedWorks$Floor", "master", "LGatedWorks$Gate;", true)
  | 5 => ("GatedWorks$Floor", "bufferCount", "I", false)
  | 6 => ("GatedWorks$Floor", "stationCount", "I", false)
  | 7 => ("GatedWorks$Floor", "tickCount", "I", false)
  | _ => ("GatedWorks$Floor", "unguarded", "I", false)
def tyX1 : Nat → FieldType := fun k => match k with
  | 0 => .array (.object "GatedWorks$Buffer")
  | 1 => .array (.object "GatedWorks$Station")
  | 2 => .array (.object "GatedWorks$Worker")
  | 3 => .object "GatedWorks$Row"
  | 4 => .object "GatedWorks$Gate"
  | 5 => .int
  | 6 => .int
  | 7 => .int
  | _ => .int
abbrev wsX10 : List Cond := u_ws RX1 TX1 9
theorem nmX1 : ∀ a, a < 9 → ∀ b, b < 9 → a ≠ b → (TX1 a).2.1 ≠ (TX1 b).2.1 := by decide +kernel
theorem tyX1_ok : ∀ k, k < 9 → parseFieldDescriptor (TX1 k).2.2.1 = some (tyX1 k) := by decide +kernel
abbrev cX1_init : ByteArray := prog_3_method_1_code
def yX1_init : MethodName := ⟨RX1, "<init>", "()V"⟩
abbrev cX1_startAnew : ByteArray := prog_3_method_2_code
def yX1_startAnew : MethodName := ⟨RX1, "startAnew", "(I)V"⟩
abbrev cX1_hasBuffer : ByteArray := prog_3_method_3_code
def yX1_hasBuffer : MethodName := ⟨RX1, "hasBuffer", "(I)Z"⟩
abbrev cX1_hasBufferOrNone : ByteArray := prog_3_method_4_code
def yX1_hasBufferOrNone : MethodName := ⟨RX1, "hasBufferOrNone", "(I)Z"⟩
abbrev cX1_hasStation : ByteArray := prog_3_method_5_code
def yX1_hasStation : MethodName := ⟨RX1, "hasStation", "(I)Z"⟩
abbrev cX1_move : ByteArray := prog_3_method_6_code
def yX1_move : MethodName := ⟨RX1, "move", "(III)I"⟩
abbrev cX1_moveOne : ByteArray := prog_3_method_7_code
def yX1_moveOne : MethodName := ⟨RX1, "moveOne", "(LGatedWorks$Buffer;LGatedWorks$Buffer;)Z"⟩
abbrev cX1_leaveBoth : ByteArray := prog_3_method_8_code
def yX1_leaveBoth : MethodName := ⟨RX1, "leaveBoth", "(LGatedWorks$Gate;LGatedWorks$Gate;Z)V"⟩
abbrev cX1_tick : ByteArray := prog_3_method_9_code
def yX1_tick : MethodName := ⟨RX1, "tick", "()I"⟩
abbrev cX1_tickStation : ByteArray := prog_3_method_10_code
def yX1_tickStation : MethodName := ⟨RX1, "tickStation", "(LGatedWorks$Station;)I"⟩
abbrev cX1_work : ByteArray := prog_3_method_11_code
def yX1_work : MethodName := ⟨RX1, "work", "(LGatedWorks$Station;)I"⟩
abbrev cX1_deliver : ByteArray := prog_3_method_12_code
def yX1_deliver : MethodName := ⟨RX1, "deliver", "(LGatedWorks$Station;)I"⟩
abbrev cX1_takePair : ByteArray := prog_3_method_13_code
def yX1_takePair : MethodName := ⟨RX1, "takePair", "(II)I"⟩
abbrev cX1_tryWish : ByteArray := prog_3_method_14_code
def yX1_tryWish : MethodName := ⟨RX1, "tryWish", "(I)Z"⟩
abbrev cX1_serve : ByteArray := prog_3_method_15_code
def yX1_serve : MethodName := ⟨RX1, "serve", "()V"⟩
abbrev cX1_serveFirst : ByteArray := prog_3_method_16_code
def yX1_serveFirst : MethodName := ⟨RX1, "serveFirst", "()Z"⟩
abbrev cX1_queuedAt : ByteArray := prog_3_method_17_code
def yX1_queuedAt : MethodName := ⟨RX1, "queuedAt", "(I)I"⟩
abbrev cX1_stuckBits : ByteArray := prog_3_method_18_code
def yX1_stuckBits : MethodName := ⟨RX1, "stuckBits", "()I"⟩
abbrev cX1_isStuck : ByteArray := prog_3_method_19_code
def yX1_isStuck : MethodName := ⟨RX1, "isStuck", "(I)Z"⟩
abbrev cX1_worksTold : ByteArray := prog_3_method_20_code
def yX1_worksTold : MethodName := ⟨RX1, "worksTold", "(I)I"⟩
abbrev cX1_allItems : ByteArray := prog_3_method_21_code
def yX1_allItems : MethodName := ⟨RX1, "allItems", "()I"⟩
abbrev cX1_allEntries : ByteArray := prog_3_method_22_code
def yX1_allEntries : MethodName := ⟨RX1, "allEntries", "()I"⟩
abbrev cX1_copyFrom : ByteArray := prog_3_method_23_code
def yX1_copyFrom : MethodName := ⟨RX1, "copyFrom", "(LGatedWorks$Floor;)V"⟩
def RX2 : String := "GatedWorks$Gate"
def TX2 : u_T := fun k => match k with
  | 0 => ("GatedWorks$Gate", "entries", "I", false)
  | 1 => ("GatedWorks$Gate", "depth", "I", false)
  | 2 => ("GatedWorks$Gate", "deepest", "I", false)
  | _ => ("GatedWorks$Gate", "thrown", "I", false)
def tyX2 : Nat → FieldType := fun k => match k with
  | 0 => .int
  | 1 => .int
  | 2 => .int
  | _ => .int
abbrev wsX20 : List Cond := u_ws RX2 TX2 4
theorem nmX2 : ∀ a, a < 4 → ∀ b, b < 4 → a ≠ b → (TX2 a).2.1 ≠ (TX2 b).2.1 := by decide +kernel
theorem tyX2_ok : ∀ k, k < 4 → parseFieldDescriptor (TX2 k).2.2.1 = some (tyX2 k) := by decide +kernel
abbrev cX2_init : ByteArray := prog_4_method_1_code
def yX2_init : MethodName := ⟨RX2, "<init>", "()V"⟩
abbrev cX2_enter : ByteArray := prog_4_method_2_code
def yX2_enter : MethodName := ⟨RX2, "enter", "()V"⟩
abbrev cX2_leave : ByteArray := prog_4_method_3_code
def yX2_leave : MethodName := ⟨RX2, "leave", "()V"⟩
abbrev cX2_leaveThrown : ByteArray := prog_4_method_4_code
def yX2_leaveThrown : MethodName := ⟨RX2, "leaveThrown", "()V"⟩
abbrev cX2_startAnew : ByteArray := prog_4_method_5_code
def yX2_startAnew : MethodName := ⟨RX2, "startAnew", "()V"⟩
abbrev cX2_copyFrom : ByteArray := prog_4_method_6_code
def yX2_copyFrom : MethodName := ⟨RX2, "copyFrom", "(LGatedWorks$Gate;)V"⟩
def RX3 : String := "GatedWorks$History"
def TX3 : u_T := fun k => match k with
  | 0 => ("GatedWorks$History", "floors", "[LGatedWorks$Floor;", true)
  | 1 => ("GatedWorks$History", "next", "I", false)
  | _ => ("GatedWorks$History", "size", "I", false)
def tyX3 : Nat → FieldType := fun k => match k with
  | 0 => .array (.object "GatedWorks$Floor")
  | 1 => .int
  | _ => .int
abbrev wsX30 : List Cond := u_ws RX3 TX3 3
theorem nmX3 : ∀ a, a < 3 → ∀ b, b < 3 → a ≠ b → (TX3 a).2.1 ≠ (TX3 b).2.1 := by decide +kernel
theorem tyX3_ok : ∀ k, k < 3 → parseFieldDescriptor (TX3 k).2.2.1 = some (tyX3 k) := by decide +kernel
abbrev cX3_init : ByteArray := prog_5_method_1_code
def yX3_init : MethodName := ⟨RX3, "<init>", "()V"⟩
abbrev cX3_keep : ByteArray := prog_5_method_2_code
def yX3_keep : MethodName := ⟨RX3, "keep", "(LGatedWorks$Floor;)V"⟩
abbrev cX3_giveBack : ByteArray := prog_5_method_3_code
def yX3_giveBack : MethodName := ⟨RX3, "giveBack", "(LGatedWorks$Floor;)V"⟩
def RX4 : String := "GatedWorks$ItemsAhead"
def TX4 : u_T := fun k => match k with
  | _ => ("GatedWorks$ItemsAhead", "rows", "[LGatedWorks$Row;", true)
def tyX4 : Nat → FieldType := fun k => match k with
  | _ => .array (.object "GatedWorks$Row")
abbrev wsX40 : List Cond := u_ws RX4 TX4 1
theorem nmX4 : ∀ a, a < 1 → ∀ b, b < 1 → a ≠ b → (TX4 a).2.1 ≠ (TX4 b).2.1 := by decide +kernel
theorem tyX4_ok : ∀ k, k < 1 → parseFieldDescriptor (TX4 k).2.2.1 = some (tyX4 k) := by decide +kernel
abbrev cX4_init : ByteArray := prog_6_method_1_code
def yX4_init : MethodName := ⟨RX4, "<init>", "()V"⟩
abbrev cX4_keep : ByteArray := prog_6_method_2_code
def yX4_keep : MethodName := ⟨RX4, "keep", "(LGatedWorks$Floor;)V"⟩
abbrev cX4_giveBack : ByteArray := prog_6_method_3_code
def yX4_giveBack : MethodName := ⟨RX4, "giveBack", "(LGatedWorks$Floor;)V"⟩
def RX5 : String := "GatedWorks$Row"
def TX5 : u_T := fun k => match k with
  | 0 => ("GatedWorks$Row", "values", "[I", true)
  | _ => ("GatedWorks$Row", "size", "I", false)
def tyX5 : Nat → FieldType := fun k => match k with
  | 0 => .array .int
  | _ => .int
abbrev wsX50 : List Cond := u_ws RX5 TX5 2
theorem nmX5 : ∀ a, a < 2 → ∀ b, b < 2 → a ≠ b → (TX5 a).2.1 ≠ (TX5 b).2.1 := by decide +kernel
theorem tyX5_ok : ∀ k, k < 2 → parseFieldDescriptor (TX5 k).2.2.1 = some (tyX5 k) := by decide +kernel
abbrev cX5_init : ByteArray := prog_7_method_1_code
def yX5_init : MethodName := ⟨RX5, "<init>", "()V"⟩
abbrev cX5_at : ByteArray := prog_7_method_2_code
def yX5_at : MethodName := ⟨RX5, "at", "(I)I"⟩
abbrev cX5_placeOf : ByteArray := prog_7_method_3_code
def yX5_placeOf : MethodName := ⟨RX5, "placeOf", "(I)I"⟩
abbrev cX5_addLast : ByteArray := prog_7_method_4_code
def yX5_addLast : MethodName := ⟨RX5, "addLast", "(I)V"⟩
abbrev cX5_addFirst : ByteArray := prog_7_method_5_code
def yX5_addFirst : MethodName := ⟨RX5, "addFirst", "(I)V"⟩
abbrev cX5_removeAt : ByteArray := prog_7_method_6_code
def yX5_removeAt : MethodName := ⟨RX5, "removeAt", "(I)I"⟩
abbrev cX5_copyFrom : ByteArray := prog_7_method_7_code
def yX5_copyFrom : MethodName := ⟨RX5, "copyFrom", "(LGatedWorks$Row;)V"⟩
def RX6 : String := "GatedWorks$Runner"
def TX6 : u_T := fun k => match k with
  | 0 => ("GatedWorks$Runner", "aheadOf", "[LGatedWorks$ItemsAhead;", true)
  | 1 => ("GatedWorks$Runner", "doneAheadOf", "[I", true)
  | 2 => ("GatedWorks$Runner", "text", "LGatedWorks$Text;", true)
  | 3 => ("GatedWorks$Runner", "floor", "LGatedWorks$Floor;", true)
  | 4 => ("GatedWorks$Runner", "place", "I", false)
  | 5 => ("GatedWorks$Runner", "level", "I", false)
  | 6 => ("GatedWorks$Runner", "done", "I", false)
  | _ => ("GatedWorks$Runner", "cameTo", "I", false)
def tyX6 : Nat → FieldType := fun k => match k with
  | 0 => .array (.object "GatedWorks$ItemsAhead")
  | 1 => .array .int
  | 2 => .object "GatedWorks$Text"
  | 3 => .object "GatedWorks$Floor"
  | 4 => .int
  | 5 => .int
  | 6 => .int
  | _ => .int
abbrev wsX60 : List Cond := u_ws RX6 TX6 8
theorem nmX6 : ∀ a, a < 8 → ∀ b, b < 8 → a ≠ b → (TX6 a).2.1 ≠ (TX6 b).2.1 := by decide +kernel
theorem tyX6_ok : ∀ k, k < 8 → parseFieldDescriptor (TX6 k).2.2.1 = some (tyX6 k) := by decide +kernel
abbrev cX6_init : ByteArray := prog_8_method_1_code
def yX6_init : MethodName := ⟨RX6, "<init>", "(LGatedWorks$Text;LGatedWorks$Floor;)V"⟩
abbrev cX6_run : ByteArray := prog_8_method_2_code
def yX6_run : MethodName := ⟨RX6, "run", "()I"⟩
abbrev cX6_enterLevel : ByteArray := prog_8_method_3_code
def yX6_enterLevel : MethodName := ⟨RX6, "enterLevel", "()V"⟩
abbrev cX6_leaveLevel : ByteArray := prog_8_method_4_code
def yX6_leaveLevel : MethodName := ⟨RX6, "leaveLevel", "()V"⟩
abbrev cX6_undoLevel : ByteArray := prog_8_method_5_code
def yX6_undoLevel : MethodName := ⟨RX6, "undoLevel", "()V"⟩
abbrev cX6_skipGroup : ByteArray := prog_8_method_6_code
def yX6_skipGroup : MethodName := ⟨RX6, "skipGroup", "()V"⟩
abbrev cX6_orderDone : ByteArray := prog_8_method_7_code
def yX6_orderDone : MethodName := ⟨RX6, "orderDone", "(I)Z"⟩
abbrev cX6_nextFigure : ByteArray := prog_8_method_8_code
def yX6_nextFigure : MethodName := ⟨RX6, "nextFigure", "()I"⟩
abbrev cX6_nextByte : ByteArray := prog_8_method_9_code
def yX6_nextByte : MethodName := ⟨RX6, "nextByte", "()I"⟩
def RX7 : String := "GatedWorks$Station"
def TX7 : u_T := fun k => match k with
  | 0 => ("GatedWorks$Station", "in0", "I", false)
  | 1 => ("GatedWorks$Station", "in1", "I", false)
  | 2 => ("GatedWorks$Station", "out", "I", false)
  | 3 => ("GatedWorks$Station", "time", "I", false)
  | 4 => ("GatedWorks$Station", "add", "I", false)
  | 5 => ("GatedWorks$Station", "guard", "I", false)
  | 6 => ("GatedWorks$Station", "phase", "I", false)
  | 7 => ("GatedWorks$Station", "left", "I", false)
  | 8 => ("GatedWorks$Station", "kind", "I", false)
  | 9 => ("GatedWorks$Station", "made", "I", false)
  | 10 => ("GatedWorks$Station", "held", "I", false)
  | _ => ("GatedWorks$Station", "starved", "I", false)
def tyX7 : Nat → FieldType := fun k => match k with
  | 0 => .int
  | 1 => .int
  | 2 => .int
  | 3 => .int
  | 4 => .int
  | 5 => .int
  | 6 => .int
  | 7 => .int
  | 8 => .int
  | 9 => .int
  | 10 => .int
  | _ => .int
abbrev wsX70 : List Cond := u_ws RX7 TX7 12
theorem nmX7 : ∀ a, a < 12 → ∀ b, b < 12 → a ≠ b → (TX7 a).2.1 ≠ (TX7 b).2.1 := by decide +kernel
theorem tyX7_ok : ∀ k, k < 12 → parseFieldDescriptor (TX7 k).2.2.1 = some (tyX7 k) := by decide +kernel
abbrev cX7_init : ByteArray := prog_9_method_1_code
def yX7_init : MethodName := ⟨RX7, "<init>", "()V"⟩
abbrev cX7_setUp : ByteArray := prog_9_method_2_code
def yX7_setUp : MethodName := ⟨RX7, "setUp", "(IIIII)V"⟩
abbrev cX7_becomeIdle : ByteArray := prog_9_method_3_code
def yX7_becomeIdle : MethodName := ⟨RX7, "becomeIdle", "()V"⟩
abbrev cX7_load : ByteArray := prog_9_method_4_code
def yX7_load : MethodName := ⟨RX7, "load", "(I)V"⟩
abbrev cX7_workOn : ByteArray := prog_9_method_5_code
def yX7_workOn : MethodName := ⟨RX7, "workOn", "()V"⟩
abbrev cX7_stationTold : ByteArray := prog_9_method_6_code
def yX7_stationTold : MethodName := ⟨RX7, "stationTold", "(I)I"⟩
abbrev cX7_copyFrom : ByteArray := prog_9_method_7_code
def yX7_copyFrom : MethodName := ⟨RX7, "copyFrom", "(LGatedWorks$Station;)V"⟩
def RX8 : String := "GatedWorks$Text"
def TX8 : u_T := fun k => match k with
  | 0 => ("GatedWorks$Text", "bytes", "[I", true)
  | _ => ("GatedWorks$Text", "length", "I", false)
def tyX8 : Nat → FieldType := fun k => match k with
  | 0 => .array .int
  | _ => .int
abbrev wsX80 : List Cond := u_ws RX8 TX8 2
theorem nmX8 : ∀ a, a < 2 → ∀ b, b < 2 → a ≠ b → (TX8 a).2.1 ≠ (TX8 b).2.1 := by decide +kernel
theorem tyX8_ok : ∀ k, k < 2 → parseFieldDescriptor (TX8 k).2.2.1 = some (tyX8 k) := by decide +kernel
abbrev cX8_init : ByteArray := prog_10_method_1_code
def yX8_init : MethodName := ⟨RX8, "<init>", "()V"⟩
abbrev cX8_isFull : ByteArray := prog_10_method_2_code
def yX8_isFull : MethodName := ⟨RX8, "isFull", "()Z"⟩
abbrev cX8_add : ByteArray := prog_10_method_3_code
def yX8_add : MethodName := ⟨RX8, "add", "(I)V"⟩
abbrev cX8_at : ByteArray := prog_10_method_4_code
def yX8_at : MethodName := ⟨RX8, "at", "(I)I"⟩
abbrev cX8_fault : ByteArray := prog_10_method_5_code
def yX8_fault : MethodName := ⟨RX8, "fault", "()I"⟩
abbrev cX8_figuresOf : ByteArray := prog_10_method_6_code
def yX8_figuresOf : MethodName := ⟨RX8, "figuresOf", "(I)I"⟩
def RX9 : String := "GatedWorks$Worker"
def TX9 : u_T := fun k => match k with
  | 0 => ("GatedWorks$Worker", "place", "I", false)
  | 1 => ("GatedWorks$Worker", "wish", "I", false)
  | 2 => ("GatedWorks$Worker", "kind", "I", false)
  | _ => ("GatedWorks$Worker", "got", "I", false)
def tyX9 : Nat → FieldType := fun k => match k with
  | 0 => .int
  | 1 => .int
  | 2 => .int
  | _ => .int
abbrev wsX90 : List Cond := u_ws RX9 TX9 4
theorem nmX9 : ∀ a, a < 4 → ∀ b, b < 4 → a ≠ b → (TX9 a).2.1 ≠ (TX9 b).2.1 := by decide +kernel
theorem tyX9_ok : ∀ k, k < 4 → parseFieldDescriptor (TX9 k).2.2.1 = some (tyX9 k) := by decide +kernel
abbrev cX9_init : ByteArray := prog_11_method_1_code
def yX9_init : MethodName := ⟨RX9, "<init>", "()V"⟩
abbrev cX9_waits : ByteArray := prog_11_method_2_code
def yX9_waits : MethodName := ⟨RX9, "waits", "()Z"⟩
abbrev cX9_wishFor : ByteArray := prog_11_method_3_code
def yX9_wishFor : MethodName := ⟨RX9, "wishFor", "(III)V"⟩
abbrev cX9_wishNoMore : ByteArray := prog_11_method_4_code
def yX9_wishNoMore : MethodName := ⟨RX9, "wishNoMore", "()V"⟩
abbrev cX9_workerTold : ByteArray := prog_11_method_5_code
def yX9_workerTold : MethodName := ⟨RX9, "workerTold", "(I)I"⟩
abbrev cX9_startAnew : ByteArray := prog_11_method_6_code
def yX9_startAnew : MethodName := ⟨RX9, "startAnew", "()V"⟩
abbrev cX9_copyFrom : ByteArray := prog_11_method_7_code
def yX9_copyFrom : MethodName := ⟨RX9, "copyFrom", "(LGatedWorks$Worker;)V"⟩
def RX10 : String := "GatedWorks"
def TX10 : u_T := fun k => match k with
  | 0 => ("GatedWorks", "floor", "LGatedWorks$Floor;", true)
  | 1 => ("GatedWorks", "history", "LGatedWorks$History;", true)
  | 2 => ("GatedWorks", "text", "LGatedWorks$Text;", true)
  | 3 => ("GatedWorks", "runner", "LGatedWorks$Runner;", true)
  | 4 => ("GatedWorks", "aheadOfMove", "LGatedWorks$ItemsAhead;", true)
  | 5 => ("GatedWorks", "timesBad", "I", false)
  | 6 => ("GatedWorks", "timesNo", "I", false)
  | _ => ("GatedWorks", "timesFull", "I", false)
def tyX10 : Nat → FieldType := fun k => match k with
  | 0 => .object "GatedWorks$Floor"
  | 1 => .object "GatedWorks$History"
  | 2 => .object "GatedWorks$Text"
  | 3 => .object "GatedWorks$Runner"
  | 4 => .object "GatedWorks$ItemsAhead"
  | 5 => .int
  | 6 => .int
  | _ => .int
abbrev wsX100 : List Cond := u_ws RX10 TX10 8
theorem nmX10 : ∀ a, a < 8 → ∀ b, b < 8 → a ≠ b → (TX10 a).2.1 ≠ (TX10 b).2.1 := by decide +kernel
theorem tyX10_ok : ∀ k, k < 8 → parseFieldDescriptor (TX10 k).2.2.1 = some (tyX10 k) := by decide +kernel
abbrev cX10_init : ByteArray := prog_1_method_1_code
def yX10_init : MethodName := ⟨RX10, "<init>", "()V"⟩
abbrev cX10_begins : ByteArray := prog_1_method_2_code
def yX10_begins : MethodName := ⟨RX10, "begins", "(I)I"⟩
abbrev cX10_rooms : ByteArray := prog_1_method_3_code
def yX10_rooms : MethodName := ⟨RX10, "rooms", "(II)I"⟩
abbrev cX10_station : ByteArray := prog_1_method_4_code
def yX10_station : MethodName := ⟨RX10, "station", "(IIIII)I"⟩
abbrev cX10_guards : ByteArray := prog_1_method_5_code
def yX10_guards : MethodName := ⟨RX10, "guards", "(II)I"⟩
abbrev cX10_ticks : ByteArray := prog_1_method_6_code
def yX10_ticks : MethodName := ⟨RX10, "ticks", "(I)I"⟩
abbrev cX10_puts : ByteArray := prog_1_method_7_code
def yX10_puts : MethodName := ⟨RX10, "puts", "(II)I"⟩
abbrev cX10_takes : ByteArray := prog_1_method_8_code
def yX10_takes : MethodName := ⟨RX10, "takes", "(I)I"⟩
abbrev cX10_moves : ByteArray := prog_1_method_9_code
def yX10_moves : MethodName := ⟨RX10, "moves", "(IIII)I"⟩
abbrev cX10_asks : ByteArray := prog_1_method_10_code
def yX10_asks : MethodName := ⟨RX10, "asks", "(IIII)I"⟩
abbrev cX10_cancels : ByteArray := prog_1_method_11_code
def yX10_cancels : MethodName := ⟨RX10, "cancels", "(I)I"⟩
abbrev cX10_keeps : ByteArray := prog_1_method_12_code
def yX10_keeps : MethodName := ⟨RX10, "keeps", "(II)I"⟩
abbrev cX10_lets : ByteArray := prog_1_method_13_code
def yX10_lets : MethodName := ⟨RX10, "lets", "(II)I"⟩
abbrev cX10_quits : ByteArray := prog_1_method_14_code
def yX10_quits : MethodName := ⟨RX10, "quits", "(I)I"⟩
abbrev cX10_keeper : ByteArray := prog_1_method_15_code
def yX10_keeper : MethodName := ⟨RX10, "keeper", "(II)I"⟩
abbrev cX10_queue : ByteArray := prog_1_method_16_code
def yX10_queue : MethodName := ⟨RX10, "queue", "(II)I"⟩
abbrev cX10_stuck : ByteArray := prog_1_method_17_code
def yX10_stuck : MethodName := ⟨RX10, "stuck", "()I"⟩
abbrev cX10_buffer : ByteArray := prog_1_method_18_code
def yX10_buffer : MethodName := ⟨RX10, "buffer", "(II)I"⟩
abbrev cX10_item : ByteArray := prog_1_method_19_code
def yX10_item : MethodName := ⟨RX10, "item", "(II)I"⟩
abbrev cX10_of : ByteArray := prog_1_method_20_code
def yX10_of : MethodName := ⟨RX10, "of", "(II)I"⟩
abbrev cX10_worker : ByteArray := prog_1_method_21_code
def yX10_worker : MethodName := ⟨RX10, "worker", "(II)I"⟩
abbrev cX10_line : ByteArray := prog_1_method_22_code
def yX10_line : MethodName := ⟨RX10, "line", "(I)I"⟩
abbrev cX10_works : ByteArray := prog_1_method_23_code
def yX10_works : MethodName := ⟨RX10, "works", "(I)I"⟩
abbrev cX10_type : ByteArray := prog_1_method_24_code
def yX10_type : MethodName := ⟨RX10, "type", "(I)I"⟩
abbrev cX10_clear : ByteArray := prog_1_method_25_code
def yX10_clear : MethodName := ⟨RX10, "clear", "()I"⟩
abbrev cX10_does : ByteArray := prog_1_method_26_code
def yX10_does : MethodName := ⟨RX10, "does", "()I"⟩
abbrev cX10_back : ByteArray := prog_1_method_27_code
def yX10_back : MethodName := ⟨RX10, "back", "()I"⟩
abbrev cX10_told : ByteArray := prog_1_method_28_code
def yX10_told : MethodName := ⟨RX10, "told", "(I)I"⟩
abbrev cX10_digest : ByteArray := prog_1_method_29_code
def yX10_digest : MethodName := ⟨RX10, "digest", "()J"⟩
abbrev cX10_toldOf : ByteArray := prog_1_method_30_code
def yX10_toldOf : MethodName := ⟨RX10, "toldOf", "(I)I"⟩
abbrev cX10_refuseBad : ByteArray := prog_1_method_31_code
def yX10_refuseBad : MethodName := ⟨RX10, "refuseBad", "()I"⟩
abbrev cX10_refuseNo : ByteArray := prog_1_method_32_code
def yX10_refuseNo : MethodName := ⟨RX10, "refuseNo", "()I"⟩
abbrev cX10_refuseFull : ByteArray := prog_1_method_33_code
def yX10_refuseFull : MethodName := ⟨RX10, "refuseFull", "()I"⟩
abbrev cX10_within : ByteArray := prog_1_method_34_code
def yX10_within : MethodName := ⟨RX10, "within", "(III)Z"⟩
abbrev cX10_isWorker : ByteArray := prog_1_method_35_code
def yX10_isWorker : MethodName := ⟨RX10, "isWorker", "(I)Z"⟩
abbrev cX10_mixed : ByteArray := prog_1_method_36_code
def yX10_mixed : MethodName := ⟨RX10, "mixed", "(JI)J"⟩
abbrev cX10_mixedRow : ByteArray := prog_1_method_37_code
def yX10_mixedRow : MethodName := ⟨RX10, "mixedRow", "(JLGatedWorks$Row;)J"⟩
abbrev cX10_mixedBuffer : ByteArray := prog_1_method_38_code
def yX10_mixedBuffer : MethodName := ⟨RX10, "mixedBuffer", "(JLGatedWorks$Buffer;)J"⟩
abbrev cX10_mixedStation : ByteArray := prog_1_method_39_code
def yX10_mixedStation : MethodName := ⟨RX10, "mixedStation", "(JLGatedWorks$Station;)J"⟩
abbrev cX10_mixedWorker : ByteArray := prog_1_method_40_code
def yX10_mixedWorker : MethodName := ⟨RX10, "mixedWorker", "(JLGatedWorks$Worker;)J"⟩
def RX11 : String := "GatedWorksModel"
def TX11 : u_T := fun k => match k with
  | 0 => ("GatedWorksModel", "refused", "[I", true)
  | 1 => ("GatedWorksModel", "now", "[I", true)
  | 2 => ("GatedWorksModel", "states", "I", false)
  | 3 => ("GatedWorksModel", "kept", "[I", true)
  | 4 => ("GatedWorksModel", "aside", "[I", true)
  | 5 => ("GatedWorksModel", "text", "[I", true)
  | 6 => ("GatedWorksModel", "length", "I", false)
  | 7 => ("GatedWorksModel", "readAt", "I", false)
  | 8 => ("GatedWorksModel", "isFaulty", "Z", false)
  | 9 => ("GatedWorksModel", "orders", "I", false)
  | 10 => ("GatedWorksModel", "letter", "[I", true)
  | 11 => ("GatedWorksModel", "first", "[I", true)
  | 12 => ("GatedWorksModel", "second", "[I", true)
  | 13 => ("GatedWorksModel", "third", "[I", true)
  | 14 => ("GatedWorksModel", "mate", "[I", true)
  | 15 => ("GatedWorksModel", "open", "[I", true)
  | _ => ("GatedWorksModel", "doneAt", "[I", true)
def tyX11 : Nat → FieldType := fun k => match k with
  | 0 => .array .int
  | 1 => .array .int
  | 2 => .int
  | 3 => .array .int
  | 4 => .array .int
  | 5 => .array .int
  | 6 => .int
  | 7 => .int
  | 8 => .boolean
  | 9 => .int
  | 10 => .array .int
  | 11 => .array .int
  | 12 => .array .int
  | 13 => .array .int
  | 14 => .array .int
  | 15 => .array .int
  | _ => .array .int
abbrev wsX110 : List Cond := u_ws RX11 TX11 17
theorem nmX11 : ∀ a, a < 17 → ∀ b, b < 17 → a ≠ b → (TX11 a).2.1 ≠ (TX11 b).2.1 := by decide +kernel
theorem tyX11_ok : ∀ k, k < 17 → parseFieldDescriptor (TX11 k).2.2.1 = some (tyX11 k) := by decide +kernel
abbrev cX11_init : ByteArray := prog_13_method_1_code
def yX11_init : MethodName := ⟨RX11, "<init>", "()V"⟩
abbrev cX11_bad : ByteArray := prog_13_method_2_code
def yX11_bad : MethodName := ⟨RX11, "bad", "()I"⟩
abbrev cX11_no : ByteArray := prog_13_method_3_code
def yX11_no : MethodName := ⟨RX11, "no", "()I"⟩
abbrev cX11_full : ByteArray := prog_13_method_4_code
def yX11_full : MethodName := ⟨RX11, "full", "()I"⟩
abbrev cX11_in : ByteArray := prog_13_method_5_code
def yX11_in : MethodName := ⟨RX11, "in", "(III)Z"⟩
abbrev cX11_atBuffer : ByteArray := prog_13_method_6_code
def yX11_atBuffer : MethodName := ⟨RX11, "atBuffer", "(I)I"⟩
abbrev cX11_gate : ByteArray := prog_13_method_7_code
def yX11_gate : MethodName := ⟨RX11, "gate", "(I)I"⟩
abbrev cX11_stationAt : ByteArray := prog_13_method_8_code
def yX11_stationAt : MethodName := ⟨RX11, "stationAt", "(I)I"⟩
abbrev cX11_workerAt : ByteArray := prog_13_method_9_code
def yX11_workerAt : MethodName := ⟨RX11, "workerAt", "(I)I"⟩
abbrev cX11_isBuffer : ByteArray := prog_13_method_10_code
def yX11_isBuffer : MethodName := ⟨RX11, "isBuffer", "(I)Z"⟩
abbrev cX11_isWorker : ByteArray := prog_13_method_11_code
def yX11_isWorker : MethodName := ⟨RX11, "isWorker", "(I)Z"⟩
abbrev cX11_lays : ByteArray := prog_13_method_12_code
def yX11_lays : MethodName := ⟨RX11, "lays", "(I)V"⟩
abbrev cX11_leavesState : ByteArray := prog_13_method_13_code
def yX11_leavesState : MethodName := ⟨RX11, "leavesState", "()V"⟩
abbrev cX11_back : ByteArray := prog_13_method_14_code
def yX11_back : MethodName := ⟨RX11, "back", "()I"⟩
abbrev cX11_enters : ByteArray := prog_13_method_15_code
def yX11_enters : MethodName := ⟨RX11, "enters", "(I)V"⟩
abbrev cX11_leaves : ByteArray := prog_13_method_16_code
def yX11_leaves : MethodName := ⟨RX11, "leaves", "(I)V"⟩
abbrev cX11_thrownOut : ByteArray := prog_13_method_17_code
def yX11_thrownOut : MethodName := ⟨RX11, "thrownOut", "(I)V"⟩
abbrev cX11_isKeptFor : ByteArray := prog_13_method_18_code
def yX11_isKeptFor : MethodName := ⟨RX11, "isKeptFor", "(II)Z"⟩
abbrev cX11_put : ByteArray := prog_13_method_19_code
def yX11_put : MethodName := ⟨RX11, "put", "(III)Z"⟩
abbrev cX11_firstOf : ByteArray := prog_13_method_20_code
def yX11_firstOf : MethodName := ⟨RX11, "firstOf", "(I)I"⟩
abbrev cX11_take : ByteArray := prog_13_method_21_code
def yX11_take : MethodName := ⟨RX11, "take", "(II)I"⟩
abbrev cX11_firstAgain : ByteArray := prog_13_method_22_code
def yX11_firstAgain : MethodName := ⟨RX11, "firstAgain", "(II)V"⟩
abbrev cX11_lesser : ByteArray := prog_13_method_23_code
def yX11_lesser : MethodName := ⟨RX11, "lesser", "(II)I"⟩
abbrev cX11_greater : ByteArray := prog_13_method_24_code
def yX11_greater : MethodName := ⟨RX11, "greater", "(II)I"⟩
abbrev cX11_move : ByteArray := prog_13_method_25_code
def yX11_move : MethodName := ⟨RX11, "move", "(III)I"⟩
abbrev cX11_laysAside : ByteArray := prog_13_method_26_code
def yX11_laysAside : MethodName := ⟨RX11, "laysAside", "(I)V"⟩
abbrev cX11_undoes : ByteArray := prog_13_method_27_code
def yX11_undoes : MethodName := ⟨RX11, "undoes", "(I)V"⟩
abbrev cX11_goesFromLine : ByteArray := prog_13_method_28_code
def yX11_goesFromLine : MethodName := ⟨RX11, "goesFromLine", "(I)V"⟩
abbrev cX11_tries : ByteArray := prog_13_method_29_code
def yX11_tries : MethodName := ⟨RX11, "tries", "(IIII)Z"⟩
abbrev cX11_serves : ByteArray := prog_13_method_30_code
def yX11_serves : MethodName := ⟨RX11, "serves", "()V"⟩
abbrev cX11_starts : ByteArray := prog_13_method_31_code
def yX11_starts : MethodName := ⟨RX11, "starts", "(II)V"⟩
abbrev cX11_takesBoth : ByteArray := prog_13_method_32_code
def yX11_takesBoth : MethodName := ⟨RX11, "takesBoth", "(I)V"⟩
abbrev cX11_takesOne : ByteArray := prog_13_method_33_code
def yX11_takesOne : MethodName := ⟨RX11, "takesOne", "(I)V"⟩
abbrev cX11_worksOn : ByteArray := prog_13_method_34_code
def yX11_worksOn : MethodName := ⟨RX11, "worksOn", "(I)V"⟩
abbrev cX11_madeOfAll : ByteArray := prog_13_method_35_code
def yX11_madeOfAll : MethodName := ⟨RX11, "madeOfAll", "()I"⟩
abbrev cX11_tick : ByteArray := prog_13_method_36_code
def yX11_tick : MethodName := ⟨RX11, "tick", "()V"⟩
abbrev cX11_begins : ByteArray := prog_13_method_37_code
def yX11_begins : MethodName := ⟨RX11, "begins", "(I)I"⟩
abbrev cX11_rooms : ByteArray := prog_13_method_38_code
def yX11_rooms : MethodName := ⟨RX11, "rooms", "(II)I"⟩
abbrev cX11_station : ByteArray := prog_13_method_39_code
def yX11_station : MethodName := ⟨RX11, "station", "(IIIII)I"⟩
abbrev cX11_isStation : ByteArray := prog_13_method_40_code
def yX11_isStation : MethodName := ⟨RX11, "isStation", "(I)Z"⟩
abbrev cX11_guards : ByteArray := prog_13_method_41_code
def yX11_guards : MethodName := ⟨RX11, "guards", "(II)I"⟩
abbrev cX11_ticks : ByteArray := prog_13_method_42_code
def yX11_ticks : MethodName := ⟨RX11, "ticks", "(I)I"⟩
abbrev cX11_puts : ByteArray := prog_13_method_43_code
def yX11_puts : MethodName := ⟨RX11, "puts", "(II)I"⟩
abbrev cX11_takes : ByteArray := prog_13_method_44_code
def yX11_takes : MethodName := ⟨RX11, "takes", "(I)I"⟩
abbrev cX11_moves : ByteArray := prog_13_method_45_code
def yX11_moves : MethodName := ⟨RX11, "moves", "(IIII)I"⟩
abbrev cX11_asks : ByteArray := prog_13_method_46_code
def yX11_asks : MethodName := ⟨RX11, "asks", "(IIII)I"⟩
abbrev cX11_cancels : ByteArray := prog_13_method_47_code
def yX11_cancels : MethodName := ⟨RX11, "cancels", "(I)I"⟩
abbrev cX11_queueOf : ByteArray := prog_13_method_48_code
def yX11_queueOf : MethodName := ⟨RX11, "queueOf", "(I)I"⟩
abbrev cX11_goesFromQueue : ByteArray := prog_13_method_49_code
def yX11_goesFromQueue : MethodName := ⟨RX11, "goesFromQueue", "(II)V"⟩
abbrev cX11_keeps : ByteArray := prog_13_method_50_code
def yX11_keeps : MethodName := ⟨RX11, "keeps", "(II)I"⟩
abbrev cX11_lets : ByteArray := prog_13_method_51_code
def yX11_lets : MethodName := ⟨RX11, "lets", "(II)I"⟩
abbrev cX11_quits : ByteArray := prog_13_method_52_code
def yX11_quits : MethodName := ⟨RX11, "quits", "(I)I"⟩
abbrev cX11_keeper : ByteArray := prog_13_method_53_code
def yX11_keeper : MethodName := ⟨RX11, "keeper", "(II)I"⟩
abbrev cX11_queue : ByteArray := prog_13_method_54_code
def yX11_queue : MethodName := ⟨RX11, "queue", "(II)I"⟩
abbrev cX11_isStuck : ByteArray := prog_13_method_55_code
def yX11_isStuck : MethodName := ⟨RX11, "isStuck", "(I)Z"⟩
abbrev cX11_stuck : ByteArray := prog_13_method_56_code
def yX11_stuck : MethodName := ⟨RX11, "stuck", "()I"⟩
abbrev cX11_ofBuffer : ByteArray := prog_13_method_57_code
def yX11_ofBuffer : MethodName := ⟨RX11, "ofBuffer", "(II)I"⟩
abbrev cX11_buffer : ByteArray := prog_13_method_58_code
def yX11_buffer : MethodName := ⟨RX11, "buffer", "(II)I"⟩
abbrev cX11_item : ByteArray := prog_13_method_59_code
def yX11_item : MethodName := ⟨RX11, "item", "(II)I"⟩
abbrev cX11_ofStation : ByteArray := prog_13_method_60_code
def yX11_ofStation : MethodName := ⟨RX11, "ofStation", "(II)I"⟩
abbrev cX11_of : ByteArray := prog_13_method_61_code
def yX11_of : MethodName := ⟨RX11, "of", "(II)I"⟩
abbrev cX11_worker : ByteArray := prog_13_method_62_code
def yX11_worker : MethodName := ⟨RX11, "worker", "(II)I"⟩
abbrev cX11_line : ByteArray := prog_13_method_63_code
def yX11_line : MethodName := ⟨RX11, "line", "(I)I"⟩
abbrev cX11_itemsOfAll : ByteArray := prog_13_method_64_code
def yX11_itemsOfAll : MethodName := ⟨RX11, "itemsOfAll", "()I"⟩
abbrev cX11_entriesOfAll : ByteArray := prog_13_method_65_code
def yX11_entriesOfAll : MethodName := ⟨RX11, "entriesOfAll", "()I"⟩
abbrev cX11_worksBy : ByteArray := prog_13_method_66_code
def yX11_worksBy : MethodName := ⟨RX11, "worksBy", "(I)I"⟩
abbrev cX11_works : ByteArray := prog_13_method_67_code
def yX11_works : MethodName := ⟨RX11, "works", "(I)I"⟩
abbrev cX11_type : ByteArray := prog_13_method_68_code
def yX11_type : MethodName := ⟨RX11, "type", "(I)I"⟩
abbrev cX11_clear : ByteArray := prog_13_method_69_code
def yX11_clear : MethodName := ⟨RX11, "clear", "()I"⟩
abbrev cX11_here : ByteArray := prog_13_method_70_code
def yX11_here : MethodName := ⟨RX11, "here", "()I"⟩
abbrev cX11_figure : ByteArray := prog_13_method_71_code
def yX11_figure : MethodName := ⟨RX11, "figure", "()I"⟩
abbrev cX11_comes : ByteArray := prog_13_method_72_code
def yX11_comes : MethodName := ⟨RX11, "comes", "(I)V"⟩
abbrev cX11_reads : ByteArray := prog_13_method_73_code
def yX11_reads : MethodName := ⟨RX11, "reads", "()Z"⟩
abbrev cX11_doesOne : ByteArray := prog_13_method_74_code
def yX11_doesOne : MethodName := ⟨RX11, "doesOne", "(I)Z"⟩
abbrev cX11_doesAll : ByteArray := prog_13_method_75_code
def yX11_doesAll : MethodName := ⟨RX11, "doesAll", "()I"⟩
abbrev cX11_does : ByteArray := prog_13_method_76_code
def yX11_does : MethodName := ⟨RX11, "does", "()I"⟩
abbrev cX11_toldOf : ByteArray := prog_13_method_77_code
def yX11_toldOf : MethodName := ⟨RX11, "toldOf", "(I)I"⟩
abbrev cX11_told : ByteArray := prog_13_method_78_code
def yX11_told : MethodName := ⟨RX11, "told", "(I)I"⟩
abbrev cX11_digest : ByteArray := prog_13_method_79_code
def yX11_digest : MethodName := ⟨RX11, "digest", "()J"⟩
def RJ9 : String := "java/lang/Math"
def TJ9 : u_T := fun k => match k with
  | _ => ("", "", "", false)
def tyJ9 : Nat → FieldType := fun k => match k with
  | _ => .int
abbrev wsJ90 : List Cond := u_ws RJ9 TJ9 0
theorem nmJ9 : ∀ a, a < 0 → ∀ b, b < 0 → a ≠ b → (TJ9 a).2.1 ≠ (TJ9 b).2.1 := by decide +kernel
theorem tyJ9_ok : ∀ k, k < 0 → parseFieldDescriptor (TJ9 k).2.2.1 = some (tyJ9 k) := by decide +kernel
abbrev cJ9_max_7cf53 : ByteArray := prog_14_method_65_code
def yJ9_max_7cf53 : MethodName := ⟨RJ9, "max", "(II)I"⟩
abbrev cJ9_min_7cf53 : ByteArray := prog_14_method_69_code
def yJ9_min_7cf53 : MethodName := ⟨RJ9, "min", "(II)I"⟩
def RJ10 : String := "java/lang/System"
def TJ10 : u_T := fun k => match k with
  | _ => ("", "", "", false)
def tyJ10 : Nat → FieldType := fun k => match k with
  | _ => .int
abbrev wsJ100 : List Cond := u_ws RJ10 TJ10 0
theorem nmJ10 : ∀ a, a < 0 → ∀ b, b < 0 → a ≠ b → (TJ10 a).2.1 ≠ (TJ10 b).2.1 := by decide +kernel
theorem tyJ10_ok : ∀ k, k < 0 → parseFieldDescriptor (TJ10 k).2.2.1 = some (tyJ10 k) := by decide +kernel
def RL : String := "GatedWorksLaw"
abbrev cL_law : ByteArray := code
def yL_law : MethodName := ⟨RL, "law", "([I)Z"⟩
abbrev vwCl : List vw_C := [(RX0, TX0, 9), (RX1, TX1, 9), (RX2, TX2, 4), (RX3, TX3, 3), (RX4, TX4, 1), (RX5, TX5, 2), (RX6, TX6, 8), (RX7, TX7, 12), (RX8, TX8, 2), (RX9, TX9, 4), (RX10, TX10, 8), (RX11, TX11, 17)]
end
section
/-! ===== the judgement: a heap as a function; one row an instruction ===== -/
abbrev gj_X : Type := Launch × va_G × (Nat → ClassId) × Nat
abbrev gj_M : Type := ByteArray × MethodName × Nat × Option FieldType × Nat × Nat
abbrev gj_S : Type := (Nat × List (Option (Option Nat))) ⊕ (Nat ⊕ (Nat × List (Option Nat)))
abbrev gj_V : Type := Nat → Nat → Int32
abbrev gj_H : Type := Nat → Option gj_S
abbrev gj_Q : Type := Option Value → Nat → gj_H → gj_V → Prop
/-- the fields of an object: its template says which are references; the ints come from x -/
def gj_fs : List (Option (Option Nat)) → (Nat → Int32) → Nat → List Value
  | [], _, _ => []
  | none :: t, x, i => .int (x i) :: gj_fs t x (i + 1)
  | some r :: t, x, i => va_rf r :: gj_fs t x (i + 1)
def gj_e (ids : Nat → ClassId) (s : Option gj_S) (x : Nat → Int32) : va_E := match s with
  | none => .inr (0, [])
  | some (.inl (ci, t)) => .inr (ci, gj_fs t x 0)
  | some (.inr (.inl n)) => .inl (ids 0, (n, .inl x))
  | some (.inr (.inr (k, L))) => .inl (ids k, (L.length, .inr (.inr (.inr (.inr (fun i => L.getD i none))))))
theorem gj_fs_at : ∀ (t : List (Option (Option Nat))) (x : Nat → Int32) (i k : Nat), (gj_fs t x i)[k]? = (t[k]?).map (fun o => match o with | none => Value.int (x (i + k)) | some r => va_rf r)
  | [], x, i, k => by simp [gj_fs]
  | none :: t, x, i, 0 => by simp [gj_fs]
  | some r :: t, x, i, 0 => by simp [gj_fs]
  | none :: t, x, i, k + 1 => by
    have := gj_fs_at t x (i + 1) k
    simp only [gj_fs, List.getElem?_cons_succ, this]
    rw [show i + 1 + k = i + (k + 1) by omega]
  | some r :: t, x, i, k + 1 => by
    have := gj_fs_at t x (i + 1) k
    simp only [gj_fs, List.getElem?_cons_succ, this]
    rw [show i + 1 + k = i + (k + 1) by omega]
theorem gj_fs_len : ∀ (t : List (Option (Option Nat))) (x : Nat → Int32) (i : Nat), (gj_fs t x i).length = t.length
  | [], x, i => rfl
  | none :: t, x, i => by simp [gj_fs, gj_fs_len t x (i + 1)]
  | some r :: t, x, i => by simp [gj_fs, gj_fs_len t x (i + 1)]
/-- an int field is set -/
theorem gj_fs_set (t : List (Option (Option Nat))) (x : Nat → Int32) (k : Nat) (z : Int32) (h : t[k]? = some none) : (gj_fs t x 0).set k (.int z) = gj_fs t (upd x k z) 0 := by
  apply List.ext_getElem?
  intro j
  rw [gj_fs_at, Nat.zero_add]
  by_cases hj : j = k
  · subst hj
    have hl : j < (gj_fs t x 0).length := by rw [gj_fs_len]; exact (List.getElem?_eq_some_iff.mp h).1
    rw [List.getElem?_set_self hl, h]
    simp [upd]
  · rw [List.getElem?_set_ne (Ne.symm hj), gj_fs_at, Nat.zero_add]
    cases ht : t[j]? with
    | none => rfl
    | some o => cases o <;> simp [upd, hj]
/-- a reference field is set -/
theorem gj_fs_setr (t : List (Option (Option Nat))) (x : Nat → Int32) (k : Nat) (r : Option Nat) (h : k < t.length) : (gj_fs t x 0).set k (va_rf r) = gj_fs (t.set k (some r)) x 0 := by
  apply List.ext_getElem?
  intro j
  rw [gj_fs_at, Nat.zero_add]
  by_cases hj : j = k
  · subst hj
    rw [List.getElem?_set_self (by rw [gj_fs_len]; exact h), List.getElem?_set_self h]
    rfl
  · rw [List.getElem?_set_ne (Ne.symm hj), List.getElem?_set_ne (Ne.symm hj), gj_fs_at, Nat.zero_add]
/-- the domain: all cells from the base on -/
abbrev gj_dom (b lim : Nat) : List Nat := List.range' b (lim - b)
theorem gj_dom_mem {b lim a : Nat} (h1 : b ≤ a) (h2 : a < lim) : a ∈ gj_dom b lim := by
  rw [List.mem_range'_1]; omega
abbrev gj_pl (X : gj_X) (lim : Nat) (σ : gj_H) (v : gj_V) : va_W := va_pl (gj_dom X.2.2.2 lim) (fun a => gj_e X.2.2.1 (σ a) (v a))
abbrev gj_A (X : gj_X) : Nat → Prop := fun q => X.2.2.2 ≤ q
def gj_rep (X : gj_X) (lim : Nat) (σ : gj_H) (v : gj_V) (H : Heap) : Prop :=
  X.2.2.2 ≤ lim ∧ H.size = lim ∧ (∀ a, (σ a).isSome = true → X.2.2.2 ≤ a ∧ a < lim) ∧ va_P X.2.1 vwCl ([] ++ gj_pl X lim σ v) H ∧ va_D (gj_A X) ([] ++ gj_pl X lim σ v)
theorem gj_rep.mem {X : gj_X} {lim : Nat} {σ : gj_H} {v : gj_V} {H : Heap} (h : gj_rep X lim σ v H) {a : Nat} {sh : gj_S} (hs : σ a = some sh) : a ∈ gj_dom X.2.2.2 lim := by
  have := h.2.2.1 a (by rw [hs]; rfl)
  exact gj_dom_mem this.1 this.2
theorem gj_rep.at {X : gj_X} {lim : Nat} {σ : gj_H} {v : gj_V} {H : Heap} (h : gj_rep X lim σ v H) {a : Nat} {sh : gj_S} (hs : σ a = some sh) : ∃ k : Nat, ([] ++ gj_pl X lim σ v)[k]? = some (a, gj_e X.2.2.1 (some sh) (v a)) := by
  obtain ⟨k, hk⟩ := va_pl_get (X := []) (f := fun a => gj_e X.2.2.1 (σ a) (v a)) (h.mem hs)
  exact ⟨k, by rw [hs] at hk; exact hk⟩
def gj_up (v : gj_V) (a : Nat) (f : Nat → Int32) : gj_V := va_up v a f
def gj_up2 (v : gj_V) (a k : Nat) (x : Int32) : gj_V := va_up v a (upd (v a) k x)
theorem gj_upf_eq {X : gj_X} {σ : gj_H} {v : gj_V} {a : Nat} {f : Nat → Int32} {sh : gj_S} (hs : σ a = some sh) : va_up (fun a => gj_e X.2.2.1 (σ a) (v a)) a (gj_e X.2.2.1 (some sh) f) = fun b => gj_e X.2.2.1 (σ b) (va_up v a f b) := by
  funext b
  by_cases hb : b = a
  · subst hb
    rw [va_up_self, va_up_self, hs]
  · rw [va_up_ne _ _ hb, va_up_ne _ _ hb]
theorem gj_ups_eq {X : gj_X} {σ : gj_H} {v : gj_V} {a : Nat} {sh : gj_S} : va_up (fun a => gj_e X.2.2.1 (σ a) (v a)) a (gj_e X.2.2.1 (some sh) (v a)) = fun b => gj_e X.2.2.1 (va_up σ a (some sh) b) (v b) := by
  funext b
  by_cases hb : b = a
  · subst hb
    rw [va_up_self, va_up_self]
  · rw [va_up_ne _ _ hb, va_up_ne _ _ hb]
/-! words -/
def gj_isNest : Cond → Bool
  | .fieldLinkNest .. => true
  | .methodLinkNest .. => true
  | _ => false
def gj_w : List Cond := lw_tbl.filter goodWord
def gj_nw : List Cond := lw_tbl.filter gj_isNest
theorem gj_w_in {w : Cond} (i : Nat) (h : lw_tbl[i]? = some w) (hg : goodWord w = true) : w ∈ gj_w := List.mem_filter.mpr ⟨List.mem_of_getElem? h, hg⟩
theorem gj_nw_in {w : Cond} (i : Nat) (h : lw_tbl[i]? = some w) (hg : gj_isNest w = true) : w ∈ gj_nw := List.mem_filter.mpr ⟨List.mem_of_getElem? h, hg⟩
theorem gj_nw_tab {w : Cond} (h : w ∈ gj_nw) : w.onTables = true := by
  have := (List.mem_filter.mp h).2
  cases w <;> first | rfl | (simp [gj_isNest] at this)
theorem gj_nw_warm {w : Cond} (h : w ∈ gj_nw) {s U : State} (hW : s.WarmedH U.vm) (hZ : va_Nw w s) : va_Nw w U := by
  have hn := (List.mem_filter.mp h).2
  cases w <;> first | exact va_Nw.warmF hW hZ | exact va_Nw.warmM hW hZ | (simp [gj_isNest] at hn)
def gj_ao : List String := [RX0, RX1, RX4, RX5, RX7, RX9]
abbrev gj_tys (ids : Nat → ClassId) : List (ClassId × FieldType) := [(ids 0, .int), (ids 1, .object RX0), (ids 2, .object RX1), (ids 3, .object RX4), (ids 4, .object RX5), (ids 5, .object RX7), (ids 6, .object RX9)]
def gj_K (X : gj_X) (U : State) : Prop := va_K X.2.1 vwCl (gj_tys X.2.2.1) U ∧ (∀ w ∈ gj_nw, va_Nw w U) ∧ ∀ C ∈ gj_ao, va_AO C U
theorem gj_K.warm {X : gj_X} {s U : State} (hW : s.WarmedH U.vm) (h : gj_K X s) : gj_K X U := ⟨va_K.moved hW.alike h.1, fun w hw => gj_nw_warm hw hW (h.2.1 w hw), fun C hC => va_AO.moved hW.alike (h.2.2 C hC)⟩
theorem gj_K.same {X : gj_X} {s U : State} (hv : s.vm = U.vm) (h : gj_K X s) : gj_K X U := ⟨va_K.moved (by rw [hv]; exact Vm.Alike.refl _) h.1, fun w hw => va_Nw.same (gj_nw_tab hw) hv (h.2.1 w hw), fun C hC => va_AO.moved (by rw [hv]; exact Vm.Alike.refl _) (h.2.2 C hC)⟩
def gj_R (d : Nat) (M : gj_M) : Room := { frames := d + 1, cells := M.2.2.2.2.1, slots := M.2.2.2.2.2, locals := 29 * d + 40 }
def gj_ws (M : gj_M) : List Cond := .code M.2.1 M.1 M.2.2.1 M.2.2.2.1 :: gj_w
def gj_F (X : gj_X) (Q : gj_Q) : Array Value → State → Outcome → State → Prop := fun _ st oc t => (∃ (r : Option Value) (lim : Nat) (σ : gj_H) (v : gj_V), oc = .returned r ∧ Q r lim σ v ∧ gj_rep X lim σ v t.heap) ∧ va_F (gj_A X) st t
/-- a method's contract -/
def gj_E (X : gj_X) (d : Nat) (M : gj_M) (as : List Value) (lim : Nat) (σ : gj_H) (v : gj_V) (Q : gj_Q) : Prop :=
  Met X.1 M.2.1 (gj_ws M) (gj_R d M) (va_Pc as (fun U => gj_rep X lim σ v U.heap ∧ gj_K X U)) (gj_F X Q) M.2.2.2.2.1 M.2.2.2.2.2 (gj_A X)
def gj_C (X : gj_X) (M : gj_M) (p : Program) (s : State) (m : MethodId) (args : Array Value) (meth : Method) (c : Code) : Prop :=
  p.tables.exec = Jvm.exec ∧ c.code = M.1 ∧ c.maxLocals = M.2.2.1 ∧ meth.sig.returnType = M.2.2.2.1 ∧ meth.locks = false ∧ s.vm.findClass M.2.1.cls = some m.cls ∧ (∀ w ∈ gj_w, w.before args s = true) ∧ gj_K X s ∧ X.2.2.2 ≤ s.heap.size ∧ meth.name = M.2.1.name
/-! locals by their slots -/
def gj_L (L : List (Option Value)) : List (Nat × Value) := (List.range L.length).filterMap (fun i => (L[i]?.join).map (fun v => (i, v)))
theorem gj_L_mem {L : List (Option Value)} {i : Nat} {v : Value} : (i, v) ∈ gj_L L ↔ L[i]? = some (some v) := by
  unfold gj_L
  rw [List.mem_filterMap]
  constructor
  · rintro ⟨j, hj, h⟩
    cases hL : L[j]? with
    | none => rw [hL] at h; simp at h
    | some o =>
      cases o with
      | none => rw [hL] at h; simp at h
      | some w =>
        rw [hL] at h
        simp at h
        obtain ⟨rfl, rfl⟩ := h
        exact hL
  · intro h
    exact ⟨i, List.mem_range.mpr (List.getElem?_eq_some_iff.mp h).1, by rw [h]; rfl⟩
theorem gj_lat {ls : Array Slot} {nL : Nat} {L : List (Option Value)} (h : lv_has ls nL (gj_L L)) {i : Nat} {v : Value} (hl : L[i]? = some (some v)) : ls[i]? = some (.val v) := h.2.2 (i, v) (gj_L_mem.mpr hl)
def gj_ok1 (L : List (Option Value)) (i : Nat) : Bool := match i with
  | 0 => true
  | j + 1 => match L[j]? with
    | some (some (.long _)) => false
    | some (some (.double _)) => false
    | _ => true
theorem gj_ok1_spec {L : List (Option Value)} {i j : Nat} {w : Value} (h : gj_ok1 L i = true) (hj : L[j]? = some (some w)) (e : j + 1 = i) : ¬ w.category = 2 := by
  subst e
  simp only [gj_ok1, hj] at h
  cases w <;> simp_all [Value.category]
theorem gj_st1 {ls : Array Slot} {nL : Nat} {L : List (Option Value)} {i : Nat} {v : Value} (hok : gj_ok1 L i = true) (h : lv_has ls nL ((i, v) :: (gj_L L).filter (fun q => !(q.1 == i) && !(q.1 + 1 == i && q.2.category == 2)))) : lv_has ls nL (gj_L (L.set i (some v))) := by
  refine ⟨h.1, h.2.1, fun q hq => ?_⟩
  obtain ⟨j, w⟩ := q
  have hm := gj_L_mem.mp hq
  by_cases hj : j = i
  · subst hj
    have hl := (List.getElem?_eq_some_iff.mp hm).1
    rw [List.length_set] at hl
    rw [List.getElem?_set_self hl] at hm
    cases hm
    exact h.2.2 _ List.mem_cons_self
  · rw [List.getElem?_set_ne (Ne.symm hj)] at hm
    refine h.2.2 (j, w) (List.mem_cons_of_mem _ (List.mem_filter.mpr ⟨gj_L_mem.mpr hm, ?_⟩))
    have hc : j + 1 = i → ¬ w.category = 2 := gj_ok1_spec hok hm
    simp only [Bool.and_eq_true, Bool.not_eq_true', beq_eq_false_iff_ne, ne_eq, Bool.and_eq_false_iff]
    refine ⟨hj, ?_⟩
    by_cases e : j + 1 = i
    · exact Or.inr (hc e)
    · exact Or.inl e
theorem gj_st2 {ls : Array Slot} {nL : Nat} {L : List (Option Value)} {i : Nat} {v : Value} (hok : gj_ok1 L i = true) (h : lv_has ls nL ((i, v) :: (gj_L L).filter (fun q => !(q.1 == i) && (!(q.1 == i + 1) && !(q.1 + 1 == i && q.2.category == 2))))) : lv_has ls nL (gj_L ((L.set i (some v)).set (i + 1) none)) := by
  refine ⟨h.1, h.2.1, fun q hq => ?_⟩
  obtain ⟨j, w⟩ := q
  have hm := gj_L_mem.mp hq
  by_cases hj1 : j = i + 1
  · subst hj1
    have hl := (List.getElem?_eq_some_iff.mp hm).1
    rw [List.length_set] at hl
    rw [List.getElem?_set_self hl] at hm
    cases hm
  · rw [List.getElem?_set_ne (Ne.symm hj1)] at hm
    by_cases hj : j = i
    · subst hj
      have hl := (List.getElem?_eq_some_iff.mp hm).1
      rw [List.length_set] at hl
      rw [List.getElem?_set_self hl] at hm
      cases hm
      exact h.2.2 _ List.mem_cons_self
    · rw [List.getElem?_set_ne (Ne.symm hj)] at hm
      refine h.2.2 (j, w) (List.mem_cons_of_mem _ (List.mem_filter.mpr ⟨gj_L_mem.mpr hm, ?_⟩))
      have hc : j + 1 = i → ¬ w.category = 2 := gj_ok1_spec hok hm
      simp only [Bool.and_eq_true, Bool.not_eq_true', beq_eq_false_iff_ne, ne_eq, Bool.and_eq_false_iff]
      refine ⟨hj, hj1, ?_⟩
      by_cases e : j + 1 = i
      · exact Or.inr (hc e)
      · exact Or.inl e
/-- the judgement -/
def gj_G (X : gj_X) (d : Nat) (M : gj_M) (Q : gj_Q) (lim : Nat) (σ : gj_H) (v : gj_V) (kc ks pc : Nat) (L : List (Option Value)) (st : List Value) : Prop :=
  ∀ (p : Program) (e : Env) (s : State) (m : MethodId) (args : Array Value) (below : List Frame) (meth : Method) (c : Code) (H : Heap) (locs : List Loc) (ls : Array Slot),
    gj_C X M p s m args meth c → gj_rep X lim σ v H → va_S (gj_A X) s.heap H locs → lv_has ls M.2.2.1 (gj_L L) →
    W p X.1 e (gj_R d M) s m args below meth c H locs kc ks (MQ below (gj_F X Q) args s M.2.2.2.2.1 M.2.2.2.2.2 (gj_A X)) (F0 m pc ls st)
section GJ
variable {X : gj_X} {d : Nat} {M : gj_M} {Q : gj_Q} {lim : Nat} {σ : gj_H} {v : gj_V} {kc ks pc q : Nat} {L L' : List (Option Value)} {st : List Value}
theorem gj_G.of (k : ∀ (p : Program) (e : Env) (s : State) (m : MethodId) (args : Array Value) (below : List Frame) (meth : Method) (c : Code) (H : Heap) (locs : List Loc) (ls : Array Slot),
    gj_C X M p s m args meth c → gj_rep X lim σ v H → va_S (gj_A X) s.heap H locs → lv_has ls M.2.2.1 (gj_L L) →
    W p X.1 e (gj_R d M) s m args below meth c H locs kc ks (MQ below (gj_F X Q) args s M.2.2.2.2.1 M.2.2.2.2.2 (gj_A X)) (F0 m pc ls st)) : gj_G X d M Q lim σ v kc ks pc L st := k
theorem g_iload_n {n : Fin 4} {x : Int32} (hd : decode M.1 pc = .ok (.iload_n n, 1)) (hl : L[n.val]? = some (some (.int x))) (hq : pc + 1 = q) (k : gj_G X d M Q lim σ v kc ks q L (.int x :: st)) : gj_G X d M Q lim σ v kc ks pc L st := by
  subst hq
  intro p e s m args below meth c H locs ls hC hR hS hL
  exact lv_iload_n hC.1 hC.2.1 hd rfl (gj_lat hL hl) (k p e s m args below meth c H locs ls hC hR hS hL)
theorem g_iload {i : Nat} {x : Int32} (hd : decode M.1 pc = .ok (.iload i, 2)) (hl : L[i]? = some (some (.int x))) (hq : pc + 2 = q) (k : gj_G X d M Q lim σ v kc ks q L (.int x :: st)) : gj_G X d M Q lim σ v kc ks pc L st := by
  subst hq
  intro p e s m args below meth c H locs ls hC hR hS hL
  exact lv_iload hC.1 hC.2.1 hd (gj_lat hL hl) (k p e s m args below meth c H locs ls hC hR hS hL)
theorem g_lload_n {n : Fin 4} {x : Int64} (hd : decode M.1 pc = .ok (.lload_n n, 1)) (hl : L[n.val]? = some (some (.long x))) (hq : pc + 1 = q) (k : gj_G X d M Q lim σ v kc ks q L (.long x :: st)) : gj_G X d M Q lim σ v kc ks pc L st := by
  subst hq
  intro p e s m args below meth c H locs ls hC hR hS hL
  exact lv_lload_n hC.1 hC.2.1 hd rfl (gj_lat hL hl) (k p e s m args below meth c H locs ls hC hR hS hL)
theorem g_aload_n {n : Fin 4} {x : Nat} (hd : decode M.1 pc = .ok (.aload_n n, 1)) (hl : L[n.val]? = some (some (.ref x))) (hq : pc + 1 = q) (k : gj_G X d M Q lim σ v kc ks q L (.ref x :: st)) : gj_G X d M Q lim σ v kc ks pc L st := by
  subst hq
  intro p e s m args below meth c H locs ls hC hR hS hL
  exact lv_aload_n hC.1 hC.2.1 hd rfl (gj_lat hL hl) (k p e s m args below meth c H locs ls hC hR hS hL)
theorem g_aload {i x : Nat} (hd : decode M.1 pc = .ok (.aload i, 2)) (hl : L[i]? = some (some (.ref x))) (hq : pc + 2 = q) (k : gj_G X d M Q lim σ v kc ks q L (.ref x :: st)) : gj_G X d M Q lim σ v kc ks pc L st := by
  subst hq
  intro p e s m args below meth c H locs ls hC hR hS hL
  exact lv_aload hC.1 hC.2.1 hd (gj_lat hL hl) (k p e s m args below meth c H locs ls hC hR hS hL)
theorem g_istore_n {n : Fin 4} {x : Int32} (hd : decode M.1 pc = .ok (.istore_n n, 1)) (hi : Nat.blt n.val M.2.2.1 = true) (hok : gj_ok1 L n.val = true) (hl : L.set n.val (some (.int x)) = L') (hq : pc + 1 = q) (k : gj_G X d M Q lim σ v kc ks q L' st) : gj_G X d M Q lim σ v kc ks pc L (.int x :: st) := by
  subst hq; subst hl
  intro p e s m args below meth c H locs ls hC hR hS hL
  exact lv_istore_n hC.1 hC.2.1 hd rfl hL (Nat.blt_eq.mp hi) rfl (fun ls' h => k p e s m args below meth c H locs ls' hC hR hS (gj_st1 hok h))
theorem g_istore {i : Nat} {x : Int32} (hd : decode M.1 pc = .ok (.istore i, 2)) (hi : Nat.blt i M.2.2.1 = true) (hok : gj_ok1 L i = true) (hl : L.set i (some (.int x)) = L') (hq : pc + 2 = q) (k : gj_G X d M Q lim σ v kc ks q L' st) : gj_G X d M Q lim σ v kc ks pc L (.int x :: st) := by
  subst hq; subst hl
  intro p e s m args below meth c H locs ls hC hR hS hL
  exact lv_istore hC.1 hC.2.1 hd hL (Nat.blt_eq.mp hi) rfl (fun ls' h => k p e s m args below meth c H locs ls' hC hR hS (gj_st1 hok h))
theorem g_astore_n {n : Fin 4} {x : Nat} (hd : decode M.1 pc = .ok (.astore_n n, 1)) (hi : Nat.blt n.val M.2.2.1 = true) (hok : gj_ok1 L n.val = true) (hl : L.set n.val (some (.ref x)) = L') (hq : pc + 1 = q) (k : gj_G X d M Q lim σ v kc ks q L' st) : gj_G X d M Q lim σ v kc ks pc L (.ref x :: st) := by
  subst hq; subst hl
  intro p e s m args below meth c H locs ls hC hR hS hL
  exact lv_astore_n hC.1 hC.2.1 hd rfl hL (Nat.blt_eq.mp hi) rfl (fun ls' h => k p e s m args below meth c H locs ls' hC hR hS (gj_st1 hok h))
theorem g_astore {i x : Nat} (hd : decode M.1 pc = .ok (.astore i, 2)) (hi : Nat.blt i M.2.2.1 = true) (hok : gj_ok1 L i = true) (hl : L.set i (some (.ref x)) = L') (hq : pc + 2 = q) (k : gj_G X d M Q lim σ v kc ks q L' st) : gj_G X d M Q lim σ v kc ks pc L (.ref x :: st) := by
  subst hq; subst hl
  intro p e s m args below meth c H locs ls hC hR hS hL
  exact lv_astore hC.1 hC.2.1 hd hL (Nat.blt_eq.mp hi) rfl (fun ls' h => k p e s m args below meth c H locs ls' hC hR hS (gj_st1 hok h))
theorem g_lstore_n {n : Fin 4} {x : Int64} (hd : decode M.1 pc = .ok (.lstore_n n, 1)) (hi : Nat.blt (n.val + 1) M.2.2.1 = true) (hok : gj_ok1 L n.val = true) (hl : (L.set n.val (some (.long x))).set (n.val + 1) none = L') (hq : pc + 1 = q) (k : gj_G X d M Q lim σ v kc ks q L' st) : gj_G X d M Q lim σ v kc ks pc L (.long x :: st) := by
  subst hq; subst hl
  intro p e s m args below meth c H locs ls hC hR hS hL
  exact lv_lstore_n hC.1 hC.2.1 hd rfl hL (Nat.blt_eq.mp hi) rfl (fun ls' h => k p e s m args below meth c H locs ls' hC hR hS (gj_st2 hok h))
theorem g_iinc {i : Nat} {n : Int} {x y : Int32} (hd : decode M.1 pc = .ok (.iinc i n, 3)) (hx : L[i]? = some (some (.int x))) (hv : x + Int32.ofInt n = y) (hi : Nat.blt i M.2.2.1 = true) (hok : gj_ok1 L i = true) (hl : L.set i (some (.int y)) = L') (hq : pc + 3 = q) (k : gj_G X d M Q lim σ v kc ks q L' st) : gj_G X d M Q lim σ v kc ks pc L st := by
  subst hq; subst hl
  intro p e s m args below meth c H locs ls hC hR hS hL
  obtain ⟨z, hz⟩ := List.getElem?_of_mem (gj_L_mem.mpr hx)
  exact lv_iinc hC.1 hC.2.1 hd hL hz hv (Nat.blt_eq.mp hi) rfl (fun ls' h => k p e s m args below meth c H locs ls' hC hR hS (gj_st1 hok h))
theorem g_iconst {n : Int} {x : Int32} (hd : decode M.1 pc = .ok (.iconst n, 1)) (hv : Int32.ofInt n = x) (hq : pc + 1 = q) (k : gj_G X d M Q lim σ v kc ks q L (.int x :: st)) : gj_G X d M Q lim σ v kc ks pc L st := by
  subst hq
  intro p e s m args below meth c H locs ls hC hR hS hL
  exact lv_iconst hC.1 hC.2.1 hd hv (k p e s m args below meth c H locs ls hC hR hS hL)
theorem g_bipush {n : Int} {x : Int32} (hd : decode M.1 pc = .ok (.bipush n, 2)) (hv : (Int8.ofInt n).toInt32 = x) (hq : pc + 2 = q) (k : gj_G X d M Q lim σ v kc ks q L (.int x :: st)) : gj_G X d M Q lim σ v kc ks pc L st := by
  subst hq
  intro p e s m args below meth c H locs ls hC hR hS hL
  exact lv_bipush hC.1 hC.2.1 hd hv (k p e s m args below meth c H locs ls hC hR hS hL)
theorem g_sipush {n : Int} {x : Int32} (hd : decode M.1 pc = .ok (.sipush n, 3)) (hv : (Int16.ofInt n).toInt32 = x) (hq : pc + 3 = q) (k : gj_G X d M Q lim σ v kc ks q L (.int x :: st)) : gj_G X d M Q lim σ v kc ks pc L st := by
  subst hq
  intro p e s m args below meth c H locs ls hC hR hS hL
  exact lv_sipush hC.1 hC.2.1 hd hv (k p e s m args below meth c H locs ls hC hR hS hL)
theorem g_ldc2 {i : Nat} {x : Int64} (hd : decode M.1 pc = .ok (.ldc2_w i, 3)) (hw : Cond.constantLong M.2.1.cls i x ∈ gj_w) (hq : pc + 3 = q) (k : gj_G X d M Q lim σ v kc ks q L (.long x :: st)) : gj_G X d M Q lim σ v kc ks pc L st := by
  subst hq
  intro p e s m args below meth c H locs ls hC hR hS hL
  exact lv_ldc2 hC.1 hC.2.1 hC.2.2.2.2.2.1 (hC.2.2.2.2.2.2.1 _ hw) hd (k p e s m args below meth c H locs ls hC hR hS hL)
theorem g_iadd {x y : Int32} (hd : decode M.1 pc = .ok (.iadd, 1)) (hq : pc + 1 = q) (k : gj_G X d M Q lim σ v kc ks q L (.int (x + y) :: st)) : gj_G X d M Q lim σ v kc ks pc L (.int y :: .int x :: st) := by
  subst hq
  intro p e s m args below meth c H locs ls hC hR hS hL
  exact lv_iadd hC.1 hC.2.1 hd (k p e s m args below meth c H locs ls hC hR hS hL)
theorem g_isub {x y : Int32} (hd : decode M.1 pc = .ok (.isub, 1)) (hq : pc + 1 = q) (k : gj_G X d M Q lim σ v kc ks q L (.int (x - y) :: st)) : gj_G X d M Q lim σ v kc ks pc L (.int y :: .int x :: st) := by
  subst hq
  intro p e s m args below meth c H locs ls hC hR hS hL
  exact lv_isub hC.1 hC.2.1 hd (k p e s m args below meth c H locs ls hC hR hS hL)
theorem g_imul {x y : Int32} (hd : decode M.1 pc = .ok (.imul, 1)) (hq : pc + 1 = q) (k : gj_G X d M Q lim σ v kc ks q L (.int (x * y) :: st)) : gj_G X d M Q lim σ v kc ks pc L (.int y :: .int x :: st) := by
  subst hq
  intro p e s m args below meth c H locs ls hC hR hS hL
  exact lv_imul hC.1 hC.2.1 hd (k p e s m args below meth c H locs ls hC hR hS hL)
theorem g_irem {x y : Int32} (hd : decode M.1 pc = .ok (.irem, 1)) (hy : ¬ y = 0) (hq : pc + 1 = q) (k : gj_G X d M Q lim σ v kc ks q L (.int (x - x / y * y) :: st)) : gj_G X d M Q lim σ v kc ks pc L (.int y :: .int x :: st) := by
  subst hq
  intro p e s m args below meth c H locs ls hC hR hS hL
  exact lv_irem hC.1 hC.2.1 hd hy (k p e s m args below meth c H locs ls hC hR hS hL)
theorem g_iand {x y : Int32} (hd : decode M.1 pc = .ok (.iand, 1)) (hq : pc + 1 = q) (k : gj_G X d M Q lim σ v kc ks q L (.int (x &&& y) :: st)) : gj_G X d M Q lim σ v kc ks pc L (.int y :: .int x :: st) := by
  subst hq
  intro p e s m args below meth c H locs ls hC hR hS hL
  exact lv_iand hC.1 hC.2.1 hd (k p e s m args below meth c H locs ls hC hR hS hL)
theorem g_ior {x y : Int32} (hd : decode M.1 pc = .ok (.ior, 1)) (hq : pc + 1 = q) (k : gj_G X d M Q lim σ v kc ks q L (.int (x ||| y) :: st)) : gj_G X d M Q lim σ v kc ks pc L (.int y :: .int x :: st) := by
  subst hq
  intro p e s m args below meth c H locs ls hC hR hS hL
  exact lv_ior hC.1 hC.2.1 hd (k p e s m args below meth c H locs ls hC hR hS hL)
theorem g_ishl {x y : Int32} (hd : decode M.1 pc = .ok (.ishl, 1)) (hq : pc + 1 = q) (k : gj_G X d M Q lim σ v kc ks q L (.int (x <<< (y &&& 31)) :: st)) : gj_G X d M Q lim σ v kc ks pc L (.int y :: .int x :: st) := by
  subst hq
  intro p e s m args below meth c H locs ls hC hR hS hL
  exact lv_ishl hC.1 hC.2.1 hd (k p e s m args below meth c H locs ls hC hR hS hL)
theorem g_ladd {x y : Int64} (hd : decode M.1 pc = .ok (.ladd, 1)) (hq : pc + 1 = q) (k : gj_G X d M Q lim σ v kc ks q L (.long (x + y) :: st)) : gj_G X d M Q lim σ v kc ks pc L (.long y :: .long x :: st) := by
  subst hq
  intro p e s m args below meth c H locs ls hC hR hS hL
  exact lv_ladd hC.1 hC.2.1 hd (k p e s m args below meth c H locs ls hC hR hS hL)
theorem g_lmul {x y : Int64} (hd : decode M.1 pc = .ok (.lmul, 1)) (hq : pc + 1 = q) (k : gj_G X d M Q lim σ v kc ks q L (.long (x * y) :: st)) : gj_G X d M Q lim σ v kc ks pc L (.long y :: .long x :: st) := by
  subst hq
  intro p e s m args below meth c H locs ls hC hR hS hL
  exact lv_lmul hC.1 hC.2.1 hd (k p e s m args below meth c H locs ls hC hR hS hL)
theorem g_i2l {x : Int32} (hd : decode M.1 pc = .ok (.i2l, 1)) (hq : pc + 1 = q) (k : gj_G X d M Q lim σ v kc ks q L (.long x.toInt64 :: st)) : gj_G X d M Q lim σ v kc ks pc L (.int x :: st) := by
  subst hq
  intro p e s m args below meth c H locs ls hC hR hS hL
  exact lv_i2l hC.1 hC.2.1 hd rfl (k p e s m args below meth c H locs ls hC hR hS hL)
theorem g_dup {x : Value} (hd : decode M.1 pc = .ok (.dup, 1)) (hc : x.category = 1) (hq : pc + 1 = q) (k : gj_G X d M Q lim σ v kc ks q L (x :: x :: st)) : gj_G X d M Q lim σ v kc ks pc L (x :: st) := by
  subst hq
  intro p e s m args below meth c H locs ls hC hR hS hL
  exact lv_dup hC.1 hC.2.1 hd hc (k p e s m args below meth c H locs ls hC hR hS hL)
theorem g_dup2 {x y : Value} (hd : decode M.1 pc = .ok (.dup2, 1)) (hc : x.category = 1) (hc2 : y.category = 1) (hq : pc + 1 = q) (k : gj_G X d M Q lim σ v kc ks q L (x :: y :: x :: y :: st)) : gj_G X d M Q lim σ v kc ks pc L (x :: y :: st) := by
  subst hq
  intro p e s m args below meth c H locs ls hC hR hS hL
  exact lv_dup2_11 hC.1 hC.2.1 hd hc hc2 (k p e s m args below meth c H locs ls hC hR hS hL)
theorem g_pop {x : Value} (hd : decode M.1 pc = .ok (.pop, 1)) (hc : x.category = 1) (hq : pc + 1 = q) (k : gj_G X d M Q lim σ v kc ks q L st) : gj_G X d M Q lim σ v kc ks pc L (x :: st) := by
  subst hq
  intro p e s m args below meth c H locs ls hC hR hS hL
  exact lv_pop hC.1 hC.2.1 hd hc (k p e s m args below meth c H locs ls hC hR hS hL)
theorem g_goto {o : Int} (hd : decode M.1 pc = .ok (.goto o, 3)) (hq : (pc : Int) + o = (q : Int)) (k : gj_G X d M Q lim σ v kc ks q L st) : gj_G X d M Q lim σ v kc ks pc L st := by
  intro p e s m args below meth c H locs ls hC hR hS hL
  exact lv_goto hC.1 hC.2.1 hd hq (k p e s m args below meth c H locs ls hC hR hS hL)
variable {x y : Int32} {o : Int} {t : Nat}
theorem g_ifeq (hd : decode M.1 pc = .ok (.ifCond .eq o, 3)) (ht : (pc : Int) + o = (t : Int)) (hq : pc + 3 = q) (kt : x = 0 → gj_G X d M Q lim σ v kc ks t L st) (kf : ¬ x = 0 → gj_G X d M Q lim σ v kc ks q L st) : gj_G X d M Q lim σ v kc ks pc L (.int x :: st) := by
  subst hq
  intro p e s m args below meth c H locs ls hC hR hS hL
  exact lv_if_eq hC.1 hC.2.1 hd ht (fun h => kt h p e s m args below meth c H locs ls hC hR hS hL) (fun h => kf h p e s m args below meth c H locs ls hC hR hS hL)
theorem g_ifne (hd : decode M.1 pc = .ok (.ifCond .ne o, 3)) (ht : (pc : Int) + o = (t : Int)) (hq : pc + 3 = q) (kt : ¬ x = 0 → gj_G X d M Q lim σ v kc ks t L st) (kf : x = 0 → gj_G X d M Q lim σ v kc ks q L st) : gj_G X d M Q lim σ v kc ks pc L (.int x :: st) := by
  subst hq
  intro p e s m args below meth c H locs ls hC hR hS hL
  exact lv_if_ne hC.1 hC.2.1 hd ht (fun h => kt (by simpa using h) p e s m args below meth c H locs ls hC hR hS hL) (fun h => kf (by simpa using h) p e s m args below meth c H locs ls hC hR hS hL)
theorem g_iflt (hd : decode M.1 pc = .ok (.ifCond .lt o, 3)) (ht : (pc : Int) + o = (t : Int)) (hq : pc + 3 = q) (kt : x < 0 → gj_G X d M Q lim σ v kc ks t L st) (kf : ¬ x < 0 → gj_G X d M Q lim σ v kc ks q L st) : gj_G X d M Q lim σ v kc ks pc L (.int x :: st) := by
  subst hq
  intro p e s m args below meth c H locs ls hC hR hS hL
  exact lv_if_lt hC.1 hC.2.1 hd ht (fun h => kt h p e s m args below meth c H locs ls hC hR hS hL) (fun h => kf h p e s m args below meth c H locs ls hC hR hS hL)
theorem g_ifge (hd : decode M.1 pc = .ok (.ifCond .ge o, 3)) (ht : (pc : Int) + o = (t : Int)) (hq : pc + 3 = q) (kt : 0 ≤ x → gj_G X d M Q lim σ v kc ks t L st) (kf : ¬ 0 ≤ x → gj_G X d M Q lim σ v kc ks q L st) : gj_G X d M Q lim σ v kc ks pc L (.int x :: st) := by
  subst hq
  intro p e s m args below meth c H locs ls hC hR hS hL
  exact lv_if_ge hC.1 hC.2.1 hd ht (fun h => kt h p e s m args below meth c H locs ls hC hR hS hL) (fun h => kf h p e s m args below meth c H locs ls hC hR hS hL)
theorem g_ifgt (hd : decode M.1 pc = .ok (.ifCond .gt o, 3)) (ht : (pc : Int) + o = (t : Int)) (hq : pc + 3 = q) (kt : 0 < x → gj_G X d M Q lim σ v kc ks t L st) (kf : ¬ 0 < x → gj_G X d M Q lim σ v kc ks q L st) : gj_G X d M Q lim σ v kc ks pc L (.int x :: st) := by
  subst hq
  intro p e s m args below meth c H locs ls hC hR hS hL
  exact lv_if_gt hC.1 hC.2.1 hd ht (fun h => kt h p e s m args below meth c H locs ls hC hR hS hL) (fun h => kf h p e s m args below meth c H locs ls hC hR hS hL)
theorem g_ifle (hd : decode M.1 pc = .ok (.ifCond .le o, 3)) (ht : (pc : Int) + o = (t : Int)) (hq : pc + 3 = q) (kt : x ≤ 0 → gj_G X d M Q lim σ v kc ks t L st) (kf : ¬ x ≤ 0 → gj_G X d M Q lim σ v kc ks q L st) : gj_G X d M Q lim σ v kc ks pc L (.int x :: st) := by
  subst hq
  intro p e s m args below meth c H locs ls hC hR hS hL
  exact lv_if_le hC.1 hC.2.1 hd ht (fun h => kt h p e s m args below meth c H locs ls hC hR hS hL) (fun h => kf h p e s m args below meth c H locs ls hC hR hS hL)
theorem g_icmpeq (hd : decode M.1 pc = .ok (.if_icmp .eq o, 3)) (ht : (pc : Int) + o = (t : Int)) (hq : pc + 3 = q) (kt : x = y → gj_G X d M Q lim σ v kc ks t L st) (kf : ¬ x = y → gj_G X d M Q lim σ v kc ks q L st) : gj_G X d M Q lim σ v kc ks pc L (.int y :: .int x :: st) := by
  subst hq
  intro p e s m args below meth c H locs ls hC hR hS hL
  exact lv_icmp_eq hC.1 hC.2.1 hd ht (fun h => kt h p e s m args below meth c H locs ls hC hR hS hL) (fun h => kf h p e s m args below meth c H locs ls hC hR hS hL)
theorem g_icmpne (hd : decode M.1 pc = .ok (.if_icmp .ne o, 3)) (ht : (pc : Int) + o = (t : Int)) (hq : pc + 3 = q) (kt : ¬ x = y → gj_G X d M Q lim σ v kc ks t L st) (kf : x = y → gj_G X d M Q lim σ v kc ks q L st) : gj_G X d M Q lim σ v kc ks pc L (.int y :: .int x :: st) := by
  subst hq
  intro p e s m args below meth c H locs ls hC hR hS hL
  exact lv_icmp_ne hC.1 hC.2.1 hd ht (fun h => kt (by simpa using h) p e s m args below meth c H locs ls hC hR hS hL) (fun h => kf (by simpa using h) p e s m args below meth c H locs ls hC hR hS hL)
theorem g_icmplt (hd : decode M.1 pc = .ok (.if_icmp .lt o, 3)) (ht : (pc : Int) + o = (t : Int)) (hq : pc + 3 = q) (kt : x < y → gj_G X d M Q lim σ v kc ks t L st) (kf : ¬ x < y → gj_G X d M Q lim σ v kc ks q L st) : gj_G X d M Q lim σ v kc ks pc L (.int y :: .int x :: st) := by
  subst hq
  intro p e s m args below meth c H locs ls hC hR hS hL
  exact lv_icmp_lt hC.1 hC.2.1 hd ht (fun h => kt h p e s m args below meth c H locs ls hC hR hS hL) (fun h => kf h p e s m args below meth c H locs ls hC hR hS hL)
theorem g_icmpge (hd : decode M.1 pc = .ok (.if_icmp .ge o, 3)) (ht : (pc : Int) + o = (t : Int)) (hq : pc + 3 = q) (kt : y ≤ x → gj_G X d M Q lim σ v kc ks t L st) (kf : ¬ y ≤ x → gj_G X d M Q lim σ v kc ks q L st) : gj_G X d M Q lim σ v kc ks pc L (.int y :: .int x :: st) := by
  subst hq
  intro p e s m args below meth c H locs ls hC hR hS hL
  exact lv_icmp_ge hC.1 hC.2.1 hd ht (fun h => kt h p e s m args below meth c H locs ls hC hR hS hL) (fun h => kf h p e s m args below meth c H locs ls hC hR hS hL)
theorem g_icmpgt (hd : decode M.1 pc = .ok (.if_icmp .gt o, 3)) (ht : (pc : Int) + o = (t : Int)) (hq : pc + 3 = q) (kt : y < x → gj_G X d M Q lim σ v kc ks t L st) (kf : ¬ y < x → gj_G X d M Q lim σ v kc ks q L st) : gj_G X d M Q lim σ v kc ks pc L (.int y :: .int x :: st) := by
  subst hq
  intro p e s m args below meth c H locs ls hC hR hS hL
  exact lv_icmp_gt hC.1 hC.2.1 hd ht (fun h => kt h p e s m args below meth c H locs ls hC hR hS hL) (fun h => kf h p e s m args below meth c H locs ls hC hR hS hL)
theorem g_icmple (hd : decode M.1 pc = .ok (.if_icmp .le o, 3)) (ht : (pc : Int) + o = (t : Int)) (hq : pc + 3 = q) (kt : x ≤ y → gj_G X d M Q lim σ v kc ks t L st) (kf : ¬ x ≤ y → gj_G X d M Q lim σ v kc ks q L st) : gj_G X d M Q lim σ v kc ks pc L (.int y :: .int x :: st) := by
  subst hq
  intro p e s m args below meth c H locs ls hC hR hS hL
  exact lv_icmp_le hC.1 hC.2.1 hd ht (fun h => kt h p e s m args below meth c H locs ls hC hR hS hL) (fun h => kf h p e s m args below meth c H locs ls hC hR hS hL)
theorem g_tableIn {dflt lo hi : Int} {offs : Array Int} {len : Nat} (hd : decode M.1 pc = .ok (.tableswitch dflt lo hi offs, len)) (h1 : ¬ x.toInt < lo) (h2 : ¬ hi < x.toInt) (ho : offs[(x.toInt - lo).toNat]? = some o) (ht : (pc : Int) + o = (t : Int)) (k : gj_G X d M Q lim σ v kc ks t L st) : gj_G X d M Q lim σ v kc ks pc L (.int x :: st) := by
  intro p e s m args below meth c H locs ls hC hR hS hL
  exact lv_tableIn hC.1 hC.2.1 hd h1 h2 ho ht (k p e s m args below meth c H locs ls hC hR hS hL)
theorem g_tableOut {dflt lo hi : Int} {offs : Array Int} {len : Nat} (hd : decode M.1 pc = .ok (.tableswitch dflt lo hi offs, len)) (h1 : x.toInt < lo ∨ hi < x.toInt) (ht : (pc : Int) + dflt = (t : Int)) (k : gj_G X d M Q lim σ v kc ks t L st) : gj_G X d M Q lim σ v kc ks pc L (.int x :: st) := by
  intro p e s m args below meth c H locs ls hC hR hS hL
  exact lv_tableOut hC.1 hC.2.1 hd h1 ht (k p e s m args below meth c H locs ls hC hR hS hL)
theorem g_lookup {dflt : Int} {ps : Array (Int × Int)} {len : Nat} (hd : decode M.1 pc = .ok (.lookupswitch dflt ps, len)) (hp : (ps.toList.zip (ps.toList.drop 1)).all (fun (a, next) => a.1 < next.1) = true) (ho : Op.lookupswitch.offset ps.toList dflt x.toInt = o) (ht : (pc : Int) + o = (t : Int)) (k : gj_G X d M Q lim σ v kc ks t L st) : gj_G X d M Q lim σ v kc ks pc L (.int x :: st) := by
  intro p e s m args below meth c H locs ls hC hR hS hL
  exact lv_lookup hC.1 hC.2.1 hd hp ho ht (k p e s m args below meth c H locs ls hC hR hS hL)
end GJ
end
section
/-! ===== the judgement's rows of fields, arrays, calls, ends ===== -/
/-- a field as an instruction names it: class ci, place k, its type, whether final -/
def gj_Fk (own : String) (index ci k : Nat) (ty : FieldType) (fin : Bool) : Prop :=
  ∃ (C : String) (T : u_T) (N : Nat) (ty0 : Nat → FieldType), vwCl[ci]? = some (C, T, N) ∧ (∀ w ∈ u_ws C T N, w ∈ gj_w) ∧ (∀ k, k < N → parseFieldDescriptor (T k).2.2.1 = some (ty0 k)) ∧ (∀ a, a < N → ∀ b, b < N → a ≠ b → (T a).2.1 ≠ (T b).2.1) ∧
    k < N ∧ ty0 k = ty ∧ (T k).2.2.2 = fin ∧ (T k).1 = C ∧ (Cond.fieldLink own index (T k).1 (T k).2.1 (T k).2.2.1 ∈ gj_w ∨ ∃ host, Cond.fieldLinkNest own index (T k).1 (T k).2.1 (T k).2.2.1 host ∈ gj_nw)
theorem gj_rep.put {X : gj_X} {lim : Nat} {σ : gj_H} {v : gj_V} {H H1 : Heap} (h : gj_rep X lim σ v H) {a : Nat} {sh : gj_S} (hs : σ a = some sh) {f : Nat → Int32} (hat : va_at X.2.1 vwCl (a, gj_e X.2.2.1 (some sh) f) H1) (hz : H1.size = H.size) (oq : ∀ q : Nat, q ≠ a → H1[q]? = H[q]?) : gj_rep X lim σ (gj_up v a f) H1 := by
  obtain ⟨k, hk⟩ := h.at hs
  have hk2 : ([] ++ gj_pl X lim σ v)[k]? = some (a, (fun a => gj_e X.2.2.1 (σ a) (v a)) a) := by rw [hk]; simp only [hs]
  have e := va_pl_set (e := gj_e X.2.2.1 (some sh) f) h.2.2.2.2 (h.mem hs) hk2
  rw [gj_upf_eq hs] at e
  refine ⟨h.1, hz.trans h.2.1, h.2.2.1, ?_, ?_⟩
  · have := h.2.2.2.1.set h.2.2.2.2 hk hat oq
    rw [e] at this
    exact this
  · have := h.2.2.2.2.set (e := gj_e X.2.2.1 (some sh) f) hk
    rw [e] at this
    exact this
theorem gj_rep.puts {X : gj_X} {lim : Nat} {σ : gj_H} {v : gj_V} {H H1 : Heap} (h : gj_rep X lim σ v H) {a : Nat} {sh sh' : gj_S} (hs : σ a = some sh) (hat : va_at X.2.1 vwCl (a, gj_e X.2.2.1 (some sh') (v a)) H1) (hz : H1.size = H.size) (oq : ∀ q : Nat, q ≠ a → H1[q]? = H[q]?) : gj_rep X lim (va_up σ a (some sh')) v H1 := by
  obtain ⟨k, hk⟩ := h.at hs
  have hk2 : ([] ++ gj_pl X lim σ v)[k]? = some (a, (fun a => gj_e X.2.2.1 (σ a) (v a)) a) := by rw [hk]; simp only [hs]
  have e := va_pl_set (e := gj_e X.2.2.1 (some sh') (v a)) h.2.2.2.2 (h.mem hs) hk2
  rw [gj_ups_eq] at e
  refine ⟨h.1, hz.trans h.2.1, fun b hb => ?_, ?_, ?_⟩
  · by_cases hba : b = a
    · subst hba
      exact h.2.2.1 b (by rw [hs]; rfl)
    · rw [va_up_ne _ _ hba] at hb
      exact h.2.2.1 b hb
  · have := h.2.2.2.1.set h.2.2.2.2 hk hat oq
    rw [e] at this
    exact this
  · have := h.2.2.2.2.set (e := gj_e X.2.2.1 (some sh') (v a)) hk
    rw [e] at this
    exact this
theorem gj_rep.A {X : gj_X} {lim : Nat} {σ : gj_H} {v : gj_V} {H : Heap} (h : gj_rep X lim σ v H) {a : Nat} {sh : gj_S} (hs : σ a = some sh) : gj_A X a := (h.2.2.1 a (by rw [hs]; rfl)).1
/-- a cell of the pool, for the kit's rows -/
theorem gj_rep.one {X : gj_X} {lim : Nat} {σ : gj_H} {v : gj_V} {H : Heap} (h : gj_rep X lim σ v H) {a : Nat} {sh : gj_S} (hs : σ a = some sh) : va_P X.2.1 vwCl [(a, gj_e X.2.2.1 (some sh) (v a))] H := by
  obtain ⟨k, hk⟩ := h.at hs
  intro j q hq
  have hj : j < 1 := (List.getElem?_eq_some_iff.mp hq).1
  rw [show j = 0 by omega] at hq
  cases hq
  exact h.2.2.2.1 k _ hk
section GH
variable {X : gj_X} {d : Nat} {M : gj_M} {Q : gj_Q} {lim : Nat} {σ : gj_H} {v : gj_V} {kc ks pc q : Nat} {L L' : List (Option Value)} {st : List Value}
theorem g_getf {index ci k a : Nat} {ty : FieldType} {fin : Bool} {t : List (Option (Option Nat))} {w : Value} (hf : gj_Fk M.2.1.cls index ci k ty fin) (hs : σ a = some (.inl (ci, t))) (hw : (gj_fs t (v a) 0)[k]? = some w) (hd : decode M.1 pc = .ok (.getfield index, 3)) (hq : pc + 3 = q) (kk : gj_G X d M Q lim σ v kc ks q L (w :: st)) : gj_G X d M Q lim σ v kc ks pc L (.ref a :: st) := by
  subst hq
  intro p e s m args below meth c H locs ls hC hR hS hL
  obtain ⟨C, T, N, ty0, h1, h2, h3, h4, h5, h6, h7, h8, h9⟩ := hf
  have hP := hR.one hs
  rcases h9 with h9 | ⟨host, h9⟩
  · exact va_get hC.1 hC.2.1 hC.2.2.2.2.2.2.1 h2 hC.2.2.2.2.2.1 hC.2.2.2.2.2.2.2.1.1 hP 0 rfl h1 k h5 (hC.2.2.2.2.2.2.1 _ h9) (fun _ h => h) hw hd (kk p e s m args below meth c H locs ls hC hR hS hL)
  · exact va_getN hC.1 hC.2.1 hC.2.2.2.2.2.2.1 h2 hC.2.2.2.2.2.1 hC.2.2.2.2.2.2.2.1.1 hP 0 rfl h1 k h5 (va_Nw.use rfl (hC.2.2.2.2.2.2.2.1.2.1 _ h9)) (fun _ h => h) hw hd (kk p e s m args below meth c H locs ls hC hR hS hL)
theorem g_getI {index ci k a : Nat} {ty : FieldType} {fin : Bool} {t : List (Option (Option Nat))} (hf : gj_Fk M.2.1.cls index ci k ty fin) (hs : σ a = some (.inl (ci, t))) (hw : t[k]? = some none) (hd : decode M.1 pc = .ok (.getfield index, 3)) (hq : pc + 3 = q) (kk : gj_G X d M Q lim σ v kc ks q L (.int (v a k) :: st)) : gj_G X d M Q lim σ v kc ks pc L (.ref a :: st) :=
  g_getf hf hs (by rw [gj_fs_at, hw, Nat.zero_add]; rfl) hd hq kk
theorem g_getR {index ci k a r : Nat} {ty : FieldType} {fin : Bool} {t : List (Option (Option Nat))} (hf : gj_Fk M.2.1.cls index ci k ty fin) (hs : σ a = some (.inl (ci, t))) (hw : t[k]? = some (some (some r))) (hd : decode M.1 pc = .ok (.getfield index, 3)) (hq : pc + 3 = q) (kk : gj_G X d M Q lim σ v kc ks q L (.ref r :: st)) : gj_G X d M Q lim σ v kc ks pc L (.ref a :: st) :=
  g_getf hf hs (by rw [gj_fs_at, hw]; rfl) hd hq kk
/-- an int field that isn't final -/
theorem g_putI {index ci k a : Nat} {ty : FieldType} {t : List (Option (Option Nat))} {x : Int32} (hf : gj_Fk M.2.1.cls index ci k ty false) (hs : σ a = some (.inl (ci, t))) (hw : t[k]? = some none) (hn : narrow ty (.int x) = .int x) (hfit : fits ty (.int x) = true) (hd : decode M.1 pc = .ok (.putfield index, 3)) (hq : pc + 3 = q) (kk : gj_G X d M Q lim σ (gj_up2 v a k x) kc ks q L st) : gj_G X d M Q lim σ v kc ks pc L (.int x :: .ref a :: st) := by
  subst hq
  intro p e s m args below meth c H locs ls hC hR hS hL
  obtain ⟨C, T, N, ty0, h1, h2, h3, h4, h5, h6, h7, h8, h9⟩ := hf
  have hts := hC.2.2.2.2.2.2.1
  have hown := hC.2.2.2.2.2.1
  have hK := hC.2.2.2.2.2.2.2.1.1
  have hap := va_apart (own := M.2.1.cls) hts h2 ty0 h3 h4 hK h1
  obtain ⟨r, g1, cell, q1, q2, q3, q4⟩ := hR.one hs 0 _ rfl
  have hr : r = (C, T, N) := Option.some.inj (g1.symm.trans h1)
  subst hr
  obtain ⟨hSl, hfc, kC, hkC, hkind⟩ := hK.1 ci _ h1
  obtain ⟨cf, kf, fi, f, hi, hsl⟩ := hSl k h5
  have hlay := hts _ (h2 _ (u_in_lay h5))
  unfold u_lay at hlay
  rw [if_neg (by rw [h7]; decide)] at hlay
  have hst := (u_facts hfc hkC (u_lays hts h2 h5) hi).1
  have h10 := u_store hfc hkC hkind hlay hi (by rw [h3 k h5, h6]) hn hfit
  have hlen : k < (gj_fs t (v a) 0).length := by rw [gj_fs_len]; exact (List.getElem?_eq_some_iff.mp hw).1
  have fin : ∀ H' : Heap, H'[a]? = some (cell.setSlot f.slot (.int x)) → H'.size = H.size → (∀ q, q ≠ a → H'[q]? = H[q]?) → W p X.1 e (gj_R d M) s m args below meth c H' (locs ++ [⟨a, f.slot⟩]) kc ks (MQ below (gj_F X Q) args s M.2.2.2.2.1 M.2.2.2.2.2 (gj_A X)) (F0 m (pc + 3) ls st) := by
    intro H' e1 e2 e3
    rw [hsl] at e1 ⊢
    refine kk p e s m args below meth c H' _ ls hC (hR.put hs (f := upd (v a) k x) ?_ e2 e3) (hS.put e2 e3 (hR.A hs)) hL
    show va_at X.2.1 vwCl (a, .inr (ci, gj_fs t (upd (v a) k x) 0)) H'
    rw [← gj_fs_set t (v a) k x hw]
    exact ⟨_, h1, t_OB.to (V := updV (vp_V (gj_fs t (v a) 0)) k (.int x)) ⟨_, e1, q2, q3, t_set q4 hap h5 (.int x)⟩ (fun j _ => vp_updV_set hlen (.int x) j)⟩
  rcases h9 with h9 | ⟨host, h9⟩
  · exact W.putK hC.1 hC.2.1 (f := f) ⟨hown, hts _ h9, ⟨_, _, _, hi⟩, hst⟩ (by rw [q2]; exact h10) q1 q3 (by rw [hsl]; exact k2_hasslot (q4 k h5)) rfl rfl hd fin
  · exact va_WputK hC.1 hC.2.1 (f := f) hown (va_Nw.use rfl (hC.2.2.2.2.2.2.2.1.2.1 _ h9)) hi hst (by rw [q2]; exact h10) q1 q3 (by rw [hsl]; exact k2_hasslot (q4 k h5)) rfl rfl hd fin
/-- an int array, read by a natural index -/
theorem g_iald {a n k : Nat} {i : Int32} (hs : σ a = some (.inr (.inl n))) (hi : i = nI k) (hk : k < n) (hn : n < 2147483648) (hd : decode M.1 pc = .ok (.iaload, 1)) (hq : pc + 1 = q) (kk : gj_G X d M Q lim σ v kc ks q L (.int (v a k) :: st)) : gj_G X d M Q lim σ v kc ks pc L (.int i :: .ref a :: st) := by
  subst hq; subst hi
  intro p e s m args below meth c H locs ls hC hR hS hL
  have hP := hR.one hs
  have hc : (nI k).toNatClampNeg = k := nI_clamp (Nat.lt_trans hk hn)
  refine va_iald hC.1 hC.2.1 hC.2.2.2.2.2.2.2.1.1 hP 0 0 (f := v a) (n := n) rfl rfl (vp_in_nI hk hn) hd ?_
  rw [hc]
  exact kk p e s m args below meth c H locs ls hC hR hS hL
theorem g_iast {a n k : Nat} {i x : Int32} (hs : σ a = some (.inr (.inl n))) (hi : i = nI k) (hk : k < n) (hn : n < 2147483648) (hd : decode M.1 pc = .ok (.iastore, 1)) (hq : pc + 1 = q) (kk : gj_G X d M Q lim σ (gj_up2 v a k x) kc ks q L st) : gj_G X d M Q lim σ v kc ks pc L (.int x :: .int i :: .ref a :: st) := by
  subst hq; subst hi
  intro p e s m args below meth c H locs ls hC hR hS hL
  have hP := hR.one hs
  have hc : (nI k).toNatClampNeg = k := nI_clamp (Nat.lt_trans hk hn)
  have hin : vp_in (nI k) n := vp_in_nI hk hn
  refine W.iast hC.1 hC.2.1 (hP 0 _ rfl) ((hC.2.2.2.2.2.2.2.1.1.2 0 _ rfl).1 n (fun j => .int (v a j))) (fun q => by cases q) (by show ¬ (nI k < 0 ∨ (arrV _ _ _).slots.size ≤ _); rw [arrV_size]; exact hin) rfl rfl hd fun H1 e1 z oq => ?_
  refine kk p e s m args below meth c H1 _ ls hC (hR.put hs (f := upd (v a) k x) ?_ z oq) (hS.put z oq (hR.A hs)) hL
  show H1[a]? = some (vp_cell (X.2.2.1 0) (n, .inl (upd (v a) k x)))
  rw [e1, hc]
  show some ((vp_cell (X.2.2.1 0) (n, .inl (v a))).setSlot k (.int x)) = _
  rw [vp_cell_i, vp_cell_i, arrV_store]
  congr 2
  funext j
  by_cases hj : j = k
  · subst hj
    simp [updV, upd]
  · simp [updV, upd, hj]
theorem g_alen {a n : Nat} (hs : σ a = some (.inr (.inl n))) (hd : decode M.1 pc = .ok (.arraylength, 1)) (hq : pc + 1 = q) (kk : gj_G X d M Q lim σ v kc ks q L (.int (nI n) :: st)) : gj_G X d M Q lim σ v kc ks pc L (.ref a :: st) := by
  subst hq
  intro p e s m args below meth c H locs ls hC hR hS hL
  exact va_alen hC.1 hC.2.1 hC.2.2.2.2.2.2.2.1.1 (hR.one hs) 0 0 rfl rfl rfl hd (kk p e s m args below meth c H locs ls hC hR hS hL)
/-- an array of references, read by a natural index -/
theorem g_aald {a k r kk0 : Nat} {C : String} {i : Int32} {A : List (Option Nat)} (hs : σ a = some (.inr (.inr (kk0, A)))) (hC0 : (gj_tys X.2.2.1)[kk0]? = some (X.2.2.1 kk0, .object C)) (hi : i = nI k) (hr : A[k]? = some (some r)) (hn : A.length < 2147483648) (hd : decode M.1 pc = .ok (.aaload, 1)) (hq : pc + 1 = q) (kk : gj_G X d M Q lim σ v kc ks q L (.ref r :: st)) : gj_G X d M Q lim σ v kc ks pc L (.int i :: .ref a :: st) := by
  subst hq; subst hi
  intro p e s m args below meth c H locs ls hC hR hS hL
  have hk : k < A.length := (List.getElem?_eq_some_iff.mp hr).1
  have hc : (nI k).toNatClampNeg = k := nI_clamp (Nat.lt_trans hk hn)
  refine va_aldq hC.1 hC.2.1 hC.2.2.2.2.2.2.2.1.1 (hR.one hs) 0 kk0 (n := A.length) (f := fun i => A.getD i none) rfl hC0 (vp_in_nI hk hn) hd ?_
  rw [hc]
  have e1 : A.getD k none = some r := by rw [List.getD_eq_getElem?_getD, hr]; rfl
  show W p X.1 e (gj_R d M) s m args below meth c H locs kc ks _ (F0 m (pc + 1) ls (va_rf (A.getD k none) :: st))
  rw [e1]
  exact kk p e s m args below meth c H locs ls hC hR hS hL
/-! ends -/
theorem gj_end {p : Program} {e : Env} {s : State} {m : MethodId} {args : Array Value} {below : List Frame} {meth : Method} {c : Code} {H : Heap} {locs : List Loc} {r : Option Value} (hR : gj_rep X lim σ v H) (hS : va_S (gj_A X) s.heap H locs) (hQ : Q r lim σ v) : ∀ t : State, t.heap = H → s.WarmedH t.vm → gj_F X Q args s (.returned r) t :=
  fun t ht _ => ⟨⟨r, lim, σ, v, rfl, hQ, by rw [ht]; exact hR⟩, hS.F ht⟩
theorem g_iret {x : Int32} (hr : M.2.2.2.1 = some .int) (hkc : kc = M.2.2.2.2.1) (hks : ks = M.2.2.2.2.2) (hd : decode M.1 pc = .ok (.ireturn, 1)) (hQ : Q (some (.int x)) lim σ v) : gj_G X d M Q lim σ v kc ks pc L [.int x] := by
  subst hkc; subst hks
  intro p e s m args below meth c H locs ls hC hR hS hL
  exact W.iret hC.1 hC.2.1 (hC.2.2.2.1.trans hr) (gj_end (p := p) (e := e) (m := m) (below := below) (meth := meth) (c := c) hR hS hQ) hS.2.2 hd hC.2.2.2.2.1
theorem g_zret {x : Int32} (hr : M.2.2.2.1 = some .boolean) (hz : narrow .boolean (.int x) = .int x) (hkc : kc = M.2.2.2.2.1) (hks : ks = M.2.2.2.2.2) (hd : decode M.1 pc = .ok (.ireturn, 1)) (hQ : Q (some (.int x)) lim σ v) : gj_G X d M Q lim σ v kc ks pc L [.int x] := by
  subst hkc; subst hks
  intro p e s m args below meth c H locs ls hC hR hS hL
  exact W.zret hC.1 hC.2.1 (hC.2.2.2.1.trans hr) hz (gj_end (p := p) (e := e) (m := m) (below := below) (meth := meth) (c := c) hR hS hQ) hS.2.2 hd hC.2.2.2.2.1
theorem g_lret {x : Int64} (hr : M.2.2.2.1 = some .long) (hkc : kc = M.2.2.2.2.1) (hks : ks = M.2.2.2.2.2) (hd : decode M.1 pc = .ok (.lreturn, 1)) (hQ : Q (some (.long x)) lim σ v) : gj_G X d M Q lim σ v kc ks pc L [.long x] := by
  subst hkc; subst hks
  intro p e s m args below meth c H locs ls hC hR hS hL
  exact W.lret hC.1 hC.2.1 (hC.2.2.2.1.trans hr) (gj_end (p := p) (e := e) (m := m) (below := below) (meth := meth) (c := c) hR hS hQ) hS.2.2 hd hC.2.2.2.2.1
theorem g_vret (hr : M.2.2.2.1 = none) (hkc : kc = M.2.2.2.2.1) (hks : ks = M.2.2.2.2.2) (hd : decode M.1 pc = .ok (.return_, 1)) (hQ : Q none lim σ v) : gj_G X d M Q lim σ v kc ks pc L [] := by
  subst hkc; subst hks
  intro p e s m args below meth c H locs ls hC hR hS hL
  exact W.vret hC.1 hC.2.1 (hC.2.2.2.1.trans hr) (gj_end (p := p) (e := e) (m := m) (below := below) (meth := meth) (c := c) hR hS hQ) hS.2.2 hd hC.2.2.2.2.1
/-! a contract out of the judgement -/
def gj_ent : List Value → List (Option Value)
  | [] => []
  | .long x :: r => some (.long x) :: none :: gj_ent r
  | .double x :: r => some (.double x) :: none :: gj_ent r
  | x :: r => some x :: gj_ent r
theorem gj_ent_in : ∀ (vs : List Value) (n i : Nat) (w : Value), (gj_ent vs)[i]? = some (some w) → (n + i, w) ∈ lv_args n vs
  | [], n, i, w, h => by simp [gj_ent] at h
  | x :: r, n, i, w, h => by
    have ih1 := gj_ent_in r (n + 1)
    have ih2 := gj_ent_in r (n + 2)
    cases x <;> (
      simp only [gj_ent] at h
      unfold lv_args
      rcases i with _ | i
      · simp at h
        subst h
        simp
      · first
          | (rcases i with _ | i
             · simp at h
             · have := ih2 i w (by simpa using h)
               rw [show n + 2 + i = n + (i + 1 + 1) by omega] at this
               simp only [Value.category, List.mem_cons]
               exact Or.inr this)
          | (have := ih1 i w (by simpa using h)
             rw [show n + 1 + i = n + (i + 1) by omega] at this
             simp only [Value.category, List.mem_cons]
             exact Or.inr this))
theorem gj_E_of {as : List Value} (hy : plainName M.2.1.cls = true) (hL : Nat.ble (lg_sl as).length M.2.2.1 = true) (hl : ∀ (i : Nat) (w : Value), L[i]? = some (some w) → (gj_ent as)[i]? = some (some w)) (h : gj_G X d M Q lim σ v 0 0 0 L []) : gj_E X d M as lim σ v Q := by
  refine Met.ofW (cc := M.1) (maxL := M.2.2.1) (ret := M.2.2.2.1) hy rfl ?_
  intro p e s m args below meth c s₁ B hml hv
  obtain ⟨rfl, hR, hK⟩ := hv
  have hts := atoms_spec (ws := gj_ws M) B.pre
  have hent := lv_entry as (n := M.2.2.1) (Nat.ble_eq.mp hL)
  rw [lg_entry_eq]
  refine h p e s m as.toArray below meth c s.heap [] _ ⟨B.exec, B.bytes, hml, B.returns, B.notSynchronized, findClass_of_methodNamed B.named, fun w hw => hts w (List.mem_cons_of_mem _ hw), hK, by rw [hR.2.1]; exact hR.1, (name_of_methodNamed B.named B.method).1⟩ hR va_S.rf ⟨hent.1, hent.2.1, fun q hq => ?_⟩
  obtain ⟨i, w⟩ := q
  have h1 := gj_ent_in as 0 i w (hl i w (gj_L_mem.mp hq))
  rw [Nat.zero_add] at h1
  exact hent.2.2 (i, w) h1
/-- locals may be forgotten -/
theorem g_weak (h : ∀ (i : Nat) (w : Value), L'[i]? = some (some w) → L[i]? = some (some w)) (k : gj_G X d M Q lim σ v kc ks pc L' st) : gj_G X d M Q lim σ v kc ks pc L st := by
  intro p e s m args below meth c H locs ls hC hR hS hL
  refine k p e s m args below meth c H locs ls hC hR hS ⟨hL.1, hL.2.1, fun q hq => ?_⟩
  obtain ⟨i, w⟩ := q
  exact hL.2.2 (i, w) (gj_L_mem.mpr (h i w (gj_L_mem.mp hq)))
end GH
end
section
/-! ===== calls, the library's three, and what a constructor does ===== -/
def gj_Ck (own : String) (index : Nat) (N : gj_M) (n : Nat) : Prop :=
  (Cond.methodLink own index N.2.1 ∈ gj_w ∨ ∃ host, Cond.methodLinkNest own index N.2.1 host ∈ gj_nw) ∧ Cond.code N.2.1 N.1 N.2.2.1 N.2.2.2.1 ∈ gj_w ∧ Cond.initialized N.2.1.cls ∈ gj_w ∧ (N.2.1.cls ≠ "java/lang/invoke/MethodHandle" ∧ N.2.1.cls ≠ "java/lang/invoke/VarHandle") ∧ (parseMethodDescriptor N.2.1.desc).map (fun d => d.parameters.length) = some n ∧ N.2.2.1 ≤ 10
def gj_CkV (own : String) (index : Nat) (N : gj_M) (n : Nat) : Prop := gj_Ck own index N n ∧ Cond.instanceMethod N.2.1 ∈ gj_w ∧ Cond.selects N.2.1.cls N.2.1 N.2.1 ∈ gj_w
def gj_CkS (own : String) (index : Nat) (N : gj_M) (n : Nat) : Prop := gj_Ck own index N n ∧ Cond.static N.2.1 ∈ gj_w
def gj_CkI (own : String) (index : Nat) (N : gj_M) (n : Nat) : Prop := gj_Ck own index N n ∧ N.2.1.name = "<init>" ∧ Cond.instanceMethod N.2.1 ∈ gj_w ∧ N.2.2.2.1 = none
theorem gj_pay {N : gj_M} (hc : Cond.code N.2.1 N.1 N.2.2.1 N.2.2.2.1 ∈ gj_w) {args : Array Value} {s : State} (hts : ∀ w ∈ gj_w, w.before args s = true) : ∀ w ∈ gj_ws N, ∀ (a' : Array Value) (U : State), s.WarmedH U.vm → w.before a' U = true := by
  refine pay_in hts (fun w hw => ?_)
  rcases List.mem_cons.mp hw with rfl | hw
  · exact ⟨hc, good_of_word (List.mem_filter.mp hc).2⟩
  · exact ⟨hw, good_of_word (List.mem_filter.mp hw).2⟩
theorem gj_blind {X : gj_X} {as : List Value} {lim : Nat} {σ : gj_H} {v : gj_V} : FrameBlind (va_Pc as (fun U => gj_rep X lim σ v U.heap ∧ gj_K X U)) := by
  intro a U g mk h
  exact ⟨h.1, h.2.1, gj_K.same (s := U) rfl h.2.2⟩
section GC
variable {X : gj_X} {d d' : Nat} {M N : gj_M} {Q Q' : gj_Q} {lim : Nat} {σ : gj_H} {v : gj_V} {kc ks pc q index n b ci : Nat} {L L' : List (Option Value)} {st st0 As rest : List Value} {t : List (Option (Option Nat))}
/-- behind a call -/
theorem gj_back {p : Program} {e : Env} {s : State} {m : MethodId} {args : Array Value} {below : List Frame} {meth : Method} {c : Code} {H : Heap} {locs : List Loc} {ls : Array Slot} {a : Array Value}
    (hr : va_Run p X.1 e (gj_R d M) s m args below meth c H locs kc ks N.2.2.2.2.1 N.2.2.2.2.2 (F0 m pc ls st0) rest (gj_F X Q' a) (gj_A X)) (hC : gj_C X M p s m args meth c) (hS : va_S (gj_A X) s.heap H locs) (hL : lv_has ls M.2.2.1 (gj_L L))
    (kk : ∀ (r : Option Value) (lim' : Nat) (σ' : gj_H) (v' : gj_V), Q' r lim' σ' v' → gj_G X d M Q lim' σ' v' (kc + N.2.2.2.2.1) (ks + N.2.2.2.2.2) (pc + 3) L (r.toList ++ rest)) :
    W p X.1 e (gj_R d M) s m args below meth c H locs kc ks (MQ below (gj_F X Q) args s M.2.2.2.2.1 M.2.2.2.2.2 (gj_A X)) (F0 m pc ls st0) := by
  intro T hT Xs
  obtain ⟨w, st₀, t, T', LL, h0, X', hLL, e1, e2, ⟨⟨r, lim', σ', v', hw, hq', hrep⟩, hz, hkp⟩, stp⟩ := hr T hT Xs
  cases hw
  rw [h0] at hz hkp
  obtain ⟨t2, a1, b1⟩ := kk _ lim' σ' v' hq' p e s m args below meth c T'.heap (locs ++ LL) ls hC (by rw [e1]; exact hrep)
    ⟨Nat.le_trans hS.1 (by rw [e1]; exact hz), fun x g1 g2 => by rw [e1, hkp x (Nat.lt_of_lt_of_le g1 hS.1) g2]; exact hS.2.1 x g1 g2, fun x hx => by
      rcases List.mem_append.mp hx with h | h
      · exact hS.2.2 x h
      · exact hLL x h⟩ hL T' rfl X'
  exact ⟨t2, stp t2 a1, b1⟩
theorem gj_pre {s : State} {args : Array Value} {H : Heap} (hR : gj_rep X lim σ v H) (hK : gj_K X s) (as : List Value) : PreS s H (va_Pc as (fun U => gj_rep X lim σ v U.heap ∧ gj_K X U)) as :=
  ⟨gj_blind, fun U hU hW => ⟨rfl, by rw [hU]; exact hR, gj_K.warm hW hK⟩⟩
theorem gj_room (hN : N.2.2.1 ≤ 10) (hd' : d' < d) : (gj_R d' N).frames + 1 ≤ (gj_R d M).frames ∧ 8 + (N.2.2.1 + 11) + (gj_R d' N).locals ≤ (gj_R d M).locals := by
  simp only [gj_R]; omega
theorem g_callV (hk : gj_CkV M.2.1.cls index N n) (hs : σ b = some (.inl (ci, t))) (hcl : (vwCl[ci]?).map (fun z => z.1) = some N.2.1.cls) (hd' : d' < d) (hn : As.length = n) (hst : st0 = As.reverse ++ .ref b :: rest) (hrm : (rest.map fun v => v.category).sum ≤ 8) (hkc : kc + N.2.2.2.2.1 ≤ M.2.2.2.2.1) (hks : ks + N.2.2.2.2.2 ≤ M.2.2.2.2.2) (hd : decode M.1 pc = .ok (.invokevirtual index, 3)) (hq : pc + 3 = q)
    (hE : gj_E X d' N (.ref b :: As) lim σ v Q') (kk : ∀ (r : Option Value) (lim' : Nat) (σ' : gj_H) (v' : gj_V), Q' r lim' σ' v' → gj_G X d M Q lim' σ' v' (kc + N.2.2.2.2.1) (ks + N.2.2.2.2.2) q L (r.toList ++ rest)) : gj_G X d M Q lim σ v kc ks pc L st0 := by
  subst hq; subst hst
  intro p e s m args below meth c H locs ls hC hR hS hL
  obtain ⟨⟨hl, hc, hi, hy, hp, hN⟩, hin, hse⟩ := hk
  have hts := hC.2.2.2.2.2.2.1
  have hrm2 := gj_room (M := M) hN hd'
  have hlen : ∀ sig, parseMethodDescriptor N.2.1.desc = some sig → n = sig.parameters.length := fun sig h => by
    rw [h] at hp
    exact (Option.some.inj hp).symm
  have hrecv : ∃ cellB : Cell, H[b]? = some cellB ∧ cellB.vm.isStatics = false ∧ s.vm.findClass N.2.1.cls = some cellB.cls := by
    cases hci : vwCl[ci]? with
    | none => rw [hci] at hcl; cases hcl
    | some z =>
      rw [hci] at hcl
      have hz : z.1 = N.2.1.cls := Option.some.inj hcl
      rw [← hz]
      exact va_recv hC.2.2.2.2.2.2.2.1.1 (hR.one hs) hci (q0 := 0) rfl
  have hpre := gj_pre (args := args) hR hC.2.2.2.2.2.2.2.1 (.ref b :: As)
  have hcb : ∀ w ∈ gj_w, w.before args s = true := hts
  refine gj_back (N := N) (rest := rest) (Q' := Q') (a := (Value.ref b :: As).toArray) ?_ hC hS hL kk
  rcases hl with hl | ⟨host, hl⟩
  · exact va_runV (As := As) (rest := rest) (C := N.2.1.cls) ⟨hC.1, hC.2.1, hC.2.2.1, hC.2.2.2.2.2.1, hts⟩ hE ⟨⟨rfl, rfl, hrm2.1, hrm2.2, gj_pay hc hts, List.mem_cons_self, hts _ hc, hts _ hi, hy, hlen, hts _ hl⟩, hts _ hin, hts _ hse⟩ ⟨hpre.1, hrecv, hpre.2⟩ rfl hn hL.1 rfl (lv_room hrm) hd ⟨hkc, hks⟩
  · exact va_runVN (As := As) (rest := rest) (C := N.2.1.cls) ⟨hC.1, hC.2.1, hC.2.2.1, hC.2.2.2.2.2.1, hts⟩ hE ⟨⟨⟨rfl, rfl, hrm2.1, hrm2.2, gj_pay hc hts, List.mem_cons_self⟩, hts _ hc, hts _ hi, hy, hlen, va_Nw.use rfl (hC.2.2.2.2.2.2.2.1.2.1 _ hl)⟩, hts _ hin, hts _ hse⟩ ⟨hpre.1, hrecv, hpre.2⟩ rfl hn hL.1 rfl (lv_room hrm) hd ⟨hkc, hks⟩
theorem g_callS (hk : gj_CkS M.2.1.cls index N n) (hd' : d' < d) (hn : As.length = n) (hst : st0 = As.reverse ++ rest) (hrm : (rest.map fun v => v.category).sum ≤ 8) (hkc : kc + N.2.2.2.2.1 ≤ M.2.2.2.2.1) (hks : ks + N.2.2.2.2.2 ≤ M.2.2.2.2.2) (hd : decode M.1 pc = .ok (.invokestatic index, 3)) (hq : pc + 3 = q)
    (hE : gj_E X d' N As lim σ v Q') (kk : ∀ (r : Option Value) (lim' : Nat) (σ' : gj_H) (v' : gj_V), Q' r lim' σ' v' → gj_G X d M Q lim' σ' v' (kc + N.2.2.2.2.1) (ks + N.2.2.2.2.2) q L (r.toList ++ rest)) : gj_G X d M Q lim σ v kc ks pc L st0 := by
  subst hq; subst hst
  intro p e s m args below meth c H locs ls hC hR hS hL
  obtain ⟨⟨hl, hc, hi, hy, hp, hN⟩, hstt⟩ := hk
  have hts := hC.2.2.2.2.2.2.1
  have hrm2 := gj_room (M := M) hN hd'
  have hlen : ∀ sig, parseMethodDescriptor N.2.1.desc = some sig → n = sig.parameters.length := fun sig h => by
    rw [h] at hp
    exact (Option.some.inj hp).symm
  have hpre := gj_pre (args := args) hR hC.2.2.2.2.2.2.2.1 As
  refine gj_back (N := N) (rest := rest) (Q' := Q') (a := As.toArray) ?_ hC hS hL kk
  rcases hl with hl | ⟨host, hl⟩
  · exact va_runS (As := As) (rest := rest) ⟨hC.1, hC.2.1, hC.2.2.1, hC.2.2.2.2.2.1, hts⟩ hE ⟨⟨rfl, rfl, hrm2.1, hrm2.2, gj_pay hc hts, List.mem_cons_self, hts _ hc, hts _ hi, hy, hlen, hts _ hl⟩, hts _ hstt⟩ hpre rfl hn hL.1 rfl (lv_room hrm) hd ⟨hkc, hks⟩
  · exact va_runSN (As := As) (rest := rest) ⟨hC.1, hC.2.1, hC.2.2.1, hC.2.2.2.2.2.1, hts⟩ hE ⟨⟨⟨rfl, rfl, hrm2.1, hrm2.2, gj_pay hc hts, List.mem_cons_self⟩, hts _ hc, hts _ hi, hy, hlen, va_Nw.use rfl (hC.2.2.2.2.2.2.2.1.2.1 _ hl)⟩, hts _ hstt, trivial⟩ hpre rfl hn hL.1 rfl (lv_room hrm) hd ⟨hkc, hks⟩
theorem g_callI (hk : gj_CkI M.2.1.cls index N n) (hd' : d' < d) (hn : As.length = n) (hst : st0 = As.reverse ++ .ref b :: rest) (hrm : (rest.map fun v => v.category).sum ≤ 8) (hkc : kc + N.2.2.2.2.1 ≤ M.2.2.2.2.1) (hks : ks + N.2.2.2.2.2 ≤ M.2.2.2.2.2) (hd : decode M.1 pc = .ok (.invokespecial index, 3)) (hq : pc + 3 = q)
    (hE : gj_E X d' N (.ref b :: As) lim σ v Q') (kk : ∀ (r : Option Value) (lim' : Nat) (σ' : gj_H) (v' : gj_V), Q' r lim' σ' v' → gj_G X d M Q lim' σ' v' (kc + N.2.2.2.2.1) (ks + N.2.2.2.2.2) q L (r.toList ++ rest)) : gj_G X d M Q lim σ v kc ks pc L st0 := by
  subst hq; subst hst
  intro p e s m args below meth c H locs ls hC hR hS hL
  obtain ⟨⟨hl, hc, hi, hy, hp, hN⟩, hnm, hin, hret⟩ := hk
  have hts := hC.2.2.2.2.2.2.1
  have hrm2 := gj_room (M := M) hN hd'
  have hlen : ∀ sig, parseMethodDescriptor N.2.1.desc = some sig → n = sig.parameters.length := fun sig h => by
    rw [h] at hp
    exact (Option.some.inj hp).symm
  have hpre := gj_pre (args := args) hR hC.2.2.2.2.2.2.2.1 (.ref b :: As)
  have hmem : Cond.code N.2.1 N.1 N.2.2.1 none ∈ gj_ws N := by
    have : Cond.code N.2.1 N.1 N.2.2.1 N.2.2.2.1 ∈ gj_ws N := List.mem_cons_self
    rw [hret] at this
    exact this
  have hc0 : (Cond.code N.2.1 N.1 N.2.2.1 none).before args s = true := by
    have := hts _ hc
    rw [hret] at this
    exact this
  refine gj_back (N := N) (rest := rest) (Q' := Q') (a := (Value.ref b :: As).toArray) ?_ hC hS hL kk
  rcases hl with hl | ⟨host, hl⟩
  · exact va_runI (As := As) (rest := rest) (b := b) ⟨hC.1, hC.2.1, hC.2.2.1, hC.2.2.2.2.2.1, hts⟩ hE ⟨⟨rfl, rfl, hrm2.1, hrm2.2, gj_pay hc hts, hmem, hc0, hts _ hi, hy, hlen, hts _ hl⟩, hnm, hts _ hin⟩ hpre rfl hn hL.1 rfl (lv_room hrm) hd ⟨hkc, hks⟩
  · exact va_runIN (As := As) (rest := rest) (b := b) ⟨hC.1, hC.2.1, hC.2.2.1, hC.2.2.2.2.2.1, hts⟩ hE ⟨⟨⟨rfl, rfl, hrm2.1, hrm2.2, gj_pay hc hts, hmem⟩, hc0, hts _ hi, hy, hlen, va_Nw.use rfl (hC.2.2.2.2.2.2.2.1.2.1 _ hl)⟩, hnm, hts _ hin⟩ hpre rfl hn hL.1 rfl (lv_room hrm) hd ⟨hkc, hks⟩
/-! Math.max, Math.min -/
def gj_Mx (own : String) (index : Nat) : Prop := Cond.methodLink own index Lib.Math.max.name ∈ gj_w ∧ Cond.static Lib.Math.max.name ∈ gj_w ∧ Cond.initialized "java/lang/Math" ∈ gj_w ∧ Cond.code Lib.Math.max.name Lib.Math.max.code 2 (some .int) ∈ gj_w
def gj_Mn (own : String) (index : Nat) : Prop := Cond.methodLink own index Lib.Math.min.name ∈ gj_w ∧ Cond.static Lib.Math.min.name ∈ gj_w ∧ Cond.initialized "java/lang/Math" ∈ gj_w ∧ Cond.code Lib.Math.min.name Lib.Math.min.code 2 (some .int) ∈ gj_w
theorem g_max {x y : Int32} (hk : gj_Mx M.2.1.cls index) (hrm : (rest.map fun v => v.category).sum ≤ 8) (hkc : kc ≤ M.2.2.2.2.1) (hks : ks ≤ M.2.2.2.2.2) (hd : decode M.1 pc = .ok (.invokestatic index, 3)) (hq : pc + 3 = q) (kk : gj_G X d M Q lim σ v kc ks q L (.int (if x < y then y else x) :: rest)) : gj_G X d M Q lim σ v kc ks pc L (.int y :: .int x :: rest) := by
  subst hq
  intro p e s m args below meth c H locs ls hC hR hS hL
  have hts := hC.2.2.2.2.2.2.1
  exact va_mmax hC.1 hC.2.1 (hC.2.2.1.trans hL.1.symm) hC.2.2.2.2.2.1 (hts _ hk.1) (hts _ hk.2.1) (hts _ hk.2.2.1) (hts _ hk.2.2.2) (by simp only [gj_R]; omega) (by simp only [gj_R]; omega) hkc hks hd (kk p e s m args below meth c H locs ls hC hR hS hL)
theorem g_min {x y : Int32} (hk : gj_Mn M.2.1.cls index) (hrm : (rest.map fun v => v.category).sum ≤ 8) (hkc : kc ≤ M.2.2.2.2.1) (hks : ks ≤ M.2.2.2.2.2) (hd : decode M.1 pc = .ok (.invokestatic index, 3)) (hq : pc + 3 = q) (kk : gj_G X d M Q lim σ v kc ks q L (.int (if y < x then y else x) :: rest)) : gj_G X d M Q lim σ v kc ks pc L (.int y :: .int x :: rest) := by
  subst hq
  intro p e s m args below meth c H locs ls hC hR hS hL
  have hts := hC.2.2.2.2.2.2.1
  exact va_mmin hC.1 hC.2.1 (hC.2.2.1.trans hL.1.symm) hC.2.2.2.2.2.1 (hts _ hk.1) (hts _ hk.2.1) (hts _ hk.2.2.1) (hts _ hk.2.2.2) (by simp only [gj_R]; omega) (by simp only [gj_R]; omega) hkc hks hd (kk p e s m args below meth c H locs ls hC hR hS hL)
/-! System.arraycopy of int arrays -/
def gj_Ac (own : String) (index : Nat) : Prop := Cond.methodLink own index arraycopyName ∈ gj_w ∧ Cond.native arraycopyName ∈ gj_w ∧ Cond.static arraycopyName ∈ gj_w ∧ Cond.initialized "java/lang/System" ∈ gj_w
theorem g_acopy {a a0 n0 n1 sp dp k : Nat} {i0 i1 i2 : Int32} (hk : gj_Ac M.2.1.cls index) (hs0 : σ a0 = some (.inr (.inl n0))) (hs : σ a = some (.inr (.inl n1))) (e0 : i0 = nI sp) (e1 : i1 = nI dp) (e2 : i2 = nI k) (h0 : sp + k ≤ n0) (h1 : dp + k ≤ n1) (hn0 : n0 < 2147483648) (hn1 : n1 < 2147483648) (hrm : (rest.map fun v => v.category).sum ≤ 8) (hd : decode M.1 pc = .ok (.invokestatic index, 3)) (hq : pc + 3 = q)
    (kk : gj_G X d M Q lim σ (gj_up v a (va_cpy (v a0) (v a) sp dp k)) kc ks q L rest) : gj_G X d M Q lim σ v kc ks pc L (.int i2 :: .int i1 :: .ref a :: .int i0 :: .ref a0 :: rest) := by
  subst hq; subst e0; subst e1; subst e2
  intro p e s m args below meth c H locs ls hC hR hS hL
  have hts := hC.2.2.2.2.2.2.1
  have csp : (nI sp).toNatClampNeg = sp := nI_clamp (by omega)
  have cdp : (nI dp).toNatClampNeg = dp := nI_clamp (by omega)
  have ck : (nI k).toNatClampNeg = k := nI_clamp (by omega)
  have nn : ∀ j : Nat, j < 2 ^ 31 → (nI j).toInt = (j : Int) := fun j hj => nI_toInt hj
  intro T hT Xs
  have hc0 : H[a0]? = some (vp_cell (X.2.2.1 0) (n0, .inl (v a0))) := hR.one hs0 0 _ rfl
  have hc1 : H[a]? = some (vp_cell (X.2.2.1 0) (n1, .inl (v a))) := hR.one hs 0 _ rfl
  have hAr := (hC.2.2.2.2.2.2.2.1.1.2 0 (X.2.2.1 0, .int) rfl).1
  obtain ⟨-, k0, hk0, cm0, hkk0⟩ := hAr n0 (fun j => .int (v a0 j))
  obtain ⟨-, k1, hk1, cm1, hkk1⟩ := hAr n1 (fun j => .int (v a j))
  obtain ⟨vm', X', step⟩ := Xs.arraycopy hC.1 hC.2.2.2.2.2.1 (hts _ hk.1) (hts _ hk.2.1) (hts _ hk.2.2.1) (hts _ hk.2.2.2) (src := a0) (dst := a) (cs := vp_cell (X.2.2.1 0) (n0, .inl (v a0))) (cd := vp_cell (X.2.2.1 0) (n1, .inl (v a))) (srcPos := nI sp) (destPos := nI dp) (n := nI k) (by rw [hT]; exact hc0) (by rw [hT]; exact hc1)
    (fun _ h => by cases h) (fun _ h => by cases h) (fun h => by cases h) (fun h => by cases h) hk0 hk1 hkk0 hkk1 (by simp [refKind]) (nI_pos (by omega)) (nI_pos (by omega)) (nI_pos (by omega))
    (by rw [nn sp (by omega), nn k (by omega)]; show ¬ _ > ((arrV (X.2.2.1 0) n0 (fun j => .int (v a0 j))).slots.size : Int); rw [arrV_size]; omega)
    (by rw [nn dp (by omega), nn k (by omega)]; show ¬ _ > ((arrV (X.2.2.1 0) n1 (fun j => .int (v a j))).slots.size : Int); rw [arrV_size]; omega)
    (fun vm₁ _ i hi => by
      have e : (vp_cell (X.2.2.1 0) (n0, .inl (v a0))).slots.getD ((nI sp).toNatClampNeg + i) .null = .int (v a0 ((nI sp).toNatClampNeg + i)) := by
        show (arrV (X.2.2.1 0) n0 (fun j => .int (v a0 j))).slots.getD _ _ = _
        rw [Array.getD_eq_getD_getElem?, arrV_read _ _ (by rw [ck] at hi; omega)]
        rfl
      refine ⟨?_, ?_⟩
      · rw [e]; rfl
      · rw [e]; exact trivial)
    (g := F0 m pc ls (.int (nI k) :: .int (nI dp) :: .ref a :: .int (nI sp) :: .ref a0 :: rest)) rfl (by show ls.size = _; rw [hL.1]; exact hC.2.2.1.symm) (rest := rest) rfl (by rw [hC.2.1]; exact hd) (by simp only [gj_R]; omega) (by
      show 2 * 0 + _ + _ ≤ _
      have : nativeFrameWords "java/lang/System" "arraycopy" 5 + 11 = 18 := by decide +kernel
      simp only [gj_R]; omega)
  have e1 : copied (vp_cell (X.2.2.1 0) (n0, .inl (v a0))) (vp_cell (X.2.2.1 0) (n1, .inl (v a))) (nI sp) (nI dp) (nI k) = vp_cell (X.2.2.1 0) (n1, .inl (va_cpy (v a0) (v a) (nI sp).toNatClampNeg (nI dp).toNatClampNeg (nI k).toNatClampNeg)) := va_copied (fun z => .int z) (X.2.2.1 0) (X.2.2.1 0) (v a0) (v a) (by rw [csp, ck]; exact h0)
  rw [csp, cdp, ck] at e1
  rw [e1] at X' step
  have hl : a < H.size := (Array.getElem?_eq_some_iff.mp hc1).1
  have hheap : ((T.setVm vm').setCell a (vp_cell (X.2.2.1 0) (n1, .inl (va_cpy (v a0) (v a) sp dp k)))).heap = H.setIfInBounds a (vp_cell (X.2.2.1 0) (n1, .inl (va_cpy (v a0) (v a) sp dp k))) := by rw [← hT]; rfl
  have oq : ∀ q : Nat, q ≠ a → (H.setIfInBounds a (vp_cell (X.2.2.1 0) (n1, .inl (va_cpy (v a0) (v a) sp dp k))))[q]? = H[q]? := fun q hq => by simp [Array.getElem?_setIfInBounds, Ne.symm hq]
  obtain ⟨t, a1, b1⟩ := kk p e s m args below meth c _ _ ls hC (hR.put hs (f := va_cpy (v a0) (v a) sp dp k) (show (H.setIfInBounds a _)[a]? = some _ by simp [Array.getElem?_setIfInBounds, hl]) (by simp) oq) ⟨by simp; exact hS.1, fun q g1 g2 => by
      rw [oq q (fun e => g2 (by rw [e]; exact hR.A hs))]
      exact hS.2.1 q g1 g2, fun q hq => by
      rcases List.mem_append.mp hq with h | h
      · exact hS.2.2 q h
      · obtain ⟨z, -, hz⟩ := List.mem_map.mp h
        rw [← hz]
        exact hR.A hs⟩ hL _ hheap X'
  exact ⟨t, step t a1, b1⟩
end GC
end
section
/-! ===== what a constructor does: new cells, references put ===== -/
theorem gj_dom_push {b lim : Nat} (h : b ≤ lim) : gj_dom b (lim + 1) = gj_dom b lim ++ [lim] := by
  unfold gj_dom
  rw [show lim + 1 - b = (lim - b) + 1 by omega, List.range'_concat]
  simp
  omega
theorem gj_rep.push {X : gj_X} {lim : Nat} {σ : gj_H} {v : gj_V} {H H1 : Heap} (h : gj_rep X lim σ v H) {sh : gj_S} {f : Nat → Int32} (hat : va_at X.2.1 vwCl (lim, gj_e X.2.2.1 (some sh) f) H1) (hz : H1.size = lim + 1) (oq : ∀ q : Nat, q < lim → H1[q]? = H[q]?) : gj_rep X (lim + 1) (va_up σ lim (some sh)) (gj_up v lim f) H1 := by
  have hnl : lim ∉ gj_dom X.2.2.2 lim := by rw [List.mem_range'_1]; omega
  have e1 : ∀ a, gj_e X.2.2.1 (va_up σ lim (some sh) a) (gj_up v lim f a) = va_up (fun a => gj_e X.2.2.1 (σ a) (v a)) lim (gj_e X.2.2.1 (some sh) f) a := by
    intro a
    by_cases ha : a = lim
    · subst ha
      simp only [gj_up, va_up_self]
    · simp only [gj_up, va_up_ne _ _ ha]
  have e : [] ++ gj_pl X (lim + 1) (va_up σ lim (some sh)) (gj_up v lim f) = ([] ++ gj_pl X lim σ v) ++ [(lim, gj_e X.2.2.1 (some sh) f)] := by
    simp only [gj_pl, List.nil_append]
    rw [va_pl_push hnl, gj_dom_push h.1]
    exact va_pl_congr e1
  have hk : ∀ (k : Nat) (x : Nat × va_E), ([] ++ gj_pl X lim σ v)[k]? = some x → H1[x.1]? = H[x.1]? := fun k x hx => oq x.1 (by rw [← h.2.1]; exact (h.2.2.2.1 k x hx).lt)
  refine ⟨Nat.le_succ_of_le h.1, hz, fun a ha => ?_, ?_, ?_⟩
  · by_cases hal : a = lim
    · subst hal
      exact ⟨h.1, Nat.lt_succ_self _⟩
    · rw [va_up_ne _ _ hal] at ha
      have := h.2.2.1 a ha
      omega
  · rw [e]
    refine (h.2.2.2.1.kept hk).app (fun k x hx => ?_)
    have hz : k < 1 := (List.getElem?_eq_some_iff.mp hx).1
    rw [show k = 0 by omega] at hx
    cases hx
    exact hat
  · rw [e]
    exact h.2.2.2.2.push h.2.2.2.1 h.2.1.symm h.1
section GN
variable {X : gj_X} {d d' : Nat} {M N : gj_M} {Q Q' : gj_Q} {lim : Nat} {σ : gj_H} {v : gj_V} {kc ks pc q index n b ci : Nat} {L L' : List (Option Value)} {st st0 As rest : List Value} {t : List (Option (Option Nat))}
/-- new C: the class, its slots, its blank template -/
def gj_Nk (own : String) (index ci : Nat) (N : Nat) (t : List (Option (Option Nat))) : Prop :=
  ∃ (C : String) (T : u_T) (ty0 : Nat → FieldType), vwCl[ci]? = some (C, T, N) ∧ (∀ w ∈ u_ws C T N, w ∈ gj_w) ∧ (∀ k, k < N → parseFieldDescriptor (T k).2.2.1 = some (ty0 k)) ∧ Cond.classLink own index C ∈ gj_w ∧ Cond.instantiable C N ∈ gj_w ∧ Cond.initialized C ∈ gj_w ∧ (∀ j, j < N → defaultValue (ty0 j) = vp_V (gj_fs t (fun _ => 0) 0) j)
theorem g_new {n : Nat} (hk : gj_Nk M.2.1.cls index ci n t) (hkc : kc + 1 ≤ M.2.2.2.2.1) (hks : ks + n ≤ M.2.2.2.2.2) (hd : decode M.1 pc = .ok (.new index, 3)) (hq : pc + 3 = q)
    (kk : gj_G X d M Q (lim + 1) (va_up σ lim (some (.inl (ci, t)))) (gj_up v lim (fun _ => 0)) (kc + 1) (ks + n) q L (.ref lim :: st)) : gj_G X d M Q lim σ v kc ks pc L st := by
  subst hq
  intro p e s m args below meth c H locs ls hC hR hS hL
  obtain ⟨C, T, ty0, h1, h2, h3, h4, h5, h6, h7⟩ := hk
  have hts := hC.2.2.2.2.2.2.1
  have hKn := hC.2.2.2.2.2.2.2.1.1.1 ci _ h1
  refine W.newcK hC.1 hC.2.1 hC.2.2.2.2.2.1 (hts _ h4) (hts _ h5) (hts _ h6) rfl hd hkc hks hKn.2.1 rfl fun H1 kC hkC e1 z1 o1 => ?_
  have hsz := hR.2.1
  rw [hsz] at e1 z1 o1 ⊢
  refine kk p e s m args below meth c H1 locs ls hC (hR.push (sh := .inl (ci, t)) (f := fun _ => 0) ⟨_, h1, (u_born ty0 hts h2 hKn hkC e1 h3).to h7⟩ z1 o1) ⟨Nat.le_trans hS.1 (by omega), fun x g1 g2 => (o1 x (by have := hS.1; omega)).trans (hS.2.1 x g1 g2), hS.2.2⟩ hL
theorem g_newi {i : Int32} {n : Nat} (hw : Cond.arrayClass .int ∈ gj_w) (hi : i = nI n) (hn : n < 100000) (hkc : kc + 1 ≤ M.2.2.2.2.1) (hks : ks + n ≤ M.2.2.2.2.2) (hd : decode M.1 pc = .ok (.newarray .int, 2)) (hq : pc + 2 = q)
    (kk : gj_G X d M Q (lim + 1) (va_up σ lim (some (.inr (.inl n)))) (gj_up v lim (fun _ => 0)) (kc + 1) (ks + n) q L (.ref lim :: st)) : gj_G X d M Q lim σ v kc ks pc L (.int i :: st) := by
  subst hq; subst hi
  intro p e s m args below meth c H locs ls hC hR hS hL
  have hts := hC.2.2.2.2.2.2.1
  have hc : (nI n).toNatClampNeg = n := nI_clamp (by omega)
  refine va_newaK hC.1 hC.2.1 (atype := .int) (hts _ hw) rfl hd rfl (nI_pos (by omega)) hc (by show n * 4 ≤ _; omega) hkc hks rfl fun H1 cA e1 z1 o1 hAr hNm => ?_
  have hsz := hR.2.1
  rw [hsz] at e1 z1 o1 ⊢
  have hcA : cA = X.2.2.1 0 := by
    have hra : s.vm.findClass ("[" ++ FieldType.int.toString) = some (X.2.2.1 0) := (hC.2.2.2.2.2.2.2.1.1.2 0 (X.2.2.1 0, .int) rfl).2
    exact Option.some.inj (hNm.symm.trans hra)
  subst hcA
  refine kk p e s m args below meth c H1 locs ls hC (hR.push (sh := .inr (.inl n)) (f := fun _ => 0) ?_ z1 o1) ⟨Nat.le_trans hS.1 (by omega), fun x g1 g2 => (o1 x (by have := hS.1; omega)).trans (hS.2.1 x g1 g2), hS.2.2⟩ hL
  show H1[lim]? = some (vp_cell (X.2.2.1 0) (n, .inl (fun _ => 0)))
  rw [e1, vp_cell_i]
  rfl
theorem g_anew {i : Int32} {n k0 : Nat} {C : String} (hw : Cond.classLink M.2.1.cls index C ∈ gj_w) (hao : C ∈ gj_ao) (hty : (gj_tys X.2.2.1)[k0]? = some (X.2.2.1 k0, .object C)) (hi : i = nI n) (hn : n < 100000) (hkc : kc + 1 ≤ M.2.2.2.2.1) (hks : ks + n ≤ M.2.2.2.2.2) (hd : decode M.1 pc = .ok (.anewarray index, 3)) (hq : pc + 3 = q)
    (kk : gj_G X d M Q (lim + 1) (va_up σ lim (some (.inr (.inr (k0, List.replicate n none))))) (gj_up v lim (fun _ => 0)) (kc + 1) (ks + n) q L (.ref lim :: st)) : gj_G X d M Q lim σ v kc ks pc L (.int i :: st) := by
  subst hq; subst hi
  intro p e s m args below meth c H locs ls hC hR hS hL
  have hts := hC.2.2.2.2.2.2.1
  have hc : (nI n).toNatClampNeg = n := nI_clamp (by omega)
  refine W.anew hC.1 hC.2.1 hC.2.2.2.2.2.1 (hts _ hw) (va_AO.use (hC.2.2.2.2.2.2.2.1.2.2 C hao)) rfl hd rfl (nI_pos (by omega)) (by rw [hc]; omega) hkc (by rw [hc]; exact hks) fun cA kA comp f1 f2 f3 f4 => ?_
  have hsz := hR.2.1
  have hcA : cA = X.2.2.1 k0 := by
    obtain ⟨-, -, -, -, -, h4⟩ := (hC.2.2.2.2.2.2.2.1.1.2 k0 (X.2.2.1 k0, .object C) hty).2
    exact Option.some.inj (f1.symm.trans h4)
  subst hcA
  rw [hc]
  generalize hH1 : H.push ({ cls := X.2.2.1 k0, slots := Array.replicate n .null, vm := .none } : Cell) = H1
  have z1 : H1.size = lim + 1 := by rw [← hH1, Array.size_push, hsz]
  have e1 : H1[lim]? = some (arrV (X.2.2.1 k0) n (fun _ => .null)) := by rw [← hH1, ← hsz, Array.getElem?_push_size, ← arrV_new]
  have o1 : ∀ q : Nat, q < lim → H1[q]? = H[q]? := fun q hq => by rw [← hH1, Array.getElem?_push, if_neg (by omega)]
  rw [hsz]
  refine kk p e s m args below meth c H1 locs ls hC (hR.push (sh := .inr (.inr (k0, List.replicate n none))) (f := fun _ => 0) ?_ z1 o1) ⟨Nat.le_trans hS.1 (by omega), fun x g1 g2 => (o1 x (by have := hS.1; omega)).trans (hS.2.1 x g1 g2), hS.2.2⟩ hL
  show H1[lim]? = some (vp_cell (X.2.2.1 k0) ((List.replicate n (none : Option Nat)).length, .inr (.inr (.inr (.inr (fun i => (List.replicate n (none : Option Nat)).getD i none))))))
  rw [e1, vp_cell_q, List.length_replicate]
  congr 2
  funext j
  have : (List.replicate n (none : Option Nat)).getD j none = none := by
    rw [List.getD_eq_getElem?_getD]
    by_cases hj : j < n
    · rw [List.getElem?_replicate, if_pos hj]; rfl
    · rw [List.getElem?_replicate, if_neg hj]; rfl
  rw [this]
  rfl
/-- a final reference field, in its constructor -/
theorem g_putR {k a r : Nat} {ty : FieldType} (hf : gj_Fk M.2.1.cls index ci k ty true) (hci : (vwCl[ci]?).map (fun z => z.1) = some M.2.1.cls) (hnm : M.2.1.name = "<init>") (hs : σ a = some (.inl (ci, t))) (hk : k < t.length) (hn : narrow ty (.ref r) = .ref r) (hfit : fits ty (.ref r) = true) (hd : decode M.1 pc = .ok (.putfield index, 3)) (hq : pc + 3 = q)
    (kk : gj_G X d M Q lim (va_up σ a (some (.inl (ci, t.set k (some (some r)))))) v kc ks q L st) : gj_G X d M Q lim σ v kc ks pc L (.ref r :: .ref a :: st) := by
  subst hq
  intro p e s m args below meth c H locs ls hC hR hS hL
  obtain ⟨C, T, N, ty0, h1, h2, h3, h4, h5, h6, h7, h8, h9⟩ := hf
  have hCo : C = M.2.1.cls := by rw [h1] at hci; exact Option.some.inj hci
  have hts := hC.2.2.2.2.2.2.1
  have hown := hC.2.2.2.2.2.1
  have hK := hC.2.2.2.2.2.2.2.1.1
  have hap := va_apart (own := M.2.1.cls) hts h2 ty0 h3 h4 hK h1
  obtain ⟨r', g1, cell, q1, q2, q3, q4⟩ := hR.one hs 0 _ rfl
  have hr : r' = (C, T, N) := Option.some.inj (g1.symm.trans h1)
  subst hr
  obtain ⟨hSl, hfc, kC, hkC, hkind⟩ := hK.1 ci _ h1
  obtain ⟨cf, kf, fi, f, hi, hsl⟩ := hSl k h5
  have hlay := hts _ (h2 _ (u_in_lay h5))
  unfold u_lay at hlay
  rw [if_pos h7] at hlay
  have hst := (u_facts hfc hkC (u_lays hts h2 h5) hi).1
  have hcf : m.cls = cf := by
    obtain ⟨_, _, c', _, _, _, -, -, hf', -, -, -, hown2, -⟩ := Cond.laysFinal_spec hlay
    have e1 : c' = cf := by have := hi.symm.trans hf'; simp at this; exact this.1.symm
    rw [h8, hCo] at hown2
    rw [← e1]; exact Option.some.inj (hown.symm.trans hown2)
  have h10 := u_fits hfc hkC hkind (Or.inr hlay) hi (by rw [h3 k h5, h6]) hn hfit
  have hlen : k < (gj_fs t (v a) 0).length := by rw [gj_fs_len]; exact hk
  have fin : ∀ H' : Heap, H'[a]? = some (cell.setSlot f.slot (.ref r)) → H'.size = H.size → (∀ q, q ≠ a → H'[q]? = H[q]?) → W p X.1 e (gj_R d M) s m args below meth c H' (locs ++ [⟨a, f.slot⟩]) kc ks (MQ below (gj_F X Q) args s M.2.2.2.2.1 M.2.2.2.2.2 (gj_A X)) (F0 m (pc + 3) ls st) := by
    intro H' e1 e2 e3
    rw [hsl] at e1 ⊢
    refine kk p e s m args below meth c H' _ ls hC (hR.puts hs (sh' := .inl (ci, t.set k (some (some r)))) ?_ e2 e3) (hS.put e2 e3 (hR.A hs)) hL
    show va_at X.2.1 vwCl (a, .inr (ci, gj_fs (t.set k (some (some r))) (v a) 0)) H'
    rw [← gj_fs_setr t (v a) k (some r) hk]
    exact ⟨_, h1, t_OB.to (V := updV (vp_V (gj_fs t (v a) 0)) k (.ref r)) ⟨_, e1, q2, q3, t_set q4 hap h5 (.ref r)⟩ (fun j _ => vp_updV_set hlen (.ref r) j)⟩
  rcases h9 with h9 | ⟨host, h9⟩
  · exact W.putFinK hC.1 hC.2.1 hown (hts _ h9) hi hst hcf (hC.2.2.2.2.2.2.2.2.2.trans hnm) (by rw [q2]; exact h10) q1 q3 (by rw [hsl]; exact k2_hasslot (q4 k h5)) rfl rfl hd fin
  · refine va_Wputf hC.1 hC.2.1 hown (va_Nw.use rfl (hC.2.2.2.2.2.2.2.1.2.1 _ h9)) hi hst (Or.inr ⟨hcf, hC.2.2.2.2.2.2.2.2.2.trans hnm⟩) q1 (by rw [q3]; exact fun h => by cases h) (by rw [hsl]; exact k2_hasslot (q4 k h5)) h10.1 (by rw [q2, q3]; exact h10.2) rfl rfl hd ?_
    have ha : a < H.size := (Array.getElem?_eq_some_iff.mp q1).1
    refine fin _ ?_ ?_ ?_
    · simp [Array.getElem?_setIfInBounds, ha]
    · simp
    · intro z hz
      simp [Array.getElem?_setIfInBounds, Ne.symm hz]
/-- an array of references is written -/
theorem g_aast {a k r k0 : Nat} {i : Int32} {A : List (Option Nat)} {z : vw_C} (hs : σ a = some (.inr (.inr (k0, A)))) (hty : (gj_tys X.2.2.1)[k0]? = some (X.2.2.1 k0, .object z.1)) (hi : i = nI k) (hk : k < A.length) (hn : A.length < 2147483648) (hsr : σ r = some (.inl (ci, t))) (hz : vwCl[ci]? = some z) (hd : decode M.1 pc = .ok (.aastore, 1)) (hq : pc + 1 = q)
    (kk : gj_G X d M Q lim (va_up σ a (some (.inr (.inr (k0, A.set k (some r)))))) v kc ks q L st) : gj_G X d M Q lim σ v kc ks pc L (.ref r :: .int i :: .ref a :: st) := by
  subst hq; subst hi
  intro p e s m args below meth c H locs ls hC hR hS hL
  have hc : (nI k).toNatClampNeg = k := nI_clamp (Nat.lt_trans hk hn)
  have hK := hC.2.2.2.2.2.2.2.1.1
  have hP0 : H[a]? = some (vp_cell (X.2.2.1 k0) (A.length, .inr (.inr (.inr (.inr (fun i => A.getD i none)))))) := hR.one hs 0 _ rfl
  obtain ⟨r', hr', cellV, g1, g2, g3, -⟩ := hR.one hsr 0 _ rfl
  have hcls := (hK.1 ci z hz).2
  obtain ⟨kA, comp, k1, k2, k3, -⟩ := (hK.2 k0 (X.2.2.1 k0, .object z.1) hty).2
  have hcomp : comp = X.2.1.1 ci := Option.some.inj (k3.symm.trans hcls.1)
  subst hcomp
  obtain ⟨kC, hkC, -⟩ := hcls.2
  refine W.aast hC.1 hC.2.1 hP0 (fun q h => by cases h) (fun h => by cases h) k1 k2 rfl hkC ⟨nI_pos (by omega), by show _ < (arrV _ _ _).slots.size; rw [arrV_size, hc]; exact hk⟩ g1 (fun q h => by rw [g3] at h; cases h) (by rw [g2]; exact hkC) (by rw [g2]; exact va_assign hcls) rfl rfl hd fun H1 e1 z1 oq => ?_
  refine kk p e s m args below meth c H1 _ ls hC (hR.puts hs (sh' := .inr (.inr (k0, A.set k (some r)))) ?_ z1 oq) (hS.put z1 oq (hR.A hs)) hL
  show H1[a]? = some (vp_cell (X.2.2.1 k0) ((A.set k (some r)).length, .inr (.inr (.inr (.inr (fun i => (A.set k (some r)).getD i none))))))
  rw [e1, hc, vp_cell_q, vp_cell_q, List.length_set, arrV_store]
  congr 2
  funext j
  by_cases hj : j = k
  · subst hj
    simp [updV, va_rf, hk]
  · simp [updV, hj, List.getD_eq_getElem?_getD, List.getElem?_set_ne (Ne.symm hj)]
def gj_Oi (own : String) (index : Nat) : Prop := Cond.methodLink own index objectInit ∈ gj_w ∧ Cond.instanceMethod objectInit ∈ gj_w ∧ Cond.code objectInit ⟨#[0xb1]⟩ 1 none ∈ gj_w
theorem g_oinit {a : Nat} (hk : gj_Oi M.2.1.cls index) (hrm : (st.map fun v => v.category).sum ≤ 8) (hd : decode M.1 pc = .ok (.invokespecial index, 3)) (hq : pc + 3 = q) (kk : gj_G X d M Q lim σ v kc ks q L st) : gj_G X d M Q lim σ v kc ks pc L (.ref a :: st) := by
  subst hq
  intro p e s m args below meth c H locs ls hC hR hS hL
  have hts := hC.2.2.2.2.2.2.1
  exact W.objInit hC.1 hC.2.1 hC.2.2.2.2.2.1 (hts _ hk.1) (hts _ hk.2.1) (hts _ hk.2.2) rfl (by show ls.size = _; rw [hL.1]; exact hC.2.2.1.symm) rfl hd (by simp only [gj_R]; omega) (by show 2 * 0 + _ + 12 ≤ _; simp only [gj_R]; omega) (kk p e s m args below meth c H locs ls hC hR hS hL)
end GN
end
section
/-! ===== links by their places in the tables: written by a program of ours ===== -/
theorem gl_all {ws : List Cond} (ps : List Nat) (hp : ws = ps.filterMap (fun i => lw_tbl[i]?)) (h : ws.all goodWord = true) : ∀ w ∈ ws, w ∈ gj_w := by
  intro w hw
  have h1 := List.all_eq_true.mp h w hw
  rw [hp] at hw
  obtain ⟨i, -, hi⟩ := List.mem_filterMap.mp hw
  exact List.mem_filter.mpr ⟨List.mem_of_getElem? hi, h1⟩
theorem gl_inX0 : ∀ w ∈ u_ws RX0 TX0 9, w ∈ gj_w := gl_all [165, 167, 169, 171, 173, 175, 177, 179, 181] (by decide +kernel) (by decide +kernel)
theorem gl_inX1 : ∀ w ∈ u_ws RX1 TX1 9, w ∈ gj_w := gl_all [296, 298, 300, 302, 304, 306, 308, 310, 312] (by decide +kernel) (by decide +kernel)
theorem gl_inX2 : ∀ w ∈ u_ws RX2 TX2 4, w ∈ gj_w := gl_all [129, 131, 133, 135] (by decide +kernel) (by decide +kernel)
theorem gl_inX3 : ∀ w ∈ u_ws RX3 TX3 3, w ∈ gj_w := gl_all [328, 330, 332] (by decide +kernel) (by decide +kernel)
theorem gl_inX4 : ∀ w ∈ u_ws RX4 TX4 1, w ∈ gj_w := gl_all [367] (by decide +kernel) (by decide +kernel)
theorem gl_inX5 : ∀ w ∈ u_ws RX5 TX5 2, w ∈ gj_w := gl_all [107, 109] (by decide +kernel) (by decide +kernel)
theorem gl_inX6 : ∀ w ∈ u_ws RX6 TX6 8, w ∈ gj_w := gl_all [378, 380, 382, 384, 386, 388, 390, 392] (by decide +kernel) (by decide +kernel)
theorem gl_inX7 : ∀ w ∈ u_ws RX7 TX7 12, w ∈ gj_w := gl_all [210, 212, 214, 216, 218, 220, 222, 224, 226, 228, 230, 232] (by decide +kernel) (by decide +kernel)
theorem gl_inX8 : ∀ w ∈ u_ws RX8 TX8 2, w ∈ gj_w := gl_all [345, 347] (by decide +kernel) (by decide +kernel)
theorem gl_inX9 : ∀ w ∈ u_ws RX9 TX9 4, w ∈ gj_w := gl_all [248, 250, 252, 254] (by decide +kernel) (by decide +kernel)
theorem gl_inX10 : ∀ w ∈ u_ws RX10 TX10 8, w ∈ gj_w := gl_all [405, 407, 409, 411, 413, 415, 417, 419] (by decide +kernel) (by decide +kernel)
theorem gl_inX11 : ∀ w ∈ u_ws RX11 TX11 17, w ∈ gj_w := gl_all [920, 922, 924, 926, 928, 930, 932, 934, 936, 938, 940, 942, 944, 946, 948, 950, 952] (by decide +kernel) (by decide +kernel)
abbrev m_X0_init : gj_M := (cX0_init, yX0_init, 1, none, 5, 20)
abbrev m_X0_put : gj_M := (cX0_put, yX0_put, 3, some .boolean, 0, 0)
abbrev m_X0_take : gj_M := (cX0_take, yX0_take, 3, some .int, 0, 0)
abbrev m_X0_canGive : gj_M := (cX0_canGive, yX0_canGive, 2, some .boolean, 0, 0)
abbrev m_X0_giveFirst : gj_M := (cX0_giveFirst, yX0_giveFirst, 1, some .int, 0, 0)
abbrev m_X0_isKeptByAnother : gj_M := (cX0_isKeptByAnother, yX0_isKeptByAnother, 2, some .boolean, 0, 0)
abbrev m_X0_keepFor : gj_M := (cX0_keepFor, yX0_keepFor, 3, some .int, 0, 0)
abbrev m_X0_letGo : gj_M := (cX0_letGo, yX0_letGo, 2, some .int, 0, 0)
abbrev m_X0_bufferTold : gj_M := (cX0_bufferTold, yX0_bufferTold, 2, some .int, 0, 0)
abbrev m_X0_keepingTold : gj_M := (cX0_keepingTold, yX0_keepingTold, 2, some .int, 0, 0)
abbrev m_X0_startAnew : gj_M := (cX0_startAnew, yX0_startAnew, 1, none, 0, 0)
abbrev m_X0_copyFrom : gj_M := (cX0_copyFrom, yX0_copyFrom, 2, none, 0, 0)
abbrev m_X1_init : gj_M := (cX1_init, yX1_init, 2, none, 54, 300)
abbrev m_X1_startAnew : gj_M := (cX1_startAnew, yX1_startAnew, 3, none, 0, 0)
abbrev m_X1_hasBuffer : gj_M := (cX1_hasBuffer, yX1_hasBuffer, 2, some .boolean, 0, 0)
abbrev m_X1_hasBufferOrNone : gj_M := (cX1_hasBufferOrNone, yX1_hasBufferOrNone, 2, some .boolean, 0, 0)
abbrev m_X1_hasStation : gj_M := (cX1_hasStation, yX1_hasStation, 2, some .boolean, 0, 0)
abbrev m_X1_move : gj_M := (cX1_move, yX1_move, 7, some .int, 0, 0)
abbrev m_X1_moveOne : gj_M := (cX1_moveOne, yX1_moveOne, 3, some .boolean, 0, 0)
abbrev m_X1_leaveBoth : gj_M := (cX1_leaveBoth, yX1_leaveBoth, 3, none, 0, 0)
abbrev m_X1_tick : gj_M := (cX1_tick, yX1_tick, 3, some .int, 0, 0)
abbrev m_X1_tickStation : gj_M := (cX1_tickStation, yX1_tickStation, 4, some .int, 0, 0)
abbrev m_X1_work : gj_M := (cX1_work, yX1_work, 3, some .int, 0, 0)
abbrev m_X1_deliver : gj_M := (cX1_deliver, yX1_deliver, 2, some .int, 0, 0)
abbrev m_X1_takePair : gj_M := (cX1_takePair, yX1_takePair, 7, some .int, 0, 0)
abbrev m_X1_tryWish : gj_M := (cX1_tryWish, yX1_tryWish, 5, some .boolean, 0, 0)
abbrev m_X1_serve : gj_M := (cX1_serve, yX1_serve, 3, none, 0, 0)
abbrev m_X1_serveFirst : gj_M := (cX1_serveFirst, yX1_serveFirst, 2, some .boolean, 0, 0)
abbrev m_X1_queuedAt : gj_M := (cX1_queuedAt, yX1_queuedAt, 3, some .int, 0, 0)
abbrev m_X1_stuckBits : gj_M := (cX1_stuckBits, yX1_stuckBits, 3, some .int, 0, 0)
abbrev m_X1_isStuck : gj_M := (cX1_isStuck, yX1_isStuck, 5, some .boolean, 0, 0)
abbrev m_X1_worksTold : gj_M := (cX1_worksTold, yX1_worksTold, 2, some .int, 0, 0)
abbrev m_X1_allItems : gj_M := (cX1_allItems, yX1_allItems, 3, some .int, 0, 0)
abbrev m_X1_allEntries : gj_M := (cX1_allEntries, yX1_allEntries, 3, some .int, 0, 0)
abbrev m_X1_copyFrom : gj_M := (cX1_copyFrom, yX1_copyFrom, 3, none, 0, 0)
abbrev m_X2_init : gj_M := (cX2_init, yX2_init, 1, none, 0, 0)
abbrev m_X2_enter : gj_M := (cX2_enter, yX2_enter, 1, none, 0, 0)
abbrev m_X2_leave : gj_M := (cX2_leave, yX2_leave, 1, none, 0, 0)
abbrev m_X2_leaveThrown : gj_M := (cX2_leaveThrown, yX2_leaveThrown, 1, none, 0, 0)
abbrev m_X2_startAnew : gj_M := (cX2_startAnew, yX2_startAnew, 1, none, 0, 0)
abbrev m_X2_copyFrom : gj_M := (cX2_copyFrom, yX2_copyFrom, 2, none, 0, 0)
abbrev m_X3_init : gj_M := (cX3_init, yX3_init, 2, none, 331, 1860)
abbrev m_X3_keep : gj_M := (cX3_keep, yX3_keep, 2, none, 0, 0)
abbrev m_X3_giveBack : gj_M := (cX3_giveBack, yX3_giveBack, 2, none, 0, 0)
abbrev m_X4_init : gj_M := (cX4_init, yX4_init, 2, none, 13, 54)
abbrev m_X4_keep : gj_M := (cX4_keep, yX4_keep, 3, none, 0, 0)
abbrev m_X4_giveBack : gj_M := (cX4_giveBack, yX4_giveBack, 3, none, 0, 0)
abbrev m_X5_init : gj_M := (cX5_init, yX5_init, 1, none, 1, 6)
abbrev m_X5_at : gj_M := (cX5_at, yX5_at, 2, some .int, 0, 0)
abbrev m_X5_placeOf : gj_M := (cX5_placeOf, yX5_placeOf, 3, some .int, 0, 0)
abbrev m_X5_addLast : gj_M := (cX5_addLast, yX5_addLast, 2, none, 0, 0)
abbrev m_X5_addFirst : gj_M := (cX5_addFirst, yX5_addFirst, 2, none, 0, 0)
abbrev m_X5_removeAt : gj_M := (cX5_removeAt, yX5_removeAt, 3, some .int, 0, 0)
abbrev m_X5_copyFrom : gj_M := (cX5_copyFrom, yX5_copyFrom, 2, none, 0, 0)
abbrev m_X6_init : gj_M := (cX6_init, yX6_init, 4, none, 72, 285)
abbrev m_X6_run : gj_M := (cX6_run, yX6_run, 2, some .int, 0, 0)
abbrev m_X6_enterLevel : gj_M := (cX6_enterLevel, yX6_enterLevel, 1, none, 0, 0)
abbrev m_X6_leaveLevel : gj_M := (cX6_leaveLevel, yX6_leaveLevel, 1, none, 0, 0)
abbrev m_X6_undoLevel : gj_M := (cX6_undoLevel, yX6_undoLevel, 1, none, 0, 0)
abbrev m_X6_skipGroup : gj_M := (cX6_skipGroup, yX6_skipGroup, 3, none, 0, 0)
abbrev m_X6_orderDone : gj_M := (cX6_orderDone, yX6_orderDone, 6, some .boolean, 0, 0)
abbrev m_X6_nextFigure : gj_M := (cX6_nextFigure, yX6_nextFigure, 1, some .int, 0, 0)
abbrev m_X6_nextByte : gj_M := (cX6_nextByte, yX6_nextByte, 2, some .int, 0, 0)
abbrev m_X7_init : gj_M := (cX7_init, yX7_init, 1, none, 0, 0)
abbrev m_X7_setUp : gj_M := (cX7_setUp, yX7_setUp, 6, none, 0, 0)
abbrev m_X7_becomeIdle : gj_M := (cX7_becomeIdle, yX7_becomeIdle, 1, none, 0, 0)
abbrev m_X7_load : gj_M := (cX7_load, yX7_load, 2, none, 0, 0)
abbrev m_X7_workOn : gj_M := (cX7_workOn, yX7_workOn, 1, none, 0, 0)
abbrev m_X7_stationTold : gj_M := (cX7_stationTold, yX7_stationTold, 2, some .int, 0, 0)
abbrev m_X7_copyFrom : gj_M := (cX7_copyFrom, yX7_copyFrom, 2, none, 0, 0)
abbrev m_X8_init : gj_M := (cX8_init, yX8_init, 1, none, 1, 120)
abbrev m_X8_isFull : gj_M := (cX8_isFull, yX8_isFull, 1, some .boolean, 0, 0)
abbrev m_X8_add : gj_M := (cX8_add, yX8_add, 2, none, 0, 0)
abbrev m_X8_at : gj_M := (cX8_at, yX8_at, 2, some .int, 0, 0)
abbrev m_X8_fault : gj_M := (cX8_fault, yX8_fault, 6, some .int, 0, 0)
abbrev m_X8_figuresOf : gj_M := (cX8_figuresOf, yX8_figuresOf, 1, some .int, 0, 0)
abbrev m_X9_init : gj_M := (cX9_init, yX9_init, 1, none, 0, 0)
abbrev m_X9_waits : gj_M := (cX9_waits, yX9_waits, 1, some .boolean, 0, 0)
abbrev m_X9_wishFor : gj_M := (cX9_wishFor, yX9_wishFor, 4, none, 0, 0)
abbrev m_X9_wishNoMore : gj_M := (cX9_wishNoMore, yX9_wishNoMore, 1, none, 0, 0)
abbrev m_X9_workerTold : gj_M := (cX9_workerTold, yX9_workerTold, 2, some .int, 0, 0)
abbrev m_X9_startAnew : gj_M := (cX9_startAnew, yX9_startAnew, 1, none, 0, 0)
abbrev m_X9_copyFrom : gj_M := (cX9_copyFrom, yX9_copyFrom, 2, none, 0, 0)
abbrev m_X10_init : gj_M := (cX10_init, yX10_init, 1, none, 476, 2642)
abbrev m_X10_begins : gj_M := (cX10_begins, yX10_begins, 3, some .int, 0, 0)
abbrev m_X10_rooms : gj_M := (cX10_rooms, yX10_rooms, 4, some .int, 0, 0)
abbrev m_X10_station : gj_M := (cX10_station, yX10_station, 7, some .int, 0, 0)
abbrev m_X10_guards : gj_M := (cX10_guards, yX10_guards, 4, some .int, 0, 0)
abbrev m_X10_ticks : gj_M := (cX10_ticks, yX10_ticks, 4, some .int, 0, 0)
abbrev m_X10_puts : gj_M := (cX10_puts, yX10_puts, 5, some .int, 0, 0)
abbrev m_X10_takes : gj_M := (cX10_takes, yX10_takes, 3, some .int, 0, 0)
abbrev m_X10_moves : gj_M := (cX10_moves, yX10_moves, 7, some .int, 0, 0)
abbrev m_X10_asks : gj_M := (cX10_asks, yX10_asks, 6, some .int, 0, 0)
abbrev m_X10_cancels : gj_M := (cX10_cancels, yX10_cancels, 2, some .int, 0, 0)
abbrev m_X10_keeps : gj_M := (cX10_keeps, yX10_keeps, 3, some .int, 0, 0)
abbrev m_X10_lets : gj_M := (cX10_lets, yX10_lets, 4, some .int, 0, 0)
abbrev m_X10_quits : gj_M := (cX10_quits, yX10_quits, 4, some .int, 0, 0)
abbrev m_X10_keeper : gj_M := (cX10_keeper, yX10_keeper, 3, some .int, 0, 0)
abbrev m_X10_queue : gj_M := (cX10_queue, yX10_queue, 3, some .int, 0, 0)
abbrev m_X10_stuck : gj_M := (cX10_stuck, yX10_stuck, 1, some .int, 0, 0)
abbrev m_X10_buffer : gj_M := (cX10_buffer, yX10_buffer, 3, some .int, 0, 0)
abbrev m_X10_item : gj_M := (cX10_item, yX10_item, 3, some .int, 0, 0)
abbrev m_X10_of : gj_M := (cX10_of, yX10_of, 3, some .int, 0, 0)
abbrev m_X10_worker : gj_M := (cX10_worker, yX10_worker, 3, some .int, 0, 0)
abbrev m_X10_line : gj_M := (cX10_line, yX10_line, 2, some .int, 0, 0)
abbrev m_X10_works : gj_M := (cX10_works, yX10_works, 2, some .int, 0, 0)
abbrev m_X10_type : gj_M := (cX10_type, yX10_type, 2, some .int, 0, 0)
abbrev m_X10_clear : gj_M := (cX10_clear, yX10_clear, 2, some .int, 0, 0)
abbrev m_X10_does : gj_M := (cX10_does, yX10_does, 3, some .int, 0, 0)
abbrev m_X10_back : gj_M := (cX10_back, yX10_back, 1, some .int, 0, 0)
abbrev m_X10_told : gj_M := (cX10_told, yX10_told, 2, some .int, 0, 0)
abbrev m_X10_digest : gj_M := (cX10_digest, yX10_digest, 4, some .long, 0, 0)
abbrev m_X10_toldOf : gj_M := (cX10_toldOf, yX10_toldOf, 2, some .int, 0, 0)
abbrev m_X10_refuseBad : gj_M := (cX10_refuseBad, yX10_refuseBad, 1, some .int, 0, 0)
abbrev m_X10_refuseNo : gj_M := (cX10_refuseNo, yX10_refuseNo, 1, some .int, 0, 0)
abbrev m_X10_refuseFull : gj_M := (cX10_refuseFull, yX10_refuseFull, 1, some .int, 0, 0)
abbrev m_X10_within : gj_M := (cX10_within, yX10_within, 3, some .boolean, 0, 0)
abbrev m_X10_isWorker : gj_M := (cX10_isWorker, yX10_isWorker, 1, some .boolean, 0, 0)
abbrev m_X10_mixed : gj_M := (cX10_mixed, yX10_mixed, 3, some .long, 0, 0)
abbrev m_X10_mixedRow : gj_M := (cX10_mixedRow, yX10_mixedRow, 6, some .long, 0, 0)
abbrev m_X10_mixedBuffer : gj_M := (cX10_mixedBuffer, yX10_mixedBuffer, 6, some .long, 0, 0)
abbrev m_X10_mixedStation : gj_M := (cX10_mixedStation, yX10_mixedStation, 6, some .long, 0, 0)
abbrev m_X10_mixedWorker : gj_M := (cX10_mixedWorker, yX10_mixedWorker, 6, some .long, 0, 0)
abbrev m_X11_init : gj_M := (cX11_init, yX11_init, 1, none, 12, 3297)
abbrev m_X11_bad : gj_M := (cX11_bad, yX11_bad, 1, some .int, 0, 0)
abbrev m_X11_no : gj_M := (cX11_no, yX11_no, 1, some .int, 0, 0)
abbrev m_X11_full : gj_M := (cX11_full, yX11_full, 1, some .int, 0, 0)
abbrev m_X11_in : gj_M := (cX11_in, yX11_in, 3, some .boolean, 0, 0)
abbrev m_X11_atBuffer : gj_M := (cX11_atBuffer, yX11_atBuffer, 1, some .int, 0, 0)
abbrev m_X11_gate : gj_M := (cX11_gate, yX11_gate, 1, some .int, 0, 0)
abbrev m_X11_stationAt : gj_M := (cX11_stationAt, yX11_stationAt, 1, some .int, 0, 0)
abbrev m_X11_workerAt : gj_M := (cX11_workerAt, yX11_workerAt, 1, some .int, 0, 0)
abbrev m_X11_isBuffer : gj_M := (cX11_isBuffer, yX11_isBuffer, 2, some .boolean, 0, 0)
abbrev m_X11_isWorker : gj_M := (cX11_isWorker, yX11_isWorker, 1, some .boolean, 0, 0)
abbrev m_X11_lays : gj_M := (cX11_lays, yX11_lays, 3, none, 0, 0)
abbrev m_X11_leavesState : gj_M := (cX11_leavesState, yX11_leavesState, 2, none, 0, 0)
abbrev m_X11_back : gj_M := (cX11_back, yX11_back, 2, some .int, 0, 0)
abbrev m_X11_enters : gj_M := (cX11_enters, yX11_enters, 3, none, 0, 0)
abbrev m_X11_leaves : gj_M := (cX11_leaves, yX11_leaves, 2, none, 0, 0)
abbrev m_X11_thrownOut : gj_M := (cX11_thrownOut, yX11_thrownOut, 2, none, 0, 0)
abbrev m_X11_isKeptFor : gj_M := (cX11_isKeptFor, yX11_isKeptFor, 3, some .boolean, 0, 0)
abbrev m_X11_put : gj_M := (cX11_put, yX11_put, 5, some .boolean, 0, 0)
abbrev m_X11_firstOf : gj_M := (cX11_firstOf, yX11_firstOf, 5, some .int, 0, 0)
abbrev m_X11_take : gj_M := (cX11_take, yX11_take, 4, some .int, 0, 0)
abbrev m_X11_firstAgain : gj_M := (cX11_firstAgain, yX11_firstAgain, 5, none, 0, 0)
abbrev m_X11_lesser : gj_M := (cX11_lesser, yX11_lesser, 2, some .int, 0, 0)
abbrev m_X11_greater : gj_M := (cX11_greater, yX11_greater, 2, some .int, 0, 0)
abbrev m_X11_move : gj_M := (cX11_move, yX11_move, 9, some .int, 0, 0)
abbrev m_X11_laysAside : gj_M := (cX11_laysAside, yX11_laysAside, 4, none, 0, 0)
abbrev m_X11_undoes : gj_M := (cX11_undoes, yX11_undoes, 4, none, 0, 0)
abbrev m_X11_goesFromLine : gj_M := (cX11_goesFromLine, yX11_goesFromLine, 4, none, 0, 0)
abbrev m_X11_tries : gj_M := (cX11_tries, yX11_tries, 6, some .boolean, 0, 0)
abbrev m_X11_serves : gj_M := (cX11_serves, yX11_serves, 4, none, 0, 0)
abbrev m_X11_starts : gj_M := (cX11_starts, yX11_starts, 3, none, 0, 0)
abbrev m_X11_takesBoth : gj_M := (cX11_takesBoth, yX11_takesBoth, 10, none, 0, 0)
abbrev m_X11_takesOne : gj_M := (cX11_takesOne, yX11_takesOne, 3, none, 0, 0)
abbrev m_X11_worksOn : gj_M := (cX11_worksOn, yX11_worksOn, 2, none, 0, 0)
abbrev m_X11_madeOfAll : gj_M := (cX11_madeOfAll, yX11_madeOfAll, 3, some .int, 0, 0)
abbrev m_X11_tick : gj_M := (cX11_tick, yX11_tick, 4, none, 0, 0)
abbrev m_X11_begins : gj_M := (cX11_begins, yX11_begins, 3, some .int, 0, 0)
abbrev m_X11_rooms : gj_M := (cX11_rooms, yX11_rooms, 4, some .int, 0, 0)
abbrev m_X11_station : gj_M := (cX11_station, yX11_station, 7, some .int, 0, 0)
abbrev m_X11_isStation : gj_M := (cX11_isStation, yX11_isStation, 2, some .boolean, 0, 0)
abbrev m_X11_guards : gj_M := (cX11_guards, yX11_guards, 4, some .int, 0, 0)
abbrev m_X11_ticks : gj_M := (cX11_ticks, yX11_ticks, 4, some .int, 0, 0)
abbrev m_X11_puts : gj_M := (cX11_puts, yX11_puts, 4, some .int, 0, 0)
abbrev m_X11_takes : gj_M := (cX11_takes, yX11_takes, 3, some .int, 0, 0)
abbrev m_X11_moves : gj_M := (cX11_moves, yX11_moves, 7, some .int, 0, 0)
abbrev m_X11_asks : gj_M := (cX11_asks, yX11_asks, 7, some .int, 0, 0)
abbrev m_X11_cancels : gj_M := (cX11_cancels, yX11_cancels, 3, some .int, 0, 0)
abbrev m_X11_queueOf : gj_M := (cX11_queueOf, yX11_queueOf, 5, some .int, 0, 0)
abbrev m_X11_goesFromQueue : gj_M := (cX11_goesFromQueue, yX11_goesFromQueue, 6, none, 0, 0)
abbrev m_X11_keeps : gj_M := (cX11_keeps, yX11_keeps, 5, some .int, 0, 0)
abbrev m_X11_lets : gj_M := (cX11_lets, yX11_lets, 6, some .int, 0, 0)
abbrev m_X11_quits : gj_M := (cX11_quits, yX11_quits, 3, some .int, 0, 0)
abbrev m_X11_keeper : gj_M := (cX11_keeper, yX11_keeper, 3, some .int, 0, 0)
abbrev m_X11_queue : gj_M := (cX11_queue, yX11_queue, 3, some .int, 0, 0)
abbrev m_X11_isStuck : gj_M := (cX11_isStuck, yX11_isStuck, 6, some .boolean, 0, 0)
abbrev m_X11_stuck : gj_M := (cX11_stuck, yX11_stuck, 3, some .int, 0, 0)
abbrev m_X11_ofBuffer : gj_M := (cX11_ofBuffer, yX11_ofBuffer, 3, some .int, 0, 0)
abbrev m_X11_buffer : gj_M := (cX11_buffer, yX11_buffer, 3, some .int, 0, 0)
abbrev m_X11_item : gj_M := (cX11_item, yX11_item, 3, some .int, 0, 0)
abbrev m_X11_ofStation : gj_M := (cX11_ofStation, yX11_ofStation, 4, some .int, 0, 0)
abbrev m_X11_of : gj_M := (cX11_of, yX11_of, 3, some .int, 0, 0)
abbrev m_X11_worker : gj_M := (cX11_worker, yX11_worker, 3, some .int, 0, 0)
abbrev m_X11_line : gj_M := (cX11_line, yX11_line, 2, some .int, 0, 0)
abbrev m_X11_itemsOfAll : gj_M := (cX11_itemsOfAll, yX11_itemsOfAll, 3, some .int, 0, 0)
abbrev m_X11_entriesOfAll : gj_M := (cX11_entriesOfAll, yX11_entriesOfAll, 3, some .int, 0, 0)
abbrev m_X11_worksBy : gj_M := (cX11_worksBy, yX11_worksBy, 2, some .int, 0, 0)
abbrev m_X11_works : gj_M := (cX11_works, yX11_works, 2, some .int, 0, 0)
abbrev m_X11_type : gj_M := (cX11_type, yX11_type, 2, some .int, 0, 0)
abbrev m_X11_clear : gj_M := (cX11_clear, yX11_clear, 2, some .int, 0, 0)
abbrev m_X11_here : gj_M := (cX11_here, yX11_here, 1, some .int, 0, 0)
abbrev m_X11_figure : gj_M := (cX11_figure, yX11_figure, 2, some .int, 0, 0)
abbrev m_X11_comes : gj_M := (cX11_comes, yX11_comes, 2, none, 0, 0)
abbrev m_X11_reads : gj_M := (cX11_reads, yX11_reads, 6, some .boolean, 0, 0)
abbrev m_X11_doesOne : gj_M := (cX11_doesOne, yX11_doesOne, 4, some .boolean, 0, 0)
abbrev m_X11_doesAll : gj_M := (cX11_doesAll, yX11_doesAll, 5, some .int, 0, 0)
abbrev m_X11_does : gj_M := (cX11_does, yX11_does, 2, some .int, 0, 0)
abbrev m_X11_toldOf : gj_M := (cX11_toldOf, yX11_toldOf, 2, some .int, 0, 0)
abbrev m_X11_told : gj_M := (cX11_told, yX11_told, 2, some .int, 0, 0)
abbrev m_X11_digest : gj_M := (cX11_digest, yX11_digest, 5, some .long, 0, 0)
theorem gl_c_X0_init : Cond.code yX0_init cX0_init 1 (none) ∈ gj_w := gj_w_in 141 (by decide +kernel) (by decide +kernel)
theorem gl_c_X0_put : Cond.code yX0_put cX0_put 3 (some .boolean) ∈ gj_w := gj_w_in 497 (by decide +kernel) (by decide +kernel)
theorem gl_c_X0_take : Cond.code yX0_take cX0_take 3 (some .int) ∈ gj_w := gj_w_in 525 (by decide +kernel) (by decide +kernel)
theorem gl_c_X0_canGive : Cond.code yX0_canGive cX0_canGive 2 (some .boolean) ∈ gj_w := gj_w_in 596 (by decide +kernel) (by decide +kernel)
theorem gl_c_X0_giveFirst : Cond.code yX0_giveFirst cX0_giveFirst 1 (some .int) ∈ gj_w := gj_w_in 600 (by decide +kernel) (by decide +kernel)
theorem gl_c_X0_isKeptByAnother : Cond.code yX0_isKeptByAnother cX0_isKeptByAnother 2 (some .boolean) ∈ gj_w := gj_w_in 508 (by decide +kernel) (by decide +kernel)
theorem gl_c_X0_keepFor : Cond.code yX0_keepFor cX0_keepFor 3 (some .int) ∈ gj_w := gj_w_in 687 (by decide +kernel) (by decide +kernel)
theorem gl_c_X0_letGo : Cond.code yX0_letGo cX0_letGo 2 (some .int) ∈ gj_w := gj_w_in 695 (by decide +kernel) (by decide +kernel)
theorem gl_c_X0_bufferTold : Cond.code yX0_bufferTold cX0_bufferTold 2 (some .int) ∈ gj_w := gj_w_in 733 (by decide +kernel) (by decide +kernel)
theorem gl_c_X0_keepingTold : Cond.code yX0_keepingTold cX0_keepingTold 2 (some .int) ∈ gj_w := gj_w_in 707 (by decide +kernel) (by decide +kernel)
theorem gl_c_X0_startAnew : Cond.code yX0_startAnew cX0_startAnew 1 (none) ∈ gj_w := gj_w_in 264 (by decide +kernel) (by decide +kernel)
theorem gl_c_X0_copyFrom : Cond.code yX0_copyFrom cX0_copyFrom 2 (none) ∈ gj_w := gj_w_in 444 (by decide +kernel) (by decide +kernel)
theorem gl_c_X1_init : Cond.code yX1_init cX1_init 2 (none) ∈ gj_w := gj_w_in 88 (by decide +kernel) (by decide +kernel)
theorem gl_c_X1_startAnew : Cond.code yX1_startAnew cX1_startAnew 3 (none) ∈ gj_w := gj_w_in 260 (by decide +kernel) (by decide +kernel)
theorem gl_c_X1_hasBuffer : Cond.code yX1_hasBuffer cX1_hasBuffer 2 (some .boolean) ∈ gj_w := gj_w_in 477 (by decide +kernel) (by decide +kernel)
theorem gl_c_X1_hasBufferOrNone : Cond.code yX1_hasBufferOrNone cX1_hasBufferOrNone 2 (some .boolean) ∈ gj_w := gj_w_in 539 (by decide +kernel) (by decide +kernel)
theorem gl_c_X1_hasStation : Cond.code yX1_hasStation cX1_hasStation 2 (some .boolean) ∈ gj_w := gj_w_in 560 (by decide +kernel) (by decide +kernel)
theorem gl_c_X1_move : Cond.code yX1_move cX1_move 7 (some .int) ∈ gj_w := gj_w_in 632 (by decide +kernel) (by decide +kernel)
theorem gl_c_X1_moveOne : Cond.code yX1_moveOne cX1_moveOne 3 (some .boolean) ∈ gj_w := gj_w_in 635 (by decide +kernel) (by decide +kernel)
theorem gl_c_X1_leaveBoth : Cond.code yX1_leaveBoth cX1_leaveBoth 3 (none) ∈ gj_w := gj_w_in 603 (by decide +kernel) (by decide +kernel)
theorem gl_c_X1_tick : Cond.code yX1_tick cX1_tick 3 (some .int) ∈ gj_w := gj_w_in 568 (by decide +kernel) (by decide +kernel)
theorem gl_c_X1_tickStation : Cond.code yX1_tickStation cX1_tickStation 4 (some .int) ∈ gj_w := gj_w_in 572 (by decide +kernel) (by decide +kernel)
theorem gl_c_X1_work : Cond.code yX1_work cX1_work 3 (some .int) ∈ gj_w := gj_w_in 576 (by decide +kernel) (by decide +kernel)
theorem gl_c_X1_deliver : Cond.code yX1_deliver cX1_deliver 2 (some .int) ∈ gj_w := gj_w_in 584 (by decide +kernel) (by decide +kernel)
theorem gl_c_X1_takePair : Cond.code yX1_takePair cX1_takePair 7 (some .int) ∈ gj_w := gj_w_in 589 (by decide +kernel) (by decide +kernel)
theorem gl_c_X1_tryWish : Cond.code yX1_tryWish cX1_tryWish 5 (some .boolean) ∈ gj_w := gj_w_in 493 (by decide +kernel) (by decide +kernel)
theorem gl_c_X1_serve : Cond.code yX1_serve cX1_serve 3 (none) ∈ gj_w := gj_w_in 481 (by decide +kernel) (by decide +kernel)
theorem gl_c_X1_serveFirst : Cond.code yX1_serveFirst cX1_serveFirst 2 (some .boolean) ∈ gj_w := gj_w_in 485 (by decide +kernel) (by decide +kernel)
theorem gl_c_X1_queuedAt : Cond.code yX1_queuedAt cX1_queuedAt 3 (some .int) ∈ gj_w := gj_w_in 682 (by decide +kernel) (by decide +kernel)
theorem gl_c_X1_stuckBits : Cond.code yX1_stuckBits cX1_stuckBits 3 (some .int) ∈ gj_w := gj_w_in 720 (by decide +kernel) (by decide +kernel)
theorem gl_c_X1_isStuck : Cond.code yX1_isStuck cX1_isStuck 5 (some .boolean) ∈ gj_w := gj_w_in 724 (by decide +kernel) (by decide +kernel)
theorem gl_c_X1_worksTold : Cond.code yX1_worksTold cX1_worksTold 2 (some .int) ∈ gj_w := gj_w_in 766 (by decide +kernel) (by decide +kernel)
theorem gl_c_X1_allItems : Cond.code yX1_allItems cX1_allItems 3 (some .int) ∈ gj_w := gj_w_in 770 (by decide +kernel) (by decide +kernel)
theorem gl_c_X1_allEntries : Cond.code yX1_allEntries cX1_allEntries 3 (some .int) ∈ gj_w := gj_w_in 774 (by decide +kernel) (by decide +kernel)
theorem gl_c_X1_copyFrom : Cond.code yX1_copyFrom cX1_copyFrom 3 (none) ∈ gj_w := gj_w_in 440 (by decide +kernel) (by decide +kernel)
theorem gl_c_X2_init : Cond.code yX2_init cX2_init 1 (none) ∈ gj_w := gj_w_in 117 (by decide +kernel) (by decide +kernel)
theorem gl_c_X2_enter : Cond.code yX2_enter cX2_enter 1 (none) ∈ gj_w := gj_w_in 501 (by decide +kernel) (by decide +kernel)
theorem gl_c_X2_leave : Cond.code yX2_leave cX2_leave 1 (none) ∈ gj_w := gj_w_in 521 (by decide +kernel) (by decide +kernel)
theorem gl_c_X2_leaveThrown : Cond.code yX2_leaveThrown cX2_leaveThrown 1 (none) ∈ gj_w := gj_w_in 512 (by decide +kernel) (by decide +kernel)
theorem gl_c_X2_startAnew : Cond.code yX2_startAnew cX2_startAnew 1 (none) ∈ gj_w := gj_w_in 268 (by decide +kernel) (by decide +kernel)
theorem gl_c_X2_copyFrom : Cond.code yX2_copyFrom cX2_copyFrom 2 (none) ∈ gj_w := gj_w_in 448 (by decide +kernel) (by decide +kernel)
theorem gl_c_X3_init : Cond.code yX3_init cX3_init 2 (none) ∈ gj_w := gj_w_in 319 (by decide +kernel) (by decide +kernel)
theorem gl_c_X3_keep : Cond.code yX3_keep cX3_keep 2 (none) ∈ gj_w := gj_w_in 436 (by decide +kernel) (by decide +kernel)
theorem gl_c_X3_giveBack : Cond.code yX3_giveBack cX3_giveBack 2 (none) ∈ gj_w := gj_w_in 857 (by decide +kernel) (by decide +kernel)
theorem gl_c_X4_init : Cond.code yX4_init cX4_init 2 (none) ∈ gj_w := gj_w_in 361 (by decide +kernel) (by decide +kernel)
theorem gl_c_X4_keep : Cond.code yX4_keep cX4_keep 3 (none) ∈ gj_w := gj_w_in 627 (by decide +kernel) (by decide +kernel)
theorem gl_c_X4_giveBack : Cond.code yX4_giveBack cX4_giveBack 3 (none) ∈ gj_w := gj_w_in 643 (by decide +kernel) (by decide +kernel)
theorem gl_c_X5_init : Cond.code yX5_init cX5_init 1 (none) ∈ gj_w := gj_w_in 100 (by decide +kernel) (by decide +kernel)
theorem gl_c_X5_at : Cond.code yX5_at cX5_at 2 (some .int) ∈ gj_w := gj_w_in 489 (by decide +kernel) (by decide +kernel)
theorem gl_c_X5_placeOf : Cond.code yX5_placeOf cX5_placeOf 3 (some .int) ∈ gj_w := gj_w_in 673 (by decide +kernel) (by decide +kernel)
theorem gl_c_X5_addLast : Cond.code yX5_addLast cX5_addLast 2 (none) ∈ gj_w := gj_w_in 516 (by decide +kernel) (by decide +kernel)
theorem gl_c_X5_addFirst : Cond.code yX5_addFirst cX5_addFirst 2 (none) ∈ gj_w := gj_w_in 639 (by decide +kernel) (by decide +kernel)
theorem gl_c_X5_removeAt : Cond.code yX5_removeAt cX5_removeAt 3 (some .int) ∈ gj_w := gj_w_in 529 (by decide +kernel) (by decide +kernel)
theorem gl_c_X5_copyFrom : Cond.code yX5_copyFrom cX5_copyFrom 2 (none) ∈ gj_w := gj_w_in 452 (by decide +kernel) (by decide +kernel)
theorem gl_c_X6_init : Cond.code yX6_init cX6_init 4 (none) ∈ gj_w := gj_w_in 354 (by decide +kernel) (by decide +kernel)
theorem gl_c_X6_run : Cond.code yX6_run cX6_run 2 (some .int) ∈ gj_w := gj_w_in 811 (by decide +kernel) (by decide +kernel)
theorem gl_c_X6_enterLevel : Cond.code yX6_enterLevel cX6_enterLevel 1 (none) ∈ gj_w := gj_w_in 815 (by decide +kernel) (by decide +kernel)
theorem gl_c_X6_leaveLevel : Cond.code yX6_leaveLevel cX6_leaveLevel 1 (none) ∈ gj_w := gj_w_in 826 (by decide +kernel) (by decide +kernel)
theorem gl_c_X6_undoLevel : Cond.code yX6_undoLevel cX6_undoLevel 1 (none) ∈ gj_w := gj_w_in 843 (by decide +kernel) (by decide +kernel)
theorem gl_c_X6_skipGroup : Cond.code yX6_skipGroup cX6_skipGroup 3 (none) ∈ gj_w := gj_w_in 849 (by decide +kernel) (by decide +kernel)
theorem gl_c_X6_orderDone : Cond.code yX6_orderDone cX6_orderDone 6 (some .boolean) ∈ gj_w := gj_w_in 831 (by decide +kernel) (by decide +kernel)
theorem gl_c_X6_nextFigure : Cond.code yX6_nextFigure cX6_nextFigure 1 (some .int) ∈ gj_w := gj_w_in 835 (by decide +kernel) (by decide +kernel)
theorem gl_c_X6_nextByte : Cond.code yX6_nextByte cX6_nextByte 2 (some .int) ∈ gj_w := gj_w_in 821 (by decide +kernel) (by decide +kernel)
theorem gl_c_X7_init : Cond.code yX7_init cX7_init 1 (none) ∈ gj_w := gj_w_in 187 (by decide +kernel) (by decide +kernel)
theorem gl_c_X7_setUp : Cond.code yX7_setUp cX7_setUp 6 (none) ∈ gj_w := gj_w_in 548 (by decide +kernel) (by decide +kernel)
theorem gl_c_X7_becomeIdle : Cond.code yX7_becomeIdle cX7_becomeIdle 1 (none) ∈ gj_w := gj_w_in 552 (by decide +kernel) (by decide +kernel)
theorem gl_c_X7_load : Cond.code yX7_load cX7_load 2 (none) ∈ gj_w := gj_w_in 609 (by decide +kernel) (by decide +kernel)
theorem gl_c_X7_workOn : Cond.code yX7_workOn cX7_workOn 1 (none) ∈ gj_w := gj_w_in 580 (by decide +kernel) (by decide +kernel)
theorem gl_c_X7_stationTold : Cond.code yX7_stationTold cX7_stationTold 2 (some .int) ∈ gj_w := gj_w_in 745 (by decide +kernel) (by decide +kernel)
theorem gl_c_X7_copyFrom : Cond.code yX7_copyFrom cX7_copyFrom 2 (none) ∈ gj_w := gj_w_in 459 (by decide +kernel) (by decide +kernel)
theorem gl_c_X8_init : Cond.code yX8_init cX8_init 1 (none) ∈ gj_w := gj_w_in 339 (by decide +kernel) (by decide +kernel)
theorem gl_c_X8_isFull : Cond.code yX8_isFull cX8_isFull 1 (some .boolean) ∈ gj_w := gj_w_in 782 (by decide +kernel) (by decide +kernel)
theorem gl_c_X8_add : Cond.code yX8_add cX8_add 2 (none) ∈ gj_w := gj_w_in 786 (by decide +kernel) (by decide +kernel)
theorem gl_c_X8_at : Cond.code yX8_at cX8_at 2 (some .int) ∈ gj_w := gj_w_in 803 (by decide +kernel) (by decide +kernel)
theorem gl_c_X8_fault : Cond.code yX8_fault cX8_fault 6 (some .int) ∈ gj_w := gj_w_in 799 (by decide +kernel) (by decide +kernel)
theorem gl_c_X8_figuresOf : Cond.code yX8_figuresOf cX8_figuresOf 1 (some .int) ∈ gj_w := gj_w_in 807 (by decide +kernel) (by decide +kernel)
theorem gl_c_X9_init : Cond.code yX9_init cX9_init 1 (none) ∈ gj_w := gj_w_in 238 (by decide +kernel) (by decide +kernel)
theorem gl_c_X9_waits : Cond.code yX9_waits cX9_waits 1 (some .boolean) ∈ gj_w := gj_w_in 654 (by decide +kernel) (by decide +kernel)
theorem gl_c_X9_wishFor : Cond.code yX9_wishFor cX9_wishFor 4 (none) ∈ gj_w := gj_w_in 662 (by decide +kernel) (by decide +kernel)
theorem gl_c_X9_wishNoMore : Cond.code yX9_wishNoMore cX9_wishNoMore 1 (none) ∈ gj_w := gj_w_in 276 (by decide +kernel) (by decide +kernel)
theorem gl_c_X9_workerTold : Cond.code yX9_workerTold cX9_workerTold 2 (some .int) ∈ gj_w := gj_w_in 753 (by decide +kernel) (by decide +kernel)
theorem gl_c_X9_startAnew : Cond.code yX9_startAnew cX9_startAnew 1 (none) ∈ gj_w := gj_w_in 272 (by decide +kernel) (by decide +kernel)
theorem gl_c_X9_copyFrom : Cond.code yX9_copyFrom cX9_copyFrom 2 (none) ∈ gj_w := gj_w_in 463 (by decide +kernel) (by decide +kernel)
theorem gl_c_X10_init : Cond.code yX10_init cX10_init 1 (none) ∈ gj_w := gj_w_in 80 (by decide +kernel) (by decide +kernel)
theorem gl_c_X10_begins : Cond.code yX10_begins cX10_begins 3 (some .int) ∈ gj_w := gj_w_in 425 (by decide +kernel) (by decide +kernel)
theorem gl_c_X10_rooms : Cond.code yX10_rooms cX10_rooms 4 (some .int) ∈ gj_w := gj_w_in 473 (by decide +kernel) (by decide +kernel)
theorem gl_c_X10_station : Cond.code yX10_station cX10_station 7 (some .int) ∈ gj_w := gj_w_in 535 (by decide +kernel) (by decide +kernel)
theorem gl_c_X10_guards : Cond.code yX10_guards cX10_guards 4 (some .int) ∈ gj_w := gj_w_in 556 (by decide +kernel) (by decide +kernel)
theorem gl_c_X10_ticks : Cond.code yX10_ticks cX10_ticks 4 (some .int) ∈ gj_w := gj_w_in 564 (by decide +kernel) (by decide +kernel)
theorem gl_c_X10_puts : Cond.code yX10_puts cX10_puts 5 (some .int) ∈ gj_w := gj_w_in 613 (by decide +kernel) (by decide +kernel)
theorem gl_c_X10_takes : Cond.code yX10_takes cX10_takes 3 (some .int) ∈ gj_w := gj_w_in 618 (by decide +kernel) (by decide +kernel)
theorem gl_c_X10_moves : Cond.code yX10_moves cX10_moves 7 (some .int) ∈ gj_w := gj_w_in 623 (by decide +kernel) (by decide +kernel)
theorem gl_c_X10_asks : Cond.code yX10_asks cX10_asks 6 (some .int) ∈ gj_w := gj_w_in 647 (by decide +kernel) (by decide +kernel)
theorem gl_c_X10_cancels : Cond.code yX10_cancels cX10_cancels 2 (some .int) ∈ gj_w := gj_w_in 668 (by decide +kernel) (by decide +kernel)
theorem gl_c_X10_keeps : Cond.code yX10_keeps cX10_keeps 3 (some .int) ∈ gj_w := gj_w_in 678 (by decide +kernel) (by decide +kernel)
theorem gl_c_X10_lets : Cond.code yX10_lets cX10_lets 4 (some .int) ∈ gj_w := gj_w_in 691 (by decide +kernel) (by decide +kernel)
theorem gl_c_X10_quits : Cond.code yX10_quits cX10_quits 4 (some .int) ∈ gj_w := gj_w_in 699 (by decide +kernel) (by decide +kernel)
theorem gl_c_X10_keeper : Cond.code yX10_keeper cX10_keeper 3 (some .int) ∈ gj_w := gj_w_in 703 (by decide +kernel) (by decide +kernel)
theorem gl_c_X10_queue : Cond.code yX10_queue cX10_queue 3 (some .int) ∈ gj_w := gj_w_in 711 (by decide +kernel) (by decide +kernel)
theorem gl_c_X10_stuck : Cond.code yX10_stuck cX10_stuck 1 (some .int) ∈ gj_w := gj_w_in 716 (by decide +kernel) (by decide +kernel)
theorem gl_c_X10_buffer : Cond.code yX10_buffer cX10_buffer 3 (some .int) ∈ gj_w := gj_w_in 729 (by decide +kernel) (by decide +kernel)
theorem gl_c_X10_item : Cond.code yX10_item cX10_item 3 (some .int) ∈ gj_w := gj_w_in 737 (by decide +kernel) (by decide +kernel)
theorem gl_c_X10_of : Cond.code yX10_of cX10_of 3 (some .int) ∈ gj_w := gj_w_in 741 (by decide +kernel) (by decide +kernel)
theorem gl_c_X10_worker : Cond.code yX10_worker cX10_worker 3 (some .int) ∈ gj_w := gj_w_in 749 (by decide +kernel) (by decide +kernel)
theorem gl_c_X10_line : Cond.code yX10_line cX10_line 2 (some .int) ∈ gj_w := gj_w_in 758 (by decide +kernel) (by decide +kernel)
theorem gl_c_X10_works : Cond.code yX10_works cX10_works 2 (some .int) ∈ gj_w := gj_w_in 762 (by decide +kernel) (by decide +kernel)
theorem gl_c_X10_type : Cond.code yX10_type cX10_type 2 (some .int) ∈ gj_w := gj_w_in 778 (by decide +kernel) (by decide +kernel)
theorem gl_c_X10_clear : Cond.code yX10_clear cX10_clear 2 (some .int) ∈ gj_w := gj_w_in 791 (by decide +kernel) (by decide +kernel)
theorem gl_c_X10_does : Cond.code yX10_does cX10_does 3 (some .int) ∈ gj_w := gj_w_in 795 (by decide +kernel) (by decide +kernel)
theorem gl_c_X10_back : Cond.code yX10_back cX10_back 1 (some .int) ∈ gj_w := gj_w_in 853 (by decide +kernel) (by decide +kernel)
theorem gl_c_X10_told : Cond.code yX10_told cX10_told 2 (some .int) ∈ gj_w := gj_w_in 861 (by decide +kernel) (by decide +kernel)
theorem gl_c_X10_digest : Cond.code yX10_digest cX10_digest 4 (some .long) ∈ gj_w := gj_w_in 869 (by decide +kernel) (by decide +kernel)
theorem gl_c_X10_toldOf : Cond.code yX10_toldOf cX10_toldOf 2 (some .int) ∈ gj_w := gj_w_in 865 (by decide +kernel) (by decide +kernel)
theorem gl_c_X10_refuseBad : Cond.code yX10_refuseBad cX10_refuseBad 1 (some .int) ∈ gj_w := gj_w_in 432 (by decide +kernel) (by decide +kernel)
theorem gl_c_X10_refuseNo : Cond.code yX10_refuseNo cX10_refuseNo 1 (some .int) ∈ gj_w := gj_w_in 658 (by decide +kernel) (by decide +kernel)
theorem gl_c_X10_refuseFull : Cond.code yX10_refuseFull cX10_refuseFull 1 (some .int) ∈ gj_w := gj_w_in 544 (by decide +kernel) (by decide +kernel)
theorem gl_c_X10_within : Cond.code yX10_within cX10_within 3 (some .boolean) ∈ gj_w := gj_w_in 428 (by decide +kernel) (by decide +kernel)
theorem gl_c_X10_isWorker : Cond.code yX10_isWorker cX10_isWorker 1 (some .boolean) ∈ gj_w := gj_w_in 650 (by decide +kernel) (by decide +kernel)
theorem gl_c_X10_mixed : Cond.code yX10_mixed cX10_mixed 3 (some .long) ∈ gj_w := gj_w_in 873 (by decide +kernel) (by decide +kernel)
theorem gl_c_X10_mixedRow : Cond.code yX10_mixedRow cX10_mixedRow 6 (some .long) ∈ gj_w := gj_w_in 880 (by decide +kernel) (by decide +kernel)
theorem gl_c_X10_mixedBuffer : Cond.code yX10_mixedBuffer cX10_mixedBuffer 6 (some .long) ∈ gj_w := gj_w_in 877 (by decide +kernel) (by decide +kernel)
theorem gl_c_X10_mixedStation : Cond.code yX10_mixedStation cX10_mixedStation 6 (some .long) ∈ gj_w := gj_w_in 883 (by decide +kernel) (by decide +kernel)
theorem gl_c_X10_mixedWorker : Cond.code yX10_mixedWorker cX10_mixedWorker 6 (some .long) ∈ gj_w := gj_w_in 886 (by decide +kernel) (by decide +kernel)
theorem gl_c_X11_init : Cond.code yX11_init cX11_init 1 (none) ∈ gj_w := gj_w_in 891 (by decide +kernel) (by decide +kernel)
theorem gl_c_X11_bad : Cond.code yX11_bad cX11_bad 1 (some .int) ∈ gj_w := gj_w_in 973 (by decide +kernel) (by decide +kernel)
theorem gl_c_X11_no : Cond.code yX11_no cX11_no 1 (some .int) ∈ gj_w := gj_w_in 962 (by decide +kernel) (by decide +kernel)
theorem gl_c_X11_full : Cond.code yX11_full cX11_full 1 (some .int) ∈ gj_w := gj_w_in 1036 (by decide +kernel) (by decide +kernel)
theorem gl_c_X11_in : Cond.code yX11_in cX11_in 3 (some .boolean) ∈ gj_w := gj_w_in 969 (by decide +kernel) (by decide +kernel)
theorem gl_c_X11_atBuffer : Cond.code yX11_atBuffer cX11_atBuffer 1 (some .int) ∈ gj_w := gj_w_in 899 (by decide +kernel) (by decide +kernel)
theorem gl_c_X11_gate : Cond.code yX11_gate cX11_gate 1 (some .int) ∈ gj_w := gj_w_in 1004 (by decide +kernel) (by decide +kernel)
theorem gl_c_X11_stationAt : Cond.code yX11_stationAt cX11_stationAt 1 (some .int) ∈ gj_w := gj_w_in 1039 (by decide +kernel) (by decide +kernel)
theorem gl_c_X11_workerAt : Cond.code yX11_workerAt cX11_workerAt 1 (some .int) ∈ gj_w := gj_w_in 902 (by decide +kernel) (by decide +kernel)
theorem gl_c_X11_isBuffer : Cond.code yX11_isBuffer cX11_isBuffer 2 (some .boolean) ∈ gj_w := gj_w_in 985 (by decide +kernel) (by decide +kernel)
theorem gl_c_X11_isWorker : Cond.code yX11_isWorker cX11_isWorker 1 (some .boolean) ∈ gj_w := gj_w_in 1116 (by decide +kernel) (by decide +kernel)
theorem gl_c_X11_lays : Cond.code yX11_lays cX11_lays 3 (none) ∈ gj_w := gj_w_in 896 (by decide +kernel) (by decide +kernel)
theorem gl_c_X11_leavesState : Cond.code yX11_leavesState cX11_leavesState 2 (none) ∈ gj_w := gj_w_in 977 (by decide +kernel) (by decide +kernel)
theorem gl_c_X11_back : Cond.code yX11_back cX11_back 2 (some .int) ∈ gj_w := gj_w_in 958 (by decide +kernel) (by decide +kernel)
theorem gl_c_X11_enters : Cond.code yX11_enters cX11_enters 3 (none) ∈ gj_w := gj_w_in 1001 (by decide +kernel) (by decide +kernel)
theorem gl_c_X11_leaves : Cond.code yX11_leaves cX11_leaves 2 (none) ∈ gj_w := gj_w_in 1016 (by decide +kernel) (by decide +kernel)
theorem gl_c_X11_thrownOut : Cond.code yX11_thrownOut cX11_thrownOut 2 (none) ∈ gj_w := gj_w_in 1012 (by decide +kernel) (by decide +kernel)
theorem gl_c_X11_isKeptFor : Cond.code yX11_isKeptFor cX11_isKeptFor 3 (some .boolean) ∈ gj_w := gj_w_in 1008 (by decide +kernel) (by decide +kernel)
theorem gl_c_X11_put : Cond.code yX11_put cX11_put 5 (some .boolean) ∈ gj_w := gj_w_in 997 (by decide +kernel) (by decide +kernel)
theorem gl_c_X11_firstOf : Cond.code yX11_firstOf cX11_firstOf 5 (some .int) ∈ gj_w := gj_w_in 1024 (by decide +kernel) (by decide +kernel)
theorem gl_c_X11_take : Cond.code yX11_take cX11_take 4 (some .int) ∈ gj_w := gj_w_in 1020 (by decide +kernel) (by decide +kernel)
theorem gl_c_X11_firstAgain : Cond.code yX11_firstAgain cX11_firstAgain 5 (none) ∈ gj_w := gj_w_in 1105 (by decide +kernel) (by decide +kernel)
theorem gl_c_X11_lesser : Cond.code yX11_lesser cX11_lesser 2 (some .int) ∈ gj_w := gj_w_in 1078 (by decide +kernel) (by decide +kernel)
theorem gl_c_X11_greater : Cond.code yX11_greater cX11_greater 2 (some .int) ∈ gj_w := gj_w_in 1081 (by decide +kernel) (by decide +kernel)
theorem gl_c_X11_move : Cond.code yX11_move cX11_move 9 (some .int) ∈ gj_w := gj_w_in 1101 (by decide +kernel) (by decide +kernel)
theorem gl_c_X11_laysAside : Cond.code yX11_laysAside cX11_laysAside 4 (none) ∈ gj_w := gj_w_in 1097 (by decide +kernel) (by decide +kernel)
theorem gl_c_X11_undoes : Cond.code yX11_undoes cX11_undoes 4 (none) ∈ gj_w := gj_w_in 1109 (by decide +kernel) (by decide +kernel)
theorem gl_c_X11_goesFromLine : Cond.code yX11_goesFromLine cX11_goesFromLine 4 (none) ∈ gj_w := gj_w_in 1028 (by decide +kernel) (by decide +kernel)
theorem gl_c_X11_tries : Cond.code yX11_tries cX11_tries 6 (some .boolean) ∈ gj_w := gj_w_in 993 (by decide +kernel) (by decide +kernel)
theorem gl_c_X11_serves : Cond.code yX11_serves cX11_serves 4 (none) ∈ gj_w := gj_w_in 989 (by decide +kernel) (by decide +kernel)
theorem gl_c_X11_starts : Cond.code yX11_starts cX11_starts 3 (none) ∈ gj_w := gj_w_in 1071 (by decide +kernel) (by decide +kernel)
theorem gl_c_X11_takesBoth : Cond.code yX11_takesBoth cX11_takesBoth 10 (none) ∈ gj_w := gj_w_in 1075 (by decide +kernel) (by decide +kernel)
theorem gl_c_X11_takesOne : Cond.code yX11_takesOne cX11_takesOne 3 (none) ∈ gj_w := gj_w_in 1067 (by decide +kernel) (by decide +kernel)
theorem gl_c_X11_worksOn : Cond.code yX11_worksOn cX11_worksOn 2 (none) ∈ gj_w := gj_w_in 1063 (by decide +kernel) (by decide +kernel)
theorem gl_c_X11_madeOfAll : Cond.code yX11_madeOfAll cX11_madeOfAll 3 (some .int) ∈ gj_w := gj_w_in 1055 (by decide +kernel) (by decide +kernel)
theorem gl_c_X11_tick : Cond.code yX11_tick cX11_tick 4 (none) ∈ gj_w := gj_w_in 1059 (by decide +kernel) (by decide +kernel)
theorem gl_c_X11_begins : Cond.code yX11_begins cX11_begins 3 (some .int) ∈ gj_w := gj_w_in 966 (by decide +kernel) (by decide +kernel)
theorem gl_c_X11_rooms : Cond.code yX11_rooms cX11_rooms 4 (some .int) ∈ gj_w := gj_w_in 981 (by decide +kernel) (by decide +kernel)
theorem gl_c_X11_station : Cond.code yX11_station cX11_station 7 (some .int) ∈ gj_w := gj_w_in 1032 (by decide +kernel) (by decide +kernel)
theorem gl_c_X11_isStation : Cond.code yX11_isStation cX11_isStation 2 (some .boolean) ∈ gj_w := gj_w_in 1047 (by decide +kernel) (by decide +kernel)
theorem gl_c_X11_guards : Cond.code yX11_guards cX11_guards 4 (some .int) ∈ gj_w := gj_w_in 1043 (by decide +kernel) (by decide +kernel)
theorem gl_c_X11_ticks : Cond.code yX11_ticks cX11_ticks 4 (some .int) ∈ gj_w := gj_w_in 1051 (by decide +kernel) (by decide +kernel)
theorem gl_c_X11_puts : Cond.code yX11_puts cX11_puts 4 (some .int) ∈ gj_w := gj_w_in 1085 (by decide +kernel) (by decide +kernel)
theorem gl_c_X11_takes : Cond.code yX11_takes cX11_takes 3 (some .int) ∈ gj_w := gj_w_in 1089 (by decide +kernel) (by decide +kernel)
theorem gl_c_X11_moves : Cond.code yX11_moves cX11_moves 7 (some .int) ∈ gj_w := gj_w_in 1093 (by decide +kernel) (by decide +kernel)
theorem gl_c_X11_asks : Cond.code yX11_asks cX11_asks 7 (some .int) ∈ gj_w := gj_w_in 1113 (by decide +kernel) (by decide +kernel)
theorem gl_c_X11_cancels : Cond.code yX11_cancels cX11_cancels 3 (some .int) ∈ gj_w := gj_w_in 1120 (by decide +kernel) (by decide +kernel)
theorem gl_c_X11_queueOf : Cond.code yX11_queueOf cX11_queueOf 5 (some .int) ∈ gj_w := gj_w_in 1128 (by decide +kernel) (by decide +kernel)
theorem gl_c_X11_goesFromQueue : Cond.code yX11_goesFromQueue cX11_goesFromQueue 6 (none) ∈ gj_w := gj_w_in 1136 (by decide +kernel) (by decide +kernel)
theorem gl_c_X11_keeps : Cond.code yX11_keeps cX11_keeps 5 (some .int) ∈ gj_w := gj_w_in 1124 (by decide +kernel) (by decide +kernel)
theorem gl_c_X11_lets : Cond.code yX11_lets cX11_lets 6 (some .int) ∈ gj_w := gj_w_in 1132 (by decide +kernel) (by decide +kernel)
theorem gl_c_X11_quits : Cond.code yX11_quits cX11_quits 3 (some .int) ∈ gj_w := gj_w_in 1140 (by decide +kernel) (by decide +kernel)
theorem gl_c_X11_keeper : Cond.code yX11_keeper cX11_keeper 3 (some .int) ∈ gj_w := gj_w_in 1144 (by decide +kernel) (by decide +kernel)
theorem gl_c_X11_queue : Cond.code yX11_queue cX11_queue 3 (some .int) ∈ gj_w := gj_w_in 1148 (by decide +kernel) (by decide +kernel)
theorem gl_c_X11_isStuck : Cond.code yX11_isStuck cX11_isStuck 6 (some .boolean) ∈ gj_w := gj_w_in 1156 (by decide +kernel) (by decide +kernel)
theorem gl_c_X11_stuck : Cond.code yX11_stuck cX11_stuck 3 (some .int) ∈ gj_w := gj_w_in 1152 (by decide +kernel) (by decide +kernel)
theorem gl_c_X11_ofBuffer : Cond.code yX11_ofBuffer cX11_ofBuffer 3 (some .int) ∈ gj_w := gj_w_in 1164 (by decide +kernel) (by decide +kernel)
theorem gl_c_X11_buffer : Cond.code yX11_buffer cX11_buffer 3 (some .int) ∈ gj_w := gj_w_in 1160 (by decide +kernel) (by decide +kernel)
theorem gl_c_X11_item : Cond.code yX11_item cX11_item 3 (some .int) ∈ gj_w := gj_w_in 1168 (by decide +kernel) (by decide +kernel)
theorem gl_c_X11_ofStation : Cond.code yX11_ofStation cX11_ofStation 4 (some .int) ∈ gj_w := gj_w_in 1176 (by decide +kernel) (by decide +kernel)
theorem gl_c_X11_of : Cond.code yX11_of cX11_of 3 (some .int) ∈ gj_w := gj_w_in 1172 (by decide +kernel) (by decide +kernel)
theorem gl_c_X11_worker : Cond.code yX11_worker cX11_worker 3 (some .int) ∈ gj_w := gj_w_in 1180 (by decide +kernel) (by decide +kernel)
theorem gl_c_X11_line : Cond.code yX11_line cX11_line 2 (some .int) ∈ gj_w := gj_w_in 1184 (by decide +kernel) (by decide +kernel)
theorem gl_c_X11_itemsOfAll : Cond.code yX11_itemsOfAll cX11_itemsOfAll 3 (some .int) ∈ gj_w := gj_w_in 1196 (by decide +kernel) (by decide +kernel)
theorem gl_c_X11_entriesOfAll : Cond.code yX11_entriesOfAll cX11_entriesOfAll 3 (some .int) ∈ gj_w := gj_w_in 1200 (by decide +kernel) (by decide +kernel)
theorem gl_c_X11_worksBy : Cond.code yX11_worksBy cX11_worksBy 2 (some .int) ∈ gj_w := gj_w_in 1192 (by decide +kernel) (by decide +kernel)
theorem gl_c_X11_works : Cond.code yX11_works cX11_works 2 (some .int) ∈ gj_w := gj_w_in 1188 (by decide +kernel) (by decide +kernel)
theorem gl_c_X11_type : Cond.code yX11_type cX11_type 2 (some .int) ∈ gj_w := gj_w_in 1204 (by decide +kernel) (by decide +kernel)
theorem gl_c_X11_clear : Cond.code yX11_clear cX11_clear 2 (some .int) ∈ gj_w := gj_w_in 1208 (by decide +kernel) (by decide +kernel)
theorem gl_c_X11_here : Cond.code yX11_here cX11_here 1 (some .int) ∈ gj_w := gj_w_in 1220 (by decide +kernel) (by decide +kernel)
theorem gl_c_X11_figure : Cond.code yX11_figure cX11_figure 2 (some .int) ∈ gj_w := gj_w_in 1228 (by decide +kernel) (by decide +kernel)
theorem gl_c_X11_comes : Cond.code yX11_comes cX11_comes 2 (none) ∈ gj_w := gj_w_in 1224 (by decide +kernel) (by decide +kernel)
theorem gl_c_X11_reads : Cond.code yX11_reads cX11_reads 6 (some .boolean) ∈ gj_w := gj_w_in 1216 (by decide +kernel) (by decide +kernel)
theorem gl_c_X11_doesOne : Cond.code yX11_doesOne cX11_doesOne 4 (some .boolean) ∈ gj_w := gj_w_in 1236 (by decide +kernel) (by decide +kernel)
theorem gl_c_X11_doesAll : Cond.code yX11_doesAll cX11_doesAll 5 (some .int) ∈ gj_w := gj_w_in 1232 (by decide +kernel) (by decide +kernel)
theorem gl_c_X11_does : Cond.code yX11_does cX11_does 2 (some .int) ∈ gj_w := gj_w_in 1212 (by decide +kernel) (by decide +kernel)
theorem gl_c_X11_toldOf : Cond.code yX11_toldOf cX11_toldOf 2 (some .int) ∈ gj_w := gj_w_in 1244 (by decide +kernel) (by decide +kernel)
theorem gl_c_X11_told : Cond.code yX11_told cX11_told 2 (some .int) ∈ gj_w := gj_w_in 1240 (by decide +kernel) (by decide +kernel)
theorem gl_c_X11_digest : Cond.code yX11_digest cX11_digest 5 (some .long) ∈ gj_w := gj_w_in 1248 (by decide +kernel) (by decide +kernel)
theorem gl_i_X10 : Cond.initialized RX10 ∈ gj_w := gj_w_in 62 (by decide +kernel) (by decide +kernel)
theorem gl_i_X1 : Cond.initialized RX1 ∈ gj_w := gj_w_in 63 (by decide +kernel) (by decide +kernel)
theorem gl_i_X5 : Cond.initialized RX5 ∈ gj_w := gj_w_in 64 (by decide +kernel) (by decide +kernel)
theorem gl_i_X2 : Cond.initialized RX2 ∈ gj_w := gj_w_in 65 (by decide +kernel) (by decide +kernel)
theorem gl_i_X0 : Cond.initialized RX0 ∈ gj_w := gj_w_in 66 (by decide +kernel) (by decide +kernel)
theorem gl_i_X7 : Cond.initialized RX7 ∈ gj_w := gj_w_in 67 (by decide +kernel) (by decide +kernel)
theorem gl_i_X9 : Cond.initialized RX9 ∈ gj_w := gj_w_in 68 (by decide +kernel) (by decide +kernel)
theorem gl_i_X3 : Cond.initialized RX3 ∈ gj_w := gj_w_in 69 (by decide +kernel) (by decide +kernel)
theorem gl_i_X8 : Cond.initialized RX8 ∈ gj_w := gj_w_in 70 (by decide +kernel) (by decide +kernel)
theorem gl_i_X6 : Cond.initialized RX6 ∈ gj_w := gj_w_in 71 (by decide +kernel) (by decide +kernel)
theorem gl_i_X4 : Cond.initialized RX4 ∈ gj_w := gj_w_in 72 (by decide +kernel) (by decide +kernel)
theorem gl_i_X11 : Cond.initialized RX11 ∈ gj_w := gj_w_in 73 (by decide +kernel) (by decide +kernel)
theorem f_X10_10 : gj_Fk RX10 10 10 0 (.object "GatedWorks$Floor") true := ⟨RX10, TX10, 8, tyX10, rfl, gl_inX10, tyX10_ok, nmX10, by decide, rfl, rfl, rfl, Or.inl (gj_w_in 397 (by decide +kernel) (by decide +kernel))⟩
theorem f_X10_19 : gj_Fk RX10 19 10 1 (.object "GatedWorks$History") true := ⟨RX10, TX10, 8, tyX10, rfl, gl_inX10, tyX10_ok, nmX10, by decide, rfl, rfl, rfl, Or.inl (gj_w_in 398 (by decide +kernel) (by decide +kernel))⟩
theorem f_X10_26 : gj_Fk RX10 26 10 2 (.object "GatedWorks$Text") true := ⟨RX10, TX10, 8, tyX10, rfl, gl_inX10, tyX10_ok, nmX10, by decide, rfl, rfl, rfl, Or.inl (gj_w_in 399 (by decide +kernel) (by decide +kernel))⟩
theorem f_X10_35 : gj_Fk RX10 35 10 3 (.object "GatedWorks$Runner") true := ⟨RX10, TX10, 8, tyX10, rfl, gl_inX10, tyX10_ok, nmX10, by decide, rfl, rfl, rfl, Or.inl (gj_w_in 400 (by decide +kernel) (by decide +kernel))⟩
theorem f_X10_42 : gj_Fk RX10 42 10 4 (.object "GatedWorks$ItemsAhead") true := ⟨RX10, TX10, 8, tyX10, rfl, gl_inX10, tyX10_ok, nmX10, by decide, rfl, rfl, rfl, Or.inl (gj_w_in 401 (by decide +kernel) (by decide +kernel))⟩
theorem f_X10_58 : gj_Fk RX10 58 1 5 (.int) false := ⟨RX1, TX1, 9, tyX1, rfl, gl_inX1, tyX1_ok, nmX1, by decide, rfl, rfl, rfl, Or.inr ⟨"GatedWorks", gj_nw_in 290 (by decide +kernel) (by decide +kernel)⟩⟩
theorem f_X10_70 : gj_Fk RX10 70 1 0 (.array (.object "GatedWorks$Buffer")) true := ⟨RX1, TX1, 9, tyX1, rfl, gl_inX1, tyX1_ok, nmX1, by decide, rfl, rfl, rfl, Or.inr ⟨"GatedWorks", gj_nw_in 280 (by decide +kernel) (by decide +kernel)⟩⟩
theorem f_X10_74 : gj_Fk RX10 74 0 3 (.int) false := ⟨RX0, TX0, 9, tyX0, rfl, gl_inX0, tyX0_ok, nmX0, by decide, rfl, rfl, rfl, Or.inr ⟨"GatedWorks", gj_nw_in 157 (by decide +kernel) (by decide +kernel)⟩⟩
theorem f_X10_85 : gj_Fk RX10 85 1 6 (.int) false := ⟨RX1, TX1, 9, tyX1, rfl, gl_inX1, tyX1_ok, nmX1, by decide, rfl, rfl, rfl, Or.inr ⟨"GatedWorks", gj_nw_in 293 (by decide +kernel) (by decide +kernel)⟩⟩
theorem f_X10_91 : gj_Fk RX10 91 1 1 (.array (.object "GatedWorks$Station")) true := ⟨RX1, TX1, 9, tyX1, rfl, gl_inX1, tyX1_ok, nmX1, by decide, rfl, rfl, rfl, Or.inr ⟨"GatedWorks", gj_nw_in 283 (by decide +kernel) (by decide +kernel)⟩⟩
theorem f_X10_104 : gj_Fk RX10 104 7 5 (.int) false := ⟨RX7, TX7, 12, tyX7, rfl, gl_inX7, tyX7_ok, nmX7, by decide, rfl, rfl, rfl, Or.inr ⟨"GatedWorks", gj_nw_in 198 (by decide +kernel) (by decide +kernel)⟩⟩
theorem f_X10_114 : gj_Fk RX10 114 0 1 (.object "GatedWorks$Row") true := ⟨RX0, TX0, 9, tyX0, rfl, gl_inX0, tyX0_ok, nmX0, by decide, rfl, rfl, rfl, Or.inr ⟨"GatedWorks", gj_nw_in 152 (by decide +kernel) (by decide +kernel)⟩⟩
theorem f_X10_118 : gj_Fk RX10 118 5 1 (.int) false := ⟨RX5, TX5, 2, tyX5, rfl, gl_inX5, tyX5_ok, nmX5, by decide, rfl, rfl, rfl, Or.inr ⟨"GatedWorks", gj_nw_in 106 (by decide +kernel) (by decide +kernel)⟩⟩
theorem f_X10_138 : gj_Fk RX10 138 1 2 (.array (.object "GatedWorks$Worker")) true := ⟨RX1, TX1, 9, tyX1, rfl, gl_inX1, tyX1_ok, nmX1, by decide, rfl, rfl, rfl, Or.inr ⟨"GatedWorks", gj_nw_in 285 (by decide +kernel) (by decide +kernel)⟩⟩
theorem f_X10_158 : gj_Fk RX10 158 1 3 (.object "GatedWorks$Row") true := ⟨RX1, TX1, 9, tyX1, rfl, gl_inX1, tyX1_ok, nmX1, by decide, rfl, rfl, rfl, Or.inr ⟨"GatedWorks", gj_nw_in 287 (by decide +kernel) (by decide +kernel)⟩⟩
theorem f_X10_179 : gj_Fk RX10 179 0 7 (.int) false := ⟨RX0, TX0, 9, tyX0, rfl, gl_inX0, tyX0_ok, nmX0, by decide, rfl, rfl, rfl, Or.inr ⟨"GatedWorks", gj_nw_in 162 (by decide +kernel) (by decide +kernel)⟩⟩
theorem f_X10_185 : gj_Fk RX10 185 0 2 (.object "GatedWorks$Row") true := ⟨RX0, TX0, 9, tyX0, rfl, gl_inX0, tyX0_ok, nmX0, by decide, rfl, rfl, rfl, Or.inr ⟨"GatedWorks", gj_nw_in 154 (by decide +kernel) (by decide +kernel)⟩⟩
theorem f_X10_215 : gj_Fk RX10 215 8 1 (.int) false := ⟨RX8, TX8, 2, tyX8, rfl, gl_inX8, tyX8_ok, nmX8, by decide, rfl, rfl, rfl, Or.inr ⟨"GatedWorks", gj_nw_in 344 (by decide +kernel) (by decide +kernel)⟩⟩
theorem f_X10_224 : gj_Fk RX10 224 3 2 (.int) false := ⟨RX3, TX3, 3, tyX3, rfl, gl_inX3, tyX3_ok, nmX3, by decide, rfl, rfl, rfl, Or.inr ⟨"GatedWorks", gj_nw_in 327 (by decide +kernel) (by decide +kernel)⟩⟩
theorem f_X10_251 : gj_Fk RX10 251 10 5 (.int) false := ⟨RX10, TX10, 8, tyX10, rfl, gl_inX10, tyX10_ok, nmX10, by decide, rfl, rfl, rfl, Or.inl (gj_w_in 402 (by decide +kernel) (by decide +kernel))⟩
theorem f_X10_254 : gj_Fk RX10 254 10 6 (.int) false := ⟨RX10, TX10, 8, tyX10, rfl, gl_inX10, tyX10_ok, nmX10, by decide, rfl, rfl, rfl, Or.inl (gj_w_in 403 (by decide +kernel) (by decide +kernel))⟩
theorem f_X10_257 : gj_Fk RX10 257 10 7 (.int) false := ⟨RX10, TX10, 8, tyX10, rfl, gl_inX10, tyX10_ok, nmX10, by decide, rfl, rfl, rfl, Or.inl (gj_w_in 404 (by decide +kernel) (by decide +kernel))⟩
theorem f_X0_12 : gj_Fk RX0 12 0 0 (.object "GatedWorks$Gate") true := ⟨RX0, TX0, 9, tyX0, rfl, gl_inX0, tyX0_ok, nmX0, by decide, rfl, rfl, rfl, Or.inl (gj_w_in 147 (by decide +kernel) (by decide +kernel))⟩
theorem f_X0_21 : gj_Fk RX0 21 0 1 (.object "GatedWorks$Row") true := ⟨RX0, TX0, 9, tyX0, rfl, gl_inX0, tyX0_ok, nmX0, by decide, rfl, rfl, rfl, Or.inl (gj_w_in 149 (by decide +kernel) (by decide +kernel))⟩
theorem f_X0_25 : gj_Fk RX0 25 0 2 (.object "GatedWorks$Row") true := ⟨RX0, TX0, 9, tyX0, rfl, gl_inX0, tyX0_ok, nmX0, by decide, rfl, rfl, rfl, Or.inl (gj_w_in 153 (by decide +kernel) (by decide +kernel))⟩
theorem f_X0_31 : gj_Fk RX0 31 5 1 (.int) false := ⟨RX5, TX5, 2, tyX5, rfl, gl_inX5, tyX5_ok, nmX5, by decide, rfl, rfl, rfl, Or.inr ⟨"GatedWorks", gj_nw_in 104 (by decide +kernel) (by decide +kernel)⟩⟩
theorem f_X0_35 : gj_Fk RX0 35 0 3 (.int) false := ⟨RX0, TX0, 9, tyX0, rfl, gl_inX0, tyX0_ok, nmX0, by decide, rfl, rfl, rfl, Or.inl (gj_w_in 156 (by decide +kernel) (by decide +kernel))⟩
theorem f_X0_49 : gj_Fk RX0 49 0 4 (.int) false := ⟨RX0, TX0, 9, tyX0, rfl, gl_inX0, tyX0_ok, nmX0, by decide, rfl, rfl, rfl, Or.inl (gj_w_in 158 (by decide +kernel) (by decide +kernel))⟩
theorem f_X0_52 : gj_Fk RX0 52 0 6 (.int) false := ⟨RX0, TX0, 9, tyX0, rfl, gl_inX0, tyX0_ok, nmX0, by decide, rfl, rfl, rfl, Or.inl (gj_w_in 160 (by decide +kernel) (by decide +kernel))⟩
theorem f_X0_64 : gj_Fk RX0 64 0 5 (.int) false := ⟨RX0, TX0, 9, tyX0, rfl, gl_inX0, tyX0_ok, nmX0, by decide, rfl, rfl, rfl, Or.inl (gj_w_in 159 (by decide +kernel) (by decide +kernel))⟩
theorem f_X0_71 : gj_Fk RX0 71 0 7 (.int) false := ⟨RX0, TX0, 9, tyX0, rfl, gl_inX0, tyX0_ok, nmX0, by decide, rfl, rfl, rfl, Or.inl (gj_w_in 161 (by decide +kernel) (by decide +kernel))⟩
theorem f_X0_74 : gj_Fk RX0 74 0 8 (.int) false := ⟨RX0, TX0, 9, tyX0, rfl, gl_inX0, tyX0_ok, nmX0, by decide, rfl, rfl, rfl, Or.inl (gj_w_in 164 (by decide +kernel) (by decide +kernel))⟩
theorem f_X0_77 : gj_Fk RX0 77 2 0 (.int) false := ⟨RX2, TX2, 4, tyX2, rfl, gl_inX2, tyX2_ok, nmX2, by decide, rfl, rfl, rfl, Or.inr ⟨"GatedWorks", gj_nw_in 120 (by decide +kernel) (by decide +kernel)⟩⟩
theorem f_X0_80 : gj_Fk RX0 80 2 3 (.int) false := ⟨RX2, TX2, 4, tyX2, rfl, gl_inX2, tyX2_ok, nmX2, by decide, rfl, rfl, rfl, Or.inr ⟨"GatedWorks", gj_nw_in 127 (by decide +kernel) (by decide +kernel)⟩⟩
theorem f_X0_83 : gj_Fk RX0 83 2 2 (.int) false := ⟨RX2, TX2, 4, tyX2, rfl, gl_inX2, tyX2_ok, nmX2, by decide, rfl, rfl, rfl, Or.inr ⟨"GatedWorks", gj_nw_in 124 (by decide +kernel) (by decide +kernel)⟩⟩
theorem f_X1_11 : gj_Fk RX1 11 1 0 (.array (.object "GatedWorks$Buffer")) true := ⟨RX1, TX1, 9, tyX1, rfl, gl_inX1, tyX1_ok, nmX1, by decide, rfl, rfl, rfl, Or.inl (gj_w_in 278 (by decide +kernel) (by decide +kernel))⟩
theorem f_X1_19 : gj_Fk RX1 19 1 1 (.array (.object "GatedWorks$Station")) true := ⟨RX1, TX1, 9, tyX1, rfl, gl_inX1, tyX1_ok, nmX1, by decide, rfl, rfl, rfl, Or.inl (gj_w_in 282 (by decide +kernel) (by decide +kernel))⟩
theorem f_X1_25 : gj_Fk RX1 25 1 2 (.array (.object "GatedWorks$Worker")) true := ⟨RX1, TX1, 9, tyX1, rfl, gl_inX1, tyX1_ok, nmX1, by decide, rfl, rfl, rfl, Or.inl (gj_w_in 284 (by decide +kernel) (by decide +kernel))⟩
theorem f_X1_32 : gj_Fk RX1 32 1 3 (.object "GatedWorks$Row") true := ⟨RX1, TX1, 9, tyX1, rfl, gl_inX1, tyX1_ok, nmX1, by decide, rfl, rfl, rfl, Or.inl (gj_w_in 286 (by decide +kernel) (by decide +kernel))⟩
theorem f_X1_39 : gj_Fk RX1 39 1 4 (.object "GatedWorks$Gate") true := ⟨RX1, TX1, 9, tyX1, rfl, gl_inX1, tyX1_ok, nmX1, by decide, rfl, rfl, rfl, Or.inl (gj_w_in 288 (by decide +kernel) (by decide +kernel))⟩
theorem f_X1_53 : gj_Fk RX1 53 5 1 (.int) false := ⟨RX5, TX5, 2, tyX5, rfl, gl_inX5, tyX5_ok, nmX5, by decide, rfl, rfl, rfl, Or.inr ⟨"GatedWorks", gj_nw_in 105 (by decide +kernel) (by decide +kernel)⟩⟩
theorem f_X1_58 : gj_Fk RX1 58 1 5 (.int) false := ⟨RX1, TX1, 9, tyX1, rfl, gl_inX1, tyX1_ok, nmX1, by decide, rfl, rfl, rfl, Or.inl (gj_w_in 291 (by decide +kernel) (by decide +kernel))⟩
theorem f_X1_61 : gj_Fk RX1 61 1 6 (.int) false := ⟨RX1, TX1, 9, tyX1, rfl, gl_inX1, tyX1_ok, nmX1, by decide, rfl, rfl, rfl, Or.inl (gj_w_in 292 (by decide +kernel) (by decide +kernel))⟩
theorem f_X1_64 : gj_Fk RX1 64 1 7 (.int) false := ⟨RX1, TX1, 9, tyX1, rfl, gl_inX1, tyX1_ok, nmX1, by decide, rfl, rfl, rfl, Or.inl (gj_w_in 294 (by decide +kernel) (by decide +kernel))⟩
theorem f_X1_67 : gj_Fk RX1 67 1 8 (.int) false := ⟨RX1, TX1, 9, tyX1, rfl, gl_inX1, tyX1_ok, nmX1, by decide, rfl, rfl, rfl, Or.inl (gj_w_in 295 (by decide +kernel) (by decide +kernel))⟩
theorem f_X1_80 : gj_Fk RX1 80 0 0 (.object "GatedWorks$Gate") true := ⟨RX0, TX0, 9, tyX0, rfl, gl_inX0, tyX0_ok, nmX0, by decide, rfl, rfl, rfl, Or.inr ⟨"GatedWorks", gj_nw_in 148 (by decide +kernel) (by decide +kernel)⟩⟩
theorem f_X1_105 : gj_Fk RX1 105 0 1 (.object "GatedWorks$Row") true := ⟨RX0, TX0, 9, tyX0, rfl, gl_inX0, tyX0_ok, nmX0, by decide, rfl, rfl, rfl, Or.inr ⟨"GatedWorks", gj_nw_in 151 (by decide +kernel) (by decide +kernel)⟩⟩
theorem f_X1_121 : gj_Fk RX1 121 7 5 (.int) false := ⟨RX7, TX7, 12, tyX7, rfl, gl_inX7, tyX7_ok, nmX7, by decide, rfl, rfl, rfl, Or.inr ⟨"GatedWorks", gj_nw_in 199 (by decide +kernel) (by decide +kernel)⟩⟩
theorem f_X1_130 : gj_Fk RX1 130 7 6 (.int) false := ⟨RX7, TX7, 12, tyX7, rfl, gl_inX7, tyX7_ok, nmX7, by decide, rfl, rfl, rfl, Or.inr ⟨"GatedWorks", gj_nw_in 201 (by decide +kernel) (by decide +kernel)⟩⟩
theorem f_X1_136 : gj_Fk RX1 136 7 1 (.int) false := ⟨RX7, TX7, 12, tyX7, rfl, gl_inX7, tyX7_ok, nmX7, by decide, rfl, rfl, rfl, Or.inr ⟨"GatedWorks", gj_nw_in 192 (by decide +kernel) (by decide +kernel)⟩⟩
theorem f_X1_139 : gj_Fk RX1 139 7 0 (.int) false := ⟨RX7, TX7, 12, tyX7, rfl, gl_inX7, tyX7_ok, nmX7, by decide, rfl, rfl, rfl, Or.inr ⟨"GatedWorks", gj_nw_in 190 (by decide +kernel) (by decide +kernel)⟩⟩
theorem f_X1_148 : gj_Fk RX1 148 7 2 (.int) false := ⟨RX7, TX7, 12, tyX7, rfl, gl_inX7, tyX7_ok, nmX7, by decide, rfl, rfl, rfl, Or.inr ⟨"GatedWorks", gj_nw_in 194 (by decide +kernel) (by decide +kernel)⟩⟩
theorem f_X1_151 : gj_Fk RX1 151 7 8 (.int) false := ⟨RX7, TX7, 12, tyX7, rfl, gl_inX7, tyX7_ok, nmX7, by decide, rfl, rfl, rfl, Or.inr ⟨"GatedWorks", gj_nw_in 204 (by decide +kernel) (by decide +kernel)⟩⟩
theorem f_X1_154 : gj_Fk RX1 154 7 10 (.int) false := ⟨RX7, TX7, 12, tyX7, rfl, gl_inX7, tyX7_ok, nmX7, by decide, rfl, rfl, rfl, Or.inr ⟨"GatedWorks", gj_nw_in 208 (by decide +kernel) (by decide +kernel)⟩⟩
theorem f_X1_160 : gj_Fk RX1 160 7 9 (.int) false := ⟨RX7, TX7, 12, tyX7, rfl, gl_inX7, tyX7_ok, nmX7, by decide, rfl, rfl, rfl, Or.inr ⟨"GatedWorks", gj_nw_in 206 (by decide +kernel) (by decide +kernel)⟩⟩
theorem f_X1_170 : gj_Fk RX1 170 9 0 (.int) false := ⟨RX9, TX9, 4, tyX9, rfl, gl_inX9, tyX9_ok, nmX9, by decide, rfl, rfl, rfl, Or.inr ⟨"GatedWorks", gj_nw_in 241 (by decide +kernel) (by decide +kernel)⟩⟩
theorem f_X1_173 : gj_Fk RX1 173 9 1 (.int) false := ⟨RX9, TX9, 4, tyX9, rfl, gl_inX9, tyX9_ok, nmX9, by decide, rfl, rfl, rfl, Or.inr ⟨"GatedWorks", gj_nw_in 243 (by decide +kernel) (by decide +kernel)⟩⟩
theorem f_X1_176 : gj_Fk RX1 176 9 2 (.int) false := ⟨RX9, TX9, 4, tyX9, rfl, gl_inX9, tyX9_ok, nmX9, by decide, rfl, rfl, rfl, Or.inr ⟨"GatedWorks", gj_nw_in 245 (by decide +kernel) (by decide +kernel)⟩⟩
theorem f_X1_177 : gj_Fk RX1 177 9 3 (.int) false := ⟨RX9, TX9, 4, tyX9, rfl, gl_inX9, tyX9_ok, nmX9, by decide, rfl, rfl, rfl, Or.inr ⟨"GatedWorks", gj_nw_in 247 (by decide +kernel) (by decide +kernel)⟩⟩
theorem f_X1_196 : gj_Fk RX1 196 0 2 (.object "GatedWorks$Row") true := ⟨RX0, TX0, 9, tyX0, rfl, gl_inX0, tyX0_ok, nmX0, by decide, rfl, rfl, rfl, Or.inr ⟨"GatedWorks", gj_nw_in 155 (by decide +kernel) (by decide +kernel)⟩⟩
theorem f_X1_208 : gj_Fk RX1 208 0 7 (.int) false := ⟨RX0, TX0, 9, tyX0, rfl, gl_inX0, tyX0_ok, nmX0, by decide, rfl, rfl, rfl, Or.inr ⟨"GatedWorks", gj_nw_in 163 (by decide +kernel) (by decide +kernel)⟩⟩
theorem f_X1_211 : gj_Fk RX1 211 2 0 (.int) false := ⟨RX2, TX2, 4, tyX2, rfl, gl_inX2, tyX2_ok, nmX2, by decide, rfl, rfl, rfl, Or.inr ⟨"GatedWorks", gj_nw_in 121 (by decide +kernel) (by decide +kernel)⟩⟩
theorem f_X1_214 : gj_Fk RX1 214 2 3 (.int) false := ⟨RX2, TX2, 4, tyX2, rfl, gl_inX2, tyX2_ok, nmX2, by decide, rfl, rfl, rfl, Or.inr ⟨"GatedWorks", gj_nw_in 128 (by decide +kernel) (by decide +kernel)⟩⟩
theorem f_X1_217 : gj_Fk RX1 217 2 2 (.int) false := ⟨RX2, TX2, 4, tyX2, rfl, gl_inX2, tyX2_ok, nmX2, by decide, rfl, rfl, rfl, Or.inr ⟨"GatedWorks", gj_nw_in 125 (by decide +kernel) (by decide +kernel)⟩⟩
theorem f_X2_7 : gj_Fk RX2 7 2 0 (.int) false := ⟨RX2, TX2, 4, tyX2, rfl, gl_inX2, tyX2_ok, nmX2, by decide, rfl, rfl, rfl, Or.inl (gj_w_in 119 (by decide +kernel) (by decide +kernel))⟩
theorem f_X2_13 : gj_Fk RX2 13 2 1 (.int) false := ⟨RX2, TX2, 4, tyX2, rfl, gl_inX2, tyX2_ok, nmX2, by decide, rfl, rfl, rfl, Or.inl (gj_w_in 122 (by decide +kernel) (by decide +kernel))⟩
theorem f_X2_16 : gj_Fk RX2 16 2 2 (.int) false := ⟨RX2, TX2, 4, tyX2, rfl, gl_inX2, tyX2_ok, nmX2, by decide, rfl, rfl, rfl, Or.inl (gj_w_in 123 (by decide +kernel) (by decide +kernel))⟩
theorem f_X2_25 : gj_Fk RX2 25 2 3 (.int) false := ⟨RX2, TX2, 4, tyX2, rfl, gl_inX2, tyX2_ok, nmX2, by decide, rfl, rfl, rfl, Or.inl (gj_w_in 126 (by decide +kernel) (by decide +kernel))⟩
theorem f_X3_11 : gj_Fk RX3 11 3 0 (.array (.object "GatedWorks$Floor")) true := ⟨RX3, TX3, 3, tyX3, rfl, gl_inX3, tyX3_ok, nmX3, by decide, rfl, rfl, rfl, Or.inl (gj_w_in 324 (by decide +kernel) (by decide +kernel))⟩
theorem f_X3_18 : gj_Fk RX3 18 3 1 (.int) false := ⟨RX3, TX3, 3, tyX3, rfl, gl_inX3, tyX3_ok, nmX3, by decide, rfl, rfl, rfl, Or.inl (gj_w_in 325 (by decide +kernel) (by decide +kernel))⟩
theorem f_X3_26 : gj_Fk RX3 26 3 2 (.int) false := ⟨RX3, TX3, 3, tyX3, rfl, gl_inX3, tyX3_ok, nmX3, by decide, rfl, rfl, rfl, Or.inl (gj_w_in 326 (by decide +kernel) (by decide +kernel))⟩
theorem f_X4_11 : gj_Fk RX4 11 4 0 (.array (.object "GatedWorks$Row")) true := ⟨RX4, TX4, 1, tyX4, rfl, gl_inX4, tyX4_ok, nmX4, by decide, rfl, rfl, rfl, Or.inl (gj_w_in 366 (by decide +kernel) (by decide +kernel))⟩
theorem f_X4_18 : gj_Fk RX4 18 1 0 (.array (.object "GatedWorks$Buffer")) true := ⟨RX1, TX1, 9, tyX1, rfl, gl_inX1, tyX1_ok, nmX1, by decide, rfl, rfl, rfl, Or.inr ⟨"GatedWorks", gj_nw_in 279 (by decide +kernel) (by decide +kernel)⟩⟩
theorem f_X4_24 : gj_Fk RX4 24 0 1 (.object "GatedWorks$Row") true := ⟨RX0, TX0, 9, tyX0, rfl, gl_inX0, tyX0_ok, nmX0, by decide, rfl, rfl, rfl, Or.inr ⟨"GatedWorks", gj_nw_in 150 (by decide +kernel) (by decide +kernel)⟩⟩
theorem f_X5_9 : gj_Fk RX5 9 5 0 (.array .int) true := ⟨RX5, TX5, 2, tyX5, rfl, gl_inX5, tyX5_ok, nmX5, by decide, rfl, rfl, rfl, Or.inl (gj_w_in 102 (by decide +kernel) (by decide +kernel))⟩
theorem f_X5_15 : gj_Fk RX5 15 5 1 (.int) false := ⟨RX5, TX5, 2, tyX5, rfl, gl_inX5, tyX5_ok, nmX5, by decide, rfl, rfl, rfl, Or.inl (gj_w_in 103 (by decide +kernel) (by decide +kernel))⟩
theorem f_X6_11 : gj_Fk RX6 11 6 0 (.array (.object "GatedWorks$ItemsAhead")) true := ⟨RX6, TX6, 8, tyX6, rfl, gl_inX6, tyX6_ok, nmX6, by decide, rfl, rfl, rfl, Or.inl (gj_w_in 370 (by decide +kernel) (by decide +kernel))⟩
theorem f_X6_17 : gj_Fk RX6 17 6 1 (.array .int) true := ⟨RX6, TX6, 8, tyX6, rfl, gl_inX6, tyX6_ok, nmX6, by decide, rfl, rfl, rfl, Or.inl (gj_w_in 371 (by decide +kernel) (by decide +kernel))⟩
theorem f_X6_21 : gj_Fk RX6 21 6 2 (.object "GatedWorks$Text") true := ⟨RX6, TX6, 8, tyX6, rfl, gl_inX6, tyX6_ok, nmX6, by decide, rfl, rfl, rfl, Or.inl (gj_w_in 372 (by decide +kernel) (by decide +kernel))⟩
theorem f_X6_25 : gj_Fk RX6 25 6 3 (.object "GatedWorks$Floor") true := ⟨RX6, TX6, 8, tyX6, rfl, gl_inX6, tyX6_ok, nmX6, by decide, rfl, rfl, rfl, Or.inl (gj_w_in 373 (by decide +kernel) (by decide +kernel))⟩
theorem f_X6_30 : gj_Fk RX6 30 6 4 (.int) false := ⟨RX6, TX6, 8, tyX6, rfl, gl_inX6, tyX6_ok, nmX6, by decide, rfl, rfl, rfl, Or.inl (gj_w_in 374 (by decide +kernel) (by decide +kernel))⟩
theorem f_X6_34 : gj_Fk RX6 34 6 5 (.int) false := ⟨RX6, TX6, 8, tyX6, rfl, gl_inX6, tyX6_ok, nmX6, by decide, rfl, rfl, rfl, Or.inl (gj_w_in 375 (by decide +kernel) (by decide +kernel))⟩
theorem f_X6_37 : gj_Fk RX6 37 6 6 (.int) false := ⟨RX6, TX6, 8, tyX6, rfl, gl_inX6, tyX6_ok, nmX6, by decide, rfl, rfl, rfl, Or.inl (gj_w_in 376 (by decide +kernel) (by decide +kernel))⟩
theorem f_X6_40 : gj_Fk RX6 40 6 7 (.int) false := ⟨RX6, TX6, 8, tyX6, rfl, gl_inX6, tyX6_ok, nmX6, by decide, rfl, rfl, rfl, Or.inl (gj_w_in 377 (by decide +kernel) (by decide +kernel))⟩
theorem f_X6_46 : gj_Fk RX6 46 8 1 (.int) false := ⟨RX8, TX8, 2, tyX8, rfl, gl_inX8, tyX8_ok, nmX8, by decide, rfl, rfl, rfl, Or.inr ⟨"GatedWorks", gj_nw_in 343 (by decide +kernel) (by decide +kernel)⟩⟩
theorem f_X6_68 : gj_Fk RX6 68 1 4 (.object "GatedWorks$Gate") true := ⟨RX1, TX1, 9, tyX1, rfl, gl_inX1, tyX1_ok, nmX1, by decide, rfl, rfl, rfl, Or.inr ⟨"GatedWorks", gj_nw_in 289 (by decide +kernel) (by decide +kernel)⟩⟩
theorem f_X6_98 : gj_Fk RX6 98 1 0 (.array (.object "GatedWorks$Buffer")) true := ⟨RX1, TX1, 9, tyX1, rfl, gl_inX1, tyX1_ok, nmX1, by decide, rfl, rfl, rfl, Or.inr ⟨"GatedWorks", gj_nw_in 281 (by decide +kernel) (by decide +kernel)⟩⟩
theorem f_X7_9 : gj_Fk RX7 9 7 0 (.int) false := ⟨RX7, TX7, 12, tyX7, rfl, gl_inX7, tyX7_ok, nmX7, by decide, rfl, rfl, rfl, Or.inl (gj_w_in 189 (by decide +kernel) (by decide +kernel))⟩
theorem f_X7_15 : gj_Fk RX7 15 7 1 (.int) false := ⟨RX7, TX7, 12, tyX7, rfl, gl_inX7, tyX7_ok, nmX7, by decide, rfl, rfl, rfl, Or.inl (gj_w_in 191 (by decide +kernel) (by decide +kernel))⟩
theorem f_X7_18 : gj_Fk RX7 18 7 2 (.int) false := ⟨RX7, TX7, 12, tyX7, rfl, gl_inX7, tyX7_ok, nmX7, by decide, rfl, rfl, rfl, Or.inl (gj_w_in 193 (by decide +kernel) (by decide +kernel))⟩
theorem f_X7_21 : gj_Fk RX7 21 7 3 (.int) false := ⟨RX7, TX7, 12, tyX7, rfl, gl_inX7, tyX7_ok, nmX7, by decide, rfl, rfl, rfl, Or.inl (gj_w_in 195 (by decide +kernel) (by decide +kernel))⟩
theorem f_X7_24 : gj_Fk RX7 24 7 4 (.int) false := ⟨RX7, TX7, 12, tyX7, rfl, gl_inX7, tyX7_ok, nmX7, by decide, rfl, rfl, rfl, Or.inl (gj_w_in 196 (by decide +kernel) (by decide +kernel))⟩
theorem f_X7_27 : gj_Fk RX7 27 7 5 (.int) false := ⟨RX7, TX7, 12, tyX7, rfl, gl_inX7, tyX7_ok, nmX7, by decide, rfl, rfl, rfl, Or.inl (gj_w_in 197 (by decide +kernel) (by decide +kernel))⟩
theorem f_X7_33 : gj_Fk RX7 33 7 9 (.int) false := ⟨RX7, TX7, 12, tyX7, rfl, gl_inX7, tyX7_ok, nmX7, by decide, rfl, rfl, rfl, Or.inl (gj_w_in 205 (by decide +kernel) (by decide +kernel))⟩
theorem f_X7_36 : gj_Fk RX7 36 7 10 (.int) false := ⟨RX7, TX7, 12, tyX7, rfl, gl_inX7, tyX7_ok, nmX7, by decide, rfl, rfl, rfl, Or.inl (gj_w_in 207 (by decide +kernel) (by decide +kernel))⟩
theorem f_X7_39 : gj_Fk RX7 39 7 11 (.int) false := ⟨RX7, TX7, 12, tyX7, rfl, gl_inX7, tyX7_ok, nmX7, by decide, rfl, rfl, rfl, Or.inl (gj_w_in 209 (by decide +kernel) (by decide +kernel))⟩
theorem f_X7_42 : gj_Fk RX7 42 7 6 (.int) false := ⟨RX7, TX7, 12, tyX7, rfl, gl_inX7, tyX7_ok, nmX7, by decide, rfl, rfl, rfl, Or.inl (gj_w_in 200 (by decide +kernel) (by decide +kernel))⟩
theorem f_X7_45 : gj_Fk RX7 45 7 7 (.int) false := ⟨RX7, TX7, 12, tyX7, rfl, gl_inX7, tyX7_ok, nmX7, by decide, rfl, rfl, rfl, Or.inl (gj_w_in 202 (by decide +kernel) (by decide +kernel))⟩
theorem f_X7_48 : gj_Fk RX7 48 7 8 (.int) false := ⟨RX7, TX7, 12, tyX7, rfl, gl_inX7, tyX7_ok, nmX7, by decide, rfl, rfl, rfl, Or.inl (gj_w_in 203 (by decide +kernel) (by decide +kernel))⟩
theorem f_X8_9 : gj_Fk RX8 9 8 0 (.array .int) true := ⟨RX8, TX8, 2, tyX8, rfl, gl_inX8, tyX8_ok, nmX8, by decide, rfl, rfl, rfl, Or.inl (gj_w_in 341 (by decide +kernel) (by decide +kernel))⟩
theorem f_X8_15 : gj_Fk RX8 15 8 1 (.int) false := ⟨RX8, TX8, 2, tyX8, rfl, gl_inX8, tyX8_ok, nmX8, by decide, rfl, rfl, rfl, Or.inl (gj_w_in 342 (by decide +kernel) (by decide +kernel))⟩
theorem f_X9_9 : gj_Fk RX9 9 9 1 (.int) false := ⟨RX9, TX9, 4, tyX9, rfl, gl_inX9, tyX9_ok, nmX9, by decide, rfl, rfl, rfl, Or.inl (gj_w_in 242 (by decide +kernel) (by decide +kernel))⟩
theorem f_X9_15 : gj_Fk RX9 15 9 0 (.int) false := ⟨RX9, TX9, 4, tyX9, rfl, gl_inX9, tyX9_ok, nmX9, by decide, rfl, rfl, rfl, Or.inl (gj_w_in 240 (by decide +kernel) (by decide +kernel))⟩
theorem f_X9_18 : gj_Fk RX9 18 9 2 (.int) false := ⟨RX9, TX9, 4, tyX9, rfl, gl_inX9, tyX9_ok, nmX9, by decide, rfl, rfl, rfl, Or.inl (gj_w_in 244 (by decide +kernel) (by decide +kernel))⟩
theorem f_X9_25 : gj_Fk RX9 25 9 3 (.int) false := ⟨RX9, TX9, 4, tyX9, rfl, gl_inX9, tyX9_ok, nmX9, by decide, rfl, rfl, rfl, Or.inl (gj_w_in 246 (by decide +kernel) (by decide +kernel))⟩
theorem f_X11_7 : gj_Fk RX11 7 11 0 (.array .int) true := ⟨RX11, TX11, 17, tyX11, rfl, gl_inX11, tyX11_ok, nmX11, by decide, rfl, rfl, rfl, Or.inl (gj_w_in 903 (by decide +kernel) (by decide +kernel))⟩
theorem f_X11_13 : gj_Fk RX11 13 11 1 (.array .int) true := ⟨RX11, TX11, 17, tyX11, rfl, gl_inX11, tyX11_ok, nmX11, by decide, rfl, rfl, rfl, Or.inl (gj_w_in 904 (by decide +kernel) (by decide +kernel))⟩
theorem f_X11_16 : gj_Fk RX11 16 11 3 (.array .int) true := ⟨RX11, TX11, 17, tyX11, rfl, gl_inX11, tyX11_ok, nmX11, by decide, rfl, rfl, rfl, Or.inl (gj_w_in 906 (by decide +kernel) (by decide +kernel))⟩
theorem f_X11_19 : gj_Fk RX11 19 11 4 (.array .int) true := ⟨RX11, TX11, 17, tyX11, rfl, gl_inX11, tyX11_ok, nmX11, by decide, rfl, rfl, rfl, Or.inl (gj_w_in 907 (by decide +kernel) (by decide +kernel))⟩
theorem f_X11_22 : gj_Fk RX11 22 11 5 (.array .int) true := ⟨RX11, TX11, 17, tyX11, rfl, gl_inX11, tyX11_ok, nmX11, by decide, rfl, rfl, rfl, Or.inl (gj_w_in 908 (by decide +kernel) (by decide +kernel))⟩
theorem f_X11_25 : gj_Fk RX11 25 11 10 (.array .int) true := ⟨RX11, TX11, 17, tyX11, rfl, gl_inX11, tyX11_ok, nmX11, by decide, rfl, rfl, rfl, Or.inl (gj_w_in 913 (by decide +kernel) (by decide +kernel))⟩
theorem f_X11_28 : gj_Fk RX11 28 11 11 (.array .int) true := ⟨RX11, TX11, 17, tyX11, rfl, gl_inX11, tyX11_ok, nmX11, by decide, rfl, rfl, rfl, Or.inl (gj_w_in 914 (by decide +kernel) (by decide +kernel))⟩
theorem f_X11_31 : gj_Fk RX11 31 11 12 (.array .int) true := ⟨RX11, TX11, 17, tyX11, rfl, gl_inX11, tyX11_ok, nmX11, by decide, rfl, rfl, rfl, Or.inl (gj_w_in 915 (by decide +kernel) (by decide +kernel))⟩
theorem f_X11_34 : gj_Fk RX11 34 11 13 (.array .int) true := ⟨RX11, TX11, 17, tyX11, rfl, gl_inX11, tyX11_ok, nmX11, by decide, rfl, rfl, rfl, Or.inl (gj_w_in 916 (by decide +kernel) (by decide +kernel))⟩
theorem f_X11_37 : gj_Fk RX11 37 11 14 (.array .int) true := ⟨RX11, TX11, 17, tyX11, rfl, gl_inX11, tyX11_ok, nmX11, by decide, rfl, rfl, rfl, Or.inl (gj_w_in 917 (by decide +kernel) (by decide +kernel))⟩
theorem f_X11_40 : gj_Fk RX11 40 11 15 (.array .int) true := ⟨RX11, TX11, 17, tyX11, rfl, gl_inX11, tyX11_ok, nmX11, by decide, rfl, rfl, rfl, Or.inl (gj_w_in 918 (by decide +kernel) (by decide +kernel))⟩
theorem f_X11_43 : gj_Fk RX11 43 11 16 (.array .int) true := ⟨RX11, TX11, 17, tyX11, rfl, gl_inX11, tyX11_ok, nmX11, by decide, rfl, rfl, rfl, Or.inl (gj_w_in 919 (by decide +kernel) (by decide +kernel))⟩
theorem f_X11_61 : gj_Fk RX11 61 11 2 (.int) false := ⟨RX11, TX11, 17, tyX11, rfl, gl_inX11, tyX11_ok, nmX11, by decide, rfl, rfl, rfl, Or.inl (gj_w_in 905 (by decide +kernel) (by decide +kernel))⟩
theorem f_X11_189 : gj_Fk RX11 189 11 6 (.int) false := ⟨RX11, TX11, 17, tyX11, rfl, gl_inX11, tyX11_ok, nmX11, by decide, rfl, rfl, rfl, Or.inl (gj_w_in 909 (by decide +kernel) (by decide +kernel))⟩
theorem f_X11_192 : gj_Fk RX11 192 11 7 (.int) false := ⟨RX11, TX11, 17, tyX11, rfl, gl_inX11, tyX11_ok, nmX11, by decide, rfl, rfl, rfl, Or.inl (gj_w_in 910 (by decide +kernel) (by decide +kernel))⟩
theorem f_X11_195 : gj_Fk RX11 195 11 8 (.boolean) false := ⟨RX11, TX11, 17, tyX11, rfl, gl_inX11, tyX11_ok, nmX11, by decide, rfl, rfl, rfl, Or.inl (gj_w_in 911 (by decide +kernel) (by decide +kernel))⟩
theorem f_X11_202 : gj_Fk RX11 202 11 9 (.int) false := ⟨RX11, TX11, 17, tyX11, rfl, gl_inX11, tyX11_ok, nmX11, by decide, rfl, rfl, rfl, Or.inl (gj_w_in 912 (by decide +kernel) (by decide +kernel))⟩
theorem k_X10_1 : gj_Oi RX10 1 := ⟨gj_w_in 81 (by decide +kernel) (by decide +kernel), gj_w_in 82 (by decide +kernel) (by decide +kernel), gj_w_in 83 (by decide +kernel) (by decide +kernel)⟩
theorem k_X10_9 : gj_CkI RX10 9 m_X1_init 0 := ⟨⟨Or.inl (gj_w_in 86 (by decide +kernel) (by decide +kernel)), gl_c_X1_init, gl_i_X1, ⟨by decide +kernel, by decide +kernel⟩, by decide +kernel, by decide⟩, rfl, gj_w_in 87 (by decide +kernel) (by decide +kernel), rfl⟩
theorem k_X10_18 : gj_CkI RX10 18 m_X3_init 0 := ⟨⟨Or.inl (gj_w_in 317 (by decide +kernel) (by decide +kernel)), gl_c_X3_init, gl_i_X3, ⟨by decide +kernel, by decide +kernel⟩, by decide +kernel, by decide⟩, rfl, gj_w_in 318 (by decide +kernel) (by decide +kernel), rfl⟩
theorem k_X10_25 : gj_CkI RX10 25 m_X8_init 0 := ⟨⟨Or.inr ⟨"GatedWorks", gj_nw_in 337 (by decide +kernel) (by decide +kernel)⟩, gl_c_X8_init, gl_i_X8, ⟨by decide +kernel, by decide +kernel⟩, by decide +kernel, by decide⟩, rfl, gj_w_in 338 (by decide +kernel) (by decide +kernel), rfl⟩
theorem k_X10_32 : gj_CkI RX10 32 m_X6_init 2 := ⟨⟨Or.inl (gj_w_in 352 (by decide +kernel) (by decide +kernel)), gl_c_X6_init, gl_i_X6, ⟨by decide +kernel, by decide +kernel⟩, by decide +kernel, by decide⟩, rfl, gj_w_in 353 (by decide +kernel) (by decide +kernel), rfl⟩
theorem k_X10_41 : gj_CkI RX10 41 m_X4_init 0 := ⟨⟨Or.inl (gj_w_in 396 (by decide +kernel) (by decide +kernel)), gl_c_X4_init, gl_i_X4, ⟨by decide +kernel, by decide +kernel⟩, by decide +kernel, by decide⟩, rfl, gj_w_in 360 (by decide +kernel) (by decide +kernel), rfl⟩
theorem k_X10_46 : gj_CkS RX10 46 m_X10_within 3 := ⟨⟨Or.inl (gj_w_in 426 (by decide +kernel) (by decide +kernel)), gl_c_X10_within, gl_i_X10, ⟨by decide +kernel, by decide +kernel⟩, by decide +kernel, by decide⟩, gj_w_in 427 (by decide +kernel) (by decide +kernel)⟩
theorem k_X10_135 : gj_CkS RX10 135 m_X10_isWorker 1 := ⟨⟨Or.inl (gj_w_in 648 (by decide +kernel) (by decide +kernel)), gl_c_X10_isWorker, gl_i_X10, ⟨by decide +kernel, by decide +kernel⟩, by decide +kernel, by decide⟩, gj_w_in 649 (by decide +kernel) (by decide +kernel)⟩
theorem k_X10_231 : gj_CkS RX10 231 m_X10_mixed 2 := ⟨⟨Or.inl (gj_w_in 871 (by decide +kernel) (by decide +kernel)), gl_c_X10_mixed, gl_i_X10, ⟨by decide +kernel, by decide +kernel⟩, by decide +kernel, by decide⟩, gj_w_in 872 (by decide +kernel) (by decide +kernel)⟩
theorem k_X10_235 : gj_CkS RX10 235 m_X10_mixedBuffer 2 := ⟨⟨Or.inl (gj_w_in 875 (by decide +kernel) (by decide +kernel)), gl_c_X10_mixedBuffer, gl_i_X10, ⟨by decide +kernel, by decide +kernel⟩, by decide +kernel, by decide⟩, gj_w_in 876 (by decide +kernel) (by decide +kernel)⟩
theorem k_X10_239 : gj_CkS RX10 239 m_X10_mixedStation 2 := ⟨⟨Or.inl (gj_w_in 881 (by decide +kernel) (by decide +kernel)), gl_c_X10_mixedStation, gl_i_X10, ⟨by decide +kernel, by decide +kernel⟩, by decide +kernel, by decide⟩, gj_w_in 882 (by decide +kernel) (by decide +kernel)⟩
theorem k_X10_243 : gj_CkS RX10 243 m_X10_mixedWorker 2 := ⟨⟨Or.inl (gj_w_in 884 (by decide +kernel) (by decide +kernel)), gl_c_X10_mixedWorker, gl_i_X10, ⟨by decide +kernel, by decide +kernel⟩, by decide +kernel, by decide⟩, gj_w_in 885 (by decide +kernel) (by decide +kernel)⟩
theorem k_X10_247 : gj_CkS RX10 247 m_X10_mixedRow 2 := ⟨⟨Or.inl (gj_w_in 878 (by decide +kernel) (by decide +kernel)), gl_c_X10_mixedRow, gl_i_X10, ⟨by decide +kernel, by decide +kernel⟩, by decide +kernel, by decide⟩, gj_w_in 879 (by decide +kernel) (by decide +kernel)⟩
theorem k_X10_50 : gj_CkV RX10 50 m_X10_refuseBad 0 := ⟨⟨Or.inl (gj_w_in 429 (by decide +kernel) (by decide +kernel)), gl_c_X10_refuseBad, gl_i_X10, ⟨by decide +kernel, by decide +kernel⟩, by decide +kernel, by decide⟩, gj_w_in 431 (by decide +kernel) (by decide +kernel), gj_w_in 0 (by decide +kernel) (by decide +kernel)⟩
theorem k_X10_54 : gj_CkV RX10 54 m_X3_keep 1 := ⟨⟨Or.inl (gj_w_in 433 (by decide +kernel) (by decide +kernel)), gl_c_X3_keep, gl_i_X3, ⟨by decide +kernel, by decide +kernel⟩, by decide +kernel, by decide⟩, gj_w_in 434 (by decide +kernel) (by decide +kernel), gj_w_in 435 (by decide +kernel) (by decide +kernel)⟩
theorem k_X10_62 : gj_CkV RX10 62 m_X1_startAnew 1 := ⟨⟨Or.inl (gj_w_in 469 (by decide +kernel) (by decide +kernel)), gl_c_X1_startAnew, gl_i_X1, ⟨by decide +kernel, by decide +kernel⟩, by decide +kernel, by decide⟩, gj_w_in 258 (by decide +kernel) (by decide +kernel), gj_w_in 259 (by decide +kernel) (by decide +kernel)⟩
theorem k_X10_66 : gj_CkV RX10 66 m_X1_hasBuffer 1 := ⟨⟨Or.inl (gj_w_in 474 (by decide +kernel) (by decide +kernel)), gl_c_X1_hasBuffer, gl_i_X1, ⟨by decide +kernel, by decide +kernel⟩, by decide +kernel, by decide⟩, gj_w_in 475 (by decide +kernel) (by decide +kernel), gj_w_in 476 (by decide +kernel) (by decide +kernel)⟩
theorem k_X10_79 : gj_CkV RX10 79 m_X1_serve 0 := ⟨⟨Or.inl (gj_w_in 478 (by decide +kernel) (by decide +kernel)), gl_c_X1_serve, gl_i_X1, ⟨by decide +kernel, by decide +kernel⟩, by decide +kernel, by decide⟩, gj_w_in 479 (by decide +kernel) (by decide +kernel), gj_w_in 480 (by decide +kernel) (by decide +kernel)⟩
theorem k_X10_82 : gj_CkV RX10 82 m_X1_hasBufferOrNone 1 := ⟨⟨Or.inl (gj_w_in 536 (by decide +kernel) (by decide +kernel)), gl_c_X1_hasBufferOrNone, gl_i_X1, ⟨by decide +kernel, by decide +kernel⟩, by decide +kernel, by decide⟩, gj_w_in 537 (by decide +kernel) (by decide +kernel), gj_w_in 538 (by decide +kernel) (by decide +kernel)⟩
theorem k_X10_88 : gj_CkV RX10 88 m_X10_refuseFull 0 := ⟨⟨Or.inl (gj_w_in 541 (by decide +kernel) (by decide +kernel)), gl_c_X10_refuseFull, gl_i_X10, ⟨by decide +kernel, by decide +kernel⟩, by decide +kernel, by decide⟩, gj_w_in 543 (by decide +kernel) (by decide +kernel), gj_w_in 2 (by decide +kernel) (by decide +kernel)⟩
theorem k_X10_95 : gj_CkV RX10 95 m_X7_setUp 5 := ⟨⟨Or.inl (gj_w_in 545 (by decide +kernel) (by decide +kernel)), gl_c_X7_setUp, gl_i_X7, ⟨by decide +kernel, by decide +kernel⟩, by decide +kernel, by decide⟩, gj_w_in 546 (by decide +kernel) (by decide +kernel), gj_w_in 547 (by decide +kernel) (by decide +kernel)⟩
theorem k_X10_101 : gj_CkV RX10 101 m_X1_hasStation 1 := ⟨⟨Or.inl (gj_w_in 557 (by decide +kernel) (by decide +kernel)), gl_c_X1_hasStation, gl_i_X1, ⟨by decide +kernel, by decide +kernel⟩, by decide +kernel, by decide⟩, gj_w_in 558 (by decide +kernel) (by decide +kernel), gj_w_in 559 (by decide +kernel) (by decide +kernel)⟩
theorem k_X10_107 : gj_CkV RX10 107 m_X1_tick 0 := ⟨⟨Or.inl (gj_w_in 565 (by decide +kernel) (by decide +kernel)), gl_c_X1_tick, gl_i_X1, ⟨by decide +kernel, by decide +kernel⟩, by decide +kernel, by decide⟩, gj_w_in 566 (by decide +kernel) (by decide +kernel), gj_w_in 567 (by decide +kernel) (by decide +kernel)⟩
theorem k_X10_110 : gj_CkV RX10 110 m_X0_put 2 := ⟨⟨Or.inl (gj_w_in 614 (by decide +kernel) (by decide +kernel)), gl_c_X0_put, gl_i_X0, ⟨by decide +kernel, by decide +kernel⟩, by decide +kernel, by decide⟩, gj_w_in 495 (by decide +kernel) (by decide +kernel), gj_w_in 496 (by decide +kernel) (by decide +kernel)⟩
theorem k_X10_123 : gj_CkV RX10 123 m_X0_take 1 := ⟨⟨Or.inl (gj_w_in 619 (by decide +kernel) (by decide +kernel)), gl_c_X0_take, gl_i_X0, ⟨by decide +kernel, by decide +kernel⟩, by decide +kernel, by decide⟩, gj_w_in 523 (by decide +kernel) (by decide +kernel), gj_w_in 524 (by decide +kernel) (by decide +kernel)⟩
theorem k_X10_127 : gj_CkV RX10 127 m_X4_keep 1 := ⟨⟨Or.inl (gj_w_in 624 (by decide +kernel) (by decide +kernel)), gl_c_X4_keep, gl_i_X4, ⟨by decide +kernel, by decide +kernel⟩, by decide +kernel, by decide⟩, gj_w_in 625 (by decide +kernel) (by decide +kernel), gj_w_in 626 (by decide +kernel) (by decide +kernel)⟩
theorem k_X10_128 : gj_CkV RX10 128 m_X1_move 3 := ⟨⟨Or.inl (gj_w_in 629 (by decide +kernel) (by decide +kernel)), gl_c_X1_move, gl_i_X1, ⟨by decide +kernel, by decide +kernel⟩, by decide +kernel, by decide⟩, gj_w_in 630 (by decide +kernel) (by decide +kernel), gj_w_in 631 (by decide +kernel) (by decide +kernel)⟩
theorem k_X10_132 : gj_CkV RX10 132 m_X4_giveBack 1 := ⟨⟨Or.inl (gj_w_in 640 (by decide +kernel) (by decide +kernel)), gl_c_X4_giveBack, gl_i_X4, ⟨by decide +kernel, by decide +kernel⟩, by decide +kernel, by decide⟩, gj_w_in 641 (by decide +kernel) (by decide +kernel), gj_w_in 642 (by decide +kernel) (by decide +kernel)⟩
theorem k_X10_142 : gj_CkV RX10 142 m_X9_waits 0 := ⟨⟨Or.inl (gj_w_in 651 (by decide +kernel) (by decide +kernel)), gl_c_X9_waits, gl_i_X9, ⟨by decide +kernel, by decide +kernel⟩, by decide +kernel, by decide⟩, gj_w_in 652 (by decide +kernel) (by decide +kernel), gj_w_in 653 (by decide +kernel) (by decide +kernel)⟩
theorem k_X10_148 : gj_CkV RX10 148 m_X10_refuseNo 0 := ⟨⟨Or.inl (gj_w_in 655 (by decide +kernel) (by decide +kernel)), gl_c_X10_refuseNo, gl_i_X10, ⟨by decide +kernel, by decide +kernel⟩, by decide +kernel, by decide⟩, gj_w_in 657 (by decide +kernel) (by decide +kernel), gj_w_in 7 (by decide +kernel) (by decide +kernel)⟩
theorem k_X10_151 : gj_CkV RX10 151 m_X9_wishFor 3 := ⟨⟨Or.inl (gj_w_in 659 (by decide +kernel) (by decide +kernel)), gl_c_X9_wishFor, gl_i_X9, ⟨by decide +kernel, by decide +kernel⟩, by decide +kernel, by decide⟩, gj_w_in 660 (by decide +kernel) (by decide +kernel), gj_w_in 661 (by decide +kernel) (by decide +kernel)⟩
theorem k_X10_155 : gj_CkV RX10 155 m_X1_tryWish 1 := ⟨⟨Or.inl (gj_w_in 663 (by decide +kernel) (by decide +kernel)), gl_c_X1_tryWish, gl_i_X1, ⟨by decide +kernel, by decide +kernel⟩, by decide +kernel, by decide⟩, gj_w_in 491 (by decide +kernel) (by decide +kernel), gj_w_in 492 (by decide +kernel) (by decide +kernel)⟩
theorem k_X10_161 : gj_CkV RX10 161 m_X5_addLast 1 := ⟨⟨Or.inl (gj_w_in 664 (by decide +kernel) (by decide +kernel)), gl_c_X5_addLast, gl_i_X5, ⟨by decide +kernel, by decide +kernel⟩, by decide +kernel, by decide⟩, gj_w_in 514 (by decide +kernel) (by decide +kernel), gj_w_in 515 (by decide +kernel) (by decide +kernel)⟩
theorem k_X10_164 : gj_CkV RX10 164 m_X9_wishNoMore 0 := ⟨⟨Or.inl (gj_w_in 669 (by decide +kernel) (by decide +kernel)), gl_c_X9_wishNoMore, gl_i_X9, ⟨by decide +kernel, by decide +kernel⟩, by decide +kernel, by decide⟩, gj_w_in 274 (by decide +kernel) (by decide +kernel), gj_w_in 275 (by decide +kernel) (by decide +kernel)⟩
theorem k_X10_167 : gj_CkV RX10 167 m_X5_placeOf 1 := ⟨⟨Or.inl (gj_w_in 670 (by decide +kernel) (by decide +kernel)), gl_c_X5_placeOf, gl_i_X5, ⟨by decide +kernel, by decide +kernel⟩, by decide +kernel, by decide⟩, gj_w_in 671 (by decide +kernel) (by decide +kernel), gj_w_in 672 (by decide +kernel) (by decide +kernel)⟩
theorem k_X10_170 : gj_CkV RX10 170 m_X5_removeAt 1 := ⟨⟨Or.inl (gj_w_in 674 (by decide +kernel) (by decide +kernel)), gl_c_X5_removeAt, gl_i_X5, ⟨by decide +kernel, by decide +kernel⟩, by decide +kernel, by decide⟩, gj_w_in 527 (by decide +kernel) (by decide +kernel), gj_w_in 528 (by decide +kernel) (by decide +kernel)⟩
theorem k_X10_173 : gj_CkV RX10 173 m_X1_queuedAt 1 := ⟨⟨Or.inl (gj_w_in 679 (by decide +kernel) (by decide +kernel)), gl_c_X1_queuedAt, gl_i_X1, ⟨by decide +kernel, by decide +kernel⟩, by decide +kernel, by decide⟩, gj_w_in 680 (by decide +kernel) (by decide +kernel), gj_w_in 681 (by decide +kernel) (by decide +kernel)⟩
theorem k_X10_176 : gj_CkV RX10 176 m_X0_keepFor 1 := ⟨⟨Or.inl (gj_w_in 684 (by decide +kernel) (by decide +kernel)), gl_c_X0_keepFor, gl_i_X0, ⟨by decide +kernel, by decide +kernel⟩, by decide +kernel, by decide⟩, gj_w_in 685 (by decide +kernel) (by decide +kernel), gj_w_in 686 (by decide +kernel) (by decide +kernel)⟩
theorem k_X10_182 : gj_CkV RX10 182 m_X0_letGo 0 := ⟨⟨Or.inl (gj_w_in 692 (by decide +kernel) (by decide +kernel)), gl_c_X0_letGo, gl_i_X0, ⟨by decide +kernel, by decide +kernel⟩, by decide +kernel, by decide⟩, gj_w_in 693 (by decide +kernel) (by decide +kernel), gj_w_in 694 (by decide +kernel) (by decide +kernel)⟩
theorem k_X10_188 : gj_CkV RX10 188 m_X0_keepingTold 1 := ⟨⟨Or.inl (gj_w_in 704 (by decide +kernel) (by decide +kernel)), gl_c_X0_keepingTold, gl_i_X0, ⟨by decide +kernel, by decide +kernel⟩, by decide +kernel, by decide⟩, gj_w_in 705 (by decide +kernel) (by decide +kernel), gj_w_in 706 (by decide +kernel) (by decide +kernel)⟩
theorem k_X10_191 : gj_CkV RX10 191 m_X5_at 1 := ⟨⟨Or.inl (gj_w_in 712 (by decide +kernel) (by decide +kernel)), gl_c_X5_at, gl_i_X5, ⟨by decide +kernel, by decide +kernel⟩, by decide +kernel, by decide⟩, gj_w_in 487 (by decide +kernel) (by decide +kernel), gj_w_in 488 (by decide +kernel) (by decide +kernel)⟩
theorem k_X10_194 : gj_CkV RX10 194 m_X1_stuckBits 0 := ⟨⟨Or.inl (gj_w_in 717 (by decide +kernel) (by decide +kernel)), gl_c_X1_stuckBits, gl_i_X1, ⟨by decide +kernel, by decide +kernel⟩, by decide +kernel, by decide⟩, gj_w_in 718 (by decide +kernel) (by decide +kernel), gj_w_in 719 (by decide +kernel) (by decide +kernel)⟩
theorem k_X10_197 : gj_CkV RX10 197 m_X0_bufferTold 1 := ⟨⟨Or.inl (gj_w_in 730 (by decide +kernel) (by decide +kernel)), gl_c_X0_bufferTold, gl_i_X0, ⟨by decide +kernel, by decide +kernel⟩, by decide +kernel, by decide⟩, gj_w_in 731 (by decide +kernel) (by decide +kernel), gj_w_in 732 (by decide +kernel) (by decide +kernel)⟩
theorem k_X10_200 : gj_CkV RX10 200 m_X7_stationTold 1 := ⟨⟨Or.inl (gj_w_in 742 (by decide +kernel) (by decide +kernel)), gl_c_X7_stationTold, gl_i_X7, ⟨by decide +kernel, by decide +kernel⟩, by decide +kernel, by decide⟩, gj_w_in 743 (by decide +kernel) (by decide +kernel), gj_w_in 744 (by decide +kernel) (by decide +kernel)⟩
theorem k_X10_203 : gj_CkV RX10 203 m_X9_workerTold 1 := ⟨⟨Or.inl (gj_w_in 750 (by decide +kernel) (by decide +kernel)), gl_c_X9_workerTold, gl_i_X9, ⟨by decide +kernel, by decide +kernel⟩, by decide +kernel, by decide⟩, gj_w_in 751 (by decide +kernel) (by decide +kernel), gj_w_in 752 (by decide +kernel) (by decide +kernel)⟩
theorem k_X10_206 : gj_CkV RX10 206 m_X1_worksTold 1 := ⟨⟨Or.inl (gj_w_in 763 (by decide +kernel) (by decide +kernel)), gl_c_X1_worksTold, gl_i_X1, ⟨by decide +kernel, by decide +kernel⟩, by decide +kernel, by decide⟩, gj_w_in 764 (by decide +kernel) (by decide +kernel), gj_w_in 765 (by decide +kernel) (by decide +kernel)⟩
theorem k_X10_209 : gj_CkV RX10 209 m_X8_isFull 0 := ⟨⟨Or.inl (gj_w_in 779 (by decide +kernel) (by decide +kernel)), gl_c_X8_isFull, gl_i_X8, ⟨by decide +kernel, by decide +kernel⟩, by decide +kernel, by decide⟩, gj_w_in 780 (by decide +kernel) (by decide +kernel), gj_w_in 781 (by decide +kernel) (by decide +kernel)⟩
theorem k_X10_212 : gj_CkV RX10 212 m_X8_add 1 := ⟨⟨Or.inl (gj_w_in 783 (by decide +kernel) (by decide +kernel)), gl_c_X8_add, gl_i_X8, ⟨by decide +kernel, by decide +kernel⟩, by decide +kernel, by decide⟩, gj_w_in 784 (by decide +kernel) (by decide +kernel), gj_w_in 785 (by decide +kernel) (by decide +kernel)⟩
theorem k_X10_218 : gj_CkV RX10 218 m_X8_fault 0 := ⟨⟨Or.inl (gj_w_in 796 (by decide +kernel) (by decide +kernel)), gl_c_X8_fault, gl_i_X8, ⟨by decide +kernel, by decide +kernel⟩, by decide +kernel, by decide⟩, gj_w_in 797 (by decide +kernel) (by decide +kernel), gj_w_in 798 (by decide +kernel) (by decide +kernel)⟩
theorem k_X10_221 : gj_CkV RX10 221 m_X6_run 0 := ⟨⟨Or.inl (gj_w_in 808 (by decide +kernel) (by decide +kernel)), gl_c_X6_run, gl_i_X6, ⟨by decide +kernel, by decide +kernel⟩, by decide +kernel, by decide⟩, gj_w_in 809 (by decide +kernel) (by decide +kernel), gj_w_in 810 (by decide +kernel) (by decide +kernel)⟩
theorem k_X10_225 : gj_CkV RX10 225 m_X3_giveBack 1 := ⟨⟨Or.inl (gj_w_in 854 (by decide +kernel) (by decide +kernel)), gl_c_X3_giveBack, gl_i_X3, ⟨by decide +kernel, by decide +kernel⟩, by decide +kernel, by decide⟩, gj_w_in 855 (by decide +kernel) (by decide +kernel), gj_w_in 856 (by decide +kernel) (by decide +kernel)⟩
theorem k_X10_226 : gj_CkV RX10 226 m_X10_toldOf 1 := ⟨⟨Or.inl (gj_w_in 862 (by decide +kernel) (by decide +kernel)), gl_c_X10_toldOf, gl_i_X10, ⟨by decide +kernel, by decide +kernel⟩, by decide +kernel, by decide⟩, gj_w_in 864 (by decide +kernel) (by decide +kernel), gj_w_in 18 (by decide +kernel) (by decide +kernel)⟩
theorem k_X0_3 : gj_Oi RX0 3 := ⟨gj_w_in 142 (by decide +kernel) (by decide +kernel), gj_w_in 82 (by decide +kernel) (by decide +kernel), gj_w_in 83 (by decide +kernel) (by decide +kernel)⟩
theorem k_X0_11 : gj_CkI RX0 11 m_X2_init 0 := ⟨⟨Or.inr ⟨"GatedWorks", gj_nw_in 144 (by decide +kernel) (by decide +kernel)⟩, gl_c_X2_init, gl_i_X2, ⟨by decide +kernel, by decide +kernel⟩, by decide +kernel, by decide⟩, rfl, gj_w_in 116 (by decide +kernel) (by decide +kernel), rfl⟩
theorem k_X0_20 : gj_CkI RX0 20 m_X5_init 0 := ⟨⟨Or.inr ⟨"GatedWorks", gj_nw_in 146 (by decide +kernel) (by decide +kernel)⟩, gl_c_X5_init, gl_i_X5, ⟨by decide +kernel, by decide +kernel⟩, by decide +kernel, by decide⟩, rfl, gj_w_in 99 (by decide +kernel) (by decide +kernel), rfl⟩
theorem k_X0_55 : gj_Mx RX0 55 := ⟨gj_w_in 517 (by decide +kernel) (by decide +kernel), gj_w_in 503 (by decide +kernel) (by decide +kernel), gj_w_in 75 (by decide +kernel) (by decide +kernel), gj_w_in 504 (by decide +kernel) (by decide +kernel)⟩
theorem k_X0_28 : gj_CkV RX0 28 m_X2_enter 0 := ⟨⟨Or.inl (gj_w_in 498 (by decide +kernel) (by decide +kernel)), gl_c_X2_enter, gl_i_X2, ⟨by decide +kernel, by decide +kernel⟩, by decide +kernel, by decide⟩, gj_w_in 499 (by decide +kernel) (by decide +kernel), gj_w_in 500 (by decide +kernel) (by decide +kernel)⟩
theorem k_X0_38 : gj_CkV RX0 38 m_X0_isKeptByAnother 1 := ⟨⟨Or.inl (gj_w_in 505 (by decide +kernel) (by decide +kernel)), gl_c_X0_isKeptByAnother, gl_i_X0, ⟨by decide +kernel, by decide +kernel⟩, by decide +kernel, by decide⟩, gj_w_in 506 (by decide +kernel) (by decide +kernel), gj_w_in 507 (by decide +kernel) (by decide +kernel)⟩
theorem k_X0_42 : gj_CkV RX0 42 m_X2_leaveThrown 0 := ⟨⟨Or.inl (gj_w_in 509 (by decide +kernel) (by decide +kernel)), gl_c_X2_leaveThrown, gl_i_X2, ⟨by decide +kernel, by decide +kernel⟩, by decide +kernel, by decide⟩, gj_w_in 510 (by decide +kernel) (by decide +kernel), gj_w_in 511 (by decide +kernel) (by decide +kernel)⟩
theorem k_X0_45 : gj_CkV RX0 45 m_X5_addLast 1 := ⟨⟨Or.inl (gj_w_in 513 (by decide +kernel) (by decide +kernel)), gl_c_X5_addLast, gl_i_X5, ⟨by decide +kernel, by decide +kernel⟩, by decide +kernel, by decide⟩, gj_w_in 514 (by decide +kernel) (by decide +kernel), gj_w_in 515 (by decide +kernel) (by decide +kernel)⟩
theorem k_X0_61 : gj_CkV RX0 61 m_X2_leave 0 := ⟨⟨Or.inl (gj_w_in 518 (by decide +kernel) (by decide +kernel)), gl_c_X2_leave, gl_i_X2, ⟨by decide +kernel, by decide +kernel⟩, by decide +kernel, by decide⟩, gj_w_in 519 (by decide +kernel) (by decide +kernel), gj_w_in 520 (by decide +kernel) (by decide +kernel)⟩
theorem k_X0_67 : gj_CkV RX0 67 m_X5_removeAt 1 := ⟨⟨Or.inl (gj_w_in 526 (by decide +kernel) (by decide +kernel)), gl_c_X5_removeAt, gl_i_X5, ⟨by decide +kernel, by decide +kernel⟩, by decide +kernel, by decide⟩, gj_w_in 527 (by decide +kernel) (by decide +kernel), gj_w_in 528 (by decide +kernel) (by decide +kernel)⟩
theorem k_X0_86 : gj_CkV RX0 86 m_X2_startAnew 0 := ⟨⟨Or.inl (gj_w_in 265 (by decide +kernel) (by decide +kernel)), gl_c_X2_startAnew, gl_i_X2, ⟨by decide +kernel, by decide +kernel⟩, by decide +kernel, by decide⟩, gj_w_in 266 (by decide +kernel) (by decide +kernel), gj_w_in 267 (by decide +kernel) (by decide +kernel)⟩
theorem k_X0_89 : gj_CkV RX0 89 m_X2_copyFrom 1 := ⟨⟨Or.inl (gj_w_in 445 (by decide +kernel) (by decide +kernel)), gl_c_X2_copyFrom, gl_i_X2, ⟨by decide +kernel, by decide +kernel⟩, by decide +kernel, by decide⟩, gj_w_in 446 (by decide +kernel) (by decide +kernel), gj_w_in 447 (by decide +kernel) (by decide +kernel)⟩
theorem k_X0_93 : gj_CkV RX0 93 m_X5_copyFrom 1 := ⟨⟨Or.inl (gj_w_in 449 (by decide +kernel) (by decide +kernel)), gl_c_X5_copyFrom, gl_i_X5, ⟨by decide +kernel, by decide +kernel⟩, by decide +kernel, by decide⟩, gj_w_in 450 (by decide +kernel) (by decide +kernel), gj_w_in 451 (by decide +kernel) (by decide +kernel)⟩
theorem k_X1_3 : gj_Oi RX1 3 := ⟨gj_w_in 89 (by decide +kernel) (by decide +kernel), gj_w_in 82 (by decide +kernel) (by decide +kernel), gj_w_in 83 (by decide +kernel) (by decide +kernel)⟩
theorem k_X1_31 : gj_CkI RX1 31 m_X5_init 0 := ⟨⟨Or.inr ⟨"GatedWorks", gj_nw_in 98 (by decide +kernel) (by decide +kernel)⟩, gl_c_X5_init, gl_i_X5, ⟨by decide +kernel, by decide +kernel⟩, by decide +kernel, by decide⟩, rfl, gj_w_in 99 (by decide +kernel) (by decide +kernel), rfl⟩
theorem k_X1_38 : gj_CkI RX1 38 m_X2_init 0 := ⟨⟨Or.inr ⟨"GatedWorks", gj_nw_in 115 (by decide +kernel) (by decide +kernel)⟩, gl_c_X2_init, gl_i_X2, ⟨by decide +kernel, by decide +kernel⟩, by decide +kernel, by decide⟩, rfl, gj_w_in 116 (by decide +kernel) (by decide +kernel), rfl⟩
theorem k_X1_43 : gj_CkI RX1 43 m_X0_init 0 := ⟨⟨Or.inr ⟨"GatedWorks", gj_nw_in 139 (by decide +kernel) (by decide +kernel)⟩, gl_c_X0_init, gl_i_X0, ⟨by decide +kernel, by decide +kernel⟩, by decide +kernel, by decide⟩, rfl, gj_w_in 140 (by decide +kernel) (by decide +kernel), rfl⟩
theorem k_X1_44 : gj_CkI RX1 44 m_X7_init 0 := ⟨⟨Or.inr ⟨"GatedWorks", gj_nw_in 185 (by decide +kernel) (by decide +kernel)⟩, gl_c_X7_init, gl_i_X7, ⟨by decide +kernel, by decide +kernel⟩, by decide +kernel, by decide⟩, rfl, gj_w_in 186 (by decide +kernel) (by decide +kernel), rfl⟩
theorem k_X1_45 : gj_CkI RX1 45 m_X9_init 0 := ⟨⟨Or.inr ⟨"GatedWorks", gj_nw_in 236 (by decide +kernel) (by decide +kernel)⟩, gl_c_X9_init, gl_i_X9, ⟨by decide +kernel, by decide +kernel⟩, by decide +kernel, by decide⟩, rfl, gj_w_in 237 (by decide +kernel) (by decide +kernel), rfl⟩
theorem k_X1_74 : gj_Mn RX1 74 := ⟨gj_w_in 590 (by decide +kernel) (by decide +kernel), gj_w_in 467 (by decide +kernel) (by decide +kernel), gj_w_in 75 (by decide +kernel) (by decide +kernel), gj_w_in 468 (by decide +kernel) (by decide +kernel)⟩
theorem k_X1_83 : gj_Mx RX1 83 := ⟨gj_w_in 591 (by decide +kernel) (by decide +kernel), gj_w_in 503 (by decide +kernel) (by decide +kernel), gj_w_in 75 (by decide +kernel) (by decide +kernel), gj_w_in 504 (by decide +kernel) (by decide +kernel)⟩
theorem k_X1_89 : gj_CkS RX1 89 m_X1_moveOne 2 := ⟨⟨Or.inl (gj_w_in 633 (by decide +kernel) (by decide +kernel)), gl_c_X1_moveOne, gl_i_X1, ⟨by decide +kernel, by decide +kernel⟩, by decide +kernel, by decide⟩, gj_w_in 634 (by decide +kernel) (by decide +kernel)⟩
theorem k_X1_93 : gj_CkS RX1 93 m_X1_leaveBoth 3 := ⟨⟨Or.inl (gj_w_in 601 (by decide +kernel) (by decide +kernel)), gl_c_X1_leaveBoth, gl_i_X1, ⟨by decide +kernel, by decide +kernel⟩, by decide +kernel, by decide⟩, gj_w_in 602 (by decide +kernel) (by decide +kernel)⟩
theorem k_X1_46 : gj_CkV RX1 46 m_X1_startAnew 1 := ⟨⟨Or.inl (gj_w_in 257 (by decide +kernel) (by decide +kernel)), gl_c_X1_startAnew, gl_i_X1, ⟨by decide +kernel, by decide +kernel⟩, by decide +kernel, by decide⟩, gj_w_in 258 (by decide +kernel) (by decide +kernel), gj_w_in 259 (by decide +kernel) (by decide +kernel)⟩
theorem k_X1_50 : gj_CkV RX1 50 m_X0_startAnew 0 := ⟨⟨Or.inl (gj_w_in 261 (by decide +kernel) (by decide +kernel)), gl_c_X0_startAnew, gl_i_X0, ⟨by decide +kernel, by decide +kernel⟩, by decide +kernel, by decide⟩, gj_w_in 262 (by decide +kernel) (by decide +kernel), gj_w_in 263 (by decide +kernel) (by decide +kernel)⟩
theorem k_X1_52 : gj_CkV RX1 52 m_X9_startAnew 0 := ⟨⟨Or.inl (gj_w_in 269 (by decide +kernel) (by decide +kernel)), gl_c_X9_startAnew, gl_i_X9, ⟨by decide +kernel, by decide +kernel⟩, by decide +kernel, by decide⟩, gj_w_in 270 (by decide +kernel) (by decide +kernel), gj_w_in 271 (by decide +kernel) (by decide +kernel)⟩
theorem k_X1_57 : gj_CkV RX1 57 m_X2_startAnew 0 := ⟨⟨Or.inl (gj_w_in 277 (by decide +kernel) (by decide +kernel)), gl_c_X2_startAnew, gl_i_X2, ⟨by decide +kernel, by decide +kernel⟩, by decide +kernel, by decide⟩, gj_w_in 266 (by decide +kernel) (by decide +kernel), gj_w_in 267 (by decide +kernel) (by decide +kernel)⟩
theorem k_X1_70 : gj_CkV RX1 70 m_X1_hasBuffer 1 := ⟨⟨Or.inl (gj_w_in 540 (by decide +kernel) (by decide +kernel)), gl_c_X1_hasBuffer, gl_i_X1, ⟨by decide +kernel, by decide +kernel⟩, by decide +kernel, by decide⟩, gj_w_in 475 (by decide +kernel) (by decide +kernel), gj_w_in 476 (by decide +kernel) (by decide +kernel)⟩
theorem k_X1_86 : gj_CkV RX1 86 m_X2_enter 0 := ⟨⟨Or.inl (gj_w_in 592 (by decide +kernel) (by decide +kernel)), gl_c_X2_enter, gl_i_X2, ⟨by decide +kernel, by decide +kernel⟩, by decide +kernel, by decide⟩, gj_w_in 499 (by decide +kernel) (by decide +kernel), gj_w_in 500 (by decide +kernel) (by decide +kernel)⟩
theorem k_X1_97 : gj_CkV RX1 97 m_X0_take 1 := ⟨⟨Or.inl (gj_w_in 522 (by decide +kernel) (by decide +kernel)), gl_c_X0_take, gl_i_X0, ⟨by decide +kernel, by decide +kernel⟩, by decide +kernel, by decide⟩, gj_w_in 523 (by decide +kernel) (by decide +kernel), gj_w_in 524 (by decide +kernel) (by decide +kernel)⟩
theorem k_X1_101 : gj_CkV RX1 101 m_X0_put 2 := ⟨⟨Or.inl (gj_w_in 494 (by decide +kernel) (by decide +kernel)), gl_c_X0_put, gl_i_X0, ⟨by decide +kernel, by decide +kernel⟩, by decide +kernel, by decide⟩, gj_w_in 495 (by decide +kernel) (by decide +kernel), gj_w_in 496 (by decide +kernel) (by decide +kernel)⟩
theorem k_X1_108 : gj_CkV RX1 108 m_X5_addFirst 1 := ⟨⟨Or.inl (gj_w_in 636 (by decide +kernel) (by decide +kernel)), gl_c_X5_addFirst, gl_i_X5, ⟨by decide +kernel, by decide +kernel⟩, by decide +kernel, by decide⟩, gj_w_in 637 (by decide +kernel) (by decide +kernel), gj_w_in 638 (by decide +kernel) (by decide +kernel)⟩
theorem k_X1_111 : gj_CkV RX1 111 m_X2_leaveThrown 0 := ⟨⟨Or.inl (gj_w_in 604 (by decide +kernel) (by decide +kernel)), gl_c_X2_leaveThrown, gl_i_X2, ⟨by decide +kernel, by decide +kernel⟩, by decide +kernel, by decide⟩, gj_w_in 510 (by decide +kernel) (by decide +kernel), gj_w_in 511 (by decide +kernel) (by decide +kernel)⟩
theorem k_X1_114 : gj_CkV RX1 114 m_X2_leave 0 := ⟨⟨Or.inl (gj_w_in 605 (by decide +kernel) (by decide +kernel)), gl_c_X2_leave, gl_i_X2, ⟨by decide +kernel, by decide +kernel⟩, by decide +kernel, by decide⟩, gj_w_in 519 (by decide +kernel) (by decide +kernel), gj_w_in 520 (by decide +kernel) (by decide +kernel)⟩
theorem k_X1_117 : gj_CkV RX1 117 m_X1_tickStation 1 := ⟨⟨Or.inl (gj_w_in 569 (by decide +kernel) (by decide +kernel)), gl_c_X1_tickStation, gl_i_X1, ⟨by decide +kernel, by decide +kernel⟩, by decide +kernel, by decide⟩, gj_w_in 571 (by decide +kernel) (by decide +kernel), gj_w_in 3 (by decide +kernel) (by decide +kernel)⟩
theorem k_X1_124 : gj_CkV RX1 124 m_X1_work 1 := ⟨⟨Or.inl (gj_w_in 573 (by decide +kernel) (by decide +kernel)), gl_c_X1_work, gl_i_X1, ⟨by decide +kernel, by decide +kernel⟩, by decide +kernel, by decide⟩, gj_w_in 575 (by decide +kernel) (by decide +kernel), gj_w_in 4 (by decide +kernel) (by decide +kernel)⟩
theorem k_X1_127 : gj_CkV RX1 127 m_X7_workOn 0 := ⟨⟨Or.inl (gj_w_in 577 (by decide +kernel) (by decide +kernel)), gl_c_X7_workOn, gl_i_X7, ⟨by decide +kernel, by decide +kernel⟩, by decide +kernel, by decide⟩, gj_w_in 578 (by decide +kernel) (by decide +kernel), gj_w_in 579 (by decide +kernel) (by decide +kernel)⟩
theorem k_X1_133 : gj_CkV RX1 133 m_X1_deliver 1 := ⟨⟨Or.inl (gj_w_in 581 (by decide +kernel) (by decide +kernel)), gl_c_X1_deliver, gl_i_X1, ⟨by decide +kernel, by decide +kernel⟩, by decide +kernel, by decide⟩, gj_w_in 583 (by decide +kernel) (by decide +kernel), gj_w_in 5 (by decide +kernel) (by decide +kernel)⟩
theorem k_X1_142 : gj_CkV RX1 142 m_X1_takePair 2 := ⟨⟨Or.inl (gj_w_in 586 (by decide +kernel) (by decide +kernel)), gl_c_X1_takePair, gl_i_X1, ⟨by decide +kernel, by decide +kernel⟩, by decide +kernel, by decide⟩, gj_w_in 588 (by decide +kernel) (by decide +kernel), gj_w_in 6 (by decide +kernel) (by decide +kernel)⟩
theorem k_X1_145 : gj_CkV RX1 145 m_X7_load 1 := ⟨⟨Or.inl (gj_w_in 606 (by decide +kernel) (by decide +kernel)), gl_c_X7_load, gl_i_X7, ⟨by decide +kernel, by decide +kernel⟩, by decide +kernel, by decide⟩, gj_w_in 607 (by decide +kernel) (by decide +kernel), gj_w_in 608 (by decide +kernel) (by decide +kernel)⟩
theorem k_X1_157 : gj_CkV RX1 157 m_X7_becomeIdle 0 := ⟨⟨Or.inl (gj_w_in 585 (by decide +kernel) (by decide +kernel)), gl_c_X7_becomeIdle, gl_i_X7, ⟨by decide +kernel, by decide +kernel⟩, by decide +kernel, by decide⟩, gj_w_in 550 (by decide +kernel) (by decide +kernel), gj_w_in 551 (by decide +kernel) (by decide +kernel)⟩
theorem k_X1_163 : gj_CkV RX1 163 m_X0_canGive 1 := ⟨⟨Or.inl (gj_w_in 593 (by decide +kernel) (by decide +kernel)), gl_c_X0_canGive, gl_i_X0, ⟨by decide +kernel, by decide +kernel⟩, by decide +kernel, by decide⟩, gj_w_in 594 (by decide +kernel) (by decide +kernel), gj_w_in 595 (by decide +kernel) (by decide +kernel)⟩
theorem k_X1_166 : gj_CkV RX1 166 m_X0_giveFirst 0 := ⟨⟨Or.inl (gj_w_in 597 (by decide +kernel) (by decide +kernel)), gl_c_X0_giveFirst, gl_i_X0, ⟨by decide +kernel, by decide +kernel⟩, by decide +kernel, by decide⟩, gj_w_in 598 (by decide +kernel) (by decide +kernel), gj_w_in 599 (by decide +kernel) (by decide +kernel)⟩
theorem k_X1_180 : gj_CkV RX1 180 m_X9_wishNoMore 0 := ⟨⟨Or.inl (gj_w_in 530 (by decide +kernel) (by decide +kernel)), gl_c_X9_wishNoMore, gl_i_X9, ⟨by decide +kernel, by decide +kernel⟩, by decide +kernel, by decide⟩, gj_w_in 274 (by decide +kernel) (by decide +kernel), gj_w_in 275 (by decide +kernel) (by decide +kernel)⟩
theorem k_X1_183 : gj_CkV RX1 183 m_X1_serveFirst 0 := ⟨⟨Or.inl (gj_w_in 482 (by decide +kernel) (by decide +kernel)), gl_c_X1_serveFirst, gl_i_X1, ⟨by decide +kernel, by decide +kernel⟩, by decide +kernel, by decide⟩, gj_w_in 484 (by decide +kernel) (by decide +kernel), gj_w_in 1 (by decide +kernel) (by decide +kernel)⟩
theorem k_X1_187 : gj_CkV RX1 187 m_X5_at 1 := ⟨⟨Or.inl (gj_w_in 486 (by decide +kernel) (by decide +kernel)), gl_c_X5_at, gl_i_X5, ⟨by decide +kernel, by decide +kernel⟩, by decide +kernel, by decide⟩, gj_w_in 487 (by decide +kernel) (by decide +kernel), gj_w_in 488 (by decide +kernel) (by decide +kernel)⟩
theorem k_X1_190 : gj_CkV RX1 190 m_X1_tryWish 1 := ⟨⟨Or.inl (gj_w_in 490 (by decide +kernel) (by decide +kernel)), gl_c_X1_tryWish, gl_i_X1, ⟨by decide +kernel, by decide +kernel⟩, by decide +kernel, by decide⟩, gj_w_in 491 (by decide +kernel) (by decide +kernel), gj_w_in 492 (by decide +kernel) (by decide +kernel)⟩
theorem k_X1_193 : gj_CkV RX1 193 m_X5_removeAt 1 := ⟨⟨Or.inl (gj_w_in 531 (by decide +kernel) (by decide +kernel)), gl_c_X5_removeAt, gl_i_X5, ⟨by decide +kernel, by decide +kernel⟩, by decide +kernel, by decide⟩, gj_w_in 527 (by decide +kernel) (by decide +kernel), gj_w_in 528 (by decide +kernel) (by decide +kernel)⟩
theorem k_X1_199 : gj_CkV RX1 199 m_X5_placeOf 1 := ⟨⟨Or.inl (gj_w_in 683 (by decide +kernel) (by decide +kernel)), gl_c_X5_placeOf, gl_i_X5, ⟨by decide +kernel, by decide +kernel⟩, by decide +kernel, by decide⟩, gj_w_in 671 (by decide +kernel) (by decide +kernel), gj_w_in 672 (by decide +kernel) (by decide +kernel)⟩
theorem k_X1_202 : gj_CkV RX1 202 m_X1_isStuck 1 := ⟨⟨Or.inl (gj_w_in 721 (by decide +kernel) (by decide +kernel)), gl_c_X1_isStuck, gl_i_X1, ⟨by decide +kernel, by decide +kernel⟩, by decide +kernel, by decide⟩, gj_w_in 723 (by decide +kernel) (by decide +kernel), gj_w_in 8 (by decide +kernel) (by decide +kernel)⟩
theorem k_X1_205 : gj_CkV RX1 205 m_X1_queuedAt 1 := ⟨⟨Or.inl (gj_w_in 725 (by decide +kernel) (by decide +kernel)), gl_c_X1_queuedAt, gl_i_X1, ⟨by decide +kernel, by decide +kernel⟩, by decide +kernel, by decide⟩, gj_w_in 680 (by decide +kernel) (by decide +kernel), gj_w_in 681 (by decide +kernel) (by decide +kernel)⟩
theorem k_X1_220 : gj_CkV RX1 220 m_X1_allItems 0 := ⟨⟨Or.inl (gj_w_in 767 (by decide +kernel) (by decide +kernel)), gl_c_X1_allItems, gl_i_X1, ⟨by decide +kernel, by decide +kernel⟩, by decide +kernel, by decide⟩, gj_w_in 769 (by decide +kernel) (by decide +kernel), gj_w_in 9 (by decide +kernel) (by decide +kernel)⟩
theorem k_X1_223 : gj_CkV RX1 223 m_X1_allEntries 0 := ⟨⟨Or.inl (gj_w_in 771 (by decide +kernel) (by decide +kernel)), gl_c_X1_allEntries, gl_i_X1, ⟨by decide +kernel, by decide +kernel⟩, by decide +kernel, by decide⟩, gj_w_in 773 (by decide +kernel) (by decide +kernel), gj_w_in 10 (by decide +kernel) (by decide +kernel)⟩
theorem k_X1_226 : gj_CkV RX1 226 m_X0_copyFrom 1 := ⟨⟨Or.inl (gj_w_in 441 (by decide +kernel) (by decide +kernel)), gl_c_X0_copyFrom, gl_i_X0, ⟨by decide +kernel, by decide +kernel⟩, by decide +kernel, by decide⟩, gj_w_in 442 (by decide +kernel) (by decide +kernel), gj_w_in 443 (by decide +kernel) (by decide +kernel)⟩
theorem k_X1_230 : gj_CkV RX1 230 m_X7_copyFrom 1 := ⟨⟨Or.inl (gj_w_in 456 (by decide +kernel) (by decide +kernel)), gl_c_X7_copyFrom, gl_i_X7, ⟨by decide +kernel, by decide +kernel⟩, by decide +kernel, by decide⟩, gj_w_in 457 (by decide +kernel) (by decide +kernel), gj_w_in 458 (by decide +kernel) (by decide +kernel)⟩
theorem k_X1_233 : gj_CkV RX1 233 m_X9_copyFrom 1 := ⟨⟨Or.inl (gj_w_in 460 (by decide +kernel) (by decide +kernel)), gl_c_X9_copyFrom, gl_i_X9, ⟨by decide +kernel, by decide +kernel⟩, by decide +kernel, by decide⟩, gj_w_in 461 (by decide +kernel) (by decide +kernel), gj_w_in 462 (by decide +kernel) (by decide +kernel)⟩
theorem k_X1_236 : gj_CkV RX1 236 m_X5_copyFrom 1 := ⟨⟨Or.inl (gj_w_in 464 (by decide +kernel) (by decide +kernel)), gl_c_X5_copyFrom, gl_i_X5, ⟨by decide +kernel, by decide +kernel⟩, by decide +kernel, by decide⟩, gj_w_in 450 (by decide +kernel) (by decide +kernel), gj_w_in 451 (by decide +kernel) (by decide +kernel)⟩
theorem k_X1_239 : gj_CkV RX1 239 m_X2_copyFrom 1 := ⟨⟨Or.inl (gj_w_in 465 (by decide +kernel) (by decide +kernel)), gl_c_X2_copyFrom, gl_i_X2, ⟨by decide +kernel, by decide +kernel⟩, by decide +kernel, by decide⟩, gj_w_in 446 (by decide +kernel) (by decide +kernel), gj_w_in 447 (by decide +kernel) (by decide +kernel)⟩
theorem k_X2_1 : gj_Oi RX2 1 := ⟨gj_w_in 118 (by decide +kernel) (by decide +kernel), gj_w_in 82 (by decide +kernel) (by decide +kernel), gj_w_in 83 (by decide +kernel) (by decide +kernel)⟩
theorem k_X2_19 : gj_Mx RX2 19 := ⟨gj_w_in 502 (by decide +kernel) (by decide +kernel), gj_w_in 503 (by decide +kernel) (by decide +kernel), gj_w_in 75 (by decide +kernel) (by decide +kernel), gj_w_in 504 (by decide +kernel) (by decide +kernel)⟩
theorem k_X3_3 : gj_Oi RX3 3 := ⟨gj_w_in 320 (by decide +kernel) (by decide +kernel), gj_w_in 82 (by decide +kernel) (by decide +kernel), gj_w_in 83 (by decide +kernel) (by decide +kernel)⟩
theorem k_X3_17 : gj_CkI RX3 17 m_X1_init 0 := ⟨⟨Or.inl (gj_w_in 323 (by decide +kernel) (by decide +kernel)), gl_c_X1_init, gl_i_X1, ⟨by decide +kernel, by decide +kernel⟩, by decide +kernel, by decide⟩, rfl, gj_w_in 87 (by decide +kernel) (by decide +kernel), rfl⟩
theorem k_X3_29 : gj_Mn RX3 29 := ⟨gj_w_in 466 (by decide +kernel) (by decide +kernel), gj_w_in 467 (by decide +kernel) (by decide +kernel), gj_w_in 75 (by decide +kernel) (by decide +kernel), gj_w_in 468 (by decide +kernel) (by decide +kernel)⟩
theorem k_X3_22 : gj_CkV RX3 22 m_X1_copyFrom 1 := ⟨⟨Or.inl (gj_w_in 437 (by decide +kernel) (by decide +kernel)), gl_c_X1_copyFrom, gl_i_X1, ⟨by decide +kernel, by decide +kernel⟩, by decide +kernel, by decide⟩, gj_w_in 438 (by decide +kernel) (by decide +kernel), gj_w_in 439 (by decide +kernel) (by decide +kernel)⟩
theorem k_X4_3 : gj_Oi RX4 3 := ⟨gj_w_in 362 (by decide +kernel) (by decide +kernel), gj_w_in 82 (by decide +kernel) (by decide +kernel), gj_w_in 83 (by decide +kernel) (by decide +kernel)⟩
theorem k_X4_17 : gj_CkI RX4 17 m_X5_init 0 := ⟨⟨Or.inr ⟨"GatedWorks", gj_nw_in 365 (by decide +kernel) (by decide +kernel)⟩, gl_c_X5_init, gl_i_X5, ⟨by decide +kernel, by decide +kernel⟩, by decide +kernel, by decide⟩, rfl, gj_w_in 99 (by decide +kernel) (by decide +kernel), rfl⟩
theorem k_X4_30 : gj_CkV RX4 30 m_X5_copyFrom 1 := ⟨⟨Or.inl (gj_w_in 628 (by decide +kernel) (by decide +kernel)), gl_c_X5_copyFrom, gl_i_X5, ⟨by decide +kernel, by decide +kernel⟩, by decide +kernel, by decide⟩, gj_w_in 450 (by decide +kernel) (by decide +kernel), gj_w_in 451 (by decide +kernel) (by decide +kernel)⟩
theorem k_X5_3 : gj_Oi RX5 3 := ⟨gj_w_in 101 (by decide +kernel) (by decide +kernel), gj_w_in 82 (by decide +kernel) (by decide +kernel), gj_w_in 83 (by decide +kernel) (by decide +kernel)⟩
theorem k_X5_19 : gj_Ac RX5 19 := ⟨gj_w_in 453 (by decide +kernel) (by decide +kernel), gj_w_in 455 (by decide +kernel) (by decide +kernel), gj_w_in 454 (by decide +kernel) (by decide +kernel), gj_w_in 74 (by decide +kernel) (by decide +kernel)⟩
theorem k_X6_3 : gj_Oi RX6 3 := ⟨gj_w_in 355 (by decide +kernel) (by decide +kernel), gj_w_in 82 (by decide +kernel) (by decide +kernel), gj_w_in 83 (by decide +kernel) (by decide +kernel)⟩
theorem k_X6_29 : gj_CkI RX6 29 m_X4_init 0 := ⟨⟨Or.inl (gj_w_in 359 (by decide +kernel) (by decide +kernel)), gl_c_X4_init, gl_i_X4, ⟨by decide +kernel, by decide +kernel⟩, by decide +kernel, by decide⟩, rfl, gj_w_in 360 (by decide +kernel) (by decide +kernel), rfl⟩
theorem k_X6_43 : gj_CkV RX6 43 m_X6_enterLevel 0 := ⟨⟨Or.inl (gj_w_in 812 (by decide +kernel) (by decide +kernel)), gl_c_X6_enterLevel, gl_i_X6, ⟨by decide +kernel, by decide +kernel⟩, by decide +kernel, by decide⟩, gj_w_in 814 (by decide +kernel) (by decide +kernel), gj_w_in 11 (by decide +kernel) (by decide +kernel)⟩
theorem k_X6_51 : gj_CkV RX6 51 m_X6_nextByte 0 := ⟨⟨Or.inl (gj_w_in 818 (by decide +kernel) (by decide +kernel)), gl_c_X6_nextByte, gl_i_X6, ⟨by decide +kernel, by decide +kernel⟩, by decide +kernel, by decide⟩, gj_w_in 820 (by decide +kernel) (by decide +kernel), gj_w_in 12 (by decide +kernel) (by decide +kernel)⟩
theorem k_X6_55 : gj_CkV RX6 55 m_X6_leaveLevel 0 := ⟨⟨Or.inl (gj_w_in 823 (by decide +kernel) (by decide +kernel)), gl_c_X6_leaveLevel, gl_i_X6, ⟨by decide +kernel, by decide +kernel⟩, by decide +kernel, by decide⟩, gj_w_in 825 (by decide +kernel) (by decide +kernel), gj_w_in 13 (by decide +kernel) (by decide +kernel)⟩
theorem k_X6_58 : gj_CkV RX6 58 m_X6_orderDone 1 := ⟨⟨Or.inl (gj_w_in 828 (by decide +kernel) (by decide +kernel)), gl_c_X6_orderDone, gl_i_X6, ⟨by decide +kernel, by decide +kernel⟩, by decide +kernel, by decide⟩, gj_w_in 830 (by decide +kernel) (by decide +kernel), gj_w_in 14 (by decide +kernel) (by decide +kernel)⟩
theorem k_X6_62 : gj_CkV RX6 62 m_X6_undoLevel 0 := ⟨⟨Or.inl (gj_w_in 840 (by decide +kernel) (by decide +kernel)), gl_c_X6_undoLevel, gl_i_X6, ⟨by decide +kernel, by decide +kernel⟩, by decide +kernel, by decide⟩, gj_w_in 842 (by decide +kernel) (by decide +kernel), gj_w_in 16 (by decide +kernel) (by decide +kernel)⟩
theorem k_X6_65 : gj_CkV RX6 65 m_X6_skipGroup 0 := ⟨⟨Or.inl (gj_w_in 846 (by decide +kernel) (by decide +kernel)), gl_c_X6_skipGroup, gl_i_X6, ⟨by decide +kernel, by decide +kernel⟩, by decide +kernel, by decide⟩, gj_w_in 848 (by decide +kernel) (by decide +kernel), gj_w_in 17 (by decide +kernel) (by decide +kernel)⟩
theorem k_X6_74 : gj_CkV RX6 74 m_X2_enter 0 := ⟨⟨Or.inl (gj_w_in 816 (by decide +kernel) (by decide +kernel)), gl_c_X2_enter, gl_i_X2, ⟨by decide +kernel, by decide +kernel⟩, by decide +kernel, by decide⟩, gj_w_in 499 (by decide +kernel) (by decide +kernel), gj_w_in 500 (by decide +kernel) (by decide +kernel)⟩
theorem k_X6_79 : gj_CkV RX6 79 m_X4_keep 1 := ⟨⟨Or.inl (gj_w_in 817 (by decide +kernel) (by decide +kernel)), gl_c_X4_keep, gl_i_X4, ⟨by decide +kernel, by decide +kernel⟩, by decide +kernel, by decide⟩, gj_w_in 625 (by decide +kernel) (by decide +kernel), gj_w_in 626 (by decide +kernel) (by decide +kernel)⟩
theorem k_X6_83 : gj_CkV RX6 83 m_X2_leave 0 := ⟨⟨Or.inl (gj_w_in 827 (by decide +kernel) (by decide +kernel)), gl_c_X2_leave, gl_i_X2, ⟨by decide +kernel, by decide +kernel⟩, by decide +kernel, by decide⟩, gj_w_in 519 (by decide +kernel) (by decide +kernel), gj_w_in 520 (by decide +kernel) (by decide +kernel)⟩
theorem k_X6_86 : gj_CkV RX6 86 m_X2_leaveThrown 0 := ⟨⟨Or.inl (gj_w_in 844 (by decide +kernel) (by decide +kernel)), gl_c_X2_leaveThrown, gl_i_X2, ⟨by decide +kernel, by decide +kernel⟩, by decide +kernel, by decide⟩, gj_w_in 510 (by decide +kernel) (by decide +kernel), gj_w_in 511 (by decide +kernel) (by decide +kernel)⟩
theorem k_X6_89 : gj_CkV RX6 89 m_X4_giveBack 1 := ⟨⟨Or.inl (gj_w_in 845 (by decide +kernel) (by decide +kernel)), gl_c_X4_giveBack, gl_i_X4, ⟨by decide +kernel, by decide +kernel⟩, by decide +kernel, by decide⟩, gj_w_in 641 (by decide +kernel) (by decide +kernel), gj_w_in 642 (by decide +kernel) (by decide +kernel)⟩
theorem k_X6_92 : gj_CkV RX6 92 m_X6_nextFigure 0 := ⟨⟨Or.inl (gj_w_in 832 (by decide +kernel) (by decide +kernel)), gl_c_X6_nextFigure, gl_i_X6, ⟨by decide +kernel, by decide +kernel⟩, by decide +kernel, by decide⟩, gj_w_in 834 (by decide +kernel) (by decide +kernel), gj_w_in 15 (by decide +kernel) (by decide +kernel)⟩
theorem k_X6_95 : gj_CkV RX6 95 m_X1_hasBuffer 1 := ⟨⟨Or.inl (gj_w_in 836 (by decide +kernel) (by decide +kernel)), gl_c_X1_hasBuffer, gl_i_X1, ⟨by decide +kernel, by decide +kernel⟩, by decide +kernel, by decide⟩, gj_w_in 475 (by decide +kernel) (by decide +kernel), gj_w_in 476 (by decide +kernel) (by decide +kernel)⟩
theorem k_X6_102 : gj_CkV RX6 102 m_X0_take 1 := ⟨⟨Or.inl (gj_w_in 837 (by decide +kernel) (by decide +kernel)), gl_c_X0_take, gl_i_X0, ⟨by decide +kernel, by decide +kernel⟩, by decide +kernel, by decide⟩, gj_w_in 523 (by decide +kernel) (by decide +kernel), gj_w_in 524 (by decide +kernel) (by decide +kernel)⟩
theorem k_X6_108 : gj_CkV RX6 108 m_X0_put 2 := ⟨⟨Or.inl (gj_w_in 838 (by decide +kernel) (by decide +kernel)), gl_c_X0_put, gl_i_X0, ⟨by decide +kernel, by decide +kernel⟩, by decide +kernel, by decide⟩, gj_w_in 495 (by decide +kernel) (by decide +kernel), gj_w_in 496 (by decide +kernel) (by decide +kernel)⟩
theorem k_X6_112 : gj_CkV RX6 112 m_X1_move 3 := ⟨⟨Or.inl (gj_w_in 839 (by decide +kernel) (by decide +kernel)), gl_c_X1_move, gl_i_X1, ⟨by decide +kernel, by decide +kernel⟩, by decide +kernel, by decide⟩, gj_w_in 630 (by decide +kernel) (by decide +kernel), gj_w_in 631 (by decide +kernel) (by decide +kernel)⟩
theorem k_X6_116 : gj_CkV RX6 116 m_X8_at 1 := ⟨⟨Or.inl (gj_w_in 822 (by decide +kernel) (by decide +kernel)), gl_c_X8_at, gl_i_X8, ⟨by decide +kernel, by decide +kernel⟩, by decide +kernel, by decide⟩, gj_w_in 801 (by decide +kernel) (by decide +kernel), gj_w_in 802 (by decide +kernel) (by decide +kernel)⟩
theorem k_X7_3 : gj_Oi RX7 3 := ⟨gj_w_in 188 (by decide +kernel) (by decide +kernel), gj_w_in 82 (by decide +kernel) (by decide +kernel), gj_w_in 83 (by decide +kernel) (by decide +kernel)⟩
theorem k_X7_30 : gj_CkV RX7 30 m_X7_becomeIdle 0 := ⟨⟨Or.inl (gj_w_in 549 (by decide +kernel) (by decide +kernel)), gl_c_X7_becomeIdle, gl_i_X7, ⟨by decide +kernel, by decide +kernel⟩, by decide +kernel, by decide⟩, gj_w_in 550 (by decide +kernel) (by decide +kernel), gj_w_in 551 (by decide +kernel) (by decide +kernel)⟩
theorem k_X8_3 : gj_Oi RX8 3 := ⟨gj_w_in 340 (by decide +kernel) (by decide +kernel), gj_w_in 82 (by decide +kernel) (by decide +kernel), gj_w_in 83 (by decide +kernel) (by decide +kernel)⟩
theorem k_X8_27 : gj_CkS RX8 27 m_X10_within 3 := ⟨⟨Or.inr ⟨"GatedWorks", gj_nw_in 804 (by decide +kernel) (by decide +kernel)⟩, gl_c_X10_within, gl_i_X10, ⟨by decide +kernel, by decide +kernel⟩, by decide +kernel, by decide⟩, gj_w_in 427 (by decide +kernel) (by decide +kernel)⟩
theorem k_X8_31 : gj_CkS RX8 31 m_X8_figuresOf 1 := ⟨⟨Or.inl (gj_w_in 805 (by decide +kernel) (by decide +kernel)), gl_c_X8_figuresOf, gl_i_X8, ⟨by decide +kernel, by decide +kernel⟩, by decide +kernel, by decide⟩, gj_w_in 806 (by decide +kernel) (by decide +kernel)⟩
theorem k_X8_19 : gj_CkV RX8 19 m_X8_isFull 0 := ⟨⟨Or.inl (gj_w_in 787 (by decide +kernel) (by decide +kernel)), gl_c_X8_isFull, gl_i_X8, ⟨by decide +kernel, by decide +kernel⟩, by decide +kernel, by decide⟩, gj_w_in 780 (by decide +kernel) (by decide +kernel), gj_w_in 781 (by decide +kernel) (by decide +kernel)⟩
theorem k_X8_23 : gj_CkV RX8 23 m_X8_at 1 := ⟨⟨Or.inl (gj_w_in 800 (by decide +kernel) (by decide +kernel)), gl_c_X8_at, gl_i_X8, ⟨by decide +kernel, by decide +kernel⟩, by decide +kernel, by decide⟩, gj_w_in 801 (by decide +kernel) (by decide +kernel), gj_w_in 802 (by decide +kernel) (by decide +kernel)⟩
theorem k_X9_3 : gj_Oi RX9 3 := ⟨gj_w_in 239 (by decide +kernel) (by decide +kernel), gj_w_in 82 (by decide +kernel) (by decide +kernel), gj_w_in 83 (by decide +kernel) (by decide +kernel)⟩
theorem k_X9_21 : gj_CkV RX9 21 m_X9_waits 0 := ⟨⟨Or.inl (gj_w_in 754 (by decide +kernel) (by decide +kernel)), gl_c_X9_waits, gl_i_X9, ⟨by decide +kernel, by decide +kernel⟩, by decide +kernel, by decide⟩, gj_w_in 652 (by decide +kernel) (by decide +kernel), gj_w_in 653 (by decide +kernel) (by decide +kernel)⟩
theorem k_X9_28 : gj_CkV RX9 28 m_X9_wishNoMore 0 := ⟨⟨Or.inl (gj_w_in 273 (by decide +kernel) (by decide +kernel)), gl_c_X9_wishNoMore, gl_i_X9, ⟨by decide +kernel, by decide +kernel⟩, by decide +kernel, by decide⟩, gj_w_in 274 (by decide +kernel) (by decide +kernel), gj_w_in 275 (by decide +kernel) (by decide +kernel)⟩
theorem k_L_9 : gj_CkI RL 9 m_X10_init 0 := ⟨⟨Or.inl (gj_w_in 78 (by decide +kernel) (by decide +kernel)), gl_c_X10_init, gl_i_X10, ⟨by decide +kernel, by decide +kernel⟩, by decide +kernel, by decide⟩, rfl, gj_w_in 79 (by decide +kernel) (by decide +kernel), rfl⟩
theorem k_L_12 : gj_CkI RL 12 m_X11_init 0 := ⟨⟨Or.inl (gj_w_in 889 (by decide +kernel) (by decide +kernel)), gl_c_X11_init, gl_i_X11, ⟨by decide +kernel, by decide +kernel⟩, by decide +kernel, by decide⟩, rfl, gj_w_in 890 (by decide +kernel) (by decide +kernel), rfl⟩
theorem k_L_13 : gj_CkV RL 13 m_X10_begins 1 := ⟨⟨Or.inl (gj_w_in 422 (by decide +kernel) (by decide +kernel)), gl_c_X10_begins, gl_i_X10, ⟨by decide +kernel, by decide +kernel⟩, by decide +kernel, by decide⟩, gj_w_in 423 (by decide +kernel) (by decide +kernel), gj_w_in 424 (by decide +kernel) (by decide +kernel)⟩
theorem k_L_17 : gj_CkV RL 17 m_X11_begins 1 := ⟨⟨Or.inl (gj_w_in 963 (by decide +kernel) (by decide +kernel)), gl_c_X11_begins, gl_i_X11, ⟨by decide +kernel, by decide +kernel⟩, by decide +kernel, by decide⟩, gj_w_in 964 (by decide +kernel) (by decide +kernel), gj_w_in 965 (by decide +kernel) (by decide +kernel)⟩
theorem k_L_18 : gj_CkV RL 18 m_X10_rooms 2 := ⟨⟨Or.inl (gj_w_in 470 (by decide +kernel) (by decide +kernel)), gl_c_X10_rooms, gl_i_X10, ⟨by decide +kernel, by decide +kernel⟩, by decide +kernel, by decide⟩, gj_w_in 471 (by decide +kernel) (by decide +kernel), gj_w_in 472 (by decide +kernel) (by decide +kernel)⟩
theorem k_L_22 : gj_CkV RL 22 m_X11_rooms 2 := ⟨⟨Or.inl (gj_w_in 978 (by decide +kernel) (by decide +kernel)), gl_c_X11_rooms, gl_i_X11, ⟨by decide +kernel, by decide +kernel⟩, by decide +kernel, by decide⟩, gj_w_in 979 (by decide +kernel) (by decide +kernel), gj_w_in 980 (by decide +kernel) (by decide +kernel)⟩
theorem k_L_23 : gj_CkV RL 23 m_X10_station 5 := ⟨⟨Or.inl (gj_w_in 532 (by decide +kernel) (by decide +kernel)), gl_c_X10_station, gl_i_X10, ⟨by decide +kernel, by decide +kernel⟩, by decide +kernel, by decide⟩, gj_w_in 533 (by decide +kernel) (by decide +kernel), gj_w_in 534 (by decide +kernel) (by decide +kernel)⟩
theorem k_L_27 : gj_CkV RL 27 m_X11_station 5 := ⟨⟨Or.inl (gj_w_in 1029 (by decide +kernel) (by decide +kernel)), gl_c_X11_station, gl_i_X11, ⟨by decide +kernel, by decide +kernel⟩, by decide +kernel, by decide⟩, gj_w_in 1030 (by decide +kernel) (by decide +kernel), gj_w_in 1031 (by decide +kernel) (by decide +kernel)⟩
theorem k_L_28 : gj_CkV RL 28 m_X10_guards 2 := ⟨⟨Or.inl (gj_w_in 553 (by decide +kernel) (by decide +kernel)), gl_c_X10_guards, gl_i_X10, ⟨by decide +kernel, by decide +kernel⟩, by decide +kernel, by decide⟩, gj_w_in 554 (by decide +kernel) (by decide +kernel), gj_w_in 555 (by decide +kernel) (by decide +kernel)⟩
theorem k_L_31 : gj_CkV RL 31 m_X11_guards 2 := ⟨⟨Or.inl (gj_w_in 1040 (by decide +kernel) (by decide +kernel)), gl_c_X11_guards, gl_i_X11, ⟨by decide +kernel, by decide +kernel⟩, by decide +kernel, by decide⟩, gj_w_in 1041 (by decide +kernel) (by decide +kernel), gj_w_in 1042 (by decide +kernel) (by decide +kernel)⟩
theorem k_L_32 : gj_CkV RL 32 m_X10_ticks 1 := ⟨⟨Or.inl (gj_w_in 561 (by decide +kernel) (by decide +kernel)), gl_c_X10_ticks, gl_i_X10, ⟨by decide +kernel, by decide +kernel⟩, by decide +kernel, by decide⟩, gj_w_in 562 (by decide +kernel) (by decide +kernel), gj_w_in 563 (by decide +kernel) (by decide +kernel)⟩
theorem k_L_35 : gj_CkV RL 35 m_X11_ticks 1 := ⟨⟨Or.inl (gj_w_in 1048 (by decide +kernel) (by decide +kernel)), gl_c_X11_ticks, gl_i_X11, ⟨by decide +kernel, by decide +kernel⟩, by decide +kernel, by decide⟩, gj_w_in 1049 (by decide +kernel) (by decide +kernel), gj_w_in 1050 (by decide +kernel) (by decide +kernel)⟩
theorem k_L_36 : gj_CkV RL 36 m_X10_puts 2 := ⟨⟨Or.inl (gj_w_in 610 (by decide +kernel) (by decide +kernel)), gl_c_X10_puts, gl_i_X10, ⟨by decide +kernel, by decide +kernel⟩, by decide +kernel, by decide⟩, gj_w_in 611 (by decide +kernel) (by decide +kernel), gj_w_in 612 (by decide +kernel) (by decide +kernel)⟩
theorem k_L_39 : gj_CkV RL 39 m_X11_puts 2 := ⟨⟨Or.inl (gj_w_in 1082 (by decide +kernel) (by decide +kernel)), gl_c_X11_puts, gl_i_X11, ⟨by decide +kernel, by decide +kernel⟩, by decide +kernel, by decide⟩, gj_w_in 1083 (by decide +kernel) (by decide +kernel), gj_w_in 1084 (by decide +kernel) (by decide +kernel)⟩
theorem k_L_40 : gj_CkV RL 40 m_X10_takes 1 := ⟨⟨Or.inl (gj_w_in 615 (by decide +kernel) (by decide +kernel)), gl_c_X10_takes, gl_i_X10, ⟨by decide +kernel, by decide +kernel⟩, by decide +kernel, by decide⟩, gj_w_in 616 (by decide +kernel) (by decide +kernel), gj_w_in 617 (by decide +kernel) (by decide +kernel)⟩
theorem k_L_43 : gj_CkV RL 43 m_X11_takes 1 := ⟨⟨Or.inl (gj_w_in 1086 (by decide +kernel) (by decide +kernel)), gl_c_X11_takes, gl_i_X11, ⟨by decide +kernel, by decide +kernel⟩, by decide +kernel, by decide⟩, gj_w_in 1087 (by decide +kernel) (by decide +kernel), gj_w_in 1088 (by decide +kernel) (by decide +kernel)⟩
theorem k_L_44 : gj_CkV RL 44 m_X10_moves 4 := ⟨⟨Or.inl (gj_w_in 620 (by decide +kernel) (by decide +kernel)), gl_c_X10_moves, gl_i_X10, ⟨by decide +kernel, by decide +kernel⟩, by decide +kernel, by decide⟩, gj_w_in 621 (by decide +kernel) (by decide +kernel), gj_w_in 622 (by decide +kernel) (by decide +kernel)⟩
theorem k_L_48 : gj_CkV RL 48 m_X11_moves 4 := ⟨⟨Or.inl (gj_w_in 1090 (by decide +kernel) (by decide +kernel)), gl_c_X11_moves, gl_i_X11, ⟨by decide +kernel, by decide +kernel⟩, by decide +kernel, by decide⟩, gj_w_in 1091 (by decide +kernel) (by decide +kernel), gj_w_in 1092 (by decide +kernel) (by decide +kernel)⟩
theorem k_L_49 : gj_CkV RL 49 m_X10_asks 4 := ⟨⟨Or.inl (gj_w_in 644 (by decide +kernel) (by decide +kernel)), gl_c_X10_asks, gl_i_X10, ⟨by decide +kernel, by decide +kernel⟩, by decide +kernel, by decide⟩, gj_w_in 645 (by decide +kernel) (by decide +kernel), gj_w_in 646 (by decide +kernel) (by decide +kernel)⟩
theorem k_L_52 : gj_CkV RL 52 m_X11_asks 4 := ⟨⟨Or.inl (gj_w_in 1110 (by decide +kernel) (by decide +kernel)), gl_c_X11_asks, gl_i_X11, ⟨by decide +kernel, by decide +kernel⟩, by decide +kernel, by decide⟩, gj_w_in 1111 (by decide +kernel) (by decide +kernel), gj_w_in 1112 (by decide +kernel) (by decide +kernel)⟩
theorem k_L_53 : gj_CkV RL 53 m_X10_cancels 1 := ⟨⟨Or.inl (gj_w_in 665 (by decide +kernel) (by decide +kernel)), gl_c_X10_cancels, gl_i_X10, ⟨by decide +kernel, by decide +kernel⟩, by decide +kernel, by decide⟩, gj_w_in 666 (by decide +kernel) (by decide +kernel), gj_w_in 667 (by decide +kernel) (by decide +kernel)⟩
theorem k_L_56 : gj_CkV RL 56 m_X11_cancels 1 := ⟨⟨Or.inl (gj_w_in 1117 (by decide +kernel) (by decide +kernel)), gl_c_X11_cancels, gl_i_X11, ⟨by decide +kernel, by decide +kernel⟩, by decide +kernel, by decide⟩, gj_w_in 1118 (by decide +kernel) (by decide +kernel), gj_w_in 1119 (by decide +kernel) (by decide +kernel)⟩
theorem k_L_57 : gj_CkV RL 57 m_X10_keeps 2 := ⟨⟨Or.inl (gj_w_in 675 (by decide +kernel) (by decide +kernel)), gl_c_X10_keeps, gl_i_X10, ⟨by decide +kernel, by decide +kernel⟩, by decide +kernel, by decide⟩, gj_w_in 676 (by decide +kernel) (by decide +kernel), gj_w_in 677 (by decide +kernel) (by decide +kernel)⟩
theorem k_L_60 : gj_CkV RL 60 m_X11_keeps 2 := ⟨⟨Or.inl (gj_w_in 1121 (by decide +kernel) (by decide +kernel)), gl_c_X11_keeps, gl_i_X11, ⟨by decide +kernel, by decide +kernel⟩, by decide +kernel, by decide⟩, gj_w_in 1122 (by decide +kernel) (by decide +kernel), gj_w_in 1123 (by decide +kernel) (by decide +kernel)⟩
theorem k_L_61 : gj_CkV RL 61 m_X10_lets 2 := ⟨⟨Or.inl (gj_w_in 688 (by decide +kernel) (by decide +kernel)), gl_c_X10_lets, gl_i_X10, ⟨by decide +kernel, by decide +kernel⟩, by decide +kernel, by decide⟩, gj_w_in 689 (by decide +kernel) (by decide +kernel), gj_w_in 690 (by decide +kernel) (by decide +kernel)⟩
theorem k_L_64 : gj_CkV RL 64 m_X11_lets 2 := ⟨⟨Or.inl (gj_w_in 1129 (by decide +kernel) (by decide +kernel)), gl_c_X11_lets, gl_i_X11, ⟨by decide +kernel, by decide +kernel⟩, by decide +kernel, by decide⟩, gj_w_in 1130 (by decide +kernel) (by decide +kernel), gj_w_in 1131 (by decide +kernel) (by decide +kernel)⟩
theorem k_L_65 : gj_CkV RL 65 m_X10_quits 1 := ⟨⟨Or.inl (gj_w_in 696 (by decide +kernel) (by decide +kernel)), gl_c_X10_quits, gl_i_X10, ⟨by decide +kernel, by decide +kernel⟩, by decide +kernel, by decide⟩, gj_w_in 697 (by decide +kernel) (by decide +kernel), gj_w_in 698 (by decide +kernel) (by decide +kernel)⟩
theorem k_L_68 : gj_CkV RL 68 m_X11_quits 1 := ⟨⟨Or.inl (gj_w_in 1137 (by decide +kernel) (by decide +kernel)), gl_c_X11_quits, gl_i_X11, ⟨by decide +kernel, by decide +kernel⟩, by decide +kernel, by decide⟩, gj_w_in 1138 (by decide +kernel) (by decide +kernel), gj_w_in 1139 (by decide +kernel) (by decide +kernel)⟩
theorem k_L_69 : gj_CkV RL 69 m_X10_keeper 2 := ⟨⟨Or.inl (gj_w_in 700 (by decide +kernel) (by decide +kernel)), gl_c_X10_keeper, gl_i_X10, ⟨by decide +kernel, by decide +kernel⟩, by decide +kernel, by decide⟩, gj_w_in 701 (by decide +kernel) (by decide +kernel), gj_w_in 702 (by decide +kernel) (by decide +kernel)⟩
theorem k_L_72 : gj_CkV RL 72 m_X11_keeper 2 := ⟨⟨Or.inl (gj_w_in 1141 (by decide +kernel) (by decide +kernel)), gl_c_X11_keeper, gl_i_X11, ⟨by decide +kernel, by decide +kernel⟩, by decide +kernel, by decide⟩, gj_w_in 1142 (by decide +kernel) (by decide +kernel), gj_w_in 1143 (by decide +kernel) (by decide +kernel)⟩
theorem k_L_73 : gj_CkV RL 73 m_X10_queue 2 := ⟨⟨Or.inl (gj_w_in 708 (by decide +kernel) (by decide +kernel)), gl_c_X10_queue, gl_i_X10, ⟨by decide +kernel, by decide +kernel⟩, by decide +kernel, by decide⟩, gj_w_in 709 (by decide +kernel) (by decide +kernel), gj_w_in 710 (by decide +kernel) (by decide +kernel)⟩
theorem k_L_76 : gj_CkV RL 76 m_X11_queue 2 := ⟨⟨Or.inl (gj_w_in 1145 (by decide +kernel) (by decide +kernel)), gl_c_X11_queue, gl_i_X11, ⟨by decide +kernel, by decide +kernel⟩, by decide +kernel, by decide⟩, gj_w_in 1146 (by decide +kernel) (by decide +kernel), gj_w_in 1147 (by decide +kernel) (by decide +kernel)⟩
theorem k_L_77 : gj_CkV RL 77 m_X10_stuck 0 := ⟨⟨Or.inl (gj_w_in 713 (by decide +kernel) (by decide +kernel)), gl_c_X10_stuck, gl_i_X10, ⟨by decide +kernel, by decide +kernel⟩, by decide +kernel, by decide⟩, gj_w_in 714 (by decide +kernel) (by decide +kernel), gj_w_in 715 (by decide +kernel) (by decide +kernel)⟩
theorem k_L_81 : gj_CkV RL 81 m_X11_stuck 0 := ⟨⟨Or.inl (gj_w_in 1149 (by decide +kernel) (by decide +kernel)), gl_c_X11_stuck, gl_i_X11, ⟨by decide +kernel, by decide +kernel⟩, by decide +kernel, by decide⟩, gj_w_in 1150 (by decide +kernel) (by decide +kernel), gj_w_in 1151 (by decide +kernel) (by decide +kernel)⟩
theorem k_L_82 : gj_CkV RL 82 m_X10_buffer 2 := ⟨⟨Or.inl (gj_w_in 726 (by decide +kernel) (by decide +kernel)), gl_c_X10_buffer, gl_i_X10, ⟨by decide +kernel, by decide +kernel⟩, by decide +kernel, by decide⟩, gj_w_in 727 (by decide +kernel) (by decide +kernel), gj_w_in 728 (by decide +kernel) (by decide +kernel)⟩
theorem k_L_85 : gj_CkV RL 85 m_X11_buffer 2 := ⟨⟨Or.inl (gj_w_in 1157 (by decide +kernel) (by decide +kernel)), gl_c_X11_buffer, gl_i_X11, ⟨by decide +kernel, by decide +kernel⟩, by decide +kernel, by decide⟩, gj_w_in 1158 (by decide +kernel) (by decide +kernel), gj_w_in 1159 (by decide +kernel) (by decide +kernel)⟩
theorem k_L_86 : gj_CkV RL 86 m_X10_item 2 := ⟨⟨Or.inl (gj_w_in 734 (by decide +kernel) (by decide +kernel)), gl_c_X10_item, gl_i_X10, ⟨by decide +kernel, by decide +kernel⟩, by decide +kernel, by decide⟩, gj_w_in 735 (by decide +kernel) (by decide +kernel), gj_w_in 736 (by decide +kernel) (by decide +kernel)⟩
theorem k_L_89 : gj_CkV RL 89 m_X11_item 2 := ⟨⟨Or.inl (gj_w_in 1165 (by decide +kernel) (by decide +kernel)), gl_c_X11_item, gl_i_X11, ⟨by decide +kernel, by decide +kernel⟩, by decide +kernel, by decide⟩, gj_w_in 1166 (by decide +kernel) (by decide +kernel), gj_w_in 1167 (by decide +kernel) (by decide +kernel)⟩
theorem k_L_90 : gj_CkV RL 90 m_X10_of 2 := ⟨⟨Or.inl (gj_w_in 738 (by decide +kernel) (by decide +kernel)), gl_c_X10_of, gl_i_X10, ⟨by decide +kernel, by decide +kernel⟩, by decide +kernel, by decide⟩, gj_w_in 739 (by decide +kernel) (by decide +kernel), gj_w_in 740 (by decide +kernel) (by decide +kernel)⟩
theorem k_L_93 : gj_CkV RL 93 m_X11_of 2 := ⟨⟨Or.inl (gj_w_in 1169 (by decide +kernel) (by decide +kernel)), gl_c_X11_of, gl_i_X11, ⟨by decide +kernel, by decide +kernel⟩, by decide +kernel, by decide⟩, gj_w_in 1170 (by decide +kernel) (by decide +kernel), gj_w_in 1171 (by decide +kernel) (by decide +kernel)⟩
theorem k_L_94 : gj_CkV RL 94 m_X10_worker 2 := ⟨⟨Or.inl (gj_w_in 746 (by decide +kernel) (by decide +kernel)), gl_c_X10_worker, gl_i_X10, ⟨by decide +kernel, by decide +kernel⟩, by decide +kernel, by decide⟩, gj_w_in 747 (by decide +kernel) (by decide +kernel), gj_w_in 748 (by decide +kernel) (by decide +kernel)⟩
theorem k_L_97 : gj_CkV RL 97 m_X11_worker 2 := ⟨⟨Or.inl (gj_w_in 1177 (by decide +kernel) (by decide +kernel)), gl_c_X11_worker, gl_i_X11, ⟨by decide +kernel, by decide +kernel⟩, by decide +kernel, by decide⟩, gj_w_in 1178 (by decide +kernel) (by decide +kernel), gj_w_in 1179 (by decide +kernel) (by decide +kernel)⟩
theorem k_L_98 : gj_CkV RL 98 m_X10_line 1 := ⟨⟨Or.inl (gj_w_in 755 (by decide +kernel) (by decide +kernel)), gl_c_X10_line, gl_i_X10, ⟨by decide +kernel, by decide +kernel⟩, by decide +kernel, by decide⟩, gj_w_in 756 (by decide +kernel) (by decide +kernel), gj_w_in 757 (by decide +kernel) (by decide +kernel)⟩
theorem k_L_101 : gj_CkV RL 101 m_X11_line 1 := ⟨⟨Or.inl (gj_w_in 1181 (by decide +kernel) (by decide +kernel)), gl_c_X11_line, gl_i_X11, ⟨by decide +kernel, by decide +kernel⟩, by decide +kernel, by decide⟩, gj_w_in 1182 (by decide +kernel) (by decide +kernel), gj_w_in 1183 (by decide +kernel) (by decide +kernel)⟩
theorem k_L_102 : gj_CkV RL 102 m_X10_works 1 := ⟨⟨Or.inl (gj_w_in 759 (by decide +kernel) (by decide +kernel)), gl_c_X10_works, gl_i_X10, ⟨by decide +kernel, by decide +kernel⟩, by decide +kernel, by decide⟩, gj_w_in 760 (by decide +kernel) (by decide +kernel), gj_w_in 761 (by decide +kernel) (by decide +kernel)⟩
theorem k_L_105 : gj_CkV RL 105 m_X11_works 1 := ⟨⟨Or.inl (gj_w_in 1185 (by decide +kernel) (by decide +kernel)), gl_c_X11_works, gl_i_X11, ⟨by decide +kernel, by decide +kernel⟩, by decide +kernel, by decide⟩, gj_w_in 1186 (by decide +kernel) (by decide +kernel), gj_w_in 1187 (by decide +kernel) (by decide +kernel)⟩
theorem k_L_106 : gj_CkV RL 106 m_X10_type 1 := ⟨⟨Or.inl (gj_w_in 775 (by decide +kernel) (by decide +kernel)), gl_c_X10_type, gl_i_X10, ⟨by decide +kernel, by decide +kernel⟩, by decide +kernel, by decide⟩, gj_w_in 776 (by decide +kernel) (by decide +kernel), gj_w_in 777 (by decide +kernel) (by decide +kernel)⟩
theorem k_L_109 : gj_CkV RL 109 m_X11_type 1 := ⟨⟨Or.inl (gj_w_in 1201 (by decide +kernel) (by decide +kernel)), gl_c_X11_type, gl_i_X11, ⟨by decide +kernel, by decide +kernel⟩, by decide +kernel, by decide⟩, gj_w_in 1202 (by decide +kernel) (by decide +kernel), gj_w_in 1203 (by decide +kernel) (by decide +kernel)⟩
theorem k_L_110 : gj_CkV RL 110 m_X10_clear 0 := ⟨⟨Or.inl (gj_w_in 788 (by decide +kernel) (by decide +kernel)), gl_c_X10_clear, gl_i_X10, ⟨by decide +kernel, by decide +kernel⟩, by decide +kernel, by decide⟩, gj_w_in 789 (by decide +kernel) (by decide +kernel), gj_w_in 790 (by decide +kernel) (by decide +kernel)⟩
theorem k_L_113 : gj_CkV RL 113 m_X11_clear 0 := ⟨⟨Or.inl (gj_w_in 1205 (by decide +kernel) (by decide +kernel)), gl_c_X11_clear, gl_i_X11, ⟨by decide +kernel, by decide +kernel⟩, by decide +kernel, by decide⟩, gj_w_in 1206 (by decide +kernel) (by decide +kernel), gj_w_in 1207 (by decide +kernel) (by decide +kernel)⟩
theorem k_L_114 : gj_CkV RL 114 m_X10_does 0 := ⟨⟨Or.inl (gj_w_in 792 (by decide +kernel) (by decide +kernel)), gl_c_X10_does, gl_i_X10, ⟨by decide +kernel, by decide +kernel⟩, by decide +kernel, by decide⟩, gj_w_in 793 (by decide +kernel) (by decide +kernel), gj_w_in 794 (by decide +kernel) (by decide +kernel)⟩
theorem k_L_117 : gj_CkV RL 117 m_X11_does 0 := ⟨⟨Or.inl (gj_w_in 1209 (by decide +kernel) (by decide +kernel)), gl_c_X11_does, gl_i_X11, ⟨by decide +kernel, by decide +kernel⟩, by decide +kernel, by decide⟩, gj_w_in 1210 (by decide +kernel) (by decide +kernel), gj_w_in 1211 (by decide +kernel) (by decide +kernel)⟩
theorem k_L_118 : gj_CkV RL 118 m_X10_back 0 := ⟨⟨Or.inl (gj_w_in 850 (by decide +kernel) (by decide +kernel)), gl_c_X10_back, gl_i_X10, ⟨by decide +kernel, by decide +kernel⟩, by decide +kernel, by decide⟩, gj_w_in 851 (by decide +kernel) (by decide +kernel), gj_w_in 852 (by decide +kernel) (by decide +kernel)⟩
theorem k_L_121 : gj_CkV RL 121 m_X11_back 0 := ⟨⟨Or.inl (gj_w_in 955 (by decide +kernel) (by decide +kernel)), gl_c_X11_back, gl_i_X11, ⟨by decide +kernel, by decide +kernel⟩, by decide +kernel, by decide⟩, gj_w_in 956 (by decide +kernel) (by decide +kernel), gj_w_in 957 (by decide +kernel) (by decide +kernel)⟩
theorem k_L_122 : gj_CkV RL 122 m_X10_told 1 := ⟨⟨Or.inl (gj_w_in 858 (by decide +kernel) (by decide +kernel)), gl_c_X10_told, gl_i_X10, ⟨by decide +kernel, by decide +kernel⟩, by decide +kernel, by decide⟩, gj_w_in 859 (by decide +kernel) (by decide +kernel), gj_w_in 860 (by decide +kernel) (by decide +kernel)⟩
theorem k_L_125 : gj_CkV RL 125 m_X11_told 1 := ⟨⟨Or.inl (gj_w_in 1237 (by decide +kernel) (by decide +kernel)), gl_c_X11_told, gl_i_X11, ⟨by decide +kernel, by decide +kernel⟩, by decide +kernel, by decide⟩, gj_w_in 1238 (by decide +kernel) (by decide +kernel), gj_w_in 1239 (by decide +kernel) (by decide +kernel)⟩
theorem k_L_126 : gj_CkV RL 126 m_X10_digest 0 := ⟨⟨Or.inl (gj_w_in 866 (by decide +kernel) (by decide +kernel)), gl_c_X10_digest, gl_i_X10, ⟨by decide +kernel, by decide +kernel⟩, by decide +kernel, by decide⟩, gj_w_in 867 (by decide +kernel) (by decide +kernel), gj_w_in 868 (by decide +kernel) (by decide +kernel)⟩
theorem k_L_130 : gj_CkV RL 130 m_X11_digest 0 := ⟨⟨Or.inl (gj_w_in 1245 (by decide +kernel) (by decide +kernel)), gl_c_X11_digest, gl_i_X11, ⟨by decide +kernel, by decide +kernel⟩, by decide +kernel, by decide⟩, gj_w_in 1246 (by decide +kernel) (by decide +kernel), gj_w_in 1247 (by decide +kernel) (by decide +kernel)⟩
theorem k_X11_1 : gj_Oi RX11 1 := ⟨gj_w_in 892 (by decide +kernel) (by decide +kernel), gj_w_in 82 (by decide +kernel) (by decide +kernel), gj_w_in 83 (by decide +kernel) (by decide +kernel)⟩
theorem k_X11_50 : gj_CkS RX11 50 m_X11_in 3 := ⟨⟨Or.inl (gj_w_in 967 (by decide +kernel) (by decide +kernel)), gl_c_X11_in, gl_i_X11, ⟨by decide +kernel, by decide +kernel⟩, by decide +kernel, by decide⟩, gj_w_in 968 (by decide +kernel) (by decide +kernel)⟩
theorem k_X11_54 : gj_CkS RX11 54 m_X11_atBuffer 1 := ⟨⟨Or.inl (gj_w_in 897 (by decide +kernel) (by decide +kernel)), gl_c_X11_atBuffer, gl_i_X11, ⟨by decide +kernel, by decide +kernel⟩, by decide +kernel, by decide⟩, gj_w_in 898 (by decide +kernel) (by decide +kernel)⟩
theorem k_X11_58 : gj_CkS RX11 58 m_X11_workerAt 1 := ⟨⟨Or.inl (gj_w_in 900 (by decide +kernel) (by decide +kernel)), gl_c_X11_workerAt, gl_i_X11, ⟨by decide +kernel, by decide +kernel⟩, by decide +kernel, by decide⟩, gj_w_in 901 (by decide +kernel) (by decide +kernel)⟩
theorem k_X11_69 : gj_CkS RX11 69 m_X11_gate 1 := ⟨⟨Or.inl (gj_w_in 1002 (by decide +kernel) (by decide +kernel)), gl_c_X11_gate, gl_i_X11, ⟨by decide +kernel, by decide +kernel⟩, by decide +kernel, by decide⟩, gj_w_in 1003 (by decide +kernel) (by decide +kernel)⟩
theorem k_X11_88 : gj_CkS RX11 88 m_X11_lesser 2 := ⟨⟨Or.inl (gj_w_in 1076 (by decide +kernel) (by decide +kernel)), gl_c_X11_lesser, gl_i_X11, ⟨by decide +kernel, by decide +kernel⟩, by decide +kernel, by decide⟩, gj_w_in 1077 (by decide +kernel) (by decide +kernel)⟩
theorem k_X11_92 : gj_CkS RX11 92 m_X11_greater 2 := ⟨⟨Or.inl (gj_w_in 1079 (by decide +kernel) (by decide +kernel)), gl_c_X11_greater, gl_i_X11, ⟨by decide +kernel, by decide +kernel⟩, by decide +kernel, by decide⟩, gj_w_in 1080 (by decide +kernel) (by decide +kernel)⟩
theorem k_X11_121 : gj_CkS RX11 121 m_X11_stationAt 1 := ⟨⟨Or.inl (gj_w_in 1037 (by decide +kernel) (by decide +kernel)), gl_c_X11_stationAt, gl_i_X11, ⟨by decide +kernel, by decide +kernel⟩, by decide +kernel, by decide⟩, gj_w_in 1038 (by decide +kernel) (by decide +kernel)⟩
theorem k_X11_162 : gj_CkS RX11 162 m_X11_isWorker 1 := ⟨⟨Or.inl (gj_w_in 1114 (by decide +kernel) (by decide +kernel)), gl_c_X11_isWorker, gl_i_X11, ⟨by decide +kernel, by decide +kernel⟩, by decide +kernel, by decide⟩, gj_w_in 1115 (by decide +kernel) (by decide +kernel)⟩
theorem k_X11_46 : gj_CkV RX11 46 m_X11_lays 1 := ⟨⟨Or.inl (gj_w_in 893 (by decide +kernel) (by decide +kernel)), gl_c_X11_lays, gl_i_X11, ⟨by decide +kernel, by decide +kernel⟩, by decide +kernel, by decide⟩, gj_w_in 895 (by decide +kernel) (by decide +kernel), gj_w_in 19 (by decide +kernel) (by decide +kernel)⟩
theorem k_X11_65 : gj_CkV RX11 65 m_X11_no 0 := ⟨⟨Or.inl (gj_w_in 959 (by decide +kernel) (by decide +kernel)), gl_c_X11_no, gl_i_X11, ⟨by decide +kernel, by decide +kernel⟩, by decide +kernel, by decide⟩, gj_w_in 961 (by decide +kernel) (by decide +kernel), gj_w_in 20 (by decide +kernel) (by decide +kernel)⟩
theorem k_X11_72 : gj_CkV RX11 72 m_X11_enters 1 := ⟨⟨Or.inl (gj_w_in 998 (by decide +kernel) (by decide +kernel)), gl_c_X11_enters, gl_i_X11, ⟨by decide +kernel, by decide +kernel⟩, by decide +kernel, by decide⟩, gj_w_in 1000 (by decide +kernel) (by decide +kernel), gj_w_in 27 (by decide +kernel) (by decide +kernel)⟩
theorem k_X11_75 : gj_CkV RX11 75 m_X11_isKeptFor 2 := ⟨⟨Or.inl (gj_w_in 1005 (by decide +kernel) (by decide +kernel)), gl_c_X11_isKeptFor, gl_i_X11, ⟨by decide +kernel, by decide +kernel⟩, by decide +kernel, by decide⟩, gj_w_in 1007 (by decide +kernel) (by decide +kernel), gj_w_in 28 (by decide +kernel) (by decide +kernel)⟩
theorem k_X11_79 : gj_CkV RX11 79 m_X11_thrownOut 1 := ⟨⟨Or.inl (gj_w_in 1009 (by decide +kernel) (by decide +kernel)), gl_c_X11_thrownOut, gl_i_X11, ⟨by decide +kernel, by decide +kernel⟩, by decide +kernel, by decide⟩, gj_w_in 1011 (by decide +kernel) (by decide +kernel), gj_w_in 29 (by decide +kernel) (by decide +kernel)⟩
theorem k_X11_82 : gj_CkV RX11 82 m_X11_leaves 1 := ⟨⟨Or.inl (gj_w_in 1013 (by decide +kernel) (by decide +kernel)), gl_c_X11_leaves, gl_i_X11, ⟨by decide +kernel, by decide +kernel⟩, by decide +kernel, by decide⟩, gj_w_in 1015 (by decide +kernel) (by decide +kernel), gj_w_in 30 (by decide +kernel) (by decide +kernel)⟩
theorem k_X11_85 : gj_CkV RX11 85 m_X11_firstOf 1 := ⟨⟨Or.inl (gj_w_in 1021 (by decide +kernel) (by decide +kernel)), gl_c_X11_firstOf, gl_i_X11, ⟨by decide +kernel, by decide +kernel⟩, by decide +kernel, by decide⟩, gj_w_in 1023 (by decide +kernel) (by decide +kernel), gj_w_in 32 (by decide +kernel) (by decide +kernel)⟩
theorem k_X11_95 : gj_CkV RX11 95 m_X11_take 2 := ⟨⟨Or.inl (gj_w_in 1017 (by decide +kernel) (by decide +kernel)), gl_c_X11_take, gl_i_X11, ⟨by decide +kernel, by decide +kernel⟩, by decide +kernel, by decide⟩, gj_w_in 1019 (by decide +kernel) (by decide +kernel), gj_w_in 31 (by decide +kernel) (by decide +kernel)⟩
theorem k_X11_98 : gj_CkV RX11 98 m_X11_put 3 := ⟨⟨Or.inl (gj_w_in 994 (by decide +kernel) (by decide +kernel)), gl_c_X11_put, gl_i_X11, ⟨by decide +kernel, by decide +kernel⟩, by decide +kernel, by decide⟩, gj_w_in 996 (by decide +kernel) (by decide +kernel), gj_w_in 26 (by decide +kernel) (by decide +kernel)⟩
theorem k_X11_101 : gj_CkV RX11 101 m_X11_firstAgain 2 := ⟨⟨Or.inl (gj_w_in 1102 (by decide +kernel) (by decide +kernel)), gl_c_X11_firstAgain, gl_i_X11, ⟨by decide +kernel, by decide +kernel⟩, by decide +kernel, by decide⟩, gj_w_in 1104 (by decide +kernel) (by decide +kernel), gj_w_in 44 (by decide +kernel) (by decide +kernel)⟩
theorem k_X11_105 : gj_CkV RX11 105 m_X11_tries 4 := ⟨⟨Or.inl (gj_w_in 990 (by decide +kernel) (by decide +kernel)), gl_c_X11_tries, gl_i_X11, ⟨by decide +kernel, by decide +kernel⟩, by decide +kernel, by decide⟩, gj_w_in 992 (by decide +kernel) (by decide +kernel), gj_w_in 25 (by decide +kernel) (by decide +kernel)⟩
theorem k_X11_109 : gj_CkV RX11 109 m_X11_goesFromLine 1 := ⟨⟨Or.inl (gj_w_in 1025 (by decide +kernel) (by decide +kernel)), gl_c_X11_goesFromLine, gl_i_X11, ⟨by decide +kernel, by decide +kernel⟩, by decide +kernel, by decide⟩, gj_w_in 1027 (by decide +kernel) (by decide +kernel), gj_w_in 33 (by decide +kernel) (by decide +kernel)⟩
theorem k_X11_112 : gj_CkV RX11 112 m_X11_starts 2 := ⟨⟨Or.inl (gj_w_in 1068 (by decide +kernel) (by decide +kernel)), gl_c_X11_starts, gl_i_X11, ⟨by decide +kernel, by decide +kernel⟩, by decide +kernel, by decide⟩, gj_w_in 1070 (by decide +kernel) (by decide +kernel), gj_w_in 40 (by decide +kernel) (by decide +kernel)⟩
theorem k_X11_115 : gj_CkV RX11 115 m_X11_takesOne 1 := ⟨⟨Or.inl (gj_w_in 1064 (by decide +kernel) (by decide +kernel)), gl_c_X11_takesOne, gl_i_X11, ⟨by decide +kernel, by decide +kernel⟩, by decide +kernel, by decide⟩, gj_w_in 1066 (by decide +kernel) (by decide +kernel), gj_w_in 39 (by decide +kernel) (by decide +kernel)⟩
theorem k_X11_118 : gj_CkV RX11 118 m_X11_takesBoth 1 := ⟨⟨Or.inl (gj_w_in 1072 (by decide +kernel) (by decide +kernel)), gl_c_X11_takesBoth, gl_i_X11, ⟨by decide +kernel, by decide +kernel⟩, by decide +kernel, by decide⟩, gj_w_in 1074 (by decide +kernel) (by decide +kernel), gj_w_in 41 (by decide +kernel) (by decide +kernel)⟩
theorem k_X11_124 : gj_CkV RX11 124 m_X11_worksOn 1 := ⟨⟨Or.inl (gj_w_in 1060 (by decide +kernel) (by decide +kernel)), gl_c_X11_worksOn, gl_i_X11, ⟨by decide +kernel, by decide +kernel⟩, by decide +kernel, by decide⟩, gj_w_in 1062 (by decide +kernel) (by decide +kernel), gj_w_in 38 (by decide +kernel) (by decide +kernel)⟩
theorem k_X11_127 : gj_CkV RX11 127 m_X11_serves 0 := ⟨⟨Or.inl (gj_w_in 986 (by decide +kernel) (by decide +kernel)), gl_c_X11_serves, gl_i_X11, ⟨by decide +kernel, by decide +kernel⟩, by decide +kernel, by decide⟩, gj_w_in 988 (by decide +kernel) (by decide +kernel), gj_w_in 24 (by decide +kernel) (by decide +kernel)⟩
theorem k_X11_130 : gj_CkV RX11 130 m_X11_bad 0 := ⟨⟨Or.inl (gj_w_in 970 (by decide +kernel) (by decide +kernel)), gl_c_X11_bad, gl_i_X11, ⟨by decide +kernel, by decide +kernel⟩, by decide +kernel, by decide⟩, gj_w_in 972 (by decide +kernel) (by decide +kernel), gj_w_in 21 (by decide +kernel) (by decide +kernel)⟩
theorem k_X11_133 : gj_CkV RX11 133 m_X11_leavesState 0 := ⟨⟨Or.inl (gj_w_in 974 (by decide +kernel) (by decide +kernel)), gl_c_X11_leavesState, gl_i_X11, ⟨by decide +kernel, by decide +kernel⟩, by decide +kernel, by decide⟩, gj_w_in 976 (by decide +kernel) (by decide +kernel), gj_w_in 22 (by decide +kernel) (by decide +kernel)⟩
theorem k_X11_136 : gj_CkV RX11 136 m_X11_isBuffer 1 := ⟨⟨Or.inl (gj_w_in 982 (by decide +kernel) (by decide +kernel)), gl_c_X11_isBuffer, gl_i_X11, ⟨by decide +kernel, by decide +kernel⟩, by decide +kernel, by decide⟩, gj_w_in 984 (by decide +kernel) (by decide +kernel), gj_w_in 23 (by decide +kernel) (by decide +kernel)⟩
theorem k_X11_140 : gj_CkV RX11 140 m_X11_full 0 := ⟨⟨Or.inl (gj_w_in 1033 (by decide +kernel) (by decide +kernel)), gl_c_X11_full, gl_i_X11, ⟨by decide +kernel, by decide +kernel⟩, by decide +kernel, by decide⟩, gj_w_in 1035 (by decide +kernel) (by decide +kernel), gj_w_in 34 (by decide +kernel) (by decide +kernel)⟩
theorem k_X11_143 : gj_CkV RX11 143 m_X11_isStation 1 := ⟨⟨Or.inl (gj_w_in 1044 (by decide +kernel) (by decide +kernel)), gl_c_X11_isStation, gl_i_X11, ⟨by decide +kernel, by decide +kernel⟩, by decide +kernel, by decide⟩, gj_w_in 1046 (by decide +kernel) (by decide +kernel), gj_w_in 35 (by decide +kernel) (by decide +kernel)⟩
theorem k_X11_146 : gj_CkV RX11 146 m_X11_madeOfAll 0 := ⟨⟨Or.inl (gj_w_in 1052 (by decide +kernel) (by decide +kernel)), gl_c_X11_madeOfAll, gl_i_X11, ⟨by decide +kernel, by decide +kernel⟩, by decide +kernel, by decide⟩, gj_w_in 1054 (by decide +kernel) (by decide +kernel), gj_w_in 36 (by decide +kernel) (by decide +kernel)⟩
theorem k_X11_149 : gj_CkV RX11 149 m_X11_tick 0 := ⟨⟨Or.inl (gj_w_in 1056 (by decide +kernel) (by decide +kernel)), gl_c_X11_tick, gl_i_X11, ⟨by decide +kernel, by decide +kernel⟩, by decide +kernel, by decide⟩, gj_w_in 1058 (by decide +kernel) (by decide +kernel), gj_w_in 37 (by decide +kernel) (by decide +kernel)⟩
theorem k_X11_152 : gj_CkV RX11 152 m_X11_laysAside 1 := ⟨⟨Or.inl (gj_w_in 1094 (by decide +kernel) (by decide +kernel)), gl_c_X11_laysAside, gl_i_X11, ⟨by decide +kernel, by decide +kernel⟩, by decide +kernel, by decide⟩, gj_w_in 1096 (by decide +kernel) (by decide +kernel), gj_w_in 42 (by decide +kernel) (by decide +kernel)⟩
theorem k_X11_155 : gj_CkV RX11 155 m_X11_move 3 := ⟨⟨Or.inl (gj_w_in 1098 (by decide +kernel) (by decide +kernel)), gl_c_X11_move, gl_i_X11, ⟨by decide +kernel, by decide +kernel⟩, by decide +kernel, by decide⟩, gj_w_in 1100 (by decide +kernel) (by decide +kernel), gj_w_in 43 (by decide +kernel) (by decide +kernel)⟩
theorem k_X11_159 : gj_CkV RX11 159 m_X11_undoes 1 := ⟨⟨Or.inl (gj_w_in 1106 (by decide +kernel) (by decide +kernel)), gl_c_X11_undoes, gl_i_X11, ⟨by decide +kernel, by decide +kernel⟩, by decide +kernel, by decide⟩, gj_w_in 1108 (by decide +kernel) (by decide +kernel), gj_w_in 45 (by decide +kernel) (by decide +kernel)⟩
theorem k_X11_165 : gj_CkV RX11 165 m_X11_queueOf 1 := ⟨⟨Or.inl (gj_w_in 1125 (by decide +kernel) (by decide +kernel)), gl_c_X11_queueOf, gl_i_X11, ⟨by decide +kernel, by decide +kernel⟩, by decide +kernel, by decide⟩, gj_w_in 1127 (by decide +kernel) (by decide +kernel), gj_w_in 46 (by decide +kernel) (by decide +kernel)⟩
theorem k_X11_168 : gj_CkV RX11 168 m_X11_goesFromQueue 2 := ⟨⟨Or.inl (gj_w_in 1133 (by decide +kernel) (by decide +kernel)), gl_c_X11_goesFromQueue, gl_i_X11, ⟨by decide +kernel, by decide +kernel⟩, by decide +kernel, by decide⟩, gj_w_in 1135 (by decide +kernel) (by decide +kernel), gj_w_in 47 (by decide +kernel) (by decide +kernel)⟩
theorem k_X11_171 : gj_CkV RX11 171 m_X11_isStuck 1 := ⟨⟨Or.inl (gj_w_in 1153 (by decide +kernel) (by decide +kernel)), gl_c_X11_isStuck, gl_i_X11, ⟨by decide +kernel, by decide +kernel⟩, by decide +kernel, by decide⟩, gj_w_in 1155 (by decide +kernel) (by decide +kernel), gj_w_in 48 (by decide +kernel) (by decide +kernel)⟩
theorem k_X11_174 : gj_CkV RX11 174 m_X11_ofBuffer 2 := ⟨⟨Or.inl (gj_w_in 1161 (by decide +kernel) (by decide +kernel)), gl_c_X11_ofBuffer, gl_i_X11, ⟨by decide +kernel, by decide +kernel⟩, by decide +kernel, by decide⟩, gj_w_in 1163 (by decide +kernel) (by decide +kernel), gj_w_in 49 (by decide +kernel) (by decide +kernel)⟩
theorem k_X11_177 : gj_CkV RX11 177 m_X11_ofStation 2 := ⟨⟨Or.inl (gj_w_in 1173 (by decide +kernel) (by decide +kernel)), gl_c_X11_ofStation, gl_i_X11, ⟨by decide +kernel, by decide +kernel⟩, by decide +kernel, by decide⟩, gj_w_in 1175 (by decide +kernel) (by decide +kernel), gj_w_in 50 (by decide +kernel) (by decide +kernel)⟩
theorem k_X11_180 : gj_CkV RX11 180 m_X11_itemsOfAll 0 := ⟨⟨Or.inl (gj_w_in 1193 (by decide +kernel) (by decide +kernel)), gl_c_X11_itemsOfAll, gl_i_X11, ⟨by decide +kernel, by decide +kernel⟩, by decide +kernel, by decide⟩, gj_w_in 1195 (by decide +kernel) (by decide +kernel), gj_w_in 52 (by decide +kernel) (by decide +kernel)⟩
theorem k_X11_183 : gj_CkV RX11 183 m_X11_entriesOfAll 0 := ⟨⟨Or.inl (gj_w_in 1197 (by decide +kernel) (by decide +kernel)), gl_c_X11_entriesOfAll, gl_i_X11, ⟨by decide +kernel, by decide +kernel⟩, by decide +kernel, by decide⟩, gj_w_in 1199 (by decide +kernel) (by decide +kernel), gj_w_in 53 (by decide +kernel) (by decide +kernel)⟩
theorem k_X11_186 : gj_CkV RX11 186 m_X11_worksBy 1 := ⟨⟨Or.inl (gj_w_in 1189 (by decide +kernel) (by decide +kernel)), gl_c_X11_worksBy, gl_i_X11, ⟨by decide +kernel, by decide +kernel⟩, by decide +kernel, by decide⟩, gj_w_in 1191 (by decide +kernel) (by decide +kernel), gj_w_in 51 (by decide +kernel) (by decide +kernel)⟩
theorem k_X11_199 : gj_CkV RX11 199 m_X11_here 0 := ⟨⟨Or.inl (gj_w_in 1217 (by decide +kernel) (by decide +kernel)), gl_c_X11_here, gl_i_X11, ⟨by decide +kernel, by decide +kernel⟩, by decide +kernel, by decide⟩, gj_w_in 1219 (by decide +kernel) (by decide +kernel), gj_w_in 55 (by decide +kernel) (by decide +kernel)⟩
theorem k_X11_205 : gj_CkV RX11 205 m_X11_figure 0 := ⟨⟨Or.inl (gj_w_in 1225 (by decide +kernel) (by decide +kernel)), gl_c_X11_figure, gl_i_X11, ⟨by decide +kernel, by decide +kernel⟩, by decide +kernel, by decide⟩, gj_w_in 1227 (by decide +kernel) (by decide +kernel), gj_w_in 57 (by decide +kernel) (by decide +kernel)⟩
theorem k_X11_208 : gj_CkV RX11 208 m_X11_comes 1 := ⟨⟨Or.inl (gj_w_in 1221 (by decide +kernel) (by decide +kernel)), gl_c_X11_comes, gl_i_X11, ⟨by decide +kernel, by decide +kernel⟩, by decide +kernel, by decide⟩, gj_w_in 1223 (by decide +kernel) (by decide +kernel), gj_w_in 56 (by decide +kernel) (by decide +kernel)⟩
theorem k_X11_211 : gj_CkV RX11 211 m_X11_doesOne 1 := ⟨⟨Or.inl (gj_w_in 1233 (by decide +kernel) (by decide +kernel)), gl_c_X11_doesOne, gl_i_X11, ⟨by decide +kernel, by decide +kernel⟩, by decide +kernel, by decide⟩, gj_w_in 1235 (by decide +kernel) (by decide +kernel), gj_w_in 59 (by decide +kernel) (by decide +kernel)⟩
theorem k_X11_214 : gj_CkV RX11 214 m_X11_reads 0 := ⟨⟨Or.inl (gj_w_in 1213 (by decide +kernel) (by decide +kernel)), gl_c_X11_reads, gl_i_X11, ⟨by decide +kernel, by decide +kernel⟩, by decide +kernel, by decide⟩, gj_w_in 1215 (by decide +kernel) (by decide +kernel), gj_w_in 54 (by decide +kernel) (by decide +kernel)⟩
theorem k_X11_218 : gj_CkV RX11 218 m_X11_doesAll 0 := ⟨⟨Or.inl (gj_w_in 1229 (by decide +kernel) (by decide +kernel)), gl_c_X11_doesAll, gl_i_X11, ⟨by decide +kernel, by decide +kernel⟩, by decide +kernel, by decide⟩, gj_w_in 1231 (by decide +kernel) (by decide +kernel), gj_w_in 58 (by decide +kernel) (by decide +kernel)⟩
theorem k_X11_221 : gj_CkV RX11 221 m_X11_toldOf 1 := ⟨⟨Or.inl (gj_w_in 1241 (by decide +kernel) (by decide +kernel)), gl_c_X11_toldOf, gl_i_X11, ⟨by decide +kernel, by decide +kernel⟩, by decide +kernel, by decide⟩, gj_w_in 1243 (by decide +kernel) (by decide +kernel), gj_w_in 60 (by decide +kernel) (by decide +kernel)⟩
theorem k_X11_228 : gj_CkV RX11 228 m_X11_stuck 0 := ⟨⟨Or.inl (gj_w_in 1251 (by decide +kernel) (by decide +kernel)), gl_c_X11_stuck, gl_i_X11, ⟨by decide +kernel, by decide +kernel⟩, by decide +kernel, by decide⟩, gj_w_in 1150 (by decide +kernel) (by decide +kernel), gj_w_in 1151 (by decide +kernel) (by decide +kernel)⟩
theorem l_X10_229 : Cond.constantLong RX10 229 1932 ∈ gj_w := gj_w_in 870 (by decide +kernel) (by decide +kernel)
theorem l_X10_260 : Cond.constantLong RX10 260 31 ∈ gj_w := gj_w_in 874 (by decide +kernel) (by decide +kernel)
theorem n_X10_7 : gj_Nk RX10 7 1 9 [some none, some none, some none, some none, some none, none, none, none, none] := ⟨RX1, TX1, tyX1, rfl, gl_inX1, tyX1_ok, gj_w_in 84 (by decide +kernel) (by decide +kernel), gj_w_in 85 (by decide +kernel) (by decide +kernel), gl_i_X1, by decide +kernel⟩
theorem n_X10_16 : gj_Nk RX10 16 3 3 [some none, none, none] := ⟨RX3, TX3, tyX3, rfl, gl_inX3, tyX3_ok, gj_w_in 315 (by decide +kernel) (by decide +kernel), gj_w_in 316 (by decide +kernel) (by decide +kernel), gl_i_X3, by decide +kernel⟩
theorem n_X10_23 : gj_Nk RX10 23 8 2 [some none, none] := ⟨RX8, TX8, tyX8, rfl, gl_inX8, tyX8_ok, gj_w_in 335 (by decide +kernel) (by decide +kernel), gj_w_in 336 (by decide +kernel) (by decide +kernel), gl_i_X8, by decide +kernel⟩
theorem n_X10_30 : gj_Nk RX10 30 6 8 [some none, some none, some none, some none, none, none, none, none] := ⟨RX6, TX6, tyX6, rfl, gl_inX6, tyX6_ok, gj_w_in 350 (by decide +kernel) (by decide +kernel), gj_w_in 351 (by decide +kernel) (by decide +kernel), gl_i_X6, by decide +kernel⟩
theorem n_X10_39 : gj_Nk RX10 39 4 1 [some none] := ⟨RX4, TX4, tyX4, rfl, gl_inX4, tyX4_ok, gj_w_in 395 (by decide +kernel) (by decide +kernel), gj_w_in 358 (by decide +kernel) (by decide +kernel), gl_i_X4, by decide +kernel⟩
theorem n_X0_9 : gj_Nk RX0 9 2 4 [none, none, none, none] := ⟨RX2, TX2, tyX2, rfl, gl_inX2, tyX2_ok, gj_w_in 143 (by decide +kernel) (by decide +kernel), gj_w_in 114 (by decide +kernel) (by decide +kernel), gl_i_X2, by decide +kernel⟩
theorem n_X0_18 : gj_Nk RX0 18 5 2 [some none, none] := ⟨RX5, TX5, tyX5, rfl, gl_inX5, tyX5_ok, gj_w_in 145 (by decide +kernel) (by decide +kernel), gj_w_in 97 (by decide +kernel) (by decide +kernel), gl_i_X5, by decide +kernel⟩
theorem n_X1_9 : Cond.classLink RX1 9 RX0 ∈ gj_w := gj_w_in 90 (by decide +kernel) (by decide +kernel)
theorem n_X1_17 : Cond.classLink RX1 17 RX7 ∈ gj_w := gj_w_in 92 (by decide +kernel) (by decide +kernel)
theorem n_X1_23 : Cond.classLink RX1 23 RX9 ∈ gj_w := gj_w_in 94 (by decide +kernel) (by decide +kernel)
theorem n_X1_9 : gj_Nk RX1 9 0 9 [some none, some none, some none, none, none, none, none, none, none] := ⟨RX0, TX0, tyX0, rfl, gl_inX0, tyX0_ok, gj_w_in 90 (by decide +kernel) (by decide +kernel), gj_w_in 138 (by decide +kernel) (by decide +kernel), gl_i_X0, by decide +kernel⟩
theorem n_X1_17 : gj_Nk RX1 17 7 12 [none, none, none, none, none, none, none, none, none, none, none, none] := ⟨RX7, TX7, tyX7, rfl, gl_inX7, tyX7_ok, gj_w_in 92 (by decide +kernel) (by decide +kernel), gj_w_in 184 (by decide +kernel) (by decide +kernel), gl_i_X7, by decide +kernel⟩
theorem n_X1_23 : gj_Nk RX1 23 9 4 [none, none, none, none] := ⟨RX9, TX9, tyX9, rfl, gl_inX9, tyX9_ok, gj_w_in 94 (by decide +kernel) (by decide +kernel), gj_w_in 235 (by decide +kernel) (by decide +kernel), gl_i_X9, by decide +kernel⟩
theorem n_X1_29 : gj_Nk RX1 29 5 2 [some none, none] := ⟨RX5, TX5, tyX5, rfl, gl_inX5, tyX5_ok, gj_w_in 96 (by decide +kernel) (by decide +kernel), gj_w_in 97 (by decide +kernel) (by decide +kernel), gl_i_X5, by decide +kernel⟩
theorem n_X1_36 : gj_Nk RX1 36 2 4 [none, none, none, none] := ⟨RX2, TX2, tyX2, rfl, gl_inX2, tyX2_ok, gj_w_in 113 (by decide +kernel) (by decide +kernel), gj_w_in 114 (by decide +kernel) (by decide +kernel), gl_i_X2, by decide +kernel⟩
theorem n_X3_9 : Cond.classLink RX3 9 RX1 ∈ gj_w := gj_w_in 321 (by decide +kernel) (by decide +kernel)
theorem n_X3_9 : gj_Nk RX3 9 1 9 [some none, some none, some none, some none, some none, none, none, none, none] := ⟨RX1, TX1, tyX1, rfl, gl_inX1, tyX1_ok, gj_w_in 321 (by decide +kernel) (by decide +kernel), gj_w_in 85 (by decide +kernel) (by decide +kernel), gl_i_X1, by decide +kernel⟩
theorem n_X4_9 : Cond.classLink RX4 9 RX5 ∈ gj_w := gj_w_in 363 (by decide +kernel) (by decide +kernel)
theorem n_X4_9 : gj_Nk RX4 9 5 2 [some none, none] := ⟨RX5, TX5, tyX5, rfl, gl_inX5, tyX5_ok, gj_w_in 363 (by decide +kernel) (by decide +kernel), gj_w_in 97 (by decide +kernel) (by decide +kernel), gl_i_X5, by decide +kernel⟩
theorem n_X6_9 : Cond.classLink RX6 9 RX4 ∈ gj_w := gj_w_in 356 (by decide +kernel) (by decide +kernel)
theorem n_X6_9 : gj_Nk RX6 9 4 1 [some none] := ⟨RX4, TX4, tyX4, rfl, gl_inX4, tyX4_ok, gj_w_in 356 (by decide +kernel) (by decide +kernel), gj_w_in 358 (by decide +kernel) (by decide +kernel), gl_i_X4, by decide +kernel⟩
theorem n_L_7 : gj_Nk RL 7 10 8 [some none, some none, some none, some none, some none, none, none, none] := ⟨RX10, TX10, tyX10, rfl, gl_inX10, tyX10_ok, gj_w_in 76 (by decide +kernel) (by decide +kernel), gj_w_in 77 (by decide +kernel) (by decide +kernel), gl_i_X10, by decide +kernel⟩
theorem n_L_10 : gj_Nk RL 10 11 17 [some none, some none, none, some none, some none, some none, none, none, none, none, some none, some none, some none, some none, some none, some none, some none] := ⟨RX11, TX11, tyX11, rfl, gl_inX11, tyX11_ok, gj_w_in 887 (by decide +kernel) (by decide +kernel), gj_w_in 888 (by decide +kernel) (by decide +kernel), gl_i_X11, by decide +kernel⟩
theorem l_X11_224 : Cond.constantLong RX11 224 1932 ∈ gj_w := gj_w_in 1249 (by decide +kernel) (by decide +kernel)
theorem l_X11_226 : Cond.constantLong RX11 226 31 ∈ gj_w := gj_w_in 1250 (by decide +kernel) (by decide +kernel)
theorem gl_arr : Cond.arrayClass .int ∈ gj_w := gj_w_in 112 (by decide +kernel) (by decide +kernel)
end
