section
-- ===== PART A: goes FIRST, ahead of the names: the tables' words, and 'selects' of the private methods out of them =====
/-- a private method of a class that the tables say can be made, by its rows of tables_1 -/
def lw_okq (q : MethodName × Nat) : Prop := (q.1.cls ≠ "java/lang/invoke/MethodHandle" ∧ q.1.cls ≠ "java/lang/invoke/VarHandle") ∧ Cond.instantiable q.1.cls q.2 ∈ tables_1 ∧ Cond.privateMethod q.1 ∈ tables_1 ∧ Cond.instanceMethod q.1 ∈ tables_1
theorem lw_p0 : lw_okq (⟨"GatedWorks", "refuseBad", "()I"⟩, 8) := ⟨⟨by decide +kernel, by decide +kernel⟩, List.mem_of_getElem? (i := 16) (by decide +kernel), List.mem_of_getElem? (i := 369) (by decide +kernel), List.mem_of_getElem? (i := 370) (by decide +kernel)⟩
theorem lw_p1 : lw_okq (⟨"GatedWorks$Floor", "serveFirst", "()Z"⟩, 9) := ⟨⟨by decide +kernel, by decide +kernel⟩, List.mem_of_getElem? (i := 24) (by decide +kernel), List.mem_of_getElem? (i := 422) (by decide +kernel), List.mem_of_getElem? (i := 423) (by decide +kernel)⟩
theorem lw_p2 : lw_okq (⟨"GatedWorks", "refuseFull", "()I"⟩, 8) := ⟨⟨by decide +kernel, by decide +kernel⟩, List.mem_of_getElem? (i := 16) (by decide +kernel), List.mem_of_getElem? (i := 481) (by decide +kernel), List.mem_of_getElem? (i := 482) (by decide +kernel)⟩
theorem lw_p3 : lw_okq (⟨"GatedWorks$Floor", "tickStation", "(LGatedWorks$Station;)I"⟩, 9) := ⟨⟨by decide +kernel, by decide +kernel⟩, List.mem_of_getElem? (i := 24) (by decide +kernel), List.mem_of_getElem? (i := 509) (by decide +kernel), List.mem_of_getElem? (i := 510) (by decide +kernel)⟩
theorem lw_p4 : lw_okq (⟨"GatedWorks$Floor", "work", "(LGatedWorks$Station;)I"⟩, 9) := ⟨⟨by decide +kernel, by decide +kernel⟩, List.mem_of_getElem? (i := 24) (by decide +kernel), List.mem_of_getElem? (i := 513) (by decide +kernel), List.mem_of_getElem? (i := 514) (by decide +kernel)⟩
theorem lw_p5 : lw_okq (⟨"GatedWorks$Floor", "deliver", "(LGatedWorks$Station;)I"⟩, 9) := ⟨⟨by decide +kernel, by decide +kernel⟩, List.mem_of_getElem? (i := 24) (by decide +kernel), List.mem_of_getElem? (i := 521) (by decide +kernel), List.mem_of_getElem? (i := 522) (by decide +kernel)⟩
theorem lw_p6 : lw_okq (⟨"GatedWorks$Floor", "takePair", "(II)I"⟩, 9) := ⟨⟨by decide +kernel, by decide +kernel⟩, List.mem_of_getElem? (i := 24) (by decide +kernel), List.mem_of_getElem? (i := 526) (by decide +kernel), List.mem_of_getElem? (i := 527) (by decide +kernel)⟩
theorem lw_p7 : lw_okq (⟨"GatedWorks", "refuseNo", "()I"⟩, 8) := ⟨⟨by decide +kernel, by decide +kernel⟩, List.mem_of_getElem? (i := 16) (by decide +kernel), List.mem_of_getElem? (i := 595) (by decide +kernel), List.mem_of_getElem? (i := 596) (by decide +kernel)⟩
theorem lw_p8 : lw_okq (⟨"GatedWorks$Floor", "isStuck", "(I)Z"⟩, 9) := ⟨⟨by decide +kernel, by decide +kernel⟩, List.mem_of_getElem? (i := 24) (by decide +kernel), List.mem_of_getElem? (i := 661) (by decide +kernel), List.mem_of_getElem? (i := 662) (by decide +kernel)⟩
theorem lw_p9 : lw_okq (⟨"GatedWorks$Floor", "allItems", "()I"⟩, 9) := ⟨⟨by decide +kernel, by decide +kernel⟩, List.mem_of_getElem? (i := 24) (by decide +kernel), List.mem_of_getElem? (i := 707) (by decide +kernel), List.mem_of_getElem? (i := 708) (by decide +kernel)⟩
theorem lw_p10 : lw_okq (⟨"GatedWorks$Floor", "allEntries", "()I"⟩, 9) := ⟨⟨by decide +kernel, by decide +kernel⟩, List.mem_of_getElem? (i := 24) (by decide +kernel), List.mem_of_getElem? (i := 711) (by decide +kernel), List.mem_of_getElem? (i := 712) (by decide +kernel)⟩
theorem lw_p11 : lw_okq (⟨"GatedWorks$Runner", "enterLevel", "()V"⟩, 8) := ⟨⟨by decide +kernel, by decide +kernel⟩, List.mem_of_getElem? (i := 290) (by decide +kernel), List.mem_of_getElem? (i := 752) (by decide +kernel), List.mem_of_getElem? (i := 753) (by decide +kernel)⟩
theorem lw_p12 : lw_okq (⟨"GatedWorks$Runner", "nextByte", "()I"⟩, 8) := ⟨⟨by decide +kernel, by decide +kernel⟩, List.mem_of_getElem? (i := 290) (by decide +kernel), List.mem_of_getElem? (i := 758) (by decide +kernel), List.mem_of_getElem? (i := 759) (by decide +kernel)⟩
theorem lw_p13 : lw_okq (⟨"GatedWorks$Runner", "leaveLevel", "()V"⟩, 8) := ⟨⟨by decide +kernel, by decide +kernel⟩, List.mem_of_getElem? (i := 290) (by decide +kernel), List.mem_of_getElem? (i := 763) (by decide +kernel), List.mem_of_getElem? (i := 764) (by decide +kernel)⟩
theorem lw_p14 : lw_okq (⟨"GatedWorks$Runner", "orderDone", "(I)Z"⟩, 8) := ⟨⟨by decide +kernel, by decide +kernel⟩, List.mem_of_getElem? (i := 290) (by decide +kernel), List.mem_of_getElem? (i := 768) (by decide +kernel), List.mem_of_getElem? (i := 769) (by decide +kernel)⟩
theorem lw_p15 : lw_okq (⟨"GatedWorks$Runner", "nextFigure", "()I"⟩, 8) := ⟨⟨by decide +kernel, by decide +kernel⟩, List.mem_of_getElem? (i := 290) (by decide +kernel), List.mem_of_getElem? (i := 772) (by decide +kernel), List.mem_of_getElem? (i := 773) (by decide +kernel)⟩
def lw_privs_1 : List (MethodName × Nat) := [(⟨"GatedWorks", "refuseBad", "()I"⟩, 8), (⟨"GatedWorks$Floor", "serveFirst", "()Z"⟩, 9), (⟨"GatedWorks", "refuseFull", "()I"⟩, 8), (⟨"GatedWorks$Floor", "tickStation", "(LGatedWorks$Station;)I"⟩, 9), (⟨"GatedWorks$Floor", "work", "(LGatedWorks$Station;)I"⟩, 9), (⟨"GatedWorks$Floor", "deliver", "(LGatedWorks$Station;)I"⟩, 9), (⟨"GatedWorks$Floor", "takePair", "(II)I"⟩, 9), (⟨"GatedWorks", "refuseNo", "()I"⟩, 8), (⟨"GatedWorks$Floor", "isStuck", "(I)Z"⟩, 9), (⟨"GatedWorks$Floor", "allItems", "()I"⟩, 9), (⟨"GatedWorks$Floor", "allEntries", "()I"⟩, 9), (⟨"GatedWorks$Runner", "enterLevel", "()V"⟩, 8), (⟨"GatedWorks$Runner", "nextByte", "()I"⟩, 8), (⟨"GatedWorks$Runner", "leaveLevel", "()V"⟩, 8), (⟨"GatedWorks$Runner", "orderDone", "(I)Z"⟩, 8), (⟨"GatedWorks$Runner", "nextFigure", "()I"⟩, 8)]
theorem lw_r1 : ∀ q ∈ lw_privs_1, lw_okq q := List.forall_mem_cons.mpr ⟨lw_p0, List.forall_mem_cons.mpr ⟨lw_p1, List.forall_mem_cons.mpr ⟨lw_p2, List.forall_mem_cons.mpr ⟨lw_p3, List.forall_mem_cons.mpr ⟨lw_p4, List.forall_mem_cons.mpr ⟨lw_p5, List.forall_mem_cons.mpr ⟨lw_p6, List.forall_mem_cons.mpr ⟨lw_p7, List.forall_mem_cons.mpr ⟨lw_p8, List.forall_mem_cons.mpr ⟨lw_p9, List.forall_mem_cons.mpr ⟨lw_p10, List.forall_mem_cons.mpr ⟨lw_p11, List.forall_mem_cons.mpr ⟨lw_p12, List.forall_mem_cons.mpr ⟨lw_p13, List.forall_mem_cons.mpr ⟨lw_p14, List.forall_mem_cons.mpr ⟨lw_p15, fun _ h => absurd h List.not_mem_nil⟩⟩⟩⟩⟩⟩⟩⟩⟩⟩⟩⟩⟩⟩⟩⟩
theorem lw_p16 : lw_okq (⟨"GatedWorks$Runner", "undoLevel", "()V"⟩, 8) := ⟨⟨by decide +kernel, by decide +kernel⟩, List.mem_of_getElem? (i := 290) (by decide +kernel), List.mem_of_getElem? (i := 780) (by decide +kernel), List.mem_of_getElem? (i := 781) (by decide +kernel)⟩
theorem lw_p17 : lw_okq (⟨"GatedWorks$Runner", "skipGroup", "()V"⟩, 8) := ⟨⟨by decide +kernel, by decide +kernel⟩, List.mem_of_getElem? (i := 290) (by decide +kernel), List.mem_of_getElem? (i := 786) (by decide +kernel), List.mem_of_getElem? (i := 787) (by decide +kernel)⟩
theorem lw_p18 : lw_okq (⟨"GatedWorks", "toldOf", "(I)I"⟩, 8) := ⟨⟨by decide +kernel, by decide +kernel⟩, List.mem_of_getElem? (i := 16) (by decide +kernel), List.mem_of_getElem? (i := 802) (by decide +kernel), List.mem_of_getElem? (i := 803) (by decide +kernel)⟩
theorem lw_p19 : lw_okq (⟨"GatedWorksModel", "lays", "(I)V"⟩, 17) := ⟨⟨by decide +kernel, by decide +kernel⟩, List.mem_of_getElem? (i := 827) (by decide +kernel), List.mem_of_getElem? (i := 833) (by decide +kernel), List.mem_of_getElem? (i := 834) (by decide +kernel)⟩
theorem lw_p20 : lw_okq (⟨"GatedWorksModel", "no", "()I"⟩, 17) := ⟨⟨by decide +kernel, by decide +kernel⟩, List.mem_of_getElem? (i := 827) (by decide +kernel), List.mem_of_getElem? (i := 899) (by decide +kernel), List.mem_of_getElem? (i := 900) (by decide +kernel)⟩
theorem lw_p21 : lw_okq (⟨"GatedWorksModel", "bad", "()I"⟩, 17) := ⟨⟨by decide +kernel, by decide +kernel⟩, List.mem_of_getElem? (i := 827) (by decide +kernel), List.mem_of_getElem? (i := 910) (by decide +kernel), List.mem_of_getElem? (i := 911) (by decide +kernel)⟩
theorem lw_p22 : lw_okq (⟨"GatedWorksModel", "leavesState", "()V"⟩, 17) := ⟨⟨by decide +kernel, by decide +kernel⟩, List.mem_of_getElem? (i := 827) (by decide +kernel), List.mem_of_getElem? (i := 914) (by decide +kernel), List.mem_of_getElem? (i := 915) (by decide +kernel)⟩
theorem lw_p23 : lw_okq (⟨"GatedWorksModel", "isBuffer", "(I)Z"⟩, 17) := ⟨⟨by decide +kernel, by decide +kernel⟩, List.mem_of_getElem? (i := 827) (by decide +kernel), List.mem_of_getElem? (i := 922) (by decide +kernel), List.mem_of_getElem? (i := 923) (by decide +kernel)⟩
theorem lw_p24 : lw_okq (⟨"GatedWorksModel", "serves", "()V"⟩, 17) := ⟨⟨by decide +kernel, by decide +kernel⟩, List.mem_of_getElem? (i := 827) (by decide +kernel), List.mem_of_getElem? (i := 926) (by decide +kernel), List.mem_of_getElem? (i := 927) (by decide +kernel)⟩
theorem lw_p25 : lw_okq (⟨"GatedWorksModel", "tries", "(IIII)Z"⟩, 17) := ⟨⟨by decide +kernel, by decide +kernel⟩, List.mem_of_getElem? (i := 827) (by decide +kernel), List.mem_of_getElem? (i := 930) (by decide +kernel), List.mem_of_getElem? (i := 931) (by decide +kernel)⟩
theorem lw_p26 : lw_okq (⟨"GatedWorksModel", "put", "(III)Z"⟩, 17) := ⟨⟨by decide +kernel, by decide +kernel⟩, List.mem_of_getElem? (i := 827) (by decide +kernel), List.mem_of_getElem? (i := 934) (by decide +kernel), List.mem_of_getElem? (i := 935) (by decide +kernel)⟩
theorem lw_p27 : lw_okq (⟨"GatedWorksModel", "enters", "(I)V"⟩, 17) := ⟨⟨by decide +kernel, by decide +kernel⟩, List.mem_of_getElem? (i := 827) (by decide +kernel), List.mem_of_getElem? (i := 938) (by decide +kernel), List.mem_of_getElem? (i := 939) (by decide +kernel)⟩
theorem lw_p28 : lw_okq (⟨"GatedWorksModel", "isKeptFor", "(II)Z"⟩, 17) := ⟨⟨by decide +kernel, by decide +kernel⟩, List.mem_of_getElem? (i := 827) (by decide +kernel), List.mem_of_getElem? (i := 945) (by decide +kernel), List.mem_of_getElem? (i := 946) (by decide +kernel)⟩
theorem lw_p29 : lw_okq (⟨"GatedWorksModel", "thrownOut", "(I)V"⟩, 17) := ⟨⟨by decide +kernel, by decide +kernel⟩, List.mem_of_getElem? (i := 827) (by decide +kernel), List.mem_of_getElem? (i := 949) (by decide +kernel), List.mem_of_getElem? (i := 950) (by decide +kernel)⟩
theorem lw_p30 : lw_okq (⟨"GatedWorksModel", "leaves", "(I)V"⟩, 17) := ⟨⟨by decide +kernel, by decide +kernel⟩, List.mem_of_getElem? (i := 827) (by decide +kernel), List.mem_of_getElem? (i := 953) (by decide +kernel), List.mem_of_getElem? (i := 954) (by decide +kernel)⟩
theorem lw_p31 : lw_okq (⟨"GatedWorksModel", "take", "(II)I"⟩, 17) := ⟨⟨by decide +kernel, by decide +kernel⟩, List.mem_of_getElem? (i := 827) (by decide +kernel), List.mem_of_getElem? (i := 957) (by decide +kernel), List.mem_of_getElem? (i := 958) (by decide +kernel)⟩
def lw_privs_2 : List (MethodName × Nat) := [(⟨"GatedWorks$Runner", "undoLevel", "()V"⟩, 8), (⟨"GatedWorks$Runner", "skipGroup", "()V"⟩, 8), (⟨"GatedWorks", "toldOf", "(I)I"⟩, 8), (⟨"GatedWorksModel", "lays", "(I)V"⟩, 17), (⟨"GatedWorksModel", "no", "()I"⟩, 17), (⟨"GatedWorksModel", "bad", "()I"⟩, 17), (⟨"GatedWorksModel", "leavesState", "()V"⟩, 17), (⟨"GatedWorksModel", "isBuffer", "(I)Z"⟩, 17), (⟨"GatedWorksModel", "serves", "()V"⟩, 17), (⟨"GatedWorksModel", "tries", "(IIII)Z"⟩, 17), (⟨"GatedWorksModel", "put", "(III)Z"⟩, 17), (⟨"GatedWorksModel", "enters", "(I)V"⟩, 17), (⟨"GatedWorksModel", "isKeptFor", "(II)Z"⟩, 17), (⟨"GatedWorksModel", "thrownOut", "(I)V"⟩, 17), (⟨"GatedWorksModel", "leaves", "(I)V"⟩, 17), (⟨"GatedWorksModel", "take", "(II)I"⟩, 17)]
theorem lw_r2 : ∀ q ∈ lw_privs_2, lw_okq q := List.forall_mem_cons.mpr ⟨lw_p16, List.forall_mem_cons.mpr ⟨lw_p17, List.forall_mem_cons.mpr ⟨lw_p18, List.forall_mem_cons.mpr ⟨lw_p19, List.forall_mem_cons.mpr ⟨lw_p20, List.forall_mem_cons.mpr ⟨lw_p21, List.forall_mem_cons.mpr ⟨lw_p22, List.forall_mem_cons.mpr ⟨lw_p23, List.forall_mem_cons.mpr ⟨lw_p24, List.forall_mem_cons.mpr ⟨lw_p25, List.forall_mem_cons.mpr ⟨lw_p26, List.forall_mem_cons.mpr ⟨lw_p27, List.forall_mem_cons.mpr ⟨lw_p28, List.forall_mem_cons.mpr ⟨lw_p29, List.forall_mem_cons.mpr ⟨lw_p30, List.forall_mem_cons.mpr ⟨lw_p31, fun _ h => absurd h List.not_mem_nil⟩⟩⟩⟩⟩⟩⟩⟩⟩⟩⟩⟩⟩⟩⟩⟩
theorem lw_p32 : lw_okq (⟨"GatedWorksModel", "firstOf", "(I)I"⟩, 17) := ⟨⟨by decide +kernel, by decide +kernel⟩, List.mem_of_getElem? (i := 827) (by decide +kernel), List.mem_of_getElem? (i := 961) (by decide +kernel), List.mem_of_getElem? (i := 962) (by decide +kernel)⟩
theorem lw_p33 : lw_okq (⟨"GatedWorksModel", "goesFromLine", "(I)V"⟩, 17) := ⟨⟨by decide +kernel, by decide +kernel⟩, List.mem_of_getElem? (i := 827) (by decide +kernel), List.mem_of_getElem? (i := 965) (by decide +kernel), List.mem_of_getElem? (i := 966) (by decide +kernel)⟩
theorem lw_p34 : lw_okq (⟨"GatedWorksModel", "full", "()I"⟩, 17) := ⟨⟨by decide +kernel, by decide +kernel⟩, List.mem_of_getElem? (i := 827) (by decide +kernel), List.mem_of_getElem? (i := 973) (by decide +kernel), List.mem_of_getElem? (i := 974) (by decide +kernel)⟩
theorem lw_p35 : lw_okq (⟨"GatedWorksModel", "isStation", "(I)Z"⟩, 17) := ⟨⟨by decide +kernel, by decide +kernel⟩, List.mem_of_getElem? (i := 827) (by decide +kernel), List.mem_of_getElem? (i := 984) (by decide +kernel), List.mem_of_getElem? (i := 985) (by decide +kernel)⟩
theorem lw_p36 : lw_okq (⟨"GatedWorksModel", "madeOfAll", "()I"⟩, 17) := ⟨⟨by decide +kernel, by decide +kernel⟩, List.mem_of_getElem? (i := 827) (by decide +kernel), List.mem_of_getElem? (i := 992) (by decide +kernel), List.mem_of_getElem? (i := 993) (by decide +kernel)⟩
theorem lw_p37 : lw_okq (⟨"GatedWorksModel", "tick", "()V"⟩, 17) := ⟨⟨by decide +kernel, by decide +kernel⟩, List.mem_of_getElem? (i := 827) (by decide +kernel), List.mem_of_getElem? (i := 996) (by decide +kernel), List.mem_of_getElem? (i := 997) (by decide +kernel)⟩
theorem lw_p38 : lw_okq (⟨"GatedWorksModel", "worksOn", "(I)V"⟩, 17) := ⟨⟨by decide +kernel, by decide +kernel⟩, List.mem_of_getElem? (i := 827) (by decide +kernel), List.mem_of_getElem? (i := 1000) (by decide +kernel), List.mem_of_getElem? (i := 1001) (by decide +kernel)⟩
theorem lw_p39 : lw_okq (⟨"GatedWorksModel", "takesOne", "(I)V"⟩, 17) := ⟨⟨by decide +kernel, by decide +kernel⟩, List.mem_of_getElem? (i := 827) (by decide +kernel), List.mem_of_getElem? (i := 1004) (by decide +kernel), List.mem_of_getElem? (i := 1005) (by decide +kernel)⟩
theorem lw_p40 : lw_okq (⟨"GatedWorksModel", "starts", "(II)V"⟩, 17) := ⟨⟨by decide +kernel, by decide +kernel⟩, List.mem_of_getElem? (i := 827) (by decide +kernel), List.mem_of_getElem? (i := 1008) (by decide +kernel), List.mem_of_getElem? (i := 1009) (by decide +kernel)⟩
theorem lw_p41 : lw_okq (⟨"GatedWorksModel", "takesBoth", "(I)V"⟩, 17) := ⟨⟨by decide +kernel, by decide +kernel⟩, List.mem_of_getElem? (i := 827) (by decide +kernel), List.mem_of_getElem? (i := 1012) (by decide +kernel), List.mem_of_getElem? (i := 1013) (by decide +kernel)⟩
theorem lw_p42 : lw_okq (⟨"GatedWorksModel", "laysAside", "(I)V"⟩, 17) := ⟨⟨by decide +kernel, by decide +kernel⟩, List.mem_of_getElem? (i := 827) (by decide +kernel), List.mem_of_getElem? (i := 1034) (by decide +kernel), List.mem_of_getElem? (i := 1035) (by decide +kernel)⟩
theorem lw_p43 : lw_okq (⟨"GatedWorksModel", "move", "(III)I"⟩, 17) := ⟨⟨by decide +kernel, by decide +kernel⟩, List.mem_of_getElem? (i := 827) (by decide +kernel), List.mem_of_getElem? (i := 1038) (by decide +kernel), List.mem_of_getElem? (i := 1039) (by decide +kernel)⟩
theorem lw_p44 : lw_okq (⟨"GatedWorksModel", "firstAgain", "(II)V"⟩, 17) := ⟨⟨by decide +kernel, by decide +kernel⟩, List.mem_of_getElem? (i := 827) (by decide +kernel), List.mem_of_getElem? (i := 1042) (by decide +kernel), List.mem_of_getElem? (i := 1043) (by decide +kernel)⟩
theorem lw_p45 : lw_okq (⟨"GatedWorksModel", "undoes", "(I)V"⟩, 17) := ⟨⟨by decide +kernel, by decide +kernel⟩, List.mem_of_getElem? (i := 827) (by decide +kernel), List.mem_of_getElem? (i := 1046) (by decide +kernel), List.mem_of_getElem? (i := 1047) (by decide +kernel)⟩
theorem lw_p46 : lw_okq (⟨"GatedWorksModel", "queueOf", "(I)I"⟩, 17) := ⟨⟨by decide +kernel, by decide +kernel⟩, List.mem_of_getElem? (i := 827) (by decide +kernel), List.mem_of_getElem? (i := 1065) (by decide +kernel), List.mem_of_getElem? (i := 1066) (by decide +kernel)⟩
theorem lw_p47 : lw_okq (⟨"GatedWorksModel", "goesFromQueue", "(II)V"⟩, 17) := ⟨⟨by decide +kernel, by decide +kernel⟩, List.mem_of_getElem? (i := 827) (by decide +kernel), List.mem_of_getElem? (i := 1073) (by decide +kernel), List.mem_of_getElem? (i := 1074) (by decide +kernel)⟩
def lw_privs_3 : List (MethodName × Nat) := [(⟨"GatedWorksModel", "firstOf", "(I)I"⟩, 17), (⟨"GatedWorksModel", "goesFromLine", "(I)V"⟩, 17), (⟨"GatedWorksModel", "full", "()I"⟩, 17), (⟨"GatedWorksModel", "isStation", "(I)Z"⟩, 17), (⟨"GatedWorksModel", "madeOfAll", "()I"⟩, 17), (⟨"GatedWorksModel", "tick", "()V"⟩, 17), (⟨"GatedWorksModel", "worksOn", "(I)V"⟩, 17), (⟨"GatedWorksModel", "takesOne", "(I)V"⟩, 17), (⟨"GatedWorksModel", "starts", "(II)V"⟩, 17), (⟨"GatedWorksModel", "takesBoth", "(I)V"⟩, 17), (⟨"GatedWorksModel", "laysAside", "(I)V"⟩, 17), (⟨"GatedWorksModel", "move", "(III)I"⟩, 17), (⟨"GatedWorksModel", "firstAgain", "(II)V"⟩, 17), (⟨"GatedWorksModel", "undoes", "(I)V"⟩, 17), (⟨"GatedWorksModel", "queueOf", "(I)I"⟩, 17), (⟨"GatedWorksModel", "goesFromQueue", "(II)V"⟩, 17)]
theorem lw_r3 : ∀ q ∈ lw_privs_3, lw_okq q := List.forall_mem_cons.mpr ⟨lw_p32, List.forall_mem_cons.mpr ⟨lw_p33, List.forall_mem_cons.mpr ⟨lw_p34, List.forall_mem_cons.mpr ⟨lw_p35, List.forall_mem_cons.mpr ⟨lw_p36, List.forall_mem_cons.mpr ⟨lw_p37, List.forall_mem_cons.mpr ⟨lw_p38, List.forall_mem_cons.mpr ⟨lw_p39, List.forall_mem_cons.mpr ⟨lw_p40, List.forall_mem_cons.mpr ⟨lw_p41, List.forall_mem_cons.mpr ⟨lw_p42, List.forall_mem_cons.mpr ⟨lw_p43, List.forall_mem_cons.mpr ⟨lw_p44, List.forall_mem_cons.mpr ⟨lw_p45, List.forall_mem_cons.mpr ⟨lw_p46, List.forall_mem_cons.mpr ⟨lw_p47, fun _ h => absurd h List.not_mem_nil⟩⟩⟩⟩⟩⟩⟩⟩⟩⟩⟩⟩⟩⟩⟩⟩
theorem lw_p48 : lw_okq (⟨"GatedWorksModel", "isStuck", "(I)Z"⟩, 17) := ⟨⟨by decide +kernel, by decide +kernel⟩, List.mem_of_getElem? (i := 827) (by decide +kernel), List.mem_of_getElem? (i := 1093) (by decide +kernel), List.mem_of_getElem? (i := 1094) (by decide +kernel)⟩
theorem lw_p49 : lw_okq (⟨"GatedWorksModel", "ofBuffer", "(II)I"⟩, 17) := ⟨⟨by decide +kernel, by decide +kernel⟩, List.mem_of_getElem? (i := 827) (by decide +kernel), List.mem_of_getElem? (i := 1101) (by decide +kernel), List.mem_of_getElem? (i := 1102) (by decide +kernel)⟩
theorem lw_p50 : lw_okq (⟨"GatedWorksModel", "ofStation", "(II)I"⟩, 17) := ⟨⟨by decide +kernel, by decide +kernel⟩, List.mem_of_getElem? (i := 827) (by decide +kernel), List.mem_of_getElem? (i := 1113) (by decide +kernel), List.mem_of_getElem? (i := 1114) (by decide +kernel)⟩
theorem lw_p51 : lw_okq (⟨"GatedWorksModel", "worksBy", "(I)I"⟩, 17) := ⟨⟨by decide +kernel, by decide +kernel⟩, List.mem_of_getElem? (i := 827) (by decide +kernel), List.mem_of_getElem? (i := 1129) (by decide +kernel), List.mem_of_getElem? (i := 1130) (by decide +kernel)⟩
theorem lw_p52 : lw_okq (⟨"GatedWorksModel", "itemsOfAll", "()I"⟩, 17) := ⟨⟨by decide +kernel, by decide +kernel⟩, List.mem_of_getElem? (i := 827) (by decide +kernel), List.mem_of_getElem? (i := 1133) (by decide +kernel), List.mem_of_getElem? (i := 1134) (by decide +kernel)⟩
theorem lw_p53 : lw_okq (⟨"GatedWorksModel", "entriesOfAll", "()I"⟩, 17) := ⟨⟨by decide +kernel, by decide +kernel⟩, List.mem_of_getElem? (i := 827) (by decide +kernel), List.mem_of_getElem? (i := 1137) (by decide +kernel), List.mem_of_getElem? (i := 1138) (by decide +kernel)⟩
theorem lw_p54 : lw_okq (⟨"GatedWorksModel", "reads", "()Z"⟩, 17) := ⟨⟨by decide +kernel, by decide +kernel⟩, List.mem_of_getElem? (i := 827) (by decide +kernel), List.mem_of_getElem? (i := 1153) (by decide +kernel), List.mem_of_getElem? (i := 1154) (by decide +kernel)⟩
theorem lw_p55 : lw_okq (⟨"GatedWorksModel", "here", "()I"⟩, 17) := ⟨⟨by decide +kernel, by decide +kernel⟩, List.mem_of_getElem? (i := 827) (by decide +kernel), List.mem_of_getElem? (i := 1157) (by decide +kernel), List.mem_of_getElem? (i := 1158) (by decide +kernel)⟩
theorem lw_p56 : lw_okq (⟨"GatedWorksModel", "comes", "(I)V"⟩, 17) := ⟨⟨by decide +kernel, by decide +kernel⟩, List.mem_of_getElem? (i := 827) (by decide +kernel), List.mem_of_getElem? (i := 1161) (by decide +kernel), List.mem_of_getElem? (i := 1162) (by decide +kernel)⟩
theorem lw_p57 : lw_okq (⟨"GatedWorksModel", "figure", "()I"⟩, 17) := ⟨⟨by decide +kernel, by decide +kernel⟩, List.mem_of_getElem? (i := 827) (by decide +kernel), List.mem_of_getElem? (i := 1165) (by decide +kernel), List.mem_of_getElem? (i := 1166) (by decide +kernel)⟩
theorem lw_p58 : lw_okq (⟨"GatedWorksModel", "doesAll", "()I"⟩, 17) := ⟨⟨by decide +kernel, by decide +kernel⟩, List.mem_of_getElem? (i := 827) (by decide +kernel), List.mem_of_getElem? (i := 1169) (by decide +kernel), List.mem_of_getElem? (i := 1170) (by decide +kernel)⟩
theorem lw_p59 : lw_okq (⟨"GatedWorksModel", "doesOne", "(I)Z"⟩, 17) := ⟨⟨by decide +kernel, by decide +kernel⟩, List.mem_of_getElem? (i := 827) (by decide +kernel), List.mem_of_getElem? (i := 1173) (by decide +kernel), List.mem_of_getElem? (i := 1174) (by decide +kernel)⟩
theorem lw_p60 : lw_okq (⟨"GatedWorksModel", "toldOf", "(I)I"⟩, 17) := ⟨⟨by decide +kernel, by decide +kernel⟩, List.mem_of_getElem? (i := 827) (by decide +kernel), List.mem_of_getElem? (i := 1181) (by decide +kernel), List.mem_of_getElem? (i := 1182) (by decide +kernel)⟩
def lw_privs_4 : List (MethodName × Nat) := [(⟨"GatedWorksModel", "isStuck", "(I)Z"⟩, 17), (⟨"GatedWorksModel", "ofBuffer", "(II)I"⟩, 17), (⟨"GatedWorksModel", "ofStation", "(II)I"⟩, 17), (⟨"GatedWorksModel", "worksBy", "(I)I"⟩, 17), (⟨"GatedWorksModel", "itemsOfAll", "()I"⟩, 17), (⟨"GatedWorksModel", "entriesOfAll", "()I"⟩, 17), (⟨"GatedWorksModel", "reads", "()Z"⟩, 17), (⟨"GatedWorksModel", "here", "()I"⟩, 17), (⟨"GatedWorksModel", "comes", "(I)V"⟩, 17), (⟨"GatedWorksModel", "figure", "()I"⟩, 17), (⟨"GatedWorksModel", "doesAll", "()I"⟩, 17), (⟨"GatedWorksModel", "doesOne", "(I)Z"⟩, 17), (⟨"GatedWorksModel", "toldOf", "(I)I"⟩, 17)]
theorem lw_r4 : ∀ q ∈ lw_privs_4, lw_okq q := List.forall_mem_cons.mpr ⟨lw_p48, List.forall_mem_cons.mpr ⟨lw_p49, List.forall_mem_cons.mpr ⟨lw_p50, List.forall_mem_cons.mpr ⟨lw_p51, List.forall_mem_cons.mpr ⟨lw_p52, List.forall_mem_cons.mpr ⟨lw_p53, List.forall_mem_cons.mpr ⟨lw_p54, List.forall_mem_cons.mpr ⟨lw_p55, List.forall_mem_cons.mpr ⟨lw_p56, List.forall_mem_cons.mpr ⟨lw_p57, List.forall_mem_cons.mpr ⟨lw_p58, List.forall_mem_cons.mpr ⟨lw_p59, List.forall_mem_cons.mpr ⟨lw_p60, fun _ h => absurd h List.not_mem_nil⟩⟩⟩⟩⟩⟩⟩⟩⟩⟩⟩⟩⟩
def lw_privs : List (MethodName × Nat) := lw_privs_1 ++ (lw_privs_2 ++ (lw_privs_3 ++ (lw_privs_4)))
def lw_tbl : List Cond := k2_sels lw_privs ++ tables_1
theorem lw_privs_ok : ∀ q ∈ lw_privs, lw_okq q := by
  show ∀ q ∈ lw_privs_1 ++ (lw_privs_2 ++ (lw_privs_3 ++ (lw_privs_4))), lw_okq q
  exact List.forall_mem_append.mpr ⟨lw_r1, List.forall_mem_append.mpr ⟨lw_r2, List.forall_mem_append.mpr ⟨lw_r3, lw_r4⟩⟩⟩
-- ===== end of PART A; then your names; then what follows =====
end
section
def RX0 : String := "GatedWorks$Buffer"
def TX0 : u_T := fun k => match k with
  | 0 => ("GatedWorks$Buffer", "gate", "LGatedWorks$Gate;", true)
  | 1 => ("GatedWorks$Buffer", "items", "LGatedWorks$Row;", true)
  | 2 => ("GatedWorks$Buffer", "queued", "LGatedWorks$Row;", true)
  | 3 => ("GatedWorks$Buffer", "room", "I", false)
  | 4 => ("GatedWorks$Buffer", "ins", "I", false)
  | 5 => ("GatedWorks$Buffer", "outs", "I", false)
  | 6 => ("GatedWorks$Buffer", "peak", "I", false)
  | 7 => ("GatedWorks$Buffer", "keptBy", "I", false)
  | _ => ("GatedWorks$Buffer", "keptTimes", "I", false)
def tyX0 : Nat → FieldType := fun k => match k with
  | 0 => .object "GatedWorks$Gate"
  | 1 => .object "GatedWorks$Row"
  | 2 => .object "GatedWorks$Row"
  | 3 => .int
  | 4 => .int
  | 5 => .int
  | 6 => .int
  | 7 => .int
  | _ => .int
abbrev wsX00 : List Cond := u_ws RX0 TX0 9
theorem nmX0 : ∀ a, a < 9 → ∀ b, b < 9 → a ≠ b → (TX0 a).2.1 ≠ (TX0 b).2.1 := by decide +kernel
theorem tyX0_ok : ∀ k, k < 9 → parseFieldDescriptor (TX0 k).2.2.1 = some (tyX0 k) := by decide +kernel
abbrev cX0_init : ByteArray := prog_2_method_1_code
def yX0_init : MethodName := ⟨RX0, "<init>", "()V"⟩
abbrev cX0_put : ByteArray := prog_2_method_2_code
def yX0_put : MethodName := ⟨RX0, "put", "(II)Z"⟩
abbrev cX0_take : ByteArray := prog_2_method_3_code
def yX0_take : MethodName := ⟨RX0, "take", "(I)I"⟩
abbrev cX0_canGive : ByteArray := prog_2_method_4_code
def yX0_canGive : MethodName := ⟨RX0, "canGive", "(I)Z"⟩
abbrev cX0_giveFirst : ByteArray := prog_2_method_5_code
def yX0_giveFirst : MethodName := ⟨RX0, "giveFirst", "()I"⟩
abbrev cX0_isKeptByAnother : ByteArray := prog_2_method_6_code
def yX0_isKeptByAnother : MethodName := ⟨RX0, "isKeptByAnother", "(I)Z"⟩
abbrev cX0_keepFor : ByteArray := prog_2_method_7_code
def yX0_keepFor : MethodName := ⟨RX0, "keepFor", "(I)I"⟩
abbrev cX0_letGo : ByteArray := prog_2_method_8_code
def yX0_letGo : MethodName := ⟨RX0, "letGo", "()I"⟩
abbrev cX0_bufferTold : ByteArray := prog_2_method_9_code
def yX0_bufferTold : MethodName := ⟨RX0, "bufferTold", "(I)I"⟩
abbrev cX0_keepingTold : ByteArray := prog_2_method_10_code
def yX0_keepingTold : MethodName := ⟨RX0, "keepingTold", "(I)I"⟩
abbrev cX0_startAnew : ByteArray := prog_2_method_11_code
def yX0_startAnew : MethodName := ⟨RX0, "startAnew", "()V"⟩
abbrev cX0_copyFrom : ByteArray := prog_2_method_12_code
def yX0_copyFrom : MethodName := ⟨RX0, "copyFrom", "(LGatedWorks$Buffer;)V"⟩
def RX1 : String := "GatedWorks$Floor"
def TX1 : u_T := fun k => match k with
  | 0 => ("GatedWorks$Floor", "buffers", "[LGatedWorks$Buffer;", true)
  | 1 => ("GatedWorks$Floor", "stations", "[LGatedWorks$Station;", true)
  | 2 => ("GatedWorks$Floor", "workers", "[LGatedWorks$Worker;", true)
  | 3 => ("GatedWorks$Floor", "waiting", "LGatedWorks$Row;", true)
  | 4 => ("GatedWorks$Floor", "master", "LGatedWorks$Gate;", true)
  | 5 => ("GatedWorks$Floor", "bufferCount", "I", false)
  | 6 => ("GatedWorks$Floor", "stationCount", "I", false)
  | 7 => ("GatedWorks$Floor", "tickCount", "I", false)
  | _ => ("GatedWorks$Floor", "unguarded", "I", false)
def tyX1 : Nat → FieldType := fun k => match k with
  | 0 => .array (.object "GatedWorks$Buffer")
  | 1 => .array (.object "GatedWorks$Station")
  | 2 => .array (.object "GatedWorks$Worker")
  | 3 => .object "GatedWorks$Row"
  | 4 => .object "GatedWorks$Gate"
  | 5 => .int
  | 6 => .int
  | 7 => .int
  | _ => .int
abbrev wsX10 : List Cond := u_ws RX1 TX1 9
theorem nmX1 : ∀ a, a < 9 → ∀ b, b < 9 → a ≠ b → (TX1 a).2.1 ≠ (TX1 b).2.1 := by decide +kernel
theorem tyX1_ok : ∀ k, k < 9 → parseFieldDescriptor (TX1 k).2.2.1 = some (tyX1 k) := by decide +kernel
abbrev cX1_init : ByteArray := prog_3_method_1_code
def yX1_init : MethodName := ⟨RX1, "<init>", "()V"⟩
abbrev cX1_startAnew : ByteArray := prog_3_method_2_code
def yX1_startAnew : MethodName := ⟨RX1, "startAnew", "(I)V"⟩
abbrev cX1_hasBuffer : ByteArray := prog_3_method_3_code
def yX1_hasBuffer : MethodName := ⟨RX1, "hasBuffer", "(I)Z"⟩
abbrev cX1_hasBufferOrNone : ByteArray := prog_3_method_4_code
def yX1_hasBufferOrNone : MethodName := ⟨RX1, "hasBufferOrNone", "(I)Z"⟩
abbrev cX1_hasStation : ByteArray := prog_3_method_5_code
def yX1_hasStation : MethodName := ⟨RX1, "hasStation", "(I)Z"⟩
abbrev cX1_move : ByteArray := prog_3_method_6_code
def yX1_move : MethodName := ⟨RX1, "move", "(III)I"⟩
abbrev cX1_moveOne : ByteArray := prog_3_method_7_code
def yX1_moveOne : MethodName := ⟨RX1, "moveOne", "(LGatedWorks$Buffer;LGatedWorks$Buffer;)Z"⟩
abbrev cX1_leaveBoth : ByteArray := prog_3_method_8_code
def yX1_leaveBoth : MethodName := ⟨RX1, "leaveBoth", "(LGatedWorks$Gate;LGatedWorks$Gate;Z)V"⟩
abbrev cX1_tick : ByteArray := prog_3_method_9_code
def yX1_tick : MethodName := ⟨RX1, "tick", "()I"⟩
abbrev cX1_tickStation : ByteArray := prog_3_method_10_code
def yX1_tickStation : MethodName := ⟨RX1, "tickStation", "(LGatedWorks$Station;)I"⟩
abbrev cX1_work : ByteArray := prog_3_method_11_code
def yX1_work : MethodName := ⟨RX1, "work", "(LGatedWorks$Station;)I"⟩
abbrev cX1_deliver : ByteArray := prog_3_method_12_code
def yX1_deliver : MethodName := ⟨RX1, "deliver", "(LGatedWorks$Station;)I"⟩
abbrev cX1_takePair : ByteArray := prog_3_method_13_code
def yX1_takePair : MethodName := ⟨RX1, "takePair", "(II)I"⟩
abbrev cX1_tryWish : ByteArray := prog_3_method_14_code
def yX1_tryWish : MethodName := ⟨RX1, "tryWish", "(I)Z"⟩
abbrev cX1_serve : ByteArray := prog_3_method_15_code
def yX1_serve : MethodName := ⟨RX1, "serve", "()V"⟩
abbrev cX1_serveFirst : ByteArray := prog_3_method_16_code
def yX1_serveFirst : MethodName := ⟨RX1, "serveFirst", "()Z"⟩
abbrev cX1_queuedAt : ByteArray := prog_3_method_17_code
def yX1_queuedAt : MethodName := ⟨RX1, "queuedAt", "(I)I"⟩
abbrev cX1_stuckBits : ByteArray := prog_3_method_18_code
def yX1_stuckBits : MethodName := ⟨RX1, "stuckBits", "()I"⟩
abbrev cX1_isStuck : ByteArray := prog_3_method_19_code
def yX1_isStuck : MethodName := ⟨RX1, "isStuck", "(I)Z"⟩
abbrev cX1_worksTold : ByteArray := prog_3_method_20_code
def yX1_worksTold : MethodName := ⟨RX1, "worksTold", "(I)I"⟩
abbrev cX1_allItems : ByteArray := prog_3_method_21_code
def yX1_allItems : MethodName := ⟨RX1, "allItems", "()I"⟩
abbrev cX1_allEntries : ByteArray := prog_3_method_22_code
def yX1_allEntries : MethodName := ⟨RX1, "allEntries", "()I"⟩
abbrev cX1_copyFrom : ByteArray := prog_3_method_23_code
def yX1_copyFrom : MethodName := ⟨RX1, "copyFrom", "(LGatedWorks$Floor;)V"⟩
def RX2 : String := "GatedWorks$Gate"
def TX2 : u_T := fun k => match k with
  | 0 => ("GatedWorks$Gate", "entries", "I", false)
  | 1 => ("GatedWorks$Gate", "depth", "I", false)
  | 2 => ("GatedWorks$Gate", "deepest", "I", false)
  | _ => ("GatedWorks$Gate", "thrown", "I", false)
def tyX2 : Nat → FieldType := fun k => match k with
  | 0 => .int
  | 1 => .int
  | 2 => .int
  | _ => .int
abbrev wsX20 : List Cond := u_ws RX2 TX2 4
theorem nmX2 : ∀ a, a < 4 → ∀ b, b < 4 → a ≠ b → (TX2 a).2.1 ≠ (TX2 b).2.1 := by decide +kernel
theorem tyX2_ok : ∀ k, k < 4 → parseFieldDescriptor (TX2 k).2.2.1 = some (tyX2 k) := by decide +kernel
abbrev cX2_init : ByteArray := prog_4_method_1_code
def yX2_init : MethodName := ⟨RX2, "<init>", "()V"⟩
abbrev cX2_enter : ByteArray := prog_4_method_2_code
def yX2_enter : MethodName := ⟨RX2, "enter", "()V"⟩
abbrev cX2_leave : ByteArray := prog_4_method_3_code
def yX2_leave : MethodName := ⟨RX2, "leave", "()V"⟩
abbrev cX2_leaveThrown : ByteArray := prog_4_method_4_code
def yX2_leaveThrown : MethodName := ⟨RX2, "leaveThrown", "()V"⟩
abbrev cX2_startAnew : ByteArray := prog_4_method_5_code
def yX2_startAnew : MethodName := ⟨RX2, "startAnew", "()V"⟩
abbrev cX2_copyFrom : ByteArray := prog_4_method_6_code
def yX2_copyFrom : MethodName := ⟨RX2, "copyFrom", "(LGatedWorks$Gate;)V"⟩
def RX3 : String := "GatedWorks$History"
def TX3 : u_T := fun k => match k with
  | 0 => ("GatedWorks$History", "floors", "[LGatedWorks$Floor;", true)
  | 1 => ("GatedWorks$History", "next", "I", false)
  | _ => ("GatedWorks$History", "size", "I", false)
def tyX3 : Nat → FieldType := fun k => match k with
  | 0 => .array (.object "GatedWorks$Floor")
  | 1 => .int
  | _ => .int
abbrev wsX30 : List Cond := u_ws RX3 TX3 3
theorem nmX3 : ∀ a, a < 3 → ∀ b, b < 3 → a ≠ b → (TX3 a).2.1 ≠ (TX3 b).2.1 := by decide +kernel
theorem tyX3_ok : ∀ k, k < 3 → parseFieldDescriptor (TX3 k).2.2.1 = some (tyX3 k) := by decide +kernel
abbrev cX3_init : ByteArray := prog_5_method_1_code
def yX3_init : MethodName := ⟨RX3, "<init>", "()V"⟩
abbrev cX3_keep : ByteArray := prog_5_method_2_code
def yX3_keep : MethodName := ⟨RX3, "keep", "(LGatedWorks$Floor;)V"⟩
abbrev cX3_giveBack : ByteArray := prog_5_method_3_code
def yX3_giveBack : MethodName := ⟨RX3, "giveBack", "(LGatedWorks$Floor;)V"⟩
def RX4 : String := "GatedWorks$ItemsAhead"
def TX4 : u_T := fun k => match k with
  | _ => ("GatedWorks$ItemsAhead", "rows", "[LGatedWorks$Row;", true)
def tyX4 : Nat → FieldType := fun k => match k with
  | _ => .array (.object "GatedWorks$Row")
abbrev wsX40 : List Cond := u_ws RX4 TX4 1
theorem nmX4 : ∀ a, a < 1 → ∀ b, b < 1 → a ≠ b → (TX4 a).2.1 ≠ (TX4 b).2.1 := by decide +kernel
theorem tyX4_ok : ∀ k, k < 1 → parseFieldDescriptor (TX4 k).2.2.1 = some (tyX4 k) := by decide +kernel
abbrev cX4_init : ByteArray := prog_6_method_1_code
def yX4_init : MethodName := ⟨RX4, "<init>", "()V"⟩
abbrev cX4_keep : ByteArray := prog_6_method_2_code
def yX4_keep : MethodName := ⟨RX4, "keep", "(LGatedWorks$Floor;)V"⟩
abbrev cX4_giveBack : ByteArray := prog_6_method_3_code
def yX4_giveBack : MethodName := ⟨RX4, "giveBack", "(LGatedWorks$Floor;)V"⟩
def RX5 : String := "GatedWorks$Row"
def TX5 : u_T := fun k => match k with
  | 0 => ("GatedWorks$Row", "values", "[I", true)
  | _ => ("GatedWorks$Row", "size", "I", false)
def tyX5 : Nat → FieldType := fun k => match k with
  | 0 => .array .int
  | _ => .int
abbrev wsX50 : List Cond := u_ws RX5 TX5 2
theorem nmX5 : ∀ a, a < 2 → ∀ b, b < 2 → a ≠ b → (TX5 a).2.1 ≠ (TX5 b).2.1 := by decide +kernel
theorem tyX5_ok : ∀ k, k < 2 → parseFieldDescriptor (TX5 k).2.2.1 = some (tyX5 k) := by decide +kernel
abbrev cX5_init : ByteArray := prog_7_method_1_code
def yX5_init : MethodName := ⟨RX5, "<init>", "()V"⟩
abbrev cX5_at : ByteArray := prog_7_method_2_code
def yX5_at : MethodName := ⟨RX5, "at", "(I)I"⟩
abbrev cX5_placeOf : ByteArray := prog_7_method_3_code
def yX5_placeOf : MethodName := ⟨RX5, "placeOf", "(I)I"⟩
abbrev cX5_addLast : ByteArray := prog_7_method_4_code
def yX5_addLast : MethodName := ⟨RX5, "addLast", "(I)V"⟩
abbrev cX5_addFirst : ByteArray := prog_7_method_5_code
def yX5_addFirst : MethodName := ⟨RX5, "addFirst", "(I)V"⟩
abbrev cX5_removeAt : ByteArray := prog_7_method_6_code
def yX5_removeAt : MethodName := ⟨RX5, "removeAt", "(I)I"⟩
abbrev cX5_copyFrom : ByteArray := prog_7_method_7_code
def yX5_copyFrom : MethodName := ⟨RX5, "copyFrom", "(LGatedWorks$Row;)V"⟩
def RX6 : String := "GatedWorks$Runner"
def TX6 : u_T := fun k => match k with
  | 0 => ("GatedWorks$Runner", "aheadOf", "[LGatedWorks$ItemsAhead;", true)
  | 1 => ("GatedWorks$Runner", "doneAheadOf", "[I", true)
  | 2 => ("GatedWorks$Runner", "text", "LGatedWorks$Text;", true)
  | 3 => ("GatedWorks$Runner", "floor", "LGatedWorks$Floor;", true)
  | 4 => ("GatedWorks$Runner", "place", "I", false)
  | 5 => ("GatedWorks$Runner", "level", "I", false)
  | 6 => ("GatedWorks$Runner", "done", "I", false)
  | _ => ("GatedWorks$Runner", "cameTo", "I", false)
def tyX6 : Nat → FieldType := fun k => match k with
  | 0 => .array (.object "GatedWorks$ItemsAhead")
  | 1 => .array .int
  | 2 => .object "GatedWorks$Text"
  | 3 => .object "GatedWorks$Floor"
  | 4 => .int
  | 5 => .int
  | 6 => .int
  | _ => .int
abbrev wsX60 : List Cond := u_ws RX6 TX6 8
theorem nmX6 : ∀ a, a < 8 → ∀ b, b < 8 → a ≠ b → (TX6 a).2.1 ≠ (TX6 b).2.1 := by decide +kernel
theorem tyX6_ok : ∀ k, k < 8 → parseFieldDescriptor (TX6 k).2.2.1 = some (tyX6 k) := by decide +kernel
abbrev cX6_init : ByteArray := prog_8_method_1_code
def yX6_init : MethodName := ⟨RX6, "<init>", "(LGatedWorks$Text;LGatedWorks$Floor;)V"⟩
abbrev cX6_run : ByteArray := prog_8_method_2_code
def yX6_run : MethodName := ⟨RX6, "run", "()I"⟩
abbrev cX6_enterLevel : ByteArray := prog_8_method_3_code
def yX6_enterLevel : MethodName := ⟨RX6, "enterLevel", "()V"⟩
abbrev cX6_leaveLevel : ByteArray := prog_8_method_4_code
def yX6_leaveLevel : MethodName := ⟨RX6, "leaveLevel", "()V"⟩
abbrev cX6_undoLevel : ByteArray := prog_8_method_5_code
def yX6_undoLevel : MethodName := ⟨RX6, "undoLevel", "()V"⟩
abbrev cX6_skipGroup : ByteArray := prog_8_method_6_code
def yX6_skipGroup : MethodName := ⟨RX6, "skipGroup", "()V"⟩
abbrev cX6_orderDone : ByteArray := prog_8_method_7_code
def yX6_orderDone : MethodName := ⟨RX6, "orderDone", "(I)Z"⟩
abbrev cX6_nextFigure : ByteArray := prog_8_method_8_code
def yX6_nextFigure : MethodName := ⟨RX6, "nextFigure", "()I"⟩
abbrev cX6_nextByte : ByteArray := prog_8_method_9_code
def yX6_nextByte : MethodName := ⟨RX6, "nextByte", "()I"⟩
def RX7 : String := "GatedWorks$Station"
def TX7 : u_T := fun k => match k with
  | 0 => ("GatedWorks$Station", "in0", "I", false)
  | 1 => ("GatedWorks$Station", "in1", "I", false)
  | 2 => ("GatedWorks$Station", "out", "I", false)
  | 3 => ("GatedWorks$Station", "time", "I", false)
  | 4 => ("GatedWorks$Station", "add", "I", false)
  | 5 => ("GatedWorks$Station", "guard", "I", false)
  | 6 => ("GatedWorks$Station", "phase", "I", false)
  | 7 => ("GatedWorks$Station", "left", "I", false)
  | 8 => ("GatedWorks$Station", "kind", "I", false)
  | 9 => ("GatedWorks$Station", "made", "I", false)
  | 10 => ("GatedWorks$Station", "held", "I", false)
  | _ => ("GatedWorks$Station", "starved", "I", false)
def tyX7 : Nat → FieldType := fun k => match k with
  | 0 => .int
  | 1 => .int
  | 2 => .int
  | 3 => .int
  | 4 => .int
  | 5 => .int
  | 6 => .int
  | 7 => .int
  | 8 => .int
  | 9 => .int
  | 10 => .int
  | _ => .int
abbrev wsX70 : List Cond := u_ws RX7 TX7 12
theorem nmX7 : ∀ a, a < 12 → ∀ b, b < 12 → a ≠ b → (TX7 a).2.1 ≠ (TX7 b).2.1 := by decide +kernel
theorem tyX7_ok : ∀ k, k < 12 → parseFieldDescriptor (TX7 k).2.2.1 = some (tyX7 k) := by decide +kernel
abbrev cX7_init : ByteArray := prog_9_method_1_code
def yX7_init : MethodName := ⟨RX7, "<init>", "()V"⟩
abbrev cX7_setUp : ByteArray := prog_9_method_2_code
def yX7_setUp : MethodName := ⟨RX7, "setUp", "(IIIII)V"⟩
abbrev cX7_becomeIdle : ByteArray := prog_9_method_3_code
def yX7_becomeIdle : MethodName := ⟨RX7, "becomeIdle", "()V"⟩
abbrev cX7_load : ByteArray := prog_9_method_4_code
def yX7_load : MethodName := ⟨RX7, "load", "(I)V"⟩
abbrev cX7_workOn : ByteArray := prog_9_method_5_code
def yX7_workOn : MethodName := ⟨RX7, "workOn", "()V"⟩
abbrev cX7_stationTold : ByteArray := prog_9_method_6_code
def yX7_stationTold : MethodName := ⟨RX7, "stationTold", "(I)I"⟩
abbrev cX7_copyFrom : ByteArray := prog_9_method_7_code
def yX7_copyFrom : MethodName := ⟨RX7, "copyFrom", "(LGatedWorks$Station;)V"⟩
def RX8 : String := "GatedWorks$Text"
def TX8 : u_T := fun k => match k with
  | 0 => ("GatedWorks$Text", "bytes", "[I", true)
  | _ => ("GatedWorks$Text", "length", "I", false)
def tyX8 : Nat → FieldType := fun k => match k with
  | 0 => .array .int
  | _ => .int
abbrev wsX80 : List Cond := u_ws RX8 TX8 2
theorem nmX8 : ∀ a, a < 2 → ∀ b, b < 2 → a ≠ b → (TX8 a).2.1 ≠ (TX8 b).2.1 := by decide +kernel
theorem tyX8_ok : ∀ k, k < 2 → parseFieldDescriptor (TX8 k).2.2.1 = some (tyX8 k) := by decide +kernel
abbrev cX8_init : ByteArray := prog_10_method_1_code
def yX8_init : MethodName := ⟨RX8, "<init>", "()V"⟩
abbrev cX8_isFull : ByteArray := prog_10_method_2_code
def yX8_isFull : MethodName := ⟨RX8, "isFull", "()Z"⟩
abbrev cX8_add : ByteArray := prog_10_method_3_code
def yX8_add : MethodName := ⟨RX8, "add", "(I)V"⟩
abbrev cX8_at : ByteArray := prog_10_method_4_code
def yX8_at : MethodName := ⟨RX8, "at", "(I)I"⟩
abbrev cX8_fault : ByteArray := prog_10_method_5_code
def yX8_fault : MethodName := ⟨RX8, "fault", "()I"⟩
abbrev cX8_figuresOf : ByteArray := prog_10_method_6_code
def yX8_figuresOf : MethodName := ⟨RX8, "figuresOf", "(I)I"⟩
def RX9 : String := "GatedWorks$Worker"
def TX9 : u_T := fun k => match k with
  | 0 => ("GatedWorks$Worker", "place", "I", false)
  | 1 => ("GatedWorks$Worker", "wish", "I", false)
  | 2 => ("GatedWorks$Worker", "kind", "I", false)
  | _ => ("GatedWorks$Worker", "got", "I", false)
def tyX9 : Nat → FieldType := fun k => match k with
  | 0 => .int
  | 1 => .int
  | 2 => .int
  | _ => .int
abbrev wsX90 : List Cond := u_ws RX9 TX9 4
theorem nmX9 : ∀ a, a < 4 → ∀ b, b < 4 → a ≠ b → (TX9 a).2.1 ≠ (TX9 b).2.1 := by decide +kernel
theorem tyX9_ok : ∀ k, k < 4 → parseFieldDescriptor (TX9 k).2.2.1 = some (tyX9 k) := by decide +kernel
abbrev cX9_init : ByteArray := prog_11_method_1_code
def yX9_init : MethodName := ⟨RX9, "<init>", "()V"⟩
abbrev cX9_waits : ByteArray := prog_11_method_2_code
def yX9_waits : MethodName := ⟨RX9, "waits", "()Z"⟩
abbrev cX9_wishFor : ByteArray := prog_11_method_3_code
def yX9_wishFor : MethodName := ⟨RX9, "wishFor", "(III)V"⟩
abbrev cX9_wishNoMore : ByteArray := prog_11_method_4_code
def yX9_wishNoMore : MethodName := ⟨RX9, "wishNoMore", "()V"⟩
abbrev cX9_workerTold : ByteArray := prog_11_method_5_code
def yX9_workerTold : MethodName := ⟨RX9, "workerTold", "(I)I"⟩
abbrev cX9_startAnew : ByteArray := prog_11_method_6_code
def yX9_startAnew : MethodName := ⟨RX9, "startAnew", "()V"⟩
abbrev cX9_copyFrom : ByteArray := prog_11_method_7_code
def yX9_copyFrom : MethodName := ⟨RX9, "copyFrom", "(LGatedWorks$Worker;)V"⟩
def RX10 : String := "GatedWorks"
def TX10 : u_T := fun k => match k with
  | 0 => ("GatedWorks", "floor", "LGatedWorks$Floor;", true)
  | 1 => ("GatedWorks", "history", "LGatedWorks$History;", true)
  | 2 => ("GatedWorks", "text", "LGatedWorks$Text;", true)
  | 3 => ("GatedWorks", "runner", "LGatedWorks$Runner;", true)
  | 4 => ("GatedWorks", "aheadOfMove", "LGatedWorks$ItemsAhead;", true)
  | 5 => ("GatedWorks", "timesBad", "I", false)
  | 6 => ("GatedWorks", "timesNo", "I", false)
  | _ => ("GatedWorks", "timesFull", "I", false)
def tyX10 : Nat → FieldType := fun k => match k with
  | 0 => .object "GatedWorks$Floor"
  | 1 => .object "GatedWorks$History"
  | 2 => .object "GatedWorks$Text"
  | 3 => .object "GatedWorks$Runner"
  | 4 => .object "GatedWorks$ItemsAhead"
  | 5 => .int
  | 6 => .int
  | _ => .int
abbrev wsX100 : List Cond := u_ws RX10 TX10 8
theorem nmX10 : ∀ a, a < 8 → ∀ b, b < 8 → a ≠ b → (TX10 a).2.1 ≠ (TX10 b).2.1 := by decide +kernel
theorem tyX10_ok : ∀ k, k < 8 → parseFieldDescriptor (TX10 k).2.2.1 = some (tyX10 k) := by decide +kernel
abbrev cX10_init : ByteArray := prog_1_method_1_code
def yX10_init : MethodName := ⟨RX10, "<init>", "()V"⟩
abbrev cX10_begins : ByteArray := prog_1_method_2_code
def yX10_begins : MethodName := ⟨RX10, "begins", "(I)I"⟩
abbrev cX10_rooms : ByteArray := prog_1_method_3_code
def yX10_rooms : MethodName := ⟨RX10, "rooms", "(II)I"⟩
abbrev cX10_station : ByteArray := prog_1_method_4_code
def yX10_station : MethodName := ⟨RX10, "station", "(IIIII)I"⟩
abbrev cX10_guards : ByteArray := prog_1_method_5_code
def yX10_guards : MethodName := ⟨RX10, "guards", "(II)I"⟩
abbrev cX10_ticks : ByteArray := prog_1_method_6_code
def yX10_ticks : MethodName := ⟨RX10, "ticks", "(I)I"⟩
abbrev cX10_puts : ByteArray := prog_1_method_7_code
def yX10_puts : MethodName := ⟨RX10, "puts", "(II)I"⟩
abbrev cX10_takes : ByteArray := prog_1_method_8_code
def yX10_takes : MethodName := ⟨RX10, "takes", "(I)I"⟩
abbrev cX10_moves : ByteArray := prog_1_method_9_code
def yX10_moves : MethodName := ⟨RX10, "moves", "(IIII)I"⟩
abbrev cX10_asks : ByteArray := prog_1_method_10_code
def yX10_asks : MethodName := ⟨RX10, "asks", "(IIII)I"⟩
abbrev cX10_cancels : ByteArray := prog_1_method_11_code
def yX10_cancels : MethodName := ⟨RX10, "cancels", "(I)I"⟩
abbrev cX10_keeps : ByteArray := prog_1_method_12_code
def yX10_keeps : MethodName := ⟨RX10, "keeps", "(II)I"⟩
abbrev cX10_lets : ByteArray := prog_1_method_13_code
def yX10_lets : MethodName := ⟨RX10, "lets", "(II)I"⟩
abbrev cX10_quits : ByteArray := prog_1_method_14_code
def yX10_quits : MethodName := ⟨RX10, "quits", "(I)I"⟩
abbrev cX10_keeper : ByteArray := prog_1_method_15_code
def yX10_keeper : MethodName := ⟨RX10, "keeper", "(II)I"⟩
abbrev cX10_queue : ByteArray := prog_1_method_16_code
def yX10_queue : MethodName := ⟨RX10, "queue", "(II)I"⟩
abbrev cX10_stuck : ByteArray := prog_1_method_17_code
def yX10_stuck : MethodName := ⟨RX10, "stuck", "()I"⟩
abbrev cX10_buffer : ByteArray := prog_1_method_18_code
def yX10_buffer : MethodName := ⟨RX10, "buffer", "(II)I"⟩
abbrev cX10_item : ByteArray := prog_1_method_19_code
def yX10_item : MethodName := ⟨RX10, "item", "(II)I"⟩
abbrev cX10_of : ByteArray := prog_1_method_20_code
def yX10_of : MethodName := ⟨RX10, "of", "(II)I"⟩
abbrev cX10_worker : ByteArray := prog_1_method_21_code
def yX10_worker : MethodName := ⟨RX10, "worker", "(II)I"⟩
abbrev cX10_line : ByteArray := prog_1_method_22_code
def yX10_line : MethodName := ⟨RX10, "line", "(I)I"⟩
abbrev cX10_works : ByteArray := prog_1_method_23_code
def yX10_works : MethodName := ⟨RX10, "works", "(I)I"⟩
abbrev cX10_type : ByteArray := prog_1_method_24_code
def yX10_type : MethodName := ⟨RX10, "type", "(I)I"⟩
abbrev cX10_clear : ByteArray := prog_1_method_25_code
def yX10_clear : MethodName := ⟨RX10, "clear", "()I"⟩
abbrev cX10_does : ByteArray := prog_1_method_26_code
def yX10_does : MethodName := ⟨RX10, "does", "()I"⟩
abbrev cX10_back : ByteArray := prog_1_method_27_code
def yX10_back : MethodName := ⟨RX10, "back", "()I"⟩
abbrev cX10_told : ByteArray := prog_1_method_28_code
def yX10_told : MethodName := ⟨RX10, "told", "(I)I"⟩
abbrev cX10_digest : ByteArray := prog_1_method_29_code
def yX10_digest : MethodName := ⟨RX10, "digest", "()J"⟩
abbrev cX10_toldOf : ByteArray := prog_1_method_30_code
def yX10_toldOf : MethodName := ⟨RX10, "toldOf", "(I)I"⟩
abbrev cX10_refuseBad : ByteArray := prog_1_method_31_code
def yX10_refuseBad : MethodName := ⟨RX10, "refuseBad", "()I"⟩
abbrev cX10_refuseNo : ByteArray := prog_1_method_32_code
def yX10_refuseNo : MethodName := ⟨RX10, "refuseNo", "()I"⟩
abbrev cX10_refuseFull : ByteArray := prog_1_method_33_code
def yX10_refuseFull : MethodName := ⟨RX10, "refuseFull", "()I"⟩
abbrev cX10_within : ByteArray := prog_1_method_34_code
def yX10_within : MethodName := ⟨RX10, "within", "(III)Z"⟩
abbrev cX10_isWorker : ByteArray := prog_1_method_35_code
def yX10_isWorker : MethodName := ⟨RX10, "isWorker", "(I)Z"⟩
abbrev cX10_mixed : ByteArray := prog_1_method_36_code
def yX10_mixed : MethodName := ⟨RX10, "mixed", "(JI)J"⟩
abbrev cX10_mixedRow : ByteArray := prog_1_method_37_code
def yX10_mixedRow : MethodName := ⟨RX10, "mixedRow", "(JLGatedWorks$Row;)J"⟩
abbrev cX10_mixedBuffer : ByteArray := prog_1_method_38_code
def yX10_mixedBuffer : MethodName := ⟨RX10, "mixedBuffer", "(JLGatedWorks$Buffer;)J"⟩
abbrev cX10_mixedStation : ByteArray := prog_1_method_39_code
def yX10_mixedStation : MethodName := ⟨RX10, "mixedStation", "(JLGatedWorks$Station;)J"⟩
abbrev cX10_mixedWorker : ByteArray := prog_1_method_40_code
def yX10_mixedWorker : MethodName := ⟨RX10, "mixedWorker", "(JLGatedWorks$Worker;)J"⟩
def RX11 : String := "GatedWorksModel"
def TX11 : u_T := fun k => match k with
  | 0 => ("GatedWorksModel", "refused", "[I", true)
  | 1 => ("GatedWorksModel", "now", "[I", true)
  | 2 => ("GatedWorksModel", "states", "I", false)
  | 3 => ("GatedWorksModel", "kept", "[I", true)
  | 4 => ("GatedWorksModel", "aside", "[I", true)
  | 5 => ("GatedWorksModel", "text", "[I", true)
  | 6 => ("GatedWorksModel", "length", "I", false)
  | 7 => ("GatedWorksModel", "readAt", "I", false)
  | 8 => ("GatedWorksModel", "isFaulty", "Z", false)
  | 9 => ("GatedWorksModel", "orders", "I", false)
  | 10 => ("GatedWorksModel", "letter", "[I", true)
  | 11 => ("GatedWorksModel", "first", "[I", true)
  | 12 => ("GatedWorksModel", "second", "[I", true)
  | 13 => ("GatedWorksModel", "third", "[I", true)
  | 14 => ("GatedWorksModel", "mate", "[I", true)
  | 15 => ("GatedWorksModel", "open", "[I", true)
  | _ => ("GatedWorksModel", "doneAt", "[I", true)
def tyX11 : Nat → FieldType := fun k => match k with
  | 0 => .array .int
  | 1 => .array .int
  | 2 => .int
  | 3 => .array .int
  | 4 => .array .int
  | 5 => .array .int
  | 6 => .int
  | 7 => .int
  | 8 => .boolean
  | 9 => .int
  | 10 => .array .int
  | 11 => .array .int
  | 12 => .array .int
  | 13 => .array .int
  | 14 => .array .int
  | 15 => .array .int
  | _ => .array .int
abbrev wsX110 : List Cond := u_ws RX11 TX11 17
theorem nmX11 : ∀ a, a < 17 → ∀ b, b < 17 → a ≠ b → (TX11 a).2.1 ≠ (TX11 b).2.1 := by decide +kernel
theorem tyX11_ok : ∀ k, k < 17 → parseFieldDescriptor (TX11 k).2.2.1 = some (tyX11 k) := by decide +kernel
abbrev cX11_init : ByteArray := prog_13_method_1_code
def yX11_init : MethodName := ⟨RX11, "<init>", "()V"⟩
abbrev cX11_bad : ByteArray := prog_13_method_2_code
def yX11_bad : MethodName := ⟨RX11, "bad", "()I"⟩
abbrev cX11_no : ByteArray := prog_13_method_3_code
def yX11_no : MethodName := ⟨RX11, "no", "()I"⟩
abbrev cX11_full : ByteArray := prog_13_method_4_code
def yX11_full : MethodName := ⟨RX11, "full", "()I"⟩
abbrev cX11_in : ByteArray := prog_13_method_5_code
def yX11_in : MethodName := ⟨RX11, "in", "(III)Z"⟩
abbrev cX11_atBuffer : ByteArray := prog_13_method_6_code
def yX11_atBuffer : MethodName := ⟨RX11, "atBuffer", "(I)I"⟩
abbrev cX11_gate : ByteArray := prog_13_method_7_code
def yX11_gate : MethodName := ⟨RX11, "gate", "(I)I"⟩
abbrev cX11_stationAt : ByteArray := prog_13_method_8_code
def yX11_stationAt : MethodName := ⟨RX11, "stationAt", "(I)I"⟩
abbrev cX11_workerAt : ByteArray := prog_13_method_9_code
def yX11_workerAt : MethodName := ⟨RX11, "workerAt", "(I)I"⟩
abbrev cX11_isBuffer : ByteArray := prog_13_method_10_code
def yX11_isBuffer : MethodName := ⟨RX11, "isBuffer", "(I)Z"⟩
abbrev cX11_isWorker : ByteArray := prog_13_method_11_code
def yX11_isWorker : MethodName := ⟨RX11, "isWorker", "(I)Z"⟩
abbrev cX11_lays : ByteArray := prog_13_method_12_code
def yX11_lays : MethodName := ⟨RX11, "lays", "(I)V"⟩
abbrev cX11_leavesState : ByteArray := prog_13_method_13_code
def yX11_leavesState : MethodName := ⟨RX11, "leavesState", "()V"⟩
abbrev cX11_back : ByteArray := prog_13_method_14_code
def yX11_back : MethodName := ⟨RX11, "back", "()I"⟩
abbrev cX11_enters : ByteArray := prog_13_method_15_code
def yX11_enters : MethodName := ⟨RX11, "enters", "(I)V"⟩
abbrev cX11_leaves : ByteArray := prog_13_method_16_code
def yX11_leaves : MethodName := ⟨RX11, "leaves", "(I)V"⟩
abbrev cX11_thrownOut : ByteArray := prog_13_method_17_code
def yX11_thrownOut : MethodName := ⟨RX11, "thrownOut", "(I)V"⟩
abbrev cX11_isKeptFor : ByteArray := prog_13_method_18_code
def yX11_isKeptFor : MethodName := ⟨RX11, "isKeptFor", "(II)Z"⟩
abbrev cX11_put : ByteArray := prog_13_method_19_code
def yX11_put : MethodName := ⟨RX11, "put", "(III)Z"⟩
abbrev cX11_firstOf : ByteArray := prog_13_method_20_code
def yX11_firstOf : MethodName := ⟨RX11, "firstOf", "(I)I"⟩
abbrev cX11_take : ByteArray := prog_13_method_21_code
def yX11_take : MethodName := ⟨RX11, "take", "(II)I"⟩
abbrev cX11_firstAgain : ByteArray := prog_13_method_22_code
def yX11_firstAgain : MethodName := ⟨RX11, "firstAgain", "(II)V"⟩
abbrev cX11_lesser : ByteArray := prog_13_method_23_code
def yX11_lesser : MethodName := ⟨RX11, "lesser", "(II)I"⟩
abbrev cX11_greater : ByteArray := prog_13_method_24_code
def yX11_greater : MethodName := ⟨RX11, "greater", "(II)I"⟩
abbrev cX11_move : ByteArray := prog_13_method_25_code
def yX11_move : MethodName := ⟨RX11, "move", "(III)I"⟩
abbrev cX11_laysAside : ByteArray := prog_13_method_26_code
def yX11_laysAside : MethodName := ⟨RX11, "laysAside", "(I)V"⟩
abbrev cX11_undoes : ByteArray := prog_13_method_27_code
def yX11_undoes : MethodName := ⟨RX11, "undoes", "(I)V"⟩
abbrev cX11_goesFromLine : ByteArray := prog_13_method_28_code
def yX11_goesFromLine : MethodName := ⟨RX11, "goesFromLine", "(I)V"⟩
abbrev cX11_tries : ByteArray := prog_13_method_29_code
def yX11_tries : MethodName := ⟨RX11, "tries", "(IIII)Z"⟩
abbrev cX11_serves : ByteArray := prog_13_method_30_code
def yX11_serves : MethodName := ⟨RX11, "serves", "()V"⟩
abbrev cX11_starts : ByteArray := prog_13_method_31_code
def yX11_starts : MethodName := ⟨RX11, "starts", "(II)V"⟩
abbrev cX11_takesBoth : ByteArray := prog_13_method_32_code
def yX11_takesBoth : MethodName := ⟨RX11, "takesBoth", "(I)V"⟩
abbrev cX11_takesOne : ByteArray := prog_13_method_33_code
def yX11_takesOne : MethodName := ⟨RX11, "takesOne", "(I)V"⟩
abbrev cX11_worksOn : ByteArray := prog_13_method_34_code
def yX11_worksOn : MethodName := ⟨RX11, "worksOn", "(I)V"⟩
abbrev cX11_madeOfAll : ByteArray := prog_13_method_35_code
def yX11_madeOfAll : MethodName := ⟨RX11, "madeOfAll", "()I"⟩
abbrev cX11_tick : ByteArray := prog_13_method_36_code
def yX11_tick : MethodName := ⟨RX11, "tick", "()V"⟩
abbrev cX11_begins : ByteArray := prog_13_method_37_code
def yX11_begins : MethodName := ⟨RX11, "begins", "(I)I"⟩
abbrev cX11_rooms : ByteArray := prog_13_method_38_code
def yX11_rooms : MethodName := ⟨RX11, "rooms", "(II)I"⟩
abbrev cX11_station : ByteArray := prog_13_method_39_code
def yX11_station : MethodName := ⟨RX11, "station", "(IIIII)I"⟩
abbrev cX11_isStation : ByteArray := prog_13_method_40_code
def yX11_isStation : MethodName := ⟨RX11, "isStation", "(I)Z"⟩
abbrev cX11_guards : ByteArray := prog_13_method_41_code
def yX11_guards : MethodName := ⟨RX11, "guards", "(II)I"⟩
abbrev cX11_ticks : ByteArray := prog_13_method_42_code
def yX11_ticks : MethodName := ⟨RX11, "ticks", "(I)I"⟩
abbrev cX11_puts : ByteArray := prog_13_method_43_code
def yX11_puts : MethodName := ⟨RX11, "puts", "(II)I"⟩
abbrev cX11_takes : ByteArray := prog_13_method_44_code
def yX11_takes : MethodName := ⟨RX11, "takes", "(I)I"⟩
abbrev cX11_moves : ByteArray := prog_13_method_45_code
def yX11_moves : MethodName := ⟨RX11, "moves", "(IIII)I"⟩
abbrev cX11_asks : ByteArray := prog_13_method_46_code
def yX11_asks : MethodName := ⟨RX11, "asks", "(IIII)I"⟩
abbrev cX11_cancels : ByteArray := prog_13_method_47_code
def yX11_cancels : MethodName := ⟨RX11, "cancels", "(I)I"⟩
abbrev cX11_queueOf : ByteArray := prog_13_method_48_code
def yX11_queueOf : MethodName := ⟨RX11, "queueOf", "(I)I"⟩
abbrev cX11_goesFromQueue : ByteArray := prog_13_method_49_code
def yX11_goesFromQueue : MethodName := ⟨RX11, "goesFromQueue", "(II)V"⟩
abbrev cX11_keeps : ByteArray := prog_13_method_50_code
def yX11_keeps : MethodName := ⟨RX11, "keeps", "(II)I"⟩
abbrev cX11_lets : ByteArray := prog_13_method_51_code
def yX11_lets : MethodName := ⟨RX11, "lets", "(II)I"⟩
abbrev cX11_quits : ByteArray := prog_13_method_52_code
def yX11_quits : MethodName := ⟨RX11, "quits", "(I)I"⟩
abbrev cX11_keeper : ByteArray := prog_13_method_53_code
def yX11_keeper : MethodName := ⟨RX11, "keeper", "(II)I"⟩
abbrev cX11_queue : ByteArray := prog_13_method_54_code
def yX11_queue : MethodName := ⟨RX11, "queue", "(II)I"⟩
abbrev cX11_isStuck : ByteArray := prog_13_method_55_code
def yX11_isStuck : MethodName := ⟨RX11, "isStuck", "(I)Z"⟩
abbrev cX11_stuck : ByteArray := prog_13_method_56_code
def yX11_stuck : MethodName := ⟨RX11, "stuck", "()I"⟩
abbrev cX11_ofBuffer : ByteArray := prog_13_method_57_code
def yX11_ofBuffer : MethodName := ⟨RX11, "ofBuffer", "(II)I"⟩
abbrev cX11_buffer : ByteArray := prog_13_method_58_code
def yX11_buffer : MethodName := ⟨RX11, "buffer", "(II)I"⟩
abbrev cX11_item : ByteArray := prog_13_method_59_code
def yX11_item : MethodName := ⟨RX11, "item", "(II)I"⟩
abbrev cX11_ofStation : ByteArray := prog_13_method_60_code
def yX11_ofStation : MethodName := ⟨RX11, "ofStation", "(II)I"⟩
abbrev cX11_of : ByteArray := prog_13_method_61_code
def yX11_of : MethodName := ⟨RX11, "of", "(II)I"⟩
abbrev cX11_worker : ByteArray := prog_13_method_62_code
def yX11_worker : MethodName := ⟨RX11, "worker", "(II)I"⟩
abbrev cX11_line : ByteArray := prog_13_method_63_code
def yX11_line : MethodName := ⟨RX11, "line", "(I)I"⟩
abbrev cX11_itemsOfAll : ByteArray := prog_13_method_64_code
def yX11_itemsOfAll : MethodName := ⟨RX11, "itemsOfAll", "()I"⟩
abbrev cX11_entriesOfAll : ByteArray := prog_13_method_65_code
def yX11_entriesOfAll : MethodName := ⟨RX11, "entriesOfAll", "()I"⟩
abbrev cX11_worksBy : ByteArray := prog_13_method_66_code
def yX11_worksBy : MethodName := ⟨RX11, "worksBy", "(I)I"⟩
abbrev cX11_works : ByteArray := prog_13_method_67_code
def yX11_works : MethodName := ⟨RX11, "works", "(I)I"⟩
abbrev cX11_type : ByteArray := prog_13_method_68_code
def yX11_type : MethodName := ⟨RX11, "type", "(I)I"⟩
abbrev cX11_clear : ByteArray := prog_13_method_69_code
def yX11_clear : MethodName := ⟨RX11, "clear", "()I"⟩
abbrev cX11_here : ByteArray := prog_13_method_70_code
def yX11_here : MethodName := ⟨RX11, "here", "()I"⟩
abbrev cX11_figure : ByteArray := prog_13_method_71_code
def yX11_figure : MethodName := ⟨RX11, "figure", "()I"⟩
abbrev cX11_comes : ByteArray := prog_13_method_72_code
def yX11_comes : MethodName := ⟨RX11, "comes", "(I)V"⟩
abbrev cX11_reads : ByteArray := prog_13_method_73_code
def yX11_reads : MethodName := ⟨RX11, "reads", "()Z"⟩
abbrev cX11_doesOne : ByteArray := prog_13_method_74_code
def yX11_doesOne : MethodName := ⟨RX11, "doesOne", "(I)Z"⟩
abbrev cX11_doesAll : ByteArray := prog_13_method_75_code
def yX11_doesAll : MethodName := ⟨RX11, "doesAll", "()I"⟩
abbrev cX11_does : ByteArray := prog_13_method_76_code
def yX11_does : MethodName := ⟨RX11, "does", "()I"⟩
abbrev cX11_toldOf : ByteArray := prog_13_method_77_code
def yX11_toldOf : MethodName := ⟨RX11, "toldOf", "(I)I"⟩
abbrev cX11_told : ByteArray := prog_13_method_78_code
def yX11_told : MethodName := ⟨RX11, "told", "(I)I"⟩
abbrev cX11_digest : ByteArray := prog_13_method_79_code
def yX11_digest : MethodName := ⟨RX11, "digest", "()J"⟩
def RJ9 : String := "java/lang/Math"
def TJ9 : u_T := fun k => match k with
  | _ => ("", "", "", false)
def tyJ9 : Nat → FieldType := fun k => match k with
  | _ => .int
abbrev wsJ90 : List Cond := u_ws RJ9 TJ9 0
theorem nmJ9 : ∀ a, a < 0 → ∀ b, b < 0 → a ≠ b → (TJ9 a).2.1 ≠ (TJ9 b).2.1 := by decide +kernel
theorem tyJ9_ok : ∀ k, k < 0 → parseFieldDescriptor (TJ9 k).2.2.1 = some (tyJ9 k) := by decide +kernel
abbrev cJ9_max_7cf53 : ByteArray := prog_14_method_65_code
def yJ9_max_7cf53 : MethodName := ⟨RJ9, "max", "(II)I"⟩
abbrev cJ9_min_7cf53 : ByteArray := prog_14_method_69_code
def yJ9_min_7cf53 : MethodName := ⟨RJ9, "min", "(II)I"⟩
def RJ10 : String := "java/lang/System"
def TJ10 : u_T := fun k => match k with
  | _ => ("", "", "", false)
def tyJ10 : Nat → FieldType := fun k => match k with
  | _ => .int
abbrev wsJ100 : List Cond := u_ws RJ10 TJ10 0
theorem nmJ10 : ∀ a, a < 0 → ∀ b, b < 0 → a ≠ b → (TJ10 a).2.1 ≠ (TJ10 b).2.1 := by decide +kernel
theorem tyJ10_ok : ∀ k, k < 0 → parseFieldDescriptor (TJ10 k).2.2.1 = some (tyJ10 k) := by decide +kernel
def RL : String := "GatedWorksLaw"
abbrev cL_law : ByteArray := code
def yL_law : MethodName := ⟨RL, "law", "([I)Z"⟩
abbrev vwCl : List vw_C := [(RX0, TX0, 9), (RX1, TX1, 9), (RX2, TX2, 4), (RX3, TX3, 3), (RX4, TX4, 1), (RX5, TX5, 2), (RX6, TX6, 8), (RX7, TX7, 12), (RX8, TX8, 2), (RX9, TX9, 4), (RX10, TX10, 8), (RX11, TX11, 17)]
end
section
/-! ===== the judgement: a heap as a function; one row an instruction ===== -/
abbrev gj_X : Type := Launch × va_G × (Nat → ClassId) × Nat
abbrev gj_M : Type := ByteArray × MethodName × Nat × Option FieldType × Nat × Nat
abbrev gj_S : Type := (Nat × List (Option (Option Nat))) ⊕ (Nat ⊕ (Nat × List (Option Nat)))
abbrev gj_V : Type := Nat → Nat → Int32
abbrev gj_H : Type := Nat → Option gj_S
abbrev gj_Q : Type := Option Value → Nat → gj_H → gj_V → Prop
/-- the fields of an object: its template says which are references; the ints come from x -/
def gj_fs : List (Option (Option Nat)) → (Nat → Int32) → Nat → List Value
  | [], _, _ => []
  | none :: t, x, i => .int (x i) :: gj_fs t x (i + 1)
  | some r :: t, x, i => va_rf r :: gj_fs t x (i + 1)
def gj_e (ids : Nat → ClassId) (s : Option gj_S) (x : Nat → Int32) : va_E := match s with
  | none => .inr (0, [])
  | some (.inl (ci, t)) => .inr (ci, gj_fs t x 0)
  | some (.inr (.inl n)) => .inl (ids 0, (n, .inl x))
  | some (.inr (.inr (k, L))) => .inl (ids k, (L.length, .inr (.inr (.inr (.inr (fun i => L.getD i none))))))
theorem gj_fs_at : ∀ (t : List (Option (Option Nat))) (x : Nat → Int32) (i k : Nat), (gj_fs t x i)[k]? = (t[k]?).map (fun o => match o with | none => Value.int (x (i + k)) | some r => va_rf r)
  | [], x, i, k => by simp [gj_fs]
  | none :: t, x, i, 0 => by simp [gj_fs]
  | some r :: t, x, i, 0 => by simp [gj_fs]
  | none :: t, x, i, k + 1 => by
    have := gj_fs_at t x (i + 1) k
    simp only [gj_fs, List.getElem?_cons_succ, this]
    rw [show i + 1 + k = i + (k + 1) by omega]
  | some r :: t, x, i, k + 1 => by
    have := gj_fs_at t x (i + 1) k
    simp only [gj_fs, List.getElem?_cons_succ, this]
    rw [show i + 1 + k = i + (k + 1) by omega]
theorem gj_fs_len : ∀ (t : List (Option (Option Nat))) (x : Nat → Int32) (i : Nat), (gj_fs t x i).length = t.length
  | [], x, i => rfl
  | none :: t, x, i => by simp [gj_fs, gj_fs_len t x (i + 1)]
  | some r :: t, x, i => by simp [gj_fs, gj_fs_len t x (i + 1)]
/-- an int field is set -/
theorem gj_fs_set (t : List (Option (Option Nat))) (x : Nat → Int32) (k : Nat) (z : Int32) (h : t[k]? = some none) : (gj_fs t x 0).set k (.int z) = gj_fs t (upd x k z) 0 := by
  apply List.ext_getElem?
  intro j
  rw [gj_fs_at, Nat.zero_add]
  by_cases hj : j = k
  · subst hj
    have hl : j < (gj_fs t x 0).length := by rw [gj_fs_len]; exact (List.getElem?_eq_some_iff.mp h).1
    rw [List.getElem?_set_self hl, h]
    simp [upd]
  · rw [List.getElem?_set_ne (Ne.symm hj), gj_fs_at, Nat.zero_add]
    cases ht : t[j]? with
    | none => rfl
    | some o => cases o <;> simp [upd, hj]
/-- a reference field is set -/
theorem gj_fs_setr (t : List (Option (Option Nat))) (x : Nat → Int32) (k : Nat) (r : Option Nat) (h : k < t.length) : (gj_fs t x 0).set k (va_rf r) = gj_fs (t.set k (some r)) x 0 := by
  apply List.ext_getElem?
  intro j
  rw [gj_fs_at, Nat.zero_add]
  by_cases hj : j = k
  · subst hj
    rw [List.getElem?_set_self (by rw [gj_fs_len]; exact h), List.getElem?_set_self h]
    rfl
  · rw [List.getElem?_set_ne (Ne.symm hj), List.getElem?_set_ne (Ne.symm hj), gj_fs_at, Nat.zero_add]
/-- the domain: all cells from the base on -/
abbrev gj_dom (b lim : Nat) : List Nat := List.range' b (lim - b)
theorem gj_dom_mem {b lim a : Nat} (h1 : b ≤ a) (h2 : a < lim) : a ∈ gj_dom b lim := by
  rw [List.mem_range'_1]; omega
abbrev gj_pl (X : gj_X) (lim : Nat) (σ : gj_H) (v : gj_V) : va_W := va_pl (gj_dom X.2.2.2 lim) (fun a => gj_e X.2.2.1 (σ a) (v a))
abbrev gj_A (X : gj_X) : Nat → Prop := fun q => X.2.2.2 ≤ q
def gj_rep (X : gj_X) (lim : Nat) (σ : gj_H) (v : gj_V) (H : Heap) : Prop :=
  X.2.2.2 ≤ lim ∧ H.size = lim ∧ (∀ a, (σ a).isSome = true → X.2.2.2 ≤ a ∧ a < lim) ∧ va_P X.2.1 vwCl ([] ++ gj_pl X lim σ v) H ∧ va_D (gj_A X) ([] ++ gj_pl X lim σ v)
theorem gj_rep.mem {X : gj_X} {lim : Nat} {σ : gj_H} {v : gj_V} {H : Heap} (h : gj_rep X lim σ v H) {a : Nat} {sh : gj_S} (hs : σ a = some sh) : a ∈ gj_dom X.2.2.2 lim := by
  have := h.2.2.1 a (by rw [hs]; rfl)
  exact gj_dom_mem this.1 this.2
theorem gj_rep.at {X : gj_X} {lim : Nat} {σ : gj_H} {v : gj_V} {H : Heap} (h : gj_rep X lim σ v H) {a : Nat} {sh : gj_S} (hs : σ a = some sh) : ∃ k : Nat, ([] ++ gj_pl X lim σ v)[k]? = some (a, gj_e X.2.2.1 (some sh) (v a)) := by
  obtain ⟨k, hk⟩ := va_pl_get (X := []) (f := fun a => gj_e X.2.2.1 (σ a) (v a)) (h.mem hs)
  exact ⟨k, by rw [hs] at hk; exact hk⟩
def gj_up (v : gj_V) (a : Nat) (f : Nat → Int32) : gj_V := va_up v a f
def gj_up2 (v : gj_V) (a k : Nat) (x : Int32) : gj_V := va_up v a (upd (v a) k x)
theorem gj_upf_eq {X : gj_X} {σ : gj_H} {v : gj_V} {a : Nat} {f : Nat → Int32} {sh : gj_S} (hs : σ a = some sh) : va_up (fun a => gj_e X.2.2.1 (σ a) (v a)) a (gj_e X.2.2.1 (some sh) f) = fun b => gj_e X.2.2.1 (σ b) (va_up v a f b) := by
  funext b
  by_cases hb : b = a
  · subst hb
    rw [va_up_self, va_up_self, hs]
  · rw [va_up_ne _ _ hb, va_up_ne _ _ hb]
theorem gj_ups_eq {X : gj_X} {σ : gj_H} {v : gj_V} {a : Nat} {sh : gj_S} : va_up (fun a => gj_e X.2.2.1 (σ a) (v a)) a (gj_e X.2.2.1 (some sh) (v a)) = fun b => gj_e X.2.2.1 (va_up σ a (some sh) b) (v b) := by
  funext b
  by_cases hb : b = a
  · subst hb
    rw [va_up_self, va_up_self]
  · rw [va_up_ne _ _ hb, va_up_ne _ _ hb]
/-! words -/
def gj_isNest : Cond → Bool
  | .fieldLinkNest .. => true
  | .methodLinkNest .. => true
  | _ => false
def gj_w : List Cond := lw_tbl.filter goodWord
def gj_nw : List Cond := lw_tbl.filter gj_isNest
theorem gj_w_in {w : Cond} (i : Nat) (h : lw_tbl[i]? = some w) (hg : goodWord w = true) : w ∈ gj_w := List.mem_filter.mpr ⟨List.mem_of_getElem? h, hg⟩
theorem gj_nw_in {w : Cond} (i : Nat) (h : lw_tbl[i]? = some w) (hg : gj_isNest w = true) : w ∈ gj_nw := List.mem_filter.mpr ⟨List.mem_of_getElem? h, hg⟩
theorem gj_nw_tab {w : Cond} (h : w ∈ gj_nw) : w.onTables = true := by
  have := (List.mem_filter.mp h).2
  cases w <;> first | rfl | (simp [gj_isNest] at this)
theorem gj_nw_warm {w : Cond} (h : w ∈ gj_nw) {s U : State} (hW : s.WarmedH U.vm) (hZ : va_Nw w s) : va_Nw w U := by
  have hn := (List.mem_filter.mp h).2
  cases w <;> first | exact va_Nw.warmF hW hZ | exact va_Nw.warmM hW hZ | (simp [gj_isNest] at hn)
def gj_ao : List String := [RX0, RX1, RX4, RX5, RX7, RX9]
abbrev gj_tys (ids : Nat → ClassId) : List (ClassId × FieldType) := [(ids 0, .int), (ids 1, .object RX0), (ids 2, .object RX1), (ids 3, .object RX4), (ids 4, .object RX5), (ids 5, .object RX7), (ids 6, .object RX9)]
def gj_K (X : gj_X) (U : State) : Prop := va_K X.2.1 vwCl (gj_tys X.2.2.1) U ∧ (∀ w ∈ gj_nw, va_Nw w U) ∧ ∀ C ∈ gj_ao, va_AO C U
theorem gj_K.warm {X : gj_X} {s U : State} (hW : s.WarmedH U.vm) (h : gj_K X s) : gj_K X U := ⟨va_K.moved hW.alike h.1, fun w hw => gj_nw_warm hw hW (h.2.1 w hw), fun C hC => va_AO.moved hW.alike (h.2.2 C hC)⟩
theorem gj_K.same {X : gj_X} {s U : State} (hv : s.vm = U.vm) (h : gj_K X s) : gj_K X U := ⟨va_K.moved (by rw [hv]; exact Vm.Alike.refl _) h.1, fun w hw => va_Nw.same (gj_nw_tab hw) hv (h.2.1 w hw), fun C hC => va_AO.moved (by rw [hv]; exact Vm.Alike.refl _) (h.2.2 C hC)⟩
def gj_R (d : Nat) (M : gj_M) : Room := { frames := d + 1, cells := M.2.2.2.2.1, slots := M.2.2.2.2.2, locals := 29 * d + 40 }
def gj_ws (M : gj_M) : List Cond := .code M.2.1 M.1 M.2.2.1 M.2.2.2.1 :: gj_w
def gj_F (X : gj_X) (Q : gj_Q) : Array Value → State → Outcome → State → Prop := fun _ st oc t => (∃ (r : Option Value) (lim : Nat) (σ : gj_H) (v : gj_V), oc = .returned r ∧ Q r lim σ v ∧ gj_rep X lim σ v t.heap) ∧ va_F (gj_A X) st t
/-- a method's contract -/
def gj_E (X : gj_X) (d : Nat) (M : gj_M) (as : List Value) (lim : Nat) (σ : gj_H) (v : gj_V) (Q : gj_Q) : Prop :=
  Met X.1 M.2.1 (gj_ws M) (gj_R d M) (va_Pc as (fun U => gj_rep X lim σ v U.heap ∧ gj_K X U)) (gj_F X Q) M.2.2.2.2.1 M.2.2.2.2.2 (gj_A X)
def gj_C (X : gj_X) (M : gj_M) (p : Program) (s : State) (m : MethodId) (args : Array Value) (meth : Method) (c : Code) : Prop :=
  p.tables.exec = Jvm.exec ∧ c.code = M.1 ∧ c.maxLocals = M.2.2.1 ∧ meth.sig.returnType = M.2.2.2.1 ∧ meth.locks = false ∧ s.vm.findClass M.2.1.cls = some m.cls ∧ (∀ w ∈ gj_w, w.before args s = true) ∧ gj_K X s ∧ X.2.2.2 ≤ s.heap.size ∧ meth.name = M.2.1.name
/-! locals by their slots -/
def gj_L (L : List (Option Value)) : List (Nat × Value) := (List.range L.length).filterMap (fun i => (L[i]?.join).map (fun v => (i, v)))
theorem gj_L_mem {L : List (Option Value)} {i : Nat} {v : Value} : (i, v) ∈ gj_L L ↔ L[i]? = some (some v) := by
  unfold gj_L
  rw [List.mem_filterMap]
  constructor
  · rintro ⟨j, hj, h⟩
    cases hL : L[j]? with
    | none => rw [hL] at h; simp at h
    | some o =>
      cases o with
      | none => rw [hL] at h; simp at h
      | some w =>
        rw [hL] at h
        simp at h
        obtain ⟨rfl, rfl⟩ := h
        exact hL
  · intro h
    exact ⟨i, List.mem_range.mpr (List.getElem?_eq_some_iff.mp h).1, by rw [h]; rfl⟩
theorem gj_lat {ls : Array Slot} {nL : Nat} {L : List (Option Value)} (h : lv_has ls nL (gj_L L)) {i : Nat} {v : Value} (hl : L[i]? = some (some v)) : ls[i]? = some (.val v) := h.2.2 (i, v) (gj_L_mem.mpr hl)
def gj_ok1 (L : List (Option Value)) (i : Nat) : Bool := match i with
  | 0 => true
  | j + 1 => match L[j]? with
    | some (some (.long _)) => false
    | some (some (.double _)) => false
    | _ => true
theorem gj_ok1_spec {L : List (Option Value)} {i j : Nat} {w : Value} (h : gj_ok1 L i = true) (hj : L[j]? = some (some w)) (e : j + 1 = i) : ¬ w.category = 2 := by
  subst e
  simp only [gj_ok1, hj] at h
  cases w <;> simp_all [Value.category]
theorem gj_st1 {ls : Array Slot} {nL : Nat} {L : List (Option Value)} {i : Nat} {v : Value} (hok : gj_ok1 L i = true) (h : lv_has ls nL ((i, v) :: (gj_L L).filter (fun q => !(q.1 == i) && !(q.1 + 1 == i && q.2.category == 2)))) : lv_has ls nL (gj_L (L.set i (some v))) := by
  refine ⟨h.1, h.2.1, fun q hq => ?_⟩
  obtain ⟨j, w⟩ := q
  have hm := gj_L_mem.mp hq
  by_cases hj : j = i
  · subst hj
    have hl := (List.getElem?_eq_some_iff.mp hm).1
    rw [List.length_set] at hl
    rw [List.getElem?_set_self hl] at hm
    cases hm
    exact h.2.2 _ List.mem_cons_self
  · rw [List.getElem?_set_ne (Ne.symm hj)] at hm
    refine h.2.2 (j, w) (List.mem_cons_of_mem _ (List.mem_filter.mpr ⟨gj_L_mem.mpr hm, ?_⟩))
    have hc : j + 1 = i → ¬ w.category = 2 := gj_ok1_spec hok hm
    simp only [Bool.and_eq_true, Bool.not_eq_true', beq_eq_false_iff_ne, ne_eq, Bool.and_eq_false_iff]
    refine ⟨hj, ?_⟩
    by_cases e : j + 1 = i
    · exact Or.inr (hc e)
    · exact Or.inl e
theorem gj_st2 {ls : Array Slot} {nL : Nat} {L : List (Option Value)} {i : Nat} {v : Value} (hok : gj_ok1 L i = true) (h : lv_has ls nL ((i, v) :: (gj_L L).filter (fun q => !(q.1 == i) && (!(q.1 == i + 1) && !(q.1 + 1 == i && q.2.category == 2))))) : lv_has ls nL (gj_L ((L.set i (some v)).set (i + 1) none)) := by
  refine ⟨h.1, h.2.1, fun q hq => ?_⟩
  obtain ⟨j, w⟩ := q
  have hm := gj_L_mem.mp hq
  by_cases hj1 : j = i + 1
  · subst hj1
    have hl := (List.getElem?_eq_some_iff.mp hm).1
    rw [List.length_set] at hl
    rw [List.getElem?_set_self hl] at hm
    cases hm
  · rw [List.getElem?_set_ne (Ne.symm hj1)] at hm
    by_cases hj : j = i
    · subst hj
      have hl := (List.getElem?_eq_some_iff.mp hm).1
      rw [List.length_set] at hl
      rw [List.getElem?_set_self hl] at hm
      cases hm
      exact h.2.2 _ List.mem_cons_self
    · rw [List.getElem?_set_ne (Ne.symm hj)] at hm
      refine h.2.2 (j, w) (List.mem_cons_of_mem _ (List.mem_filter.mpr ⟨gj_L_mem.mpr hm, ?_⟩))
      have hc : j + 1 = i → ¬ w.category = 2 := gj_ok1_spec hok hm
      simp only [Bool.and_eq_true, Bool.not_eq_true', beq_eq_false_iff_ne, ne_eq, Bool.and_eq_false_iff]
      refine ⟨hj, hj1, ?_⟩
      by_cases e : j + 1 = i
      · exact Or.inr (hc e)
      · exact Or.inl e
/-- the judgement -/
def gj_G (X : gj_X) (d : Nat) (M : gj_M) (Q : gj_Q) (lim : Nat) (σ : gj_H) (v : gj_V) (kc ks pc : Nat) (L : List (Option Value)) (st : List Value) : Prop :=
  ∀ (p : Program) (e : Env) (s : State) (m : MethodId) (args : Array Value) (below : List Frame) (meth : Method) (c : Code) (H : Heap) (locs : List Loc) (ls : Array Slot),
    gj_C X M p s m args meth c → gj_rep X lim σ v H → va_S (gj_A X) s.heap H locs → lv_has ls M.2.2.1 (gj_L L) →
    W p X.1 e (gj_R d M) s m args below meth c H locs kc ks (MQ below (gj_F X Q) args s M.2.2.2.2.1 M.2.2.2.2.2 (gj_A X)) (F0 m pc ls st)
section GJ
variable {X : gj_X} {d : Nat} {M : gj_M} {Q : gj_Q} {lim : Nat} {σ : gj_H} {v : gj_V} {kc ks pc q : Nat} {L L' : List (Option Value)} {st : List Value}
theorem gj_G.of (k : ∀ (p : Program) (e : Env) (s : State) (m : MethodId) (args : Array Value) (below : List Frame) (meth : Method) (c : Code) (H : Heap) (locs : List Loc) (ls : Array Slot),
    gj_C X M p s m args meth c → gj_rep X lim σ v H → va_S (gj_A X) s.heap H locs → lv_has ls M.2.2.1 (gj_L L) →
    W p X.1 e (gj_R d M) s m args below meth c H locs kc ks (MQ below (gj_F X Q) args s M.2.2.2.2.1 M.2.2.2.2.2 (gj_A X)) (F0 m pc ls st)) : gj_G X d M Q lim σ v kc ks pc L st := k
theorem g_iload_n {n : Fin 4} {x : Int32} (hd : decode M.1 pc = .ok (.iload_n n, 1)) (hl : L[n.val]? = some (some (.int x))) (hq : pc + 1 = q) (k : gj_G X d M Q lim σ v kc ks q L (.int x :: st)) : gj_G X d M Q lim σ v kc ks pc L st := by
  subst hq
  intro p e s m args below meth c H locs ls hC hR hS hL
  exact lv_iload_n hC.1 hC.2.1 hd rfl (gj_lat hL hl) (k p e s m args below meth c H locs ls hC hR hS hL)
theorem g_iload {i : Nat} {x : Int32} (hd : decode M.1 pc = .ok (.iload i, 2)) (hl : L[i]? = some (some (.int x))) (hq : pc + 2 = q) (k : gj_G X d M Q lim σ v kc ks q L (.int x :: st)) : gj_G X d M Q lim σ v kc ks pc L st := by
  subst hq
  intro p e s m args below meth c H locs ls hC hR hS hL
  exact lv_iload hC.1 hC.2.1 hd (gj_lat hL hl) (k p e s m args below meth c H locs ls hC hR hS hL)
theorem g_lload_n {n : Fin 4} {x : Int64} (hd : decode M.1 pc = .ok (.lload_n n, 1)) (hl : L[n.val]? = some (some (.long x))) (hq : pc + 1 = q) (k : gj_G X d M Q lim σ v kc ks q L (.long x :: st)) : gj_G X d M Q lim σ v kc ks pc L st := by
  subst hq
  intro p e s m args below meth c H locs ls hC hR hS hL
  exact lv_lload_n hC.1 hC.2.1 hd rfl (gj_lat hL hl) (k p e s m args below meth c H locs ls hC hR hS hL)
theorem g_aload_n {n : Fin 4} {x : Nat} (hd : decode M.1 pc = .ok (.aload_n n, 1)) (hl : L[n.val]? = some (some (.ref x))) (hq : pc + 1 = q) (k : gj_G X d M Q lim σ v kc ks q L (.ref x :: st)) : gj_G X d M Q lim σ v kc ks pc L st := by
  subst hq
  intro p e s m args below meth c H locs ls hC hR hS hL
  exact lv_aload_n hC.1 hC.2.1 hd rfl (gj_lat hL hl) (k p e s m args below meth c H locs ls hC hR hS hL)
theorem g_aload {i x : Nat} (hd : decode M.1 pc = .ok (.aload i, 2)) (hl : L[i]? = some (some (.ref x))) (hq : pc + 2 = q) (k : gj_G X d M Q lim σ v kc ks q L (.ref x :: st)) : gj_G X d M Q lim σ v kc ks pc L st := by
  subst hq
  intro p e s m args below meth c H locs ls hC hR hS hL
  exact lv_aload hC.1 hC.2.1 hd (gj_lat hL hl) (k p e s m args below meth c H locs ls hC hR hS hL)
theorem g_istore_n {n : Fin 4} {x : Int32} (hd : decode M.1 pc = .ok (.istore_n n, 1)) (hi : Nat.blt n.val M.2.2.1 = true) (hok : gj_ok1 L n.val = true) (hl : L.set n.val (some (.int x)) = L') (hq : pc + 1 = q) (k : gj_G X d M Q lim σ v kc ks q L' st) : gj_G X d M Q lim σ v kc ks pc L (.int x :: st) := by
  subst hq; subst hl
  intro p e s m args below meth c H locs ls hC hR hS hL
  exact lv_istore_n hC.1 hC.2.1 hd rfl hL (Nat.blt_eq.mp hi) rfl (fun ls' h => k p e s m args below meth c H locs ls' hC hR hS (gj_st1 hok h))
theorem g_istore {i : Nat} {x : Int32} (hd : decode M.1 pc = .ok (.istore i, 2)) (hi : Nat.blt i M.2.2.1 = true) (hok : gj_ok1 L i = true) (hl : L.set i (some (.int x)) = L') (hq : pc + 2 = q) (k : gj_G X d M Q lim σ v kc ks q L' st) : gj_G X d M Q lim σ v kc ks pc L (.int x :: st) := by
  subst hq; subst hl
  intro p e s m args below meth c H locs ls hC hR hS hL
  exact lv_istore hC.1 hC.2.1 hd hL (Nat.blt_eq.mp hi) rfl (fun ls' h => k p e s m args below meth c H locs ls' hC hR hS (gj_st1 hok h))
theorem g_astore_n {n : Fin 4} {x : Nat} (hd : decode M.1 pc = .ok (.astore_n n, 1)) (hi : Nat.blt n.val M.2.2.1 = true) (hok : gj_ok1 L n.val = true) (hl : L.set n.val (some (.ref x)) = L') (hq : pc + 1 = q) (k : gj_G X d M Q lim σ v kc ks q L' st) : gj_G X d M Q lim σ v kc ks pc L (.ref x :: st) := by
  subst hq; subst hl
  intro p e s m args below meth c H locs ls hC hR hS hL
  exact lv_astore_n hC.1 hC.2.1 hd rfl hL (Nat.blt_eq.mp hi) rfl (fun ls' h => k p e s m args below meth c H locs ls' hC hR hS (gj_st1 hok h))
theorem g_astore {i x : Nat} (hd : decode M.1 pc = .ok (.astore i, 2)) (hi : Nat.blt i M.2.2.1 = true) (hok : gj_ok1 L i = true) (hl : L.set i (some (.ref x)) = L') (hq : pc + 2 = q) (k : gj_G X d M Q lim σ v kc ks q L' st) : gj_G X d M Q lim σ v kc ks pc L (.ref x :: st) := by
  subst hq; subst hl
  intro p e s m args below meth c H locs ls hC hR hS hL
  exact lv_astore hC.1 hC.2.1 hd hL (Nat.blt_eq.mp hi) rfl (fun ls' h => k p e s m args below meth c H locs ls' hC hR hS (gj_st1 hok h))
theorem g_lstore_n {n : Fin 4} {x : Int64} (hd : decode M.1 pc = .ok (.lstore_n n, 1)) (hi : Nat.blt (n.val + 1) M.2.2.1 = true) (hok : gj_ok1 L n.val = true) (hl : (L.set n.val (some (.long x))).set (n.val + 1) none = L') (hq : pc + 1 = q) (k : gj_G X d M Q lim σ v kc ks q L' st) : gj_G X d M Q lim σ v kc ks pc L (.long x :: st) := by
  subst hq; subst hl
  intro p e s m args below meth c H locs ls hC hR hS hL
  exact lv_lstore_n hC.1 hC.2.1 hd rfl hL (Nat.blt_eq.mp hi) rfl (fun ls' h => k p e s m args below meth c H locs ls' hC hR hS (gj_st2 hok h))
theorem g_iinc {i : Nat} {n : Int} {x y : Int32} (hd : decode M.1 pc = .ok (.iinc i n, 3)) (hx : L[i]? = some (some (.int x))) (hv : x + Int32.ofInt n = y) (hi : Nat.blt i M.2.2.1 = true) (hok : gj_ok1 L i = true) (hl : L.set i (some (.int y)) = L') (hq : pc + 3 = q) (k : gj_G X d M Q lim σ v kc ks q L' st) : gj_G X d M Q lim σ v kc ks pc L st := by
  subst hq; subst hl
  intro p e s m args below meth c H locs ls hC hR hS hL
  obtain ⟨z, hz⟩ := List.getElem?_of_mem (gj_L_mem.mpr hx)
  exact lv_iinc hC.1 hC.2.1 hd hL hz hv (Nat.blt_eq.mp hi) rfl (fun ls' h => k p e s m args below meth c H locs ls' hC hR hS (gj_st1 hok h))
theorem g_iconst {n : Int} {x : Int32} (hd : decode M.1 pc = .ok (.iconst n, 1)) (hv : Int32.ofInt n = x) (hq : pc + 1 = q) (k : gj_G X d M Q lim σ v kc ks q L (.int x :: st)) : gj_G X d M Q lim σ v kc ks pc L st := by
  subst hq
  intro p e s m args below meth c H locs ls hC hR hS hL
  exact lv_iconst hC.1 hC.2.1 hd hv (k p e s m args below meth c H locs ls hC hR hS hL)
theorem g_bipush {n : Int} {x : Int32} (hd : decode M.1 pc = .ok (.bipush n, 2)) (hv : (Int8.ofInt n).toInt32 = x) (hq : pc + 2 = q) (k : gj_G X d M Q lim σ v kc ks q L (.int x :: st)) : gj_G X d M Q lim σ v kc ks pc L st := by
  subst hq
  intro p e s m args below meth c H locs ls hC hR hS hL
  exact lv_bipush hC.1 hC.2.1 hd hv (k p e s m args below meth c H locs ls hC hR hS hL)
theorem g_sipush {n : Int} {x : Int32} (hd : decode M.1 pc = .ok (.sipush n, 3)) (hv : (Int16.ofInt n).toInt32 = x) (hq : pc + 3 = q) (k : gj_G X d M Q lim σ v kc ks q L (.int x :: st)) : gj_G X d M Q lim σ v kc ks pc L st := by
  subst hq
  intro p e s m args below meth c H locs ls hC hR hS hL
  exact lv_sipush hC.1 hC.2.1 hd hv (k p e s m args below meth c H locs ls hC hR hS hL)
theorem g_ldc2 {i : Nat} {x : Int64} (hd : decode M.1 pc = .ok (.ldc2_w i, 3)) (hw : Cond.constantLong M.2.1.cls i x ∈ gj_w) (hq : pc + 3 = q) (k : gj_G X d M Q lim σ v kc ks q L (.long x :: st)) : gj_G X d M Q lim σ v kc ks pc L st := by
  subst hq
  intro p e s m args below meth c H locs ls hC hR hS hL
  exact lv_ldc2 hC.1 hC.2.1 hC.2.2.2.2.2.1 (hC.2.2.2.2.2.2.1 _ hw) hd (k p e s m args below meth c H locs ls hC hR hS hL)
theorem g_iadd {x y : Int32} (hd : decode M.1 pc = .ok (.iadd, 1)) (hq : pc + 1 = q) (k : gj_G X d M Q lim σ v kc ks q L (.int (x + y) :: st)) : gj_G X d M Q lim σ v kc ks pc L (.int y :: .int x :: st) := by
  subst hq
  intro p e s m args below meth c H locs ls hC hR hS hL
  exact lv_iadd hC.1 hC.2.1 hd (k p e s m args below meth c H locs ls hC hR hS hL)
theorem g_isub {x y : Int32} (hd : decode M.1 pc = .ok (.isub, 1)) (hq : pc + 1 = q) (k : gj_G X d M Q lim σ v kc ks q L (.int (x - y) :: st)) : gj_G X d M Q lim σ v kc ks pc L (.int y :: .int x :: st) := by
  subst hq
  intro p e s m args below meth c H locs ls hC hR hS hL
  exact lv_isub hC.1 hC.2.1 hd (k p e s m args below meth c H locs ls hC hR hS hL)
theorem g_imul {x y : Int32} (hd : decode M.1 pc = .ok (.imul, 1)) (hq : pc + 1 = q) (k : gj_G X d M Q lim σ v kc ks q L (.int (x * y) :: st)) : gj_G X d M Q lim σ v kc ks pc L (.int y :: .int x :: st) := by
  subst hq
  intro p e s m args below meth c H locs ls hC hR hS hL
  exact lv_imul hC.1 hC.2.1 hd (k p e s m args below meth c H locs ls hC hR hS hL)
theorem g_irem {x y : Int32} (hd : decode M.1 pc = .ok (.irem, 1)) (hy : ¬ y = 0) (hq : pc + 1 = q) (k : gj_G X d M Q lim σ v kc ks q L (.int (x - x / y * y) :: st)) : gj_G X d M Q lim σ v kc ks pc L (.int y :: .int x :: st) := by
  subst hq
  intro p e s m args below meth c H locs ls hC hR hS hL
  exact lv_irem hC.1 hC.2.1 hd hy (k p e s m args below meth c H locs ls hC hR hS hL)
theorem g_iand {x y : Int32} (hd : decode M.1 pc = .ok (.iand, 1)) (hq : pc + 1 = q) (k : gj_G X d M Q lim σ v kc ks q L (.int (x &&& y) :: st)) : gj_G X d M Q lim σ v kc ks pc L (.int y :: .int x :: st) := by
  subst hq
  intro p e s m args below meth c H locs ls hC hR hS hL
  exact lv_iand hC.1 hC.2.1 hd (k p e s m args below meth c H locs ls hC hR hS hL)
theorem g_ior {x y : Int32} (hd : decode M.1 pc = .ok (.ior, 1)) (hq : pc + 1 = q) (k : gj_G X d M Q lim σ v kc ks q L (.int (x ||| y) :: st)) : gj_G X d M Q lim σ v kc ks pc L (.int y :: .int x :: st) := by
  subst hq
  intro p e s m args below meth c H locs ls hC hR hS hL
  exact lv_ior hC.1 hC.2.1 hd (k p e s m args below meth c H locs ls hC hR hS hL)
theorem g_ishl {x y : Int32} (hd : decode M.1 pc = .ok (.ishl, 1)) (hq : pc + 1 = q) (k : gj_G X d M Q lim σ v kc ks q L (.int (x <<< (y &&& 31)) :: st)) : gj_G X d M Q lim σ v kc ks pc L (.int y :: .int x :: st) := by
  subst hq
  intro p e s m args below meth c H locs ls hC hR hS hL
  exact lv_ishl hC.1 hC.2.1 hd (k p e s m args below meth c H locs ls hC hR hS hL)
theorem g_ladd {x y : Int64} (hd : decode M.1 pc = .ok (.ladd, 1)) (hq : pc + 1 = q) (k : gj_G X d M Q lim σ v kc ks q L (.long (x + y) :: st)) : gj_G X d M Q lim σ v kc ks pc L (.long y :: .long x :: st) := by
  subst hq
  intro p e s m args below meth c H locs ls hC hR hS hL
  exact lv_ladd hC.1 hC.2.1 hd (k p e s m args below meth c H locs ls hC hR hS hL)
theorem g_lmul {x y : Int64} (hd : decode M.1 pc = .ok (.lmul, 1)) (hq : pc + 1 = q) (k : gj_G X d M Q lim σ v kc ks q L (.long (x * y) :: st)) : gj_G X d M Q lim σ v kc ks pc L (.long y :: .long x :: st) := by
  subst hq
  intro p e s m args below meth c H locs ls hC hR hS hL
  exact lv_lmul hC.1 hC.2.1 hd (k p e s m args below meth c H locs ls hC hR hS hL)
theorem g_i2l {x : Int32} (hd : decode M.1 pc = .ok (.i2l, 1)) (hq : pc + 1 = q) (k : gj_G X d M Q lim σ v kc ks q L (.long x.toInt64 :: st)) : gj_G X d M Q lim σ v kc ks pc L (.int x :: st) := by
  subst hq
  intro p e s m args below meth c H locs ls hC hR hS hL
  exact lv_i2l hC.1 hC.2.1 hd rfl (k p e s m args below meth c H locs ls hC hR hS hL)
theorem g_dup {x : Value} (hd : decode M.1 pc = .ok (.dup, 1)) (hc : x.category = 1) (hq : pc + 1 = q) (k : gj_G X d M Q lim σ v kc ks q L (x :: x :: st)) : gj_G X d M Q lim σ v kc ks pc L (x :: st) := by
  subst hq
  intro p e s m args below meth c H locs ls hC hR hS hL
  exact lv_dup hC.1 hC.2.1 hd hc (k p e s m args below meth c H locs ls hC hR hS hL)
theorem g_dup2 {x y : Value} (hd : decode M.1 pc = .ok (.dup2, 1)) (hc : x.category = 1) (hc2 : y.category = 1) (hq : pc + 1 = q) (k : gj_G X d M Q lim σ v kc ks q L (x :: y :: x :: y :: st)) : gj_G X d M Q lim σ v kc ks pc L (x :: y :: st) := by
  subst hq
  intro p e s m args below meth c H locs ls hC hR hS hL
  exact lv_dup2_11 hC.1 hC.2.1 hd hc hc2 (k p e s m args below meth c H locs ls hC hR hS hL)
theorem g_pop {x : Value} (hd : decode M.1 pc = .ok (.pop, 1)) (hc : x.category = 1) (hq : pc + 1 = q) (k : gj_G X d M Q lim σ v kc ks q L st) : gj_G X d M Q lim σ v kc ks pc L (x :: st) := by
  subst hq
  intro p e s m args below meth c H locs ls hC hR hS hL
  exact lv_pop hC.1 hC.2.1 hd hc (k p e s m args below meth c H locs ls hC hR hS hL)
theorem g_goto {o : Int} (hd : decode M.1 pc = .ok (.goto o, 3)) (hq : (pc : Int) + o = (q : Int)) (k : gj_G X d M Q lim σ v kc ks q L st) : gj_G X d M Q lim σ v kc ks pc L st := by
  intro p e s m args below meth c H locs ls hC hR hS hL
  exact lv_goto hC.1 hC.2.1 hd hq (k p e s m args below meth c H locs ls hC hR hS hL)
variable {x y : Int32} {o : Int} {t : Nat}
theorem g_ifeq (hd : decode M.1 pc = .ok (.ifCond .eq o, 3)) (ht : (pc : Int) + o = (t : Int)) (hq : pc + 3 = q) (kt : x = 0 → gj_G X d M Q lim σ v kc ks t L st) (kf : ¬ x = 0 → gj_G X d M Q lim σ v kc ks q L st) : gj_G X d M Q lim σ v kc ks pc L (.int x :: st) := by
  subst hq
  intro p e s m args below meth c H locs ls hC hR hS hL
  exact lv_if_eq hC.1 hC.2.1 hd ht (fun h => kt h p e s m args below meth c H locs ls hC hR hS hL) (fun h => kf h p e s m args below meth c H locs ls hC hR hS hL)
theorem g_ifne (hd : decode M.1 pc = .ok (.ifCond .ne o, 3)) (ht : (pc : Int) + o = (t : Int)) (hq : pc + 3 = q) (kt : ¬ x = 0 → gj_G X d M Q lim σ v kc ks t L st) (kf : x = 0 → gj_G X d M Q lim σ v kc ks q L st) : gj_G X d M Q lim σ v kc ks pc L (.int x :: st) := by
  subst hq
  intro p e s m args below meth c H locs ls hC hR hS hL
  exact lv_if_ne hC.1 hC.2.1 hd ht (fun h => kt (by simpa using h) p e s m args below meth c H locs ls hC hR hS hL) (fun h => kf (by simpa using h) p e s m args below meth c H locs ls hC hR hS hL)
theorem g_iflt (hd : decode M.1 pc = .ok (.ifCond .lt o, 3)) (ht : (pc : Int) + o = (t : Int)) (hq : pc + 3 = q) (kt : x < 0 → gj_G X d M Q lim σ v kc ks t L st) (kf : ¬ x < 0 → gj_G X d M Q lim σ v kc ks q L st) : gj_G X d M Q lim σ v kc ks pc L (.int x :: st) := by
  subst hq
  intro p e s m args below meth c H locs ls hC hR hS hL
  exact lv_if_lt hC.1 hC.2.1 hd ht (fun h => kt h p e s m args below meth c H locs ls hC hR hS hL) (fun h => kf h p e s m args below meth c H locs ls hC hR hS hL)
theorem g_ifge (hd : decode M.1 pc = .ok (.ifCond .ge o, 3)) (ht : (pc : Int) + o = (t : Int)) (hq : pc + 3 = q) (kt : 0 ≤ x → gj_G X d M Q lim σ v kc ks t L st) (kf : ¬ 0 ≤ x → gj_G X d M Q lim σ v kc ks q L st) : gj_G X d M Q lim σ v kc ks pc L (.int x :: st) := by
  subst hq
  intro p e s m args below meth c H locs ls hC hR hS hL
  exact lv_if_ge hC.1 hC.2.1 hd ht (fun h => kt h p e s m args below meth c H locs ls hC hR hS hL) (fun h => kf h p e s m args below meth c H locs ls hC hR hS hL)
theorem g_ifgt (hd : decode M.1 pc = .ok (.ifCond .gt o, 3)) (ht : (pc : Int) + o = (t : Int)) (hq : pc + 3 = q) (kt : 0 < x → gj_G X d M Q lim σ v kc ks t L st) (kf : ¬ 0 < x → gj_G X d M Q lim σ v kc ks q L st) : gj_G X d M Q lim σ v kc ks pc L (.int x :: st) := by
  subst hq
  intro p e s m args below meth c H locs ls hC hR hS hL
  exact lv_if_gt hC.1 hC.2.1 hd ht (fun h => kt h p e s m args below meth c H locs ls hC hR hS hL) (fun h => kf h p e s m args below meth c H locs ls hC hR hS hL)
theorem g_ifle (hd : decode M.1 pc = .ok (.ifCond .le o, 3)) (ht : (pc : Int) + o = (t : Int)) (hq : pc + 3 = q) (kt : x ≤ 0 → gj_G X d M Q lim σ v kc ks t L st) (kf : ¬ x ≤ 0 → gj_G X d M Q lim σ v kc ks q L st) : gj_G X d M Q lim σ v kc ks pc L (.int x :: st) := by
  subst hq
  intro p e s m args below meth c H locs ls hC hR hS hL
  exact lv_if_le hC.1 hC.2.1 hd ht (fun h => kt h p e s m args below meth c H locs ls hC hR hS hL) (fun h => kf h p e s m args below meth c H locs ls hC hR hS hL)
theorem g_icmpeq (hd : decode M.1 pc = .ok (.if_icmp .eq o, 3)) (ht : (pc : Int) + o = (t : Int)) (hq : pc + 3 = q) (kt : x = y → gj_G X d M Q lim σ v kc ks t L st) (kf : ¬ x = y → gj_G X d M Q lim σ v kc ks q L st) : gj_G X d M Q lim σ v kc ks pc L (.int y :: .int x :: st) := by
  subst hq
  intro p e s m args below meth c H locs ls hC hR hS hL
  exact lv_icmp_eq hC.1 hC.2.1 hd ht (fun h => kt h p e s m args below meth c H locs ls hC hR hS hL) (fun h => kf h p e s m args below meth c H locs ls hC hR hS hL)
theorem g_icmpne (hd : decode M.1 pc = .ok (.if_icmp .ne o, 3)) (ht : (pc : Int) + o = (t : Int)) (hq : pc + 3 = q) (kt : ¬ x = y → gj_G X d M Q lim σ v kc ks t L st) (kf : x = y → gj_G X d M Q lim σ v kc ks q L st) : gj_G X d M Q lim σ v kc ks pc L (.int y :: .int x :: st) := by
  subst hq
  intro p e s m args below meth c H locs ls hC hR hS hL
  exact lv_icmp_ne hC.1 hC.2.1 hd ht (fun h => kt (by simpa using h) p e s m args below meth c H locs ls hC hR hS hL) (fun h => kf (by simpa using h) p e s m args below meth c H locs ls hC hR hS hL)
theorem g_icmplt (hd : decode M.1 pc = .ok (.if_icmp .lt o, 3)) (ht : (pc : Int) + o = (t : Int)) (hq : pc + 3 = q) (kt : x < y → gj_G X d M Q lim σ v kc ks t L st) (kf : ¬ x < y → gj_G X d M Q lim σ v kc ks q L st) : gj_G X d M Q lim σ v kc ks pc L (.int y :: .int x :: st) := by
  subst hq
  intro p e s m args below meth c H locs ls hC hR hS hL
  exact lv_icmp_lt hC.1 hC.2.1 hd ht (fun h => kt h p e s m args below meth c H locs ls hC hR hS hL) (fun h => kf h p e s m args below meth c H locs ls hC hR hS hL)
theorem g_icmpge (hd : decode M.1 pc = .ok (.if_icmp .ge o, 3)) (ht : (pc : Int) + o = (t : Int)) (hq : pc + 3 = q) (kt : y ≤ x → gj_G X d M Q lim σ v kc ks t L st) (kf : ¬ y ≤ x → gj_G X d M Q lim σ v kc ks q L st) : gj_G X d M Q lim σ v kc ks pc L (.int y :: .int x :: st) := by
  subst hq
  intro p e s m args below meth c H locs ls hC hR hS hL
  exact lv_icmp_ge hC.1 hC.2.1 hd ht (fun h => kt h p e s m args below meth c H locs ls hC hR hS hL) (fun h => kf h p e s m args below meth c H locs ls hC hR hS hL)
theorem g_icmpgt (hd : decode M.1 pc = .ok (.if_icmp .gt o, 3)) (ht : (pc : Int) + o = (t : Int)) (hq : pc + 3 = q) (kt : y < x → gj_G X d M Q lim σ v kc ks t L st) (kf : ¬ y < x → gj_G X d M Q lim σ v kc ks q L st) : gj_G X d M Q lim σ v kc ks pc L (.int y :: .int x :: st) := by
  subst hq
  intro p e s m args below meth c H locs ls hC hR hS hL
  exact lv_icmp_gt hC.1 hC.2.1 hd ht (fun h => kt h p e s m args below meth c H locs ls hC hR hS hL) (fun h => kf h p e s m args below meth c H locs ls hC hR hS hL)
theorem g_icmple (hd : decode M.1 pc = .ok (.if_icmp .le o, 3)) (ht : (pc : Int) + o = (t : Int)) (hq : pc + 3 = q) (kt : x ≤ y → gj_G X d M Q lim σ v kc ks t L st) (kf : ¬ x ≤ y → gj_G X d M Q lim σ v kc ks q L st) : gj_G X d M Q lim σ v kc ks pc L (.int y :: .int x :: st) := by
  subst hq
  intro p e s m args below meth c H locs ls hC hR hS hL
  exact lv_icmp_le hC.1 hC.2.1 hd ht (fun h => kt h p e s m args below meth c H locs ls hC hR hS hL) (fun h => kf h p e s m args below meth c H locs ls hC hR hS hL)
theorem g_tableIn {dflt lo hi : Int} {offs : Array Int} {len : Nat} (hd : decode M.1 pc = .ok (.tableswitch dflt lo hi offs, len)) (h1 : ¬ x.toInt < lo) (h2 : ¬ hi < x.toInt) (ho : offs[(x.toInt - lo).toNat]? = some o) (ht : (pc : Int) + o = (t : Int)) (k : gj_G X d M Q lim σ v kc ks t L st) : gj_G X d M Q lim σ v kc ks pc L (.int x :: st) := by
  intro p e s m args below meth c H locs ls hC hR hS hL
  exact lv_tableIn hC.1 hC.2.1 hd h1 h2 ho ht (k p e s m args below meth c H locs ls hC hR hS hL)
theorem g_tableOut {dflt lo hi : Int} {offs : Array Int} {len : Nat} (hd : decode M.1 pc = .ok (.tableswitch dflt lo hi offs, len)) (h1 : x.toInt < lo ∨ hi < x.toInt) (ht : (pc : Int) + dflt = (t : Int)) (k : gj_G X d M Q lim σ v kc ks t L st) : gj_G X d M Q lim σ v kc ks pc L (.int x :: st) := by
  intro p e s m args below meth c H locs ls hC hR hS hL
  exact lv_tableOut hC.1 hC.2.1 hd h1 ht (k p e s m args below meth c H locs ls hC hR hS hL)
theorem g_lookup {dflt : Int} {ps : Array (Int × Int)} {len : Nat} (hd : decode M.1 pc = .ok (.lookupswitch dflt ps, len)) (hp : (ps.toList.zip (ps.toList.drop 1)).all (fun (a, next) => a.1 < next.1) = true) (ho : Op.lookupswitch.offset ps.toList dflt x.toInt = o) (ht : (pc : Int) + o = (t : Int)) (k : gj_G X d M Q lim σ v kc ks t L st) : gj_G X d M Q lim σ v kc ks pc L (.int x :: st) := by
  intro p e s m args below meth c H locs ls hC hR hS hL
  exact lv_lookup hC.1 hC.2.1 hd hp ho ht (k p e s m args below meth c H locs ls hC hR hS hL)
end GJ
end
section
/-! ===== the judgement's rows of fields, arrays, calls, ends ===== -/
/-- a field as an instruction names it: class ci, place k, its type, whether final -/
def gj_Fk (own : String) (index ci k : Nat) (ty : FieldType) (fin : Bool) : Prop :=
  ∃ (C : String) (T : u_T) (N : Nat) (ty0 : Nat → FieldType), vwCl[ci]? = some (C, T, N) ∧ (∀ w ∈ u_ws C T N, w ∈ gj_w) ∧ (∀ k, k < N → parseFieldDescriptor (T k).2.2.1 = some (ty0 k)) ∧ (∀ a, a < N → ∀ b, b < N → a ≠ b → (T a).2.1 ≠ (T b).2.1) ∧
    k < N ∧ ty0 k = ty ∧ (T k).2.2.2 = fin ∧ (T k).1 = C ∧ (Cond.fieldLink own index (T k).1 (T k).2.1 (T k).2.2.1 ∈ gj_w ∨ ∃ host, Cond.fieldLinkNest own index (T k).1 (T k).2.1 (T k).2.2.1 host ∈ gj_nw)
theorem gj_rep.put {X : gj_X} {lim : Nat} {σ : gj_H} {v : gj_V} {H H1 : Heap} (h : gj_rep X lim σ v H) {a : Nat} {sh : gj_S} (hs : σ a = some sh) {f : Nat → Int32} (hat : va_at X.2.1 vwCl (a, gj_e X.2.2.1 (some sh) f) H1) (hz : H1.size = H.size) (oq : ∀ q : Nat, q ≠ a → H1[q]? = H[q]?) : gj_rep X lim σ (gj_up v a f) H1 := by
  obtain ⟨k, hk⟩ := h.at hs
  have hk2 : ([] ++ gj_pl X lim σ v)[k]? = some (a, (fun a => gj_e X.2.2.1 (σ a) (v a)) a) := by rw [hk]; simp only [hs]
  have e := va_pl_set (e := gj_e X.2.2.1 (some sh) f) h.2.2.2.2 (h.mem hs) hk2
  rw [gj_upf_eq hs] at e
  refine ⟨h.1, hz.trans h.2.1, h.2.2.1, ?_, ?_⟩
  · have := h.2.2.2.1.set h.2.2.2.2 hk hat oq
    rw [e] at this
    exact this
  · have := h.2.2.2.2.set (e := gj_e X.2.2.1 (some sh) f) hk
    rw [e] at this
    exact this
theorem gj_rep.puts {X : gj_X} {lim : Nat} {σ : gj_H} {v : gj_V} {H H1 : Heap} (h : gj_rep X lim σ v H) {a : Nat} {sh sh' : gj_S} (hs : σ a = some sh) (hat : va_at X.2.1 vwCl (a, gj_e X.2.2.1 (some sh') (v a)) H1) (hz : H1.size = H.size) (oq : ∀ q : Nat, q ≠ a → H1[q]? = H[q]?) : gj_rep X lim (va_up σ a (some sh')) v H1 := by
  obtain ⟨k, hk⟩ := h.at hs
  have hk2 : ([] ++ gj_pl X lim σ v)[k]? = some (a, (fun a => gj_e X.2.2.1 (σ a) (v a)) a) := by rw [hk]; simp only [hs]
  have e := va_pl_set (e := gj_e X.2.2.1 (some sh') (v a)) h.2.2.2.2 (h.mem hs) hk2
  rw [gj_ups_eq] at e
  refine ⟨h.1, hz.trans h.2.1, fun b hb => ?_, ?_, ?_⟩
  · by_cases hba : b = a
    · subst hba
      exact h.2.2.1 b (by rw [hs]; rfl)
    · rw [va_up_ne _ _ hba] at hb
      exact h.2.2.1 b hb
  · have := h.2.2.2.1.set h.2.2.2.2 hk hat oq
    rw [e] at this
    exact this
  · have := h.2.2.2.2.set (e := gj_e X.2.2.1 (some sh') (v a)) hk
    rw [e] at this
    exact this
theorem gj_rep.A {X : gj_X} {lim : Nat} {σ : gj_H} {v : gj_V} {H : Heap} (h : gj_rep X lim σ v H) {a : Nat} {sh : gj_S} (hs : σ a = some sh) : gj_A X a := (h.2.2.1 a (by rw [hs]; rfl)).1
/-- a cell of the pool, for the kit's rows -/
theorem gj_rep.one {X : gj_X} {lim : Nat} {σ : gj_H} {v : gj_V} {H : Heap} (h : gj_rep X lim σ v H) {a : Nat} {sh : gj_S} (hs : σ a = some sh) : va_P X.2.1 vwCl [(a, gj_e X.2.2.1 (some sh) (v a))] H := by
  obtain ⟨k, hk⟩ := h.at hs
  intro j q hq
  have hj : j < 1 := (List.getElem?_eq_some_iff.mp hq).1
  rw [show j = 0 by omega] at hq
  cases hq
  exact h.2.2.2.1 k _ hk
section GH
variable {X : gj_X} {d : Nat} {M : gj_M} {Q : gj_Q} {lim : Nat} {σ : gj_H} {v : gj_V} {kc ks pc q : Nat} {L L' : List (Option Value)} {st : List Value}
theorem g_getf {index ci k a : Nat} {ty : FieldType} {fin : Bool} {t : List (Option (Option Nat))} {w : Value} (hf : gj_Fk M.2.1.cls index ci k ty fin) (hs : σ a = some (.inl (ci, t))) (hw : (gj_fs t (v a) 0)[k]? = some w) (hd : decode M.1 pc = .ok (.getfield index, 3)) (hq : pc + 3 = q) (kk : gj_G X d M Q lim σ v kc ks q L (w :: st)) : gj_G X d M Q lim σ v kc ks pc L (.ref a :: st) := by
  subst hq
  intro p e s m args below meth c H locs ls hC hR hS hL
  obtain ⟨C, T, N, ty0, h1, h2, h3, h4, h5, h6, h7, h8, h9⟩ := hf
  have hP := hR.one hs
  rcases h9 with h9 | ⟨host, h9⟩
  · exact va_get hC.1 hC.2.1 hC.2.2.2.2.2.2.1 h2 hC.2.2.2.2.2.1 hC.2.2.2.2.2.2.2.1.1 hP 0 rfl h1 k h5 (hC.2.2.2.2.2.2.1 _ h9) (fun _ h => h) hw hd (kk p e s m args below meth c H locs ls hC hR hS hL)
  · exact va_getN hC.1 hC.2.1 hC.2.2.2.2.2.2.1 h2 hC.2.2.2.2.2.1 hC.2.2.2.2.2.2.2.1.1 hP 0 rfl h1 k h5 (va_Nw.use rfl (hC.2.2.2.2.2.2.2.1.2.1 _ h9)) (fun _ h => h) hw hd (kk p e s m args below meth c H locs ls hC hR hS hL)
theorem g_getI {index ci k a : Nat} {ty : FieldType} {fin : Bool} {t : List (Option (Option Nat))} (hf : gj_Fk M.2.1.cls index ci k ty fin) (hs : σ a = some (.inl (ci, t))) (hw : t[k]? = some none) (hd : decode M.1 pc = .ok (.getfield index, 3)) (hq : pc + 3 = q) (kk : gj_G X d M Q lim σ v kc ks q L (.int (v a k) :: st)) : gj_G X d M Q lim σ v kc ks pc L (.ref a :: st) :=
  g_getf hf hs (by rw [gj_fs_at, hw, Nat.zero_add]; rfl) hd hq kk
theorem g_getR {index ci k a r : Nat} {ty : FieldType} {fin : Bool} {t : List (Option (Option Nat))} (hf : gj_Fk M.2.1.cls index ci k ty fin) (hs : σ a = some (.inl (ci, t))) (hw : t[k]? = some (some (some r))) (hd : decode M.1 pc = .ok (.getfield index, 3)) (hq : pc + 3 = q) (kk : gj_G X d M Q lim σ v kc ks q L (.ref r :: st)) : gj_G X d M Q lim σ v kc ks pc L (.ref a :: st) :=
  g_getf hf hs (by rw [gj_fs_at, hw]; rfl) hd hq kk
/-- an int field that isn't final -/
theorem g_putI {index ci k a : Nat} {ty : FieldType} {t : List (Option (Option Nat))} {x : Int32} (hf : gj_Fk M.2.1.cls index ci k ty false) (hs : σ a = some (.inl (ci, t))) (hw : t[k]? = some none) (hn : narrow ty (.int x) = .int x) (hfit : fits ty (.int x) = true) (hd : decode M.1 pc = .ok (.putfield index, 3)) (hq : pc + 3 = q) (kk : gj_G X d M Q lim σ (gj_up2 v a k x) kc ks q L st) : gj_G X d M Q lim σ v kc ks pc L (.int x :: .ref a :: st) := by
  subst hq
  intro p e s m args below meth c H locs ls hC hR hS hL
  obtain ⟨C, T, N, ty0, h1, h2, h3, h4, h5, h6, h7, h8, h9⟩ := hf
  have hts := hC.2.2.2.2.2.2.1
  have hown := hC.2.2.2.2.2.1
  have hK := hC.2.2.2.2.2.2.2.1.1
  have hap := va_apart (own := M.2.1.cls) hts h2 ty0 h3 h4 hK h1
  obtain ⟨r, g1, cell, q1, q2, q3, q4⟩ := hR.one hs 0 _ rfl
  have hr : r = (C, T, N) := Option.some.inj (g1.symm.trans h1)
  subst hr
  obtain ⟨hSl, hfc, kC, hkC, hkind⟩ := hK.1 ci _ h1
  obtain ⟨cf, kf, fi, f, hi, hsl⟩ := hSl k h5
  have hlay := hts _ (h2 _ (u_in_lay h5))
  unfold u_lay at hlay
  rw [if_neg (by rw [h7]; decide)] at hlay
  have hst := (u_facts hfc hkC (u_lays hts h2 h5) hi).1
  have h10 := u_store hfc hkC hkind hlay hi (by rw [h3 k h5, h6]) hn hfit
  have hlen : k < (gj_fs t (v a) 0).length := by rw [gj_fs_len]; exact (List.getElem?_eq_some_iff.mp hw).1
  have fin : ∀ H' : Heap, H'[a]? = some (cell.setSlot f.slot (.int x)) → H'.size = H.size → (∀ q, q ≠ a → H'[q]? = H[q]?) → W p X.1 e (gj_R d M) s m args below meth c H' (locs ++ [⟨a, f.slot⟩]) kc ks (MQ below (gj_F X Q) args s M.2.2.2.2.1 M.2.2.2.2.2 (gj_A X)) (F0 m (pc + 3) ls st) := by
    intro H' e1 e2 e3
    rw [hsl] at e1 ⊢
    refine kk p e s m args below meth c H' _ ls hC (hR.put hs (f := upd (v a) k x) ?_ e2 e3) (hS.put e2 e3 (hR.A hs)) hL
    show va_at X.2.1 vwCl (a, .inr (ci, gj_fs t (upd (v a) k x) 0)) H'
    rw [← gj_fs_set t (v a) k x hw]
    exact ⟨_, h1, t_OB.to (V := updV (vp_V (gj_fs t (v a) 0)) k (.int x)) ⟨_, e1, q2, q3, t_set q4 hap h5 (.int x)⟩ (fun j _ => vp_updV_set hlen (.int x) j)⟩
  rcases h9 with h9 | ⟨host, h9⟩
  · exact W.putK hC.1 hC.2.1 (f := f) ⟨hown, hts _ h9, ⟨_, _, _, hi⟩, hst⟩ (by rw [q2]; exact h10) q1 q3 (by rw [hsl]; exact k2_hasslot (q4 k h5)) rfl rfl hd fin
  · exact va_WputK hC.1 hC.2.1 (f := f) hown (va_Nw.use rfl (hC.2.2.2.2.2.2.2.1.2.1 _ h9)) hi hst (by rw [q2]; exact h10) q1 q3 (by rw [hsl]; exact k2_hasslot (q4 k h5)) rfl rfl hd fin
/-- an int array, read by a natural index -/
theorem g_iald {a n k : Nat} {i : Int32} (hs : σ a = some (.inr (.inl n))) (hi : i = nI k) (hk : k < n) (hn : n < 2147483648) (hd : decode M.1 pc = .ok (.iaload, 1)) (hq : pc + 1 = q) (kk : gj_G X d M Q lim σ v kc ks q L (.int (v a k) :: st)) : gj_G X d M Q lim σ v kc ks pc L (.int i :: .ref a :: st) := by
  subst hq; subst hi
  intro p e s m args below meth c H locs ls hC hR hS hL
  have hP := hR.one hs
  have hc : (nI k).toNatClampNeg = k := nI_clamp (Nat.lt_trans hk hn)
  refine va_iald hC.1 hC.2.1 hC.2.2.2.2.2.2.2.1.1 hP 0 0 (f := v a) (n := n) rfl rfl (vp_in_nI hk hn) hd ?_
  rw [hc]
  exact kk p e s m args below meth c H locs ls hC hR hS hL
theorem g_iast {a n k : Nat} {i x : Int32} (hs : σ a = some (.inr (.inl n))) (hi : i = nI k) (hk : k < n) (hn : n < 2147483648) (hd : decode M.1 pc = .ok (.iastore, 1)) (hq : pc + 1 = q) (kk : gj_G X d M Q lim σ (gj_up2 v a k x) kc ks q L st) : gj_G X d M Q lim σ v kc ks pc L (.int x :: .int i :: .ref a :: st) := by
  subst hq; subst hi
  intro p e s m args below meth c H locs ls hC hR hS hL
  have hP := hR.one hs
  have hc : (nI k).toNatClampNeg = k := nI_clamp (Nat.lt_trans hk hn)
  have hin : vp_in (nI k) n := vp_in_nI hk hn
  refine W.iast hC.1 hC.2.1 (hP 0 _ rfl) ((hC.2.2.2.2.2.2.2.1.1.2 0 _ rfl).1 n (fun j => .int (v a j))) (fun q => by cases q) (by show ¬ (nI k < 0 ∨ (arrV _ _ _).slots.size ≤ _); rw [arrV_size]; exact hin) rfl rfl hd fun H1 e1 z oq => ?_
  refine kk p e s m args below meth c H1 _ ls hC (hR.put hs (f := upd (v a) k x) ?_ z oq) (hS.put z oq (hR.A hs)) hL
  show H1[a]? = some (vp_cell (X.2.2.1 0) (n, .inl (upd (v a) k x)))
  rw [e1, hc]
  show some ((vp_cell (X.2.2.1 0) (n, .inl (v a))).setSlot k (.int x)) = _
  rw [vp_cell_i, vp_cell_i, arrV_store]
  congr 2
  funext j
  by_cases hj : j = k
  · subst hj
    simp [updV, upd]
  · simp [updV, upd, hj]
theorem g_alen {a n : Nat} (hs : σ a = some (.inr (.inl n))) (hd : decode M.1 pc = .ok (.arraylength, 1)) (hq : pc + 1 = q) (kk : gj_G X d M Q lim σ v kc ks q L (.int (nI n) :: st)) : gj_G X d M Q lim σ v kc ks pc L (.ref a :: st) := by
  subst hq
  intro p e s m args below meth c H locs ls hC hR hS hL
  exact va_alen hC.1 hC.2.1 hC.2.2.2.2.2.2.2.1.1 (hR.one hs) 0 0 rfl rfl rfl hd (kk p e s m args below meth c H locs ls hC hR hS hL)
/-- an array of references, read by a natural index -/
theorem g_aald {a k r kk0 : Nat} {C : String} {i : Int32} {A : List (Option Nat)} (hs : σ a = some (.inr (.inr (kk0, A)))) (hC0 : (gj_tys X.2.2.1)[kk0]? = some (X.2.2.1 kk0, .object C)) (hi : i = nI k) (hr : A[k]? = some (some r)) (hn : A.length < 2147483648) (hd : decode M.1 pc = .ok (.aaload, 1)) (hq : pc + 1 = q) (kk : gj_G X d M Q lim σ v kc ks q L (.ref r :: st)) : gj_G X d M Q lim σ v kc ks pc L (.int i :: .ref a :: st) := by
  subst hq; subst hi
  intro p e s m args below meth c H locs ls hC hR hS hL
  have hk : k < A.length := (List.getElem?_eq_some_iff.mp hr).1
  have hc : (nI k).toNatClampNeg = k := nI_clamp (Nat.lt_trans hk hn)
  refine va_aldq hC.1 hC.2.1 hC.2.2.2.2.2.2.2.1.1 (hR.one hs) 0 kk0 (n := A.length) (f := fun i => A.getD i none) rfl hC0 (vp_in_nI hk hn) hd ?_
  rw [hc]
  have e1 : A.getD k none = some r := by rw [List.getD_eq_getElem?_getD, hr]; rfl
  show W p X.1 e (gj_R d M) s m args below meth c H locs kc ks _ (F0 m (pc + 1) ls (va_rf (A.getD k none) :: st))
  rw [e1]
  exact kk p e s m args below meth c H locs ls hC hR hS hL
/-! ends -/
theorem gj_end {p : Program} {e : Env} {s : State} {m : MethodId} {args : Array Value} {below : List Frame} {meth : Method} {c : Code} {H : Heap} {locs : List Loc} {r : Option Value} (hR : gj_rep X lim σ v H) (hS : va_S (gj_A X) s.heap H locs) (hQ : Q r lim σ v) : ∀ t : State, t.heap = H → s.WarmedH t.vm → gj_F X Q args s (.returned r) t :=
  fun t ht _ => ⟨⟨r, lim, σ, v, rfl, hQ, by rw [ht]; exact hR⟩, hS.F ht⟩
theorem g_iret {x : Int32} (hr : M.2.2.2.1 = some .int) (hkc : kc = M.2.2.2.2.1) (hks : ks = M.2.2.2.2.2) (hd : decode M.1 pc = .ok (.ireturn, 1)) (hQ : Q (some (.int x)) lim σ v) : gj_G X d M Q lim σ v kc ks pc L [.int x] := by
  subst hkc; subst hks
  intro p e s m args below meth c H locs ls hC hR hS hL
  exact W.iret hC.1 hC.2.1 (hC.2.2.2.1.trans hr) (gj_end (p := p) (e := e) (m := m) (below := below) (meth := meth) (c := c) hR hS hQ) hS.2.2 hd hC.2.2.2.2.1
theorem g_zret {x : Int32} (hr : M.2.2.2.1 = some .boolean) (hz : narrow .boolean (.int x) = .int x) (hkc : kc = M.2.2.2.2.1) (hks : ks = M.2.2.2.2.2) (hd : decode M.1 pc = .ok (.ireturn, 1)) (hQ : Q (some (.int x)) lim σ v) : gj_G X d M Q lim σ v kc ks pc L [.int x] := by
  subst hkc; subst hks
  intro p e s m args below meth c H locs ls hC hR hS hL
  exact W.zret hC.1 hC.2.1 (hC.2.2.2.1.trans hr) hz (gj_end (p := p) (e := e) (m := m) (below := below) (meth := meth) (c := c) hR hS hQ) hS.2.2 hd hC.2.2.2.2.1
theorem g_lret {x : Int64} (hr : M.2.2.2.1 = some .long) (hkc : kc = M.2.2.2.2.1) (hks : ks = M.2.2.2.2.2) (hd : decode M.1 pc = .ok (.lreturn, 1)) (hQ : Q (some (.long x)) lim σ v) : gj_G X d M Q lim σ v kc ks pc L [.long x] := by
  subst hkc; subst hks
  intro p e s m args below meth c H locs ls hC hR hS hL
  exact W.lret hC.1 hC.2.1 (hC.2.2.2.1.trans hr) (gj_end (p := p) (e := e) (m := m) (below := below) (meth := meth) (c := c) hR hS hQ) hS.2.2 hd hC.2.2.2.2.1
theorem g_vret (hr : M.2.2.2.1 = none) (hkc : kc = M.2.2.2.2.1) (hks : ks = M.2.2.2.2.2) (hd : decode M.1 pc = .ok (.return_, 1)) (hQ : Q none lim σ v) : gj_G X d M Q lim σ v kc ks pc L [] := by
  subst hkc; subst hks
  intro p e s m args below meth c H locs ls hC hR hS hL
  exact W.vret hC.1 hC.2.1 (hC.2.2.2.1.trans hr) (gj_end (p := p) (e := e) (m := m) (below := below) (meth := meth) (c := c) hR hS hQ) hS.2.2 hd hC.2.2.2.2.1
/-! a contract out of the judgement -/
def gj_ent : List Value → List (Option Value)
  | [] => []
  | .long x :: r => some (.long x) :: none :: gj_ent r
  | .double x :: r => some (.double x) :: none :: gj_ent r
  | x :: r => some x :: gj_ent r
theorem gj_ent_in : ∀ (vs : List Value) (n i : Nat) (w : Value), (gj_ent vs)[i]? = some (some w) → (n + i, w) ∈ lv_args n vs
  | [], n, i, w, h => by simp [gj_ent] at h
  | x :: r, n, i, w, h => by
    have ih1 := gj_ent_in r (n + 1)
    have ih2 := gj_ent_in r (n + 2)
    cases x <;> (
      simp only [gj_ent] at h
      unfold lv_args
      rcases i with _ | i
      · simp at h
        subst h
        simp
      · first
          | (rcases i with _ | i
             · simp at h
             · have := ih2 i w (by simpa using h)
               rw [show n + 2 + i = n + (i + 1 + 1) by omega] at this
               simp only [Value.category, List.mem_cons]
               exact Or.inr this)
          | (have := ih1 i w (by simpa using h)
             rw [show n + 1 + i = n + (i + 1) by omega] at this
             simp only [Value.category, List.mem_cons]
             exact Or.inr this))
theorem gj_E_of {as : List Value} (hy : plainName M.2.1.cls = true) (hL : Nat.ble (lg_sl as).length M.2.2.1 = true) (hl : ∀ (i : Nat) (w : Value), L[i]? = some (some w) → (gj_ent as)[i]? = some (some w)) (h : gj_G X d M Q lim σ v 0 0 0 L []) : gj_E X d M as lim σ v Q := by
  refine Met.ofW (cc := M.1) (maxL := M.2.2.1) (ret := M.2.2.2.1) hy rfl ?_
  intro p e s m args below meth c s₁ B hml hv
  obtain ⟨rfl, hR, hK⟩ := hv
  have hts := atoms_spec (ws := gj_ws M) B.pre
  have hent := lv_entry as (n := M.2.2.1) (Nat.ble_eq.mp hL)
  rw [lg_entry_eq]
  refine h p e s m as.toArray below meth c s.heap [] _ ⟨B.exec, B.bytes, hml, B.returns, B.notSynchronized, findClass_of_methodNamed B.named, fun w hw => hts w (List.mem_cons_of_mem _ hw), hK, by rw [hR.2.1]; exact hR.1, (name_of_methodNamed B.named B.method).1⟩ hR va_S.rf ⟨hent.1, hent.2.1, fun q hq => ?_⟩
  obtain ⟨i, w⟩ := q
  have h1 := gj_ent_in as 0 i w (hl i w (gj_L_mem.mp hq))
  rw [Nat.zero_add] at h1
  exact hent.2.2 (i, w) h1
/-- locals may be forgotten -/
theorem g_weak (h : ∀ (i : Nat) (w : Value), L'[i]? = some (some w) → L[i]? = some (some w)) (k : gj_G X d M Q lim σ v kc ks pc L' st) : gj_G X d M Q lim σ v kc ks pc L st := by
  intro p e s m args below meth c H locs ls hC hR hS hL
  refine k p e s m args below meth c H locs ls hC hR hS ⟨hL.1, hL.2.1, fun q hq => ?_⟩
  obtain ⟨i, w⟩ := q
  exact hL.2.2 (i, w) (gj_L_mem.mpr (h i w (gj_L_mem.mp hq)))
end GH
end
section
/-! ===== calls, the library's three, and what a constructor does ===== -/
def gj_Ck (own : String) (index : Nat) (N : gj_M) (n : Nat) : Prop :=
  (Cond.methodLink own index N.2.1 ∈ gj_w ∨ ∃ host, Cond.methodLinkNest own index N.2.1 host ∈ gj_nw) ∧ Cond.code N.2.1 N.1 N.2.2.1 N.2.2.2.1 ∈ gj_w ∧ Cond.initialized N.2.1.cls ∈ gj_w ∧ (N.2.1.cls ≠ "java/lang/invoke/MethodHandle" ∧ N.2.1.cls ≠ "java/lang/invoke/VarHandle") ∧ (parseMethodDescriptor N.2.1.desc).map (fun d => d.parameters.length) = some n ∧ N.2.2.1 ≤ 10
def gj_CkV (own : String) (index : Nat) (N : gj_M) (n : Nat) : Prop := gj_Ck own index N n ∧ Cond.instanceMethod N.2.1 ∈ gj_w ∧ Cond.selects N.2.1.cls N.2.1 N.2.1 ∈ gj_w
def gj_CkS (own : String) (index : Nat) (N : gj_M) (n : Nat) : Prop := gj_Ck own index N n ∧ Cond.static N.2.1 ∈ gj_w
def gj_CkI (own : String) (index : Nat) (N : gj_M) (n : Nat) : Prop := gj_Ck own index N n ∧ N.2.1.name = "<init>" ∧ Cond.instanceMethod N.2.1 ∈ gj_w ∧ N.2.2.2.1 = none
theorem gj_pay {N : gj_M} (hc : Cond.code N.2.1 N.1 N.2.2.1 N.2.2.2.1 ∈ gj_w) {args : Array Value} {s : State} (hts : ∀ w ∈ gj_w, w.before args s = true) : ∀ w ∈ gj_ws N, ∀ (a' : Array Value) (U : State), s.WarmedH U.vm → w.before a' U = true := by
  refine pay_in hts (fun w hw => ?_)
  rcases List.mem_cons.mp hw with rfl | hw
  · exact ⟨hc, good_of_word (List.mem_filter.mp hc).2⟩
  · exact ⟨hw, good_of_word (List.mem_filter.mp hw).2⟩
theorem gj_blind {X : gj_X} {as : List Value} {lim : Nat} {σ : gj_H} {v : gj_V} : FrameBlind (va_Pc as (fun U => gj_rep X lim σ v U.heap ∧ gj_K X U)) := by
  intro a U g mk h
  exact ⟨h.1, h.2.1, gj_K.same (s := U) rfl h.2.2⟩
section GC
variable {X : gj_X} {d d' : Nat} {M N : gj_M} {Q Q' : gj_Q} {lim : Nat} {σ : gj_H} {v : gj_V} {kc ks pc q index n b ci : Nat} {L L' : List (Option Value)} {st st0 As rest : List Value} {t : List (Option (Option Nat))}
/-- behind a call -/
theorem gj_back {p : Program} {e : Env} {s : State} {m : MethodId} {args : Array Value} {below : List Frame} {meth : Method} {c : Code} {H : Heap} {locs : List Loc} {ls : Array Slot} {a : Array Value}
    (hr : va_Run p X.1 e (gj_R d M) s m args below meth c H locs kc ks N.2.2.2.2.1 N.2.2.2.2.2 (F0 m pc ls st0) rest (gj_F X Q' a) (gj_A X)) (hC : gj_C X M p s m args meth c) (hS : va_S (gj_A X) s.heap H locs) (hL : lv_has ls M.2.2.1 (gj_L L))
    (kk : ∀ (r : Option Value) (lim' : Nat) (σ' : gj_H) (v' : gj_V), Q' r lim' σ' v' → gj_G X d M Q lim' σ' v' (kc + N.2.2.2.2.1) (ks + N.2.2.2.2.2) (pc + 3) L (r.toList ++ rest)) :
    W p X.1 e (gj_R d M) s m args below meth c H locs kc ks (MQ below (gj_F X Q) args s M.2.2.2.2.1 M.2.2.2.2.2 (gj_A X)) (F0 m pc ls st0) := by
  intro T hT Xs
  obtain ⟨w, st₀, t, T', LL, h0, X', hLL, e1, e2, ⟨⟨r, lim', σ', v', hw, hq', hrep⟩, hz, hkp⟩, stp⟩ := hr T hT Xs
  cases hw
  rw [h0] at hz hkp
  obtain ⟨t2, a1, b1⟩ := kk _ lim' σ' v' hq' p e s m args below meth c T'.heap (locs ++ LL) ls hC (by rw [e1]; exact hrep)
    ⟨Nat.le_trans hS.1 (by rw [e1]; exact hz), fun x g1 g2 => by rw [e1, hkp x (Nat.lt_of_lt_of_le g1 hS.1) g2]; exact hS.2.1 x g1 g2, fun x hx => by
      rcases List.mem_append.mp hx with h | h
      · exact hS.2.2 x h
      · exact hLL x h⟩ hL T' rfl X'
  exact ⟨t2, stp t2 a1, b1⟩
theorem gj_pre {s : State} {args : Array Value} {H : Heap} (hR : gj_rep X lim σ v H) (hK : gj_K X s) (as : List Value) : PreS s H (va_Pc as (fun U => gj_rep X lim σ v U.heap ∧ gj_K X U)) as :=
  ⟨gj_blind, fun U hU hW => ⟨rfl, by rw [hU]; exact hR, gj_K.warm hW hK⟩⟩
theorem gj_room (hN : N.2.2.1 ≤ 10) (hd' : d' < d) : (gj_R d' N).frames + 1 ≤ (gj_R d M).frames ∧ 8 + (N.2.2.1 + 11) + (gj_R d' N).locals ≤ (gj_R d M).locals := by
  simp only [gj_R]; omega
theorem g_callV (hk : gj_CkV M.2.1.cls index N n) (hs : σ b = some (.inl (ci, t))) (hcl : (vwCl[ci]?).map (fun z => z.1) = some N.2.1.cls) (hd' : d' < d) (hn : As.length = n) (hst : st0 = As.reverse ++ .ref b :: rest) (hrm : (rest.map fun v => v.category).sum ≤ 8) (hkc : kc + N.2.2.2.2.1 ≤ M.2.2.2.2.1) (hks : ks + N.2.2.2.2.2 ≤ M.2.2.2.2.2) (hd : decode M.1 pc = .ok (.invokevirtual index, 3)) (hq : pc + 3 = q)
    (hE : gj_E X d' N (.ref b :: As) lim σ v Q') (kk : ∀ (r : Option Value) (lim' : Nat) (σ' : gj_H) (v' : gj_V), Q' r lim' σ' v' → gj_G X d M Q lim' σ' v' (kc + N.2.2.2.2.1) (ks + N.2.2.2.2.2) q L (r.toList ++ rest)) : gj_G X d M Q lim σ v kc ks pc L st0 := by
  subst hq; subst hst
  intro p e s m args below meth c H locs ls hC hR hS hL
  obtain ⟨⟨hl, hc, hi, hy, hp, hN⟩, hin, hse⟩ := hk
  have hts := hC.2.2.2.2.2.2.1
  have hrm2 := gj_room (M := M) hN hd'
  have hlen : ∀ sig, parseMethodDescriptor N.2.1.desc = some sig → n = sig.parameters.length := fun sig h => by
    rw [h] at hp
    exact (Option.some.inj hp).symm
  have hrecv : ∃ cellB : Cell, H[b]? = some cellB ∧ cellB.vm.isStatics = false ∧ s.vm.findClass N.2.1.cls = some cellB.cls := by
    cases hci : vwCl[ci]? with
    | none => rw [hci] at hcl; cases hcl
    | some z =>
      rw [hci] at hcl
      have hz : z.1 = N.2.1.cls := Option.some.inj hcl
      rw [← hz]
      exact va_recv hC.2.2.2.2.2.2.2.1.1 (hR.one hs) hci (q0 := 0) rfl
  have hpre := gj_pre (args := args) hR hC.2.2.2.2.2.2.2.1 (.ref b :: As)
  have hcb : ∀ w ∈ gj_w, w.before args s = true := hts
  refine gj_back (N := N) (rest := rest) (Q' := Q') (a := (Value.ref b :: As).toArray) ?_ hC hS hL kk
  rcases hl with hl | ⟨host, hl⟩
  · exact va_runV (As := As) (rest := rest) (C := N.2.1.cls) ⟨hC.1, hC.2.1, hC.2.2.1, hC.2.2.2.2.2.1, hts⟩ hE ⟨⟨rfl, rfl, hrm2.1, hrm2.2, gj_pay hc hts, List.mem_cons_self, hts _ hc, hts _ hi, hy, hlen, hts _ hl⟩, hts _ hin, hts _ hse⟩ ⟨hpre.1, hrecv, hpre.2⟩ rfl hn hL.1 rfl (lv_room hrm) hd ⟨hkc, hks⟩
  · exact va_runVN (As := As) (rest := rest) (C := N.2.1.cls) ⟨hC.1, hC.2.1, hC.2.2.1, hC.2.2.2.2.2.1, hts⟩ hE ⟨⟨⟨rfl, rfl, hrm2.1, hrm2.2, gj_pay hc hts, List.mem_cons_self⟩, hts _ hc, hts _ hi, hy, hlen, va_Nw.use rfl (hC.2.2.2.2.2.2.2.1.2.1 _ hl)⟩, hts _ hin, hts _ hse⟩ ⟨hpre.1, hrecv, hpre.2⟩ rfl hn hL.1 rfl (lv_room hrm) hd ⟨hkc, hks⟩
theorem g_callS (hk : gj_CkS M.2.1.cls index N n) (hd' : d' < d) (hn : As.length = n) (hst : st0 = As.reverse ++ rest) (hrm : (rest.map fun v => v.category).sum ≤ 8) (hkc : kc + N.2.2.2.2.1 ≤ M.2.2.2.2.1) (hks : ks + N.2.2.2.2.2 ≤ M.2.2.2.2.2) (hd : decode M.1 pc = .ok (.invokestatic index, 3)) (hq : pc + 3 = q)
    (hE : gj_E X d' N As lim σ v Q') (kk : ∀ (r : Option Value) (lim' : Nat) (σ' : gj_H) (v' : gj_V), Q' r lim' σ' v' → gj_G X d M Q lim' σ' v' (kc + N.2.2.2.2.1) (ks + N.2.2.2.2.2) q L (r.toList ++ rest)) : gj_G X d M Q lim σ v kc ks pc L st0 := by
  subst hq; subst hst
  intro p e s m args below meth c H locs ls hC hR hS hL
  obtain ⟨⟨hl, hc, hi, hy, hp, hN⟩, hstt⟩ := hk
  have hts := hC.2.2.2.2.2.2.1
  have hrm2 := gj_room (M := M) hN hd'
  have hlen : ∀ sig, parseMethodDescriptor N.2.1.desc = some sig → n = sig.parameters.length := fun sig h => by
    rw [h] at hp
    exact (Option.some.inj hp).symm
  have hpre := gj_pre (args := args) hR hC.2.2.2.2.2.2.2.1 As
  refine gj_back (N := N) (rest := rest) (Q' := Q') (a := As.toArray) ?_ hC hS hL kk
  rcases hl with hl | ⟨host, hl⟩
  · exact va_runS (As := As) (rest := rest) ⟨hC.1, hC.2.1, hC.2.2.1, hC.2.2.2.2.2.1, hts⟩ hE ⟨⟨rfl, rfl, hrm2.1, hrm2.2, gj_pay hc hts, List.mem_cons_self, hts _ hc, hts _ hi, hy, hlen, hts _ hl⟩, hts _ hstt⟩ hpre rfl hn hL.1 rfl (lv_room hrm) hd ⟨hkc, hks⟩
  · exact va_runSN (As := As) (rest := rest) ⟨hC.1, hC.2.1, hC.2.2.1, hC.2.2.2.2.2.1, hts⟩ hE ⟨⟨⟨rfl, rfl, hrm2.1, hrm2.2, gj_pay hc hts, List.mem_cons_self⟩, hts _ hc, hts _ hi, hy, hlen, va_Nw.use rfl (hC.2.2.2.2.2.2.2.1.2.1 _ hl)⟩, hts _ hstt, trivial⟩ hpre rfl hn hL.1 rfl (lv_room hrm) hd ⟨hkc, hks⟩
theorem g_callI (hk : gj_CkI M.2.1.cls index N n) (hd' : d' < d) (hn : As.length = n) (hst : st0 = As.reverse ++ .ref b :: rest) (hrm : (rest.map fun v => v.category).sum ≤ 8) (hkc : kc + N.2.2.2.2.1 ≤ M.2.2.2.2.1) (hks : ks + N.2.2.2.2.2 ≤ M.2.2.2.2.2) (hd : decode M.1 pc = .ok (.invokespecial index, 3)) (hq : pc + 3 = q)
    (hE : gj_E X d' N (.ref b :: As) lim σ v Q') (kk : ∀ (r : Option Value) (lim' : Nat) (σ' : gj_H) (v' : gj_V), Q' r lim' σ' v' → gj_G X d M Q lim' σ' v' (kc + N.2.2.2.2.1) (ks + N.2.2.2.2.2) q L (r.toList ++ rest)) : gj_G X d M Q lim σ v kc ks pc L st0 := by
  subst hq; subst hst
  intro p e s m args below meth c H locs ls hC hR hS hL
  obtain ⟨⟨hl, hc, hi, hy, hp, hN⟩, hnm, hin, hret⟩ := hk
  have hts := hC.2.2.2.2.2.2.1
  have hrm2 := gj_room (M := M) hN hd'
  have hlen : ∀ sig, parseMethodDescriptor N.2.1.desc = some sig → n = sig.parameters.length := fun sig h => by
    rw [h] at hp
    exact (Option.some.inj hp).symm
  have hpre := gj_pre (args := args) hR hC.2.2.2.2.2.2.2.1 (.ref b :: As)
  have hmem : Cond.code N.2.1 N.1 N.2.2.1 none ∈ gj_ws N := by
    have : Cond.code N.2.1 N.1 N.2.2.1 N.2.2.2.1 ∈ gj_ws N := List.mem_cons_self
    rw [hret] at this
    exact this
  have hc0 : (Cond.code N.2.1 N.1 N.2.2.1 none).before args s = true := by
    have := hts _ hc
    rw [hret] at this
    exact this
  refine gj_back (N := N) (rest := rest) (Q' := Q') (a := (Value.ref b :: As).toArray) ?_ hC hS hL kk
  rcases hl with hl | ⟨host, hl⟩
  · exact va_runI (As := As) (rest := rest) (b := b) ⟨hC.1, hC.2.1, hC.2.2.1, hC.2.2.2.2.2.1, hts⟩ hE ⟨⟨rfl, rfl, hrm2.1, hrm2.2, gj_pay hc hts, hmem, hc0, hts _ hi, hy, hlen, hts _ hl⟩, hnm, hts _ hin⟩ hpre rfl hn hL.1 rfl (lv_room hrm) hd ⟨hkc, hks⟩
  · exact va_runIN (As := As) (rest := rest) (b := b) ⟨hC.1, hC.2.1, hC.2.2.1, hC.2.2.2.2.2.1, hts⟩ hE ⟨⟨⟨rfl, rfl, hrm2.1, hrm2.2, gj_pay hc hts, hmem⟩, hc0, hts _ hi, hy, hlen, va_Nw.use rfl (hC.2.2.2.2.2.2.2.1.2.1 _ hl)⟩, hnm, hts _ hin⟩ hpre rfl hn hL.1 rfl (lv_room hrm) hd ⟨hkc, hks⟩
/-! Math.max, Math.min -/
def gj_Mx (own : String) (index : Nat) : Prop := Cond.methodLink own index Lib.Math.max.name ∈ gj_w ∧ Cond.static Lib.Math.max.name ∈ gj_w ∧ Cond.initialized "java/lang/Math" ∈ gj_w ∧ Cond.code Lib.Math.max.name Lib.Math.max.code 2 (some .int) ∈ gj_w
def gj_Mn (own : String) (index : Nat) : Prop := Cond.methodLink own index Lib.Math.min.name ∈ gj_w ∧ Cond.static Lib.Math.min.name ∈ gj_w ∧ Cond.initialized "java/lang/Math" ∈ gj_w ∧ Cond.code Lib.Math.min.name Lib.Math.min.code 2 (some .int) ∈ gj_w
theorem g_max {x y : Int32} (hk : gj_Mx M.2.1.cls index) (hrm : (rest.map fun v => v.category).sum ≤ 8) (hkc : kc ≤ M.2.2.2.2.1) (hks : ks ≤ M.2.2.2.2.2) (hd : decode M.1 pc = .ok (.invokestatic index, 3)) (hq : pc + 3 = q) (kk : gj_G X d M Q lim σ v kc ks q L (.int (if x < y then y else x) :: rest)) : gj_G X d M Q lim σ v kc ks pc L (.int y :: .int x :: rest) := by
  subst hq
  intro p e s m args below meth c H locs ls hC hR hS hL
  have hts := hC.2.2.2.2.2.2.1
  exact va_mmax hC.1 hC.2.1 (hC.2.2.1.trans hL.1.symm) hC.2.2.2.2.2.1 (hts _ hk.1) (hts _ hk.2.1) (hts _ hk.2.2.1) (hts _ hk.2.2.2) (by simp only [gj_R]; omega) (by simp only [gj_R]; omega) hkc hks hd (kk p e s m args below meth c H locs ls hC hR hS hL)
theorem g_min {x y : Int32} (hk : gj_Mn M.2.1.cls index) (hrm : (rest.map fun v => v.category).sum ≤ 8) (hkc : kc ≤ M.2.2.2.2.1) (hks : ks ≤ M.2.2.2.2.2) (hd : decode M.1 pc = .ok (.invokestatic index, 3)) (hq : pc + 3 = q) (kk : gj_G X d M Q lim σ v kc ks q L (.int (if y < x then y else x) :: rest)) : gj_G X d M Q lim σ v kc ks pc L (.int y :: .int x :: rest) := by
  subst hq
  intro p e s m args below meth c H locs ls hC hR hS hL
  have hts := hC.2.2.2.2.2.2.1
  exact va_mmin hC.1 hC.2.1 (hC.2.2.1.trans hL.1.symm) hC.2.2.2.2.2.1 (hts _ hk.1) (hts _ hk.2.1) (hts _ hk.2.2.1) (hts _ hk.2.2.2) (by simp only [gj_R]; omega) (by simp only [gj_R]; omega) hkc hks hd (kk p e s m args below meth c H locs ls hC hR hS hL)
/-! System.arraycopy of int arrays -/
def gj_Ac (own : String) (index : Nat) : Prop := Cond.methodLink own index arraycopyName ∈ gj_w ∧ Cond.native arraycopyName ∈ gj_w ∧ Cond.static arraycopyName ∈ gj_w ∧ Cond.initialized "java/lang/System" ∈ gj_w
theorem g_acopy {a a0 n0 n1 sp dp k : Nat} {i0 i1 i2 : Int32} (hk : gj_Ac M.2.1.cls index) (hs0 : σ a0 = some (.inr (.inl n0))) (hs : σ a = some (.inr (.inl n1))) (e0 : i0 = nI sp) (e1 : i1 = nI dp) (e2 : i2 = nI k) (h0 : sp + k ≤ n0) (h1 : dp + k ≤ n1) (hn0 : n0 < 2147483648) (hn1 : n1 < 2147483648) (hrm : (rest.map fun v => v.category).sum ≤ 8) (hd : decode M.1 pc = .ok (.invokestatic index, 3)) (hq : pc + 3 = q)
    (kk : gj_G X d M Q lim σ (gj_up v a (va_cpy (v a0) (v a) sp dp k)) kc ks q L rest) : gj_G X d M Q lim σ v kc ks pc L (.int i2 :: .int i1 :: .ref a :: .int i0 :: .ref a0 :: rest) := by
  subst hq; subst e0; subst e1; subst e2
  intro p e s m args below meth c H locs ls hC hR hS hL
  have hts := hC.2.2.2.2.2.2.1
  have csp : (nI sp).toNatClampNeg = sp := nI_clamp (by omega)
  have cdp : (nI dp).toNatClampNeg = dp := nI_clamp (by omega)
  have ck : (nI k).toNatClampNeg = k := nI_clamp (by omega)
  have nn : ∀ j : Nat, j < 2 ^ 31 → (nI j).toInt = (j : Int) := fun j hj => nI_toInt hj
  intro T hT Xs
  have hc0 : H[a0]? = some (vp_cell (X.2.2.1 0) (n0, .inl (v a0))) := hR.one hs0 0 _ rfl
  have hc1 : H[a]? = some (vp_cell (X.2.2.1 0) (n1, .inl (v a))) := hR.one hs 0 _ rfl
  have hAr := (hC.2.2.2.2.2.2.2.1.1.2 0 (X.2.2.1 0, .int) rfl).1
  obtain ⟨-, k0, hk0, cm0, hkk0⟩ := hAr n0 (fun j => .int (v a0 j))
  obtain ⟨-, k1, hk1, cm1, hkk1⟩ := hAr n1 (fun j => .int (v a j))
  obtain ⟨vm', X', step⟩ := Xs.arraycopy hC.1 hC.2.2.2.2.2.1 (hts _ hk.1) (hts _ hk.2.1) (hts _ hk.2.2.1) (hts _ hk.2.2.2) (src := a0) (dst := a) (cs := vp_cell (X.2.2.1 0) (n0, .inl (v a0))) (cd := vp_cell (X.2.2.1 0) (n1, .inl (v a))) (srcPos := nI sp) (destPos := nI dp) (n := nI k) (by rw [hT]; exact hc0) (by rw [hT]; exact hc1)
    (fun _ h => by cases h) (fun _ h => by cases h) (fun h => by cases h) (fun h => by cases h) hk0 hk1 hkk0 hkk1 (by simp [refKind]) (nI_pos (by omega)) (nI_pos (by omega)) (nI_pos (by omega))
    (by rw [nn sp (by omega), nn k (by omega)]; show ¬ _ > ((arrV (X.2.2.1 0) n0 (fun j => .int (v a0 j))).slots.size : Int); rw [arrV_size]; omega)
    (by rw [nn dp (by omega), nn k (by omega)]; show ¬ _ > ((arrV (X.2.2.1 0) n1 (fun j => .int (v a j))).slots.size : Int); rw [arrV_size]; omega)
    (fun vm₁ _ i hi => by
      have e : (vp_cell (X.2.2.1 0) (n0, .inl (v a0))).slots.getD ((nI sp).toNatClampNeg + i) .null = .int (v a0 ((nI sp).toNatClampNeg + i)) := by
        show (arrV (X.2.2.1 0) n0 (fun j => .int (v a0 j))).slots.getD _ _ = _
        rw [Array.getD_eq_getD_getElem?, arrV_read _ _ (by rw [ck] at hi; omega)]
        rfl
      refine ⟨?_, ?_⟩
      · rw [e]; rfl
      · rw [e]; exact trivial)
    (g := F0 m pc ls (.int (nI k) :: .int (nI dp) :: .ref a :: .int (nI sp) :: .ref a0 :: rest)) rfl (by show ls.size = _; rw [hL.1]; exact hC.2.2.1.symm) (rest := rest) rfl (by rw [hC.2.1]; exact hd) (by simp only [gj_R]; omega) (by
      show 2 * 0 + _ + _ ≤ _
      have : nativeFrameWords "java/lang/System" "arraycopy" 5 + 11 = 18 := by decide +kernel
      simp only [gj_R]; omega)
  have e1 : copied (vp_cell (X.2.2.1 0) (n0, .inl (v a0))) (vp_cell (X.2.2.1 0) (n1, .inl (v a))) (nI sp) (nI dp) (nI k) = vp_cell (X.2.2.1 0) (n1, .inl (va_cpy (v a0) (v a) (nI sp).toNatClampNeg (nI dp).toNatClampNeg (nI k).toNatClampNeg)) := va_copied (fun z => .int z) (X.2.2.1 0) (X.2.2.1 0) (v a0) (v a) (by rw [csp, ck]; exact h0)
  rw [csp, cdp, ck] at e1
  rw [e1] at X' step
  have hl : a < H.size := (Array.getElem?_eq_some_iff.mp hc1).1
  have hheap : ((T.setVm vm').setCell a (vp_cell (X.2.2.1 0) (n1, .inl (va_cpy (v a0) (v a) sp dp k)))).heap = H.setIfInBounds a (vp_cell (X.2.2.1 0) (n1, .inl (va_cpy (v a0) (v a) sp dp k))) := by rw [← hT]; rfl
  have oq : ∀ q : Nat, q ≠ a → (H.setIfInBounds a (vp_cell (X.2.2.1 0) (n1, .inl (va_cpy (v a0) (v a) sp dp k))))[q]? = H[q]? := fun q hq => by simp [Array.getElem?_setIfInBounds, Ne.symm hq]
  obtain ⟨t, a1, b1⟩ := kk p e s m args below meth c _ _ ls hC (hR.put hs (f := va_cpy (v a0) (v a) sp dp k) (show (H.setIfInBounds a _)[a]? = some _ by simp [Array.getElem?_setIfInBounds, hl]) (by simp) oq) ⟨by simp; exact hS.1, fun q g1 g2 => by
      rw [oq q (fun e => g2 (by rw [e]; exact hR.A hs))]
      exact hS.2.1 q g1 g2, fun q hq => by
      rcases List.mem_append.mp hq with h | h
      · exact hS.2.2 q h
      · obtain ⟨z, -, hz⟩ := List.mem_map.mp h
        rw [← hz]
        exact hR.A hs⟩ hL _ hheap X'
  exact ⟨t, step t a1, b1⟩
end GC
end
section
/-! ===== what a constructor does: new cells, references put ===== -/
theorem gj_dom_push {b lim : Nat} (h : b ≤ lim) : gj_dom b (lim + 1) = gj_dom b lim ++ [lim] := by
  unfold gj_dom
  rw [show lim + 1 - b = (lim - b) + 1 by omega, List.range'_concat]
  simp
  omega
theorem gj_rep.push {X : gj_X} {lim : Nat} {σ : gj_H} {v : gj_V} {H H1 : Heap} (h : gj_rep X lim σ v H) {sh : gj_S} {f : Nat → Int32} (hat : va_at X.2.1 vwCl (lim, gj_e X.2.2.1 (some sh) f) H1) (hz : H1.size = lim + 1) (oq : ∀ q : Nat, q < lim → H1[q]? = H[q]?) : gj_rep X (lim + 1) (va_up σ lim (some sh)) (gj_up v lim f) H1 := by
  have hnl : lim ∉ gj_dom X.2.2.2 lim := by rw [List.mem_range'_1]; omega
  have e1 : ∀ a, gj_e X.2.2.1 (va_up σ lim (some sh) a) (gj_up v lim f a) = va_up (fun a => gj_e X.2.2.1 (σ a) (v a)) lim (gj_e X.2.2.1 (some sh) f) a := by
    intro a
    by_cases ha : a = lim
    · subst ha
      simp only [gj_up, va_up_self]
    · simp only [gj_up, va_up_ne _ _ ha]
  have e : [] ++ gj_pl X (lim + 1) (va_up σ lim (some sh)) (gj_up v lim f) = ([] ++ gj_pl X lim σ v) ++ [(lim, gj_e X.2.2.1 (some sh) f)] := by
    simp only [gj_pl, List.nil_append]
    rw [va_pl_push hnl, gj_dom_push h.1]
    exact va_pl_congr e1
  have hk : ∀ (k : Nat) (x : Nat × va_E), ([] ++ gj_pl X lim σ v)[k]? = some x → H1[x.1]? = H[x.1]? := fun k x hx => oq x.1 (by rw [← h.2.1]; exact (h.2.2.2.1 k x hx).lt)
  refine ⟨Nat.le_succ_of_le h.1, hz, fun a ha => ?_, ?_, ?_⟩
  · by_cases hal : a = lim
    · subst hal
      exact ⟨h.1, Nat.lt_succ_self _⟩
    · rw [va_up_ne _ _ hal] at ha
      have := h.2.2.1 a ha
      omega
  · rw [e]
    refine (h.2.2.2.1.kept hk).app (fun k x hx => ?_)
    have hz : k < 1 := (List.getElem?_eq_some_iff.mp hx).1
    rw [show k = 0 by omega] at hx
    cases hx
    exact hat
  · rw [e]
    exact h.2.2.2.2.push h.2.2.2.1 h.2.1.symm h.1
section GN
variable {X : gj_X} {d d' : Nat} {M N : gj_M} {Q Q' : gj_Q} {lim : Nat} {σ : gj_H} {v : gj_V} {kc ks pc q index n b ci : Nat} {L L' : List (Option Value)} {st st0 As rest : List Value} {t : List (Option (Option Nat))}
/-- new C: the class, its slots, its blank template -/
def gj_Nk (own : String) (index ci : Nat) (N : Nat) (t : List (Option (Option Nat))) : Prop :=
  ∃ (C : String) (T : u_T) (ty0 : Nat → FieldType), vwCl[ci]? = some (C, T, N) ∧ (∀ w ∈ u_ws C T N, w ∈ gj_w) ∧ (∀ k, k < N → parseFieldDescriptor (T k).2.2.1 = some (ty0 k)) ∧ Cond.classLink own index C ∈ gj_w ∧ Cond.instantiable C N ∈ gj_w ∧ Cond.initialized C ∈ gj_w ∧ (∀ j, j < N → defaultValue (ty0 j) = vp_V (gj_fs t (fun _ => 0) 0) j)
theorem g_new {n : Nat} (hk : gj_Nk M.2.1.cls index ci n t) (hkc : kc + 1 ≤ M.2.2.2.2.1) (hks : ks + n ≤ M.2.2.2.2.2) (hd : decode M.1 pc = .ok (.new index, 3)) (hq : pc + 3 = q)
    (kk : gj_G X d M Q (lim + 1) (va_up σ lim (some (.inl (ci, t)))) (gj_up v lim (fun _ => 0)) (kc + 1) (ks + n) q L (.ref lim :: st)) : gj_G X d M Q lim σ v kc ks pc L st := by
  subst hq
  intro p e s m args below meth c H locs ls hC hR hS hL
  obtain ⟨C, T, ty0, h1, h2, h3, h4, h5, h6, h7⟩ := hk
  have hts := hC.2.2.2.2.2.2.1
  have hKn := hC.2.2.2.2.2.2.2.1.1.1 ci _ h1
  refine W.newcK hC.1 hC.2.1 hC.2.2.2.2.2.1 (hts _ h4) (hts _ h5) (hts _ h6) rfl hd hkc hks hKn.2.1 rfl fun H1 kC hkC e1 z1 o1 => ?_
  have hsz := hR.2.1
  rw [hsz] at e1 z1 o1 ⊢
  refine kk p e s m args below meth c H1 locs ls hC (hR.push (sh := .inl (ci, t)) (f := fun _ => 0) ⟨_, h1, (u_born ty0 hts h2 hKn hkC e1 h3).to h7⟩ z1 o1) ⟨Nat.le_trans hS.1 (by omega), fun x g1 g2 => (o1 x (by have := hS.1; omega)).trans (hS.2.1 x g1 g2), hS.2.2⟩ hL
theorem g_newi {i : Int32} {n : Nat} (hw : Cond.arrayClass .int ∈ gj_w) (hi : i = nI n) (hn : n < 100000) (hkc : kc + 1 ≤ M.2.2.2.2.1) (hks : ks + n ≤ M.2.2.2.2.2) (hd : decode M.1 pc = .ok (.newarray .int, 2)) (hq : pc + 2 = q)
    (kk : gj_G X d M Q (lim + 1) (va_up σ lim (some (.inr (.inl n)))) (gj_up v lim (fun _ => 0)) (kc + 1) (ks + n) q L (.ref lim :: st)) : gj_G X d M Q lim σ v kc ks pc L (.int i :: st) := by
  subst hq; subst hi
  intro p e s m args below meth c H locs ls hC hR hS hL
  have hts := hC.2.2.2.2.2.2.1
  have hc : (nI n).toNatClampNeg = n := nI_clamp (by omega)
  refine va_newaK hC.1 hC.2.1 (atype := .int) (hts _ hw) rfl hd rfl (nI_pos (by omega)) hc (by show n * 4 ≤ _; omega) hkc hks rfl fun H1 cA e1 z1 o1 hAr hNm => ?_
  have hsz := hR.2.1
  rw [hsz] at e1 z1 o1 ⊢
  have hcA : cA = X.2.2.1 0 := by
    have hra : s.vm.findClass ("[" ++ FieldType.int.toString) = some (X.2.2.1 0) := (hC.2.2.2.2.2.2.2.1.1.2 0 (X.2.2.1 0, .int) rfl).2
    exact Option.some.inj (hNm.symm.trans hra)
  subst hcA
  refine kk p e s m args below meth c H1 locs ls hC (hR.push (sh := .inr (.inl n)) (f := fun _ => 0) ?_ z1 o1) ⟨Nat.le_trans hS.1 (by omega), fun x g1 g2 => (o1 x (by have := hS.1; omega)).trans (hS.2.1 x g1 g2), hS.2.2⟩ hL
  show H1[lim]? = some (vp_cell (X.2.2.1 0) (n, .inl (fun _ => 0)))
  rw [e1, vp_cell_i]
  rfl
theorem g_anew {i : Int32} {n k0 : Nat} {C : String} (hw : Cond.classLink M.2.1.cls index C ∈ gj_w) (hao : C ∈ gj_ao) (hty : (gj_tys X.2.2.1)[k0]? = some (X.2.2.1 k0, .object C)) (hi : i = nI n) (hn : n < 100000) (hkc : kc + 1 ≤ M.2.2.2.2.1) (hks : ks + n ≤ M.2.2.2.2.2) (hd : decode M.1 pc = .ok (.anewarray index, 3)) (hq : pc + 3 = q)
    (kk : gj_G X d M Q (lim + 1) (va_up σ lim (some (.inr (.inr (k0, List.replicate n none))))) (gj_up v lim (fun _ => 0)) (kc + 1) (ks + n) q L (.ref lim :: st)) : gj_G X d M Q lim σ v kc ks pc L (.int i :: st) := by
  subst hq; subst hi
  intro p e s m args below meth c H locs ls hC hR hS hL
  have hts := hC.2.2.2.2.2.2.1
  have hc : (nI n).toNatClampNeg = n := nI_clamp (by omega)
  refine W.anew hC.1 hC.2.1 hC.2.2.2.2.2.1 (hts _ hw) (va_AO.use (hC.2.2.2.2.2.2.2.1.2.2 C hao)) rfl hd rfl (nI_pos (by omega)) (by rw [hc]; omega) hkc (by rw [hc]; exact hks) fun cA kA comp f1 f2 f3 f4 => ?_
  have hsz := hR.2.1
  have hcA : cA = X.2.2.1 k0 := by
    obtain ⟨-, -, -, -, -, h4⟩ := (hC.2.2.2.2.2.2.2.1.1.2 k0 (X.2.2.1 k0, .object C) hty).2
    exact Option.some.inj (f1.symm.trans h4)
  subst hcA
  rw [hc]
  generalize hH1 : H.push ({ cls := X.2.2.1 k0, slots := Array.replicate n .null, vm := .none } : Cell) = H1
  have z1 : H1.size = lim + 1 := by rw [← hH1, Array.size_push, hsz]
  have e1 : H1[lim]? = some (arrV (X.2.2.1 k0) n (fun _ => .null)) := by rw [← hH1, ← hsz, Array.getElem?_push_size, ← arrV_new]
  have o1 : ∀ q : Nat, q < lim → H1[q]? = H[q]? := fun q hq => by rw [← hH1, Array.getElem?_push, if_neg (by omega)]
  rw [hsz]
  refine kk p e s m args below meth c H1 locs ls hC (hR.push (sh := .inr (.inr (k0, List.replicate n none))) (f := fun _ => 0) ?_ z1 o1) ⟨Nat.le_trans hS.1 (by omega), fun x g1 g2 => (o1 x (by have := hS.1; omega)).trans (hS.2.1 x g1 g2), hS.2.2⟩ hL
  show H1[lim]? = some (vp_cell (X.2.2.1 k0) ((List.replicate n (none : Option Nat)).length, .inr (.inr (.inr (.inr (fun i => (List.replicate n (none : Option Nat)).getD i none))))))
  rw [e1, vp_cell_q, List.length_replicate]
  congr 2
  funext j
  have : (List.replicate n (none : Option Nat)).getD j none = none := by
    rw [List.getD_eq_getElem?_getD]
    by_cases hj : j < n
    · rw [List.getElem?_replicate, if_pos hj]; rfl
    · rw [List.getElem?_replicate, if_neg hj]; rfl
  rw [this]
  rfl
/-- a final reference field, in its constructor -/
theorem g_putR {k a r : Nat} {ty : FieldType} (hf : gj_Fk M.2.1.cls index ci k ty true) (hci : (vwCl[ci]?).map (fun z => z.1) = some M.2.1.cls) (hnm : M.2.1.name = "<init>") (hs : σ a = some (.inl (ci, t))) (hk : k < t.length) (hn : narrow ty (.ref r) = .ref r) (hfit : fits ty (.ref r) = true) (hd : decode M.1 pc = .ok (.putfield index, 3)) (hq : pc + 3 = q)
    (kk : gj_G X d M Q lim (va_up σ a (some (.inl (ci, t.set k (some (some r)))))) v kc ks q L st) : gj_G X d M Q lim σ v kc ks pc L (.ref r :: .ref a :: st) := by
  subst hq
  intro p e s m args below meth c H locs ls hC hR hS hL
  obtain ⟨C, T, N, ty0, h1, h2, h3, h4, h5, h6, h7, h8, h9⟩ := hf
  have hCo : C = M.2.1.cls := by rw [h1] at hci; exact Option.some.inj hci
  have hts := hC.2.2.2.2.2.2.1
  have hown := hC.2.2.2.2.2.1
  have hK := hC.2.2.2.2.2.2.2.1.1
  have hap := va_apart (own := M.2.1.cls) hts h2 ty0 h3 h4 hK h1
  obtain ⟨r', g1, cell, q1, q2, q3, q4⟩ := hR.one hs 0 _ rfl
  have hr : r' = (C, T, N) := Option.some.inj (g1.symm.trans h1)
  subst hr
  obtain ⟨hSl, hfc, kC, hkC, hkind⟩ := hK.1 ci _ h1
  obtain ⟨cf, kf, fi, f, hi, hsl⟩ := hSl k h5
  have hlay := hts _ (h2 _ (u_in_lay h5))
  unfold u_lay at hlay
  rw [if_pos h7] at hlay
  have hst := (u_facts hfc hkC (u_lays hts h2 h5) hi).1
  have hcf : m.cls = cf := by
    obtain ⟨_, _, c', _, _, _, -, -, hf', -, -, -, hown2, -⟩ := Cond.laysFinal_spec hlay
    have e1 : c' = cf := by have := hi.symm.trans hf'; simp at this; exact this.1.symm
    rw [h8, hCo] at hown2
    rw [← e1]; exact Option.some.inj (hown.symm.trans hown2)
  have h10 := u_fits hfc hkC hkind (Or.inr hlay) hi (by rw [h3 k h5, h6]) hn hfit
  have hlen : k < (gj_fs t (v a) 0).length := by rw [gj_fs_len]; exact hk
  have fin : ∀ H' : Heap, H'[a]? = some (cell.setSlot f.slot (.ref r)) → H'.size = H.size → (∀ q, q ≠ a → H'[q]? = H[q]?) → W p X.1 e (gj_R d M) s m args below meth c H' (locs ++ [⟨a, f.slot⟩]) kc ks (MQ below (gj_F X Q) args s M.2.2.2.2.1 M.2.2.2.2.2 (gj_A X)) (F0 m (pc + 3) ls st) := by
    intro H' e1 e2 e3
    rw [hsl] at e1 ⊢
    refine kk p e s m args below meth c H' _ ls hC (hR.puts hs (sh' := .inl (ci, t.set k (some (some r)))) ?_ e2 e3) (hS.put e2 e3 (hR.A hs)) hL
    show va_at X.2.1 vwCl (a, .inr (ci, gj_fs (t.set k (some (some r))) (v a) 0)) H'
    rw [← gj_fs_setr t (v a) k (some r) hk]
    exact ⟨_, h1, t_OB.to (V := updV (vp_V (gj_fs t (v a) 0)) k (.ref r)) ⟨_, e1, q2, q3, t_set q4 hap h5 (.ref r)⟩ (fun j _ => vp_updV_set hlen (.ref r) j)⟩
  rcases h9 with h9 | ⟨host, h9⟩
  · exact W.putFinK hC.1 hC.2.1 hown (hts _ h9) hi hst hcf (hC.2.2.2.2.2.2.2.2.2.trans hnm) (by rw [q2]; exact h10) q1 q3 (by rw [hsl]; exact k2_hasslot (q4 k h5)) rfl rfl hd fin
  · refine va_Wputf hC.1 hC.2.1 hown (va_Nw.use rfl (hC.2.2.2.2.2.2.2.1.2.1 _ h9)) hi hst (Or.inr ⟨hcf, hC.2.2.2.2.2.2.2.2.2.trans hnm⟩) q1 (by rw [q3]; exact fun h => by cases h) (by rw [hsl]; exact k2_hasslot (q4 k h5)) h10.1 (by rw [q2, q3]; exact h10.2) rfl rfl hd ?_
    have ha : a < H.size := (Array.getElem?_eq_some_iff.mp q1).1
    refine fin _ ?_ ?_ ?_
    · simp [Array.getElem?_setIfInBounds, ha]
    · simp
    · intro z hz
      simp [Array.getElem?_setIfInBounds, Ne.symm hz]
/-- an array of references is written -/
theorem g_aast {a k r k0 : Nat} {i : Int32} {A : List (Option Nat)} {z : vw_C} (hs : σ a = some (.inr (.inr (k0, A)))) (hty : (gj_tys X.2.2.1)[k0]? = some (X.2.2.1 k0, .object z.1)) (hi : i = nI k) (hk : k < A.length) (hn : A.length < 2147483648) (hsr : σ r = some (.inl (ci, t))) (hz : vwCl[ci]? = some z) (hd : decode M.1 pc = .ok (.aastore, 1)) (hq : pc + 1 = q)
    (kk : gj_G X d M Q lim (va_up σ a (some (.inr (.inr (k0, A.set k (some r)))))) v kc ks q L st) : gj_G X d M Q lim σ v kc ks pc L (.ref r :: .int i :: .ref a :: st) := by
  subst hq; subst hi
  intro p e s m args below meth c H locs ls hC hR hS hL
  have hc : (nI k).toNatClampNeg = k := nI_clamp (Nat.lt_trans hk hn)
  have hK := hC.2.2.2.2.2.2.2.1.1
  have hP0 : H[a]? = some (vp_cell (X.2.2.1 k0) (A.length, .inr (.inr (.inr (.inr (fun i => A.getD i none)))))) := hR.one hs 0 _ rfl
  obtain ⟨r', hr', cellV, g1, g2, g3, -⟩ := hR.one hsr 0 _ rfl
  have hcls := (hK.1 ci z hz).2
  obtain ⟨kA, comp, k1, k2, k3, -⟩ := (hK.2 k0 (X.2.2.1 k0, .object z.1) hty).2
  have hcomp : comp = X.2.1.1 ci := Option.some.inj (k3.symm.trans hcls.1)
  subst hcomp
  obtain ⟨kC, hkC, -⟩ := hcls.2
  refine W.aast hC.1 hC.2.1 hP0 (fun q h => by cases h) (fun h => by cases h) k1 k2 rfl hkC ⟨nI_pos (by omega), by show _ < (arrV _ _ _).slots.size; rw [arrV_size, hc]; exact hk⟩ g1 (fun q h => by rw [g3] at h; cases h) (by rw [g2]; exact hkC) (by rw [g2]; exact va_assign hcls) rfl rfl hd fun H1 e1 z1 oq => ?_
  refine kk p e s m args below meth c H1 _ ls hC (hR.puts hs (sh' := .inr (.inr (k0, A.set k (some r)))) ?_ z1 oq) (hS.put z1 oq (hR.A hs)) hL
  show H1[a]? = some (vp_cell (X.2.2.1 k0) ((A.set k (some r)).length, .inr (.inr (.inr (.inr (fun i => (A.set k (some r)).getD i none))))))
  rw [e1, hc, vp_cell_q, vp_cell_q, List.length_set, arrV_store]
  congr 2
  funext j
  by_cases hj : j = k
  · subst hj
    simp [updV, va_rf, hk]
  · simp [updV, hj, List.getD_eq_getElem?_getD, List.getElem?_set_ne (Ne.symm hj)]
def gj_Oi (own : String) (index : Nat) : Prop := Cond.methodLink own index objectInit ∈ gj_w ∧ Cond.instanceMethod objectInit ∈ gj_w ∧ Cond.code objectInit ⟨#[0xb1]⟩ 1 none ∈ gj_w
theorem g_oinit {a : Nat} (hk : gj_Oi M.2.1.cls index) (hrm : (st.map fun v => v.category).sum ≤ 8) (hd : decode M.1 pc = .ok (.invokespecial index, 3)) (hq : pc + 3 = q) (kk : gj_G X d M Q lim σ v kc ks q L st) : gj_G X d M Q lim σ v kc ks pc L (.ref a :: st) := by
  subst hq
  intro p e s m args below meth c H locs ls hC hR hS hL
  have hts := hC.2.2.2.2.2.2.1
  exact W.objInit hC.1 hC.2.1 hC.2.2.2.2.2.1 (hts _ hk.1) (hts _ hk.2.1) (hts _ hk.2.2) rfl (by show ls.size = _; rw [hL.1]; exact hC.2.2.1.symm) rfl hd (by simp only [gj_R]; omega) (by show 2 * 0 + _ + 12 ≤ _; simp only [gj_R]; omega) (kk p e s m args below meth c H locs ls hC hR hS hL)
end GN
end
section
theorem zz_false : (1 : Nat) = 2 := by decide
theorem zz_use (X : gj_X) (M : gj_M) : gj_rep X 3 (fun _ => none) (fun _ _ => 0) #[] := by
  exact g_oinit
theorem zz_sorry : (1 : Nat) = 2 := sorry
end
