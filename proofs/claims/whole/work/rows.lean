section
-- ===== PART A: goes FIRST, ahead of the names: the tables' words, and 'selects' of the private methods out of them =====
/-- a private method of a class that the tables say can be made, by its rows of tables_1 -/
def lw_okq (q : MethodName × Nat) : Prop := (q.1.cls ≠ "java/lang/invoke/MethodHandle" ∧ q.1.cls ≠ "java/lang/invoke/VarHandle") ∧ Cond.instantiable q.1.cls q.2 ∈ tables_1 ∧ Cond.privateMethod q.1 ∈ tables_1 ∧ Cond.instanceMethod q.1 ∈ tables_1
theorem lw_p0 : lw_okq (⟨"GatedWorks", "refuseBad", "()I"⟩, 8) := ⟨⟨by decide +kernel, by decide +kernel⟩, List.mem_of_getElem? (i := 16) (by decide +kernel), List.mem_of_getElem? (i := 369) (by decide +kernel), List.mem_of_getElem? (i := 370) (by decide +kernel)⟩
theorem lw_p1 : lw_okq (⟨"GatedWorks$Floor", "serveFirst", "()Z"⟩, 9) := ⟨⟨by decide +kernel, by decide +kernel⟩, List.mem_of_getElem? (i := 24) (by decide +kernel), List.mem_of_getElem? (i := 422) (by decide +kernel), List.mem_of_getElem? (i := 423) (by decide +kernel)⟩
theorem lw_p2 : lw_okq (⟨"GatedWorks", "refuseFull", "()I"⟩, 8) := ⟨⟨by decide +kernel, by decide +kernel⟩, List.mem_of_getElem? (i := 16) (by decide +kernel), List.mem_of_getElem? (i := 481) (by decide +kernel), List.mem_of_getElem? (i := 482) (by decide +kernel)⟩
theorem lw_p3 : lw_okq (⟨"GatedWorks$Floor", "tickStation", "(LGatedWorks$Station;)I"⟩, 9) := ⟨⟨by decide +kernel, by decide +kernel⟩, List.mem_of_getElem? (i := 24) (by decide +kernel), List.mem_of_getElem? (i := 509) (by decide +kernel), List.mem_of_getElem? (i := 510) (by decide +kernel)⟩
theorem lw_p4 : lw_okq (⟨"GatedWorks$Floor", "work", "(LGatedWorks$Station;)I"⟩, 9) := ⟨⟨by decide +kernel, by decide +kernel⟩, List.mem_of_getElem? (i := 24) (by decide +kernel), List.mem_of_getElem? (i := 513) (by decide +kernel), List.mem_of_getElem? (i := 514) (by decide +kernel)⟩
theorem lw_p5 : lw_okq (⟨"GatedWorks$Floor", "deliver", "(LGatedWorks$Station;)I"⟩, 9) := ⟨⟨by decide +kernel, by decide +kernel⟩, List.mem_of_getElem? (i := 24) (by decide +kernel), List.mem_of_getElem? (i := 521) (by decide +kernel), List.mem_of_getElem? (i := 522) (by decide +kernel)⟩
theorem lw_p6 : lw_okq (⟨"GatedWorks$Floor", "takePair", "(II)I"⟩, 9) := ⟨⟨by decide +kernel, by decide +kernel⟩, List.mem_of_getElem? (i := 24) (by decide +kernel), List.mem_of_getElem? (i := 526) (by decide +kernel), List.mem_of_getElem? (i := 527) (by decide +kernel)⟩
theorem lw_p7 : lw_okq (⟨"GatedWorks", "refuseNo", "()I"⟩, 8) := ⟨⟨by decide +kernel, by decide +kernel⟩, List.mem_of_getElem? (i := 16) (by decide +kernel), List.mem_of_getElem? (i := 595) (by decide +kernel), List.mem_of_getElem? (i := 596) (by decide +kernel)⟩
theorem lw_p8 : lw_okq (⟨"GatedWorks$Floor", "isStuck", "(I)Z"⟩, 9) := ⟨⟨by decide +kernel, by decide +kernel⟩, List.mem_of_getElem? (i := 24) (by decide +kernel), List.mem_of_getElem? (i := 661) (by decide +kernel), List.mem_of_getElem? (i := 662) (by decide +kernel)⟩
theorem lw_p9 : lw_okq (⟨"GatedWorks$Floor", "allItems", "()I"⟩, 9) := ⟨⟨by decide +kernel, by decide +kernel⟩, List.mem_of_getElem? (i := 24) (by decide +kernel), List.mem_of_getElem? (i := 707) (by decide +kernel), List.mem_of_getElem? (i := 708) (by decide +kernel)⟩
theorem lw_p10 : lw_okq (⟨"GatedWorks$Floor", "allEntries", "()I"⟩, 9) := ⟨⟨by decide +kernel, by decide +kernel⟩, List.mem_of_getElem? (i := 24) (by decide +kernel), List.mem_of_getElem? (i := 711) (by decide +kernel), List.mem_of_getElem? (i := 712) (by decide +kernel)⟩
theorem lw_p11 : lw_okq (⟨"GatedWorks$Runner", "enterLevel", "()V"⟩, 8) := ⟨⟨by decide +kernel, by decide +kernel⟩, List.mem_of_getElem? (i := 290) (by decide +kernel), List.mem_of_getElem? (i := 752) (by decide +kernel), List.mem_of_getElem? (i := 753) (by decide +kernel)⟩
theorem lw_p12 : lw_okq (⟨"GatedWorks$Runner", "nextByte", "()I"⟩, 8) := ⟨⟨by decide +kernel, by decide +kernel⟩, List.mem_of_getElem? (i := 290) (by decide +kernel), List.mem_of_getElem? (i := 758) (by decide +kernel), List.mem_of_getElem? (i := 759) (by decide +kernel)⟩
theorem lw_p13 : lw_okq (⟨"GatedWorks$Runner", "leaveLevel", "()V"⟩, 8) := ⟨⟨by decide +kernel, by decide +kernel⟩, List.mem_of_getElem? (i := 290) (by decide +kernel), List.mem_of_getElem? (i := 763) (by decide +kernel), List.mem_of_getElem? (i := 764) (by decide +kernel)⟩
theorem lw_p14 : lw_okq (⟨"GatedWorks$Runner", "orderDone", "(I)Z"⟩, 8) := ⟨⟨by decide +kernel, by decide +kernel⟩, List.mem_of_getElem? (i := 290) (by decide +kernel), List.mem_of_getElem? (i := 768) (by decide +kernel), List.mem_of_getElem? (i := 769) (by decide +kernel)⟩
theorem lw_p15 : lw_okq (⟨"GatedWorks$Runner", "nextFigure", "()I"⟩, 8) := ⟨⟨by decide +kernel, by decide +kernel⟩, List.mem_of_getElem? (i := 290) (by decide +kernel), List.mem_of_getElem? (i := 772) (by decide +kernel), List.mem_of_getElem? (i := 773) (by decide +kernel)⟩
def lw_privs_1 : List (MethodName × Nat) := [(⟨"GatedWorks", "refuseBad", "()I"⟩, 8), (⟨"GatedWorks$Floor", "serveFirst", "()Z"⟩, 9), (⟨"GatedWorks", "refuseFull", "()I"⟩, 8), (⟨"GatedWorks$Floor", "tickStation", "(LGatedWorks$Station;)I"⟩, 9), (⟨"GatedWorks$Floor", "work", "(LGatedWorks$Station;)I"⟩, 9), (⟨"GatedWorks$Floor", "deliver", "(LGatedWorks$Station;)I"⟩, 9), (⟨"GatedWorks$Floor", "takePair", "(II)I"⟩, 9), (⟨"GatedWorks", "refuseNo", "()I"⟩, 8), (⟨"GatedWorks$Floor", "isStuck", "(I)Z"⟩, 9), (⟨"GatedWorks$Floor", "allItems", "()I"⟩, 9), (⟨"GatedWorks$Floor", "allEntries", "()I"⟩, 9), (⟨"GatedWorks$Runner", "enterLevel", "()V"⟩, 8), (⟨"GatedWorks$Runner", "nextByte", "()I"⟩, 8), (⟨"GatedWorks$Runner", "leaveLevel", "()V"⟩, 8), (⟨"GatedWorks$Runner", "orderDone", "(I)Z"⟩, 8), (⟨"GatedWorks$Runner", "nextFigure", "()I"⟩, 8)]
theorem lw_r1 : ∀ q ∈ lw_privs_1, lw_okq q := List.forall_mem_cons.mpr ⟨lw_p0, List.forall_mem_cons.mpr ⟨lw_p1, List.forall_mem_cons.mpr ⟨lw_p2, List.forall_mem_cons.mpr ⟨lw_p3, List.forall_mem_cons.mpr ⟨lw_p4, List.forall_mem_cons.mpr ⟨lw_p5, List.forall_mem_cons.mpr ⟨lw_p6, List.forall_mem_cons.mpr ⟨lw_p7, List.forall_mem_cons.mpr ⟨lw_p8, List.forall_mem_cons.mpr ⟨lw_p9, List.forall_mem_cons.mpr ⟨lw_p10, List.forall_mem_cons.mpr ⟨lw_p11, List.forall_mem_cons.mpr ⟨lw_p12, List.forall_mem_cons.mpr ⟨lw_p13, List.forall_mem_cons.mpr ⟨lw_p14, List.forall_mem_cons.mpr ⟨lw_p15, fun _ h => absurd h List.not_mem_nil⟩⟩⟩⟩⟩⟩⟩⟩⟩⟩⟩⟩⟩⟩⟩⟩
theorem lw_p16 : lw_okq (⟨"GatedWorks$Runner", "undoLevel", "()V"⟩, 8) := ⟨⟨by decide +kernel, by decide +kernel⟩, List.mem_of_getElem? (i := 290) (by decide +kernel), List.mem_of_getElem? (i := 780) (by decide +kernel), List.mem_of_getElem? (i := 781) (by decide +kernel)⟩
theorem lw_p17 : lw_okq (⟨"GatedWorks$Runner", "skipGroup", "()V"⟩, 8) := ⟨⟨by decide +kernel, by decide +kernel⟩, List.mem_of_getElem? (i := 290) (by decide +kernel), List.mem_of_getElem? (i := 786) (by decide +kernel), List.mem_of_getElem? (i := 787) (by decide +kernel)⟩
theorem lw_p18 : lw_okq (⟨"GatedWorks", "toldOf", "(I)I"⟩, 8) := ⟨⟨by decide +kernel, by decide +kernel⟩, List.mem_of_getElem? (i := 16) (by decide +kernel), List.mem_of_getElem? (i := 802) (by decide +kernel), List.mem_of_getElem? (i := 803) (by decide +kernel)⟩
theorem lw_p19 : lw_okq (⟨"GatedWorksModel", "lays", "(I)V"⟩, 17) := ⟨⟨by decide +kernel, by decide +kernel⟩, List.mem_of_getElem? (i := 827) (by decide +kernel), List.mem_of_getElem? (i := 833) (by decide +kernel), List.mem_of_getElem? (i := 834) (by decide +kernel)⟩
theorem lw_p20 : lw_okq (⟨"GatedWorksModel", "no", "()I"⟩, 17) := ⟨⟨by decide +kernel, by decide +kernel⟩, List.mem_of_getElem? (i := 827) (by decide +kernel), List.mem_of_getElem? (i := 899) (by decide +kernel), List.mem_of_getElem? (i := 900) (by decide +kernel)⟩
theorem lw_p21 : lw_okq (⟨"GatedWorksModel", "bad", "()I"⟩, 17) := ⟨⟨by decide +kernel, by decide +kernel⟩, List.mem_of_getElem? (i := 827) (by decide +kernel), List.mem_of_getElem? (i := 910) (by decide +kernel), List.mem_of_getElem? (i := 911) (by decide +kernel)⟩
theorem lw_p22 : lw_okq (⟨"GatedWorksModel", "leavesState", "()V"⟩, 17) := ⟨⟨by decide +kernel, by decide +kernel⟩, List.mem_of_getElem? (i := 827) (by decide +kernel), List.mem_of_getElem? (i := 914) (by decide +kernel), List.mem_of_getElem? (i := 915) (by decide +kernel)⟩
theorem lw_p23 : lw_okq (⟨"GatedWorksModel", "isBuffer", "(I)Z"⟩, 17) := ⟨⟨by decide +kernel, by decide +kernel⟩, List.mem_of_getElem? (i := 827) (by decide +kernel), List.mem_of_getElem? (i := 922) (by decide +kernel), List.mem_of_getElem? (i := 923) (by decide +kernel)⟩
theorem lw_p24 : lw_okq (⟨"GatedWorksModel", "serves", "()V"⟩, 17) := ⟨⟨by decide +kernel, by decide +kernel⟩, List.mem_of_getElem? (i := 827) (by decide +kernel), List.mem_of_getElem? (i := 926) (by decide +kernel), List.mem_of_getElem? (i := 927) (by decide +kernel)⟩
theorem lw_p25 : lw_okq (⟨"GatedWorksModel", "tries", "(IIII)Z"⟩, 17) := ⟨⟨by decide +kernel, by decide +kernel⟩, List.mem_of_getElem? (i := 827) (by decide +kernel), List.mem_of_getElem? (i := 930) (by decide +kernel), List.mem_of_getElem? (i := 931) (by decide +kernel)⟩
theorem lw_p26 : lw_okq (⟨"GatedWorksModel", "put", "(III)Z"⟩, 17) := ⟨⟨by decide +kernel, by decide +kernel⟩, List.mem_of_getElem? (i := 827) (by decide +kernel), List.mem_of_getElem? (i := 934) (by decide +kernel), List.mem_of_getElem? (i := 935) (by decide +kernel)⟩
theorem lw_p27 : lw_okq (⟨"GatedWorksModel", "enters", "(I)V"⟩, 17) := ⟨⟨by decide +kernel, by decide +kernel⟩, List.mem_of_getElem? (i := 827) (by decide +kernel), List.mem_of_getElem? (i := 938) (by decide +kernel), List.mem_of_getElem? (i := 939) (by decide +kernel)⟩
theorem lw_p28 : lw_okq (⟨"GatedWorksModel", "isKeptFor", "(II)Z"⟩, 17) := ⟨⟨by decide +kernel, by decide +kernel⟩, List.mem_of_getElem? (i := 827) (by decide +kernel), List.mem_of_getElem? (i := 945) (by decide +kernel), List.mem_of_getElem? (i := 946) (by decide +kernel)⟩
theorem lw_p29 : lw_okq (⟨"GatedWorksModel", "thrownOut", "(I)V"⟩, 17) := ⟨⟨by decide +kernel, by decide +kernel⟩, List.mem_of_getElem? (i := 827) (by decide +kernel), List.mem_of_getElem? (i := 949) (by decide +kernel), List.mem_of_getElem? (i := 950) (by decide +kernel)⟩
theorem lw_p30 : lw_okq (⟨"GatedWorksModel", "leaves", "(I)V"⟩, 17) := ⟨⟨by decide +kernel, by decide +kernel⟩, List.mem_of_getElem? (i := 827) (by decide +kernel), List.mem_of_getElem? (i := 953) (by decide +kernel), List.mem_of_getElem? (i := 954) (by decide +kernel)⟩
theorem lw_p31 : lw_okq (⟨"GatedWorksModel", "take", "(II)I"⟩, 17) := ⟨⟨by decide +kernel, by decide +kernel⟩, List.mem_of_getElem? (i := 827) (by decide +kernel), List.mem_of_getElem? (i := 957) (by decide +kernel), List.mem_of_getElem? (i := 958) (by decide +kernel)⟩
def lw_privs_2 : List (MethodName × Nat) := [(⟨"GatedWorks$Runner", "undoLevel", "()V"⟩, 8), (⟨"GatedWorks$Runner", "skipGroup", "()V"⟩, 8), (⟨"GatedWorks", "toldOf", "(I)I"⟩, 8), (⟨"GatedWorksModel", "lays", "(I)V"⟩, 17), (⟨"GatedWorksModel", "no", "()I"⟩, 17), (⟨"GatedWorksModel", "bad", "()I"⟩, 17), (⟨"GatedWorksModel", "leavesState", "()V"⟩, 17), (⟨"GatedWorksModel", "isBuffer", "(I)Z"⟩, 17), (⟨"GatedWorksModel", "serves", "()V"⟩, 17), (⟨"GatedWorksModel", "tries", "(IIII)Z"⟩, 17), (⟨"GatedWorksModel", "put", "(III)Z"⟩, 17), (⟨"GatedWorksModel", "enters", "(I)V"⟩, 17), (⟨"GatedWorksModel", "isKeptFor", "(II)Z"⟩, 17), (⟨"GatedWorksModel", "thrownOut", "(I)V"⟩, 17), (⟨"GatedWorksModel", "leaves", "(I)V"⟩, 17), (⟨"GatedWorksModel", "take", "(II)I"⟩, 17)]
theorem lw_r2 : ∀ q ∈ lw_privs_2, lw_okq q := List.forall_mem_cons.mpr ⟨lw_p16, List.forall_mem_cons.mpr ⟨lw_p17, List.forall_mem_cons.mpr ⟨lw_p18, List.forall_mem_cons.mpr ⟨lw_p19, List.forall_mem_cons.mpr ⟨lw_p20, List.forall_mem_cons.mpr ⟨lw_p21, List.forall_mem_cons.mpr ⟨lw_p22, List.forall_mem_cons.mpr ⟨lw_p23, List.forall_mem_cons.mpr ⟨lw_p24, List.forall_mem_cons.mpr ⟨lw_p25, List.forall_mem_cons.mpr ⟨lw_p26, List.forall_mem_cons.mpr ⟨lw_p27, List.forall_mem_cons.mpr ⟨lw_p28, List.forall_mem_cons.mpr ⟨lw_p29, List.forall_mem_cons.mpr ⟨lw_p30, List.forall_mem_cons.mpr ⟨lw_p31, fun _ h => absurd h List.not_mem_nil⟩⟩⟩⟩⟩⟩⟩⟩⟩⟩⟩⟩⟩⟩⟩⟩
theorem lw_p32 : lw_okq (⟨"GatedWorksModel", "firstOf", "(I)I"⟩, 17) := ⟨⟨by decide +kernel, by decide +kernel⟩, List.mem_of_getElem? (i := 827) (by decide +kernel), List.mem_of_getElem? (i := 961) (by decide +kernel), List.mem_of_getElem? (i := 962) (by decide +kernel)⟩
theorem lw_p33 : lw_okq (⟨"GatedWorksModel", "goesFromLine", "(I)V"⟩, 17) := ⟨⟨by decide +kernel, by decide +kernel⟩, List.mem_of_getElem? (i := 827) (by decide +kernel), List.mem_of_getElem? (i := 965) (by decide +kernel), List.mem_of_getElem? (i := 966) (by decide +kernel)⟩
theorem lw_p34 : lw_okq (⟨"GatedWorksModel", "full", "()I"⟩, 17) := ⟨⟨by decide +kernel, by decide +kernel⟩, List.mem_of_getElem? (i := 827) (by decide +kernel), List.mem_of_getElem? (i := 973) (by decide +kernel), List.mem_of_getElem? (i := 974) (by decide +kernel)⟩
theorem lw_p35 : lw_okq (⟨"GatedWorksModel", "isStation", "(I)Z"⟩, 17) := ⟨⟨by decide +kernel, by decide +kernel⟩, List.mem_of_getElem? (i := 827) (by decide +kernel), List.mem_of_getElem? (i := 984) (by decide +kernel), List.mem_of_getElem? (i := 985) (by decide +kernel)⟩
theorem lw_p36 : lw_okq (⟨"GatedWorksModel", "madeOfAll", "()I"⟩, 17) := ⟨⟨by decide +kernel, by decide +kernel⟩, List.mem_of_getElem? (i := 827) (by decide +kernel), List.mem_of_getElem? (i := 992) (by decide +kernel), List.mem_of_getElem? (i := 993) (by decide +kernel)⟩
theorem lw_p37 : lw_okq (⟨"GatedWorksModel", "tick", "()V"⟩, 17) := ⟨⟨by decide +kernel, by decide +kernel⟩, List.mem_of_getElem? (i := 827) (by decide +kernel), List.mem_of_getElem? (i := 996) (by decide +kernel), List.mem_of_getElem? (i := 997) (by decide +kernel)⟩
theorem lw_p38 : lw_okq (⟨"GatedWorksModel", "worksOn", "(I)V"⟩, 17) := ⟨⟨by decide +kernel, by decide +kernel⟩, List.mem_of_getElem? (i := 827) (by decide +kernel), List.mem_of_getElem? (i := 1000) (by decide +kernel), List.mem_of_getElem? (i := 1001) (by decide +kernel)⟩
theorem lw_p39 : lw_okq (⟨"GatedWorksModel", "takesOne", "(I)V"⟩, 17) := ⟨⟨by decide +kernel, by decide +kernel⟩, List.mem_of_getElem? (i := 827) (by decide +kernel), List.mem_of_getElem? (i := 1004) (by decide +kernel), List.mem_of_getElem? (i := 1005) (by decide +kernel)⟩
theorem lw_p40 : lw_okq (⟨"GatedWorksModel", "starts", "(II)V"⟩, 17) := ⟨⟨by decide +kernel, by decide +kernel⟩, List.mem_of_getElem? (i := 827) (by decide +kernel), List.mem_of_getElem? (i := 1008) (by decide +kernel), List.mem_of_getElem? (i := 1009) (by decide +kernel)⟩
theorem lw_p41 : lw_okq (⟨"GatedWorksModel", "takesBoth", "(I)V"⟩, 17) := ⟨⟨by decide +kernel, by decide +kernel⟩, List.mem_of_getElem? (i := 827) (by decide +kernel), List.mem_of_getElem? (i := 1012) (by decide +kernel), List.mem_of_getElem? (i := 1013) (by decide +kernel)⟩
theorem lw_p42 : lw_okq (⟨"GatedWorksModel", "laysAside", "(I)V"⟩, 17) := ⟨⟨by decide +kernel, by decide +kernel⟩, List.mem_of_getElem? (i := 827) (by decide +kernel), List.mem_of_getElem? (i := 1034) (by decide +kernel), List.mem_of_getElem? (i := 1035) (by decide +kernel)⟩
theorem lw_p43 : lw_okq (⟨"GatedWorksModel", "move", "(III)I"⟩, 17) := ⟨⟨by decide +kernel, by decide +kernel⟩, List.mem_of_getElem? (i := 827) (by decide +kernel), List.mem_of_getElem? (i := 1038) (by decide +kernel), List.mem_of_getElem? (i := 1039) (by decide +kernel)⟩
theorem lw_p44 : lw_okq (⟨"GatedWorksModel", "firstAgain", "(II)V"⟩, 17) := ⟨⟨by decide +kernel, by decide +kernel⟩, List.mem_of_getElem? (i := 827) (by decide +kernel), List.mem_of_getElem? (i := 1042) (by decide +kernel), List.mem_of_getElem? (i := 1043) (by decide +kernel)⟩
theorem lw_p45 : lw_okq (⟨"GatedWorksModel", "undoes", "(I)V"⟩, 17) := ⟨⟨by decide +kernel, by decide +kernel⟩, List.mem_of_getElem? (i := 827) (by decide +kernel), List.mem_of_getElem? (i := 1046) (by decide +kernel), List.mem_of_getElem? (i := 1047) (by decide +kernel)⟩
theorem lw_p46 : lw_okq (⟨"GatedWorksModel", "queueOf", "(I)I"⟩, 17) := ⟨⟨by decide +kernel, by decide +kernel⟩, List.mem_of_getElem? (i := 827) (by decide +kernel), List.mem_of_getElem? (i := 1065) (by decide +kernel), List.mem_of_getElem? (i := 1066) (by decide +kernel)⟩
theorem lw_p47 : lw_okq (⟨"GatedWorksModel", "goesFromQueue", "(II)V"⟩, 17) := ⟨⟨by decide +kernel, by decide +kernel⟩, List.mem_of_getElem? (i := 827) (by decide +kernel), List.mem_of_getElem? (i := 1073) (by decide +kernel), List.mem_of_getElem? (i := 1074) (by decide +kernel)⟩
def lw_privs_3 : List (MethodName × Nat) := [(⟨"GatedWorksModel", "firstOf", "(I)I"⟩, 17), (⟨"GatedWorksModel", "goesFromLine", "(I)V"⟩, 17), (⟨"GatedWorksModel", "full", "()I"⟩, 17), (⟨"GatedWorksModel", "isStation", "(I)Z"⟩, 17), (⟨"GatedWorksModel", "madeOfAll", "()I"⟩, 17), (⟨"GatedWorksModel", "tick", "()V"⟩, 17), (⟨"GatedWorksModel", "worksOn", "(I)V"⟩, 17), (⟨"GatedWorksModel", "takesOne", "(I)V"⟩, 17), (⟨"GatedWorksModel", "starts", "(II)V"⟩, 17), (⟨"GatedWorksModel", "takesBoth", "(I)V"⟩, 17), (⟨"GatedWorksModel", "laysAside", "(I)V"⟩, 17), (⟨"GatedWorksModel", "move", "(III)I"⟩, 17), (⟨"GatedWorksModel", "firstAgain", "(II)V"⟩, 17), (⟨"GatedWorksModel", "undoes", "(I)V"⟩, 17), (⟨"GatedWorksModel", "queueOf", "(I)I"⟩, 17), (⟨"GatedWorksModel", "goesFromQueue", "(II)V"⟩, 17)]
theorem lw_r3 : ∀ q ∈ lw_privs_3, lw_okq q := List.forall_mem_cons.mpr ⟨lw_p32, List.forall_mem_cons.mpr ⟨lw_p33, List.forall_mem_cons.mpr ⟨lw_p34, List.forall_mem_cons.mpr ⟨lw_p35, List.forall_mem_cons.mpr ⟨lw_p36, List.forall_mem_cons.mpr ⟨lw_p37, List.forall_mem_cons.mpr ⟨lw_p38, List.forall_mem_cons.mpr ⟨lw_p39, List.forall_mem_cons.mpr ⟨lw_p40, List.forall_mem_cons.mpr ⟨lw_p41, List.forall_mem_cons.mpr ⟨lw_p42, List.forall_mem_cons.mpr ⟨lw_p43, List.forall_mem_cons.mpr ⟨lw_p44, List.forall_mem_cons.mpr ⟨lw_p45, List.forall_mem_cons.mpr ⟨lw_p46, List.forall_mem_cons.mpr ⟨lw_p47, fun _ h => absurd h List.not_mem_nil⟩⟩⟩⟩⟩⟩⟩⟩⟩⟩⟩⟩⟩⟩⟩⟩
theorem lw_p48 : lw_okq (⟨"GatedWorksModel", "isStuck", "(I)Z"⟩, 17) := ⟨⟨by decide +kernel, by decide +kernel⟩, List.mem_of_getElem? (i := 827) (by decide +kernel), List.mem_of_getElem? (i := 1093) (by decide +kernel), List.mem_of_getElem? (i := 1094) (by decide +kernel)⟩
theorem lw_p49 : lw_okq (⟨"GatedWorksModel", "ofBuffer", "(II)I"⟩, 17) := ⟨⟨by decide +kernel, by decide +kernel⟩, List.mem_of_getElem? (i := 827) (by decide +kernel), List.mem_of_getElem? (i := 1101) (by decide +kernel), List.mem_of_getElem? (i := 1102) (by decide +kernel)⟩
theorem lw_p50 : lw_okq (⟨"GatedWorksModel", "ofStation", "(II)I"⟩, 17) := ⟨⟨by decide +kernel, by decide +kernel⟩, List.mem_of_getElem? (i := 827) (by decide +kernel), List.mem_of_getElem? (i := 1113) (by decide +kernel), List.mem_of_getElem? (i := 1114) (by decide +kernel)⟩
theorem lw_p51 : lw_okq (⟨"GatedWorksModel", "worksBy", "(I)I"⟩, 17) := ⟨⟨by decide +kernel, by decide +kernel⟩, List.mem_of_getElem? (i := 827) (by decide +kernel), List.mem_of_getElem? (i := 1129) (by decide +kernel), List.mem_of_getElem? (i := 1130) (by decide +kernel)⟩
theorem lw_p52 : lw_okq (⟨"GatedWorksModel", "itemsOfAll", "()I"⟩, 17) := ⟨⟨by decide +kernel, by decide +kernel⟩, List.mem_of_getElem? (i := 827) (by decide +kernel), List.mem_of_getElem? (i := 1133) (by decide +kernel), List.mem_of_getElem? (i := 1134) (by decide +kernel)⟩
theorem lw_p53 : lw_okq (⟨"GatedWorksModel", "entriesOfAll", "()I"⟩, 17) := ⟨⟨by decide +kernel, by decide +kernel⟩, List.mem_of_getElem? (i := 827) (by decide +kernel), List.mem_of_getElem? (i := 1137) (by decide +kernel), List.mem_of_getElem? (i := 1138) (by decide +kernel)⟩
theorem lw_p54 : lw_okq (⟨"GatedWorksModel", "reads", "()Z"⟩, 17) := ⟨⟨by decide +kernel, by decide +kernel⟩, List.mem_of_getElem? (i := 827) (by decide +kernel), List.mem_of_getElem? (i := 1153) (by decide +kernel), List.mem_of_getElem? (i := 1154) (by decide +kernel)⟩
theorem lw_p55 : lw_okq (⟨"GatedWorksModel", "here", "()I"⟩, 17) := ⟨⟨by decide +kernel, by decide +kernel⟩, List.mem_of_getElem? (i := 827) (by decide +kernel), List.mem_of_getElem? (i := 1157) (by decide +kernel), List.mem_of_getElem? (i := 1158) (by decide +kernel)⟩
theorem lw_p56 : lw_okq (⟨"GatedWorksModel", "comes", "(I)V"⟩, 17) := ⟨⟨by decide +kernel, by decide +kernel⟩, List.mem_of_getElem? (i := 827) (by decide +kernel), List.mem_of_getElem? (i := 1161) (by decide +kernel), List.mem_of_getElem? (i := 1162) (by decide +kernel)⟩
theorem lw_p57 : lw_okq (⟨"GatedWorksModel", "figure", "()I"⟩, 17) := ⟨⟨by decide +kernel, by decide +kernel⟩, List.mem_of_getElem? (i := 827) (by decide +kernel), List.mem_of_getElem? (i := 1165) (by decide +kernel), List.mem_of_getElem? (i := 1166) (by decide +kernel)⟩
theorem lw_p58 : lw_okq (⟨"GatedWorksModel", "doesAll", "()I"⟩, 17) := ⟨⟨by decide +kernel, by decide +kernel⟩, List.mem_of_getElem? (i := 827) (by decide +kernel), List.mem_of_getElem? (i := 1169) (by decide +kernel), List.mem_of_getElem? (i := 1170) (by decide +kernel)⟩
theorem lw_p59 : lw_okq (⟨"GatedWorksModel", "doesOne", "(I)Z"⟩, 17) := ⟨⟨by decide +kernel, by decide +kernel⟩, List.mem_of_getElem? (i := 827) (by decide +kernel), List.mem_of_getElem? (i := 1173) (by decide +kernel), List.mem_of_getElem? (i := 1174) (by decide +kernel)⟩
theorem lw_p60 : lw_okq (⟨"GatedWorksModel", "toldOf", "(I)I"⟩, 17) := ⟨⟨by decide +kernel, by decide +kernel⟩, List.mem_of_getElem? (i := 827) (by decide +kernel), List.mem_of_getElem? (i := 1181) (by decide +kernel), List.mem_of_getElem? (i := 1182) (by decide +kernel)⟩
def lw_privs_4 : List (MethodName × Nat) := [(⟨"GatedWorksModel", "isStuck", "(I)Z"⟩, 17), (⟨"GatedWorksModel", "ofBuffer", "(II)I"⟩, 17), (⟨"GatedWorksModel", "ofStation", "(II)I"⟩, 17), (⟨"GatedWorksModel", "worksBy", "(I)I"⟩, 17), (⟨"GatedWorksModel", "itemsOfAll", "()I"⟩, 17), (⟨"GatedWorksModel", "entriesOfAll", "()I"⟩, 17), (⟨"GatedWorksModel", "reads", "()Z"⟩, 17), (⟨"GatedWorksModel", "here", "()I"⟩, 17), (⟨"GatedWorksModel", "comes", "(I)V"⟩, 17), (⟨"GatedWorksModel", "figure", "()I"⟩, 17), (⟨"GatedWorksModel", "doesAll", "()I"⟩, 17), (⟨"GatedWorksModel", "doesOne", "(I)Z"⟩, 17), (⟨"GatedWorksModel", "toldOf", "(I)I"⟩, 17)]
theorem lw_r4 : ∀ q ∈ lw_privs_4, lw_okq q := List.forall_mem_cons.mpr ⟨lw_p48, List.forall_mem_cons.mpr ⟨lw_p49, List.forall_mem_cons.mpr ⟨lw_p50, List.forall_mem_cons.mpr ⟨lw_p51, List.forall_mem_cons.mpr ⟨lw_p52, List.forall_mem_cons.mpr ⟨lw_p53, List.forall_mem_cons.mpr ⟨lw_p54, List.forall_mem_cons.mpr ⟨lw_p55, List.forall_mem_cons.mpr ⟨lw_p56, List.forall_mem_cons.mpr ⟨lw_p57, List.forall_mem_cons.mpr ⟨lw_p58, List.forall_mem_cons.mpr ⟨lw_p59, List.forall_mem_cons.mpr ⟨lw_p60, fun _ h => absurd h List.not_mem_nil⟩⟩⟩⟩⟩⟩⟩⟩⟩⟩⟩⟩⟩
def lw_privs : List (MethodName × Nat) := lw_privs_1 ++ (lw_privs_2 ++ (lw_privs_3 ++ (lw_privs_4)))
def lw_tbl : List Cond := k2_sels lw_privs ++ tables_1
theorem lw_privs_ok : ∀ q ∈ lw_privs, lw_okq q := by
  show ∀ q ∈ lw_privs_1 ++ (lw_privs_2 ++ (lw_privs_3 ++ (lw_privs_4))), lw_okq q
  exact List.forall_mem_append.mpr ⟨lw_r1, List.forall_mem_append.mpr ⟨lw_r2, List.forall_mem_append.mpr ⟨lw_r3, lw_r4⟩⟩⟩
-- ===== end of PART A; then your names; then what follows =====
end
section
def RX0 : String := "GatedWorks$Buffer"
def TX0 : u_T := fun k => match k with
  | 0 => ("GatedWorks$Buffer", "gate", "LGatedWorks$Gate;", true)
  | 1 => ("GatedWorks$Buffer", "items", "LGatedWorks$Row;", true)
  | 2 => ("GatedWorks$Buffer", "queued", "LGatedWorks$Row;", true)
  | 3 => ("GatedWorks$Buffer", "room", "I", false)
  | 4 => ("GatedWorks$Buffer", "ins", "I", false)
  | 5 => ("GatedWorks$Buffer", "outs", "I", false)
  | 6 => ("GatedWorks$Buffer", "peak", "I", false)
  | 7 => ("GatedWorks$Buffer", "keptBy", "I", false)
  | _ => ("GatedWorks$Buffer", "keptTimes", "I", false)
def tyX0 : Nat → FieldType := fun k => match k with
  | 0 => .object "GatedWorks$Gate"
  | 1 => .object "GatedWorks$Row"
  | 2 => .object "GatedWorks$Row"
  | 3 => .int
  | 4 => .int
  | 5 => .int
  | 6 => .int
  | 7 => .int
  | _ => .int
abbrev wsX00 : List Cond := u_ws RX0 TX0 9
theorem nmX0 : ∀ a, a < 9 → ∀ b, b < 9 → a ≠ b → (TX0 a).2.1 ≠ (TX0 b).2.1 := by decide +kernel
theorem tyX0_ok : ∀ k, k < 9 → parseFieldDescriptor (TX0 k).2.2.1 = some (tyX0 k) := by decide +kernel
abbrev cX0_init : ByteArray := prog_2_method_1_code
def yX0_init : MethodName := ⟨RX0, "<init>", "()V"⟩
abbrev cX0_put : ByteArray := prog_2_method_2_code
def yX0_put : MethodName := ⟨RX0, "put", "(II)Z"⟩
abbrev cX0_take : ByteArray := prog_2_method_3_code
def yX0_take : MethodName := ⟨RX0, "take", "(I)I"⟩
abbrev cX0_canGive : ByteArray := prog_2_method_4_code
def yX0_canGive : MethodName := ⟨RX0, "canGive", "(I)Z"⟩
abbrev cX0_giveFirst : ByteArray := prog_2_method_5_code
def yX0_giveFirst : MethodName := ⟨RX0, "giveFirst", "()I"⟩
abbrev cX0_isKeptByAnother : ByteArray := prog_2_method_6_code
def yX0_isKeptByAnother : MethodName := ⟨RX0, "isKeptByAnother", "(I)Z"⟩
abbrev cX0_keepFor : ByteArray := prog_2_method_7_code
def yX0_keepFor : MethodName := ⟨RX0, "keepFor", "(I)I"⟩
abbrev cX0_letGo : ByteArray := prog_2_method_8_code
def yX0_letGo : MethodName := ⟨RX0, "letGo", "()I"⟩
abbrev cX0_bufferTold : ByteArray := prog_2_method_9_code
def yX0_bufferTold : MethodName := ⟨RX0, "bufferTold", "(I)I"⟩
abbrev cX0_keepingTold : ByteArray := prog_2_method_10_code
def yX0_keepingTold : MethodName := ⟨RX0, "keepingTold", "(I)I"⟩
abbrev cX0_startAnew : ByteArray := prog_2_method_11_code
def yX0_startAnew : MethodName := ⟨RX0, "startAnew", "()V"⟩
abbrev cX0_copyFrom : ByteArray := prog_2_method_12_code
def yX0_copyFrom : MethodName := ⟨RX0, "copyFrom", "(LGatedWorks$Buffer;)V"⟩
def RX1 : String := "GatedWorks$Floor"
def TX1 : u_T := fun k => match k with
  | 0 => ("GatedWorks$Floor", "buffers", "[LGatedWorks$Buffer;", true)
  | 1 => ("GatedWorks$Floor", "stations", "[LGatedWorks$Station;", true)
  | 2 => ("GatedWorks$Floor", "workers", "[LGatedWorks$Worker;", true)
  | 3 => ("GatedWorks$Floor", "waiting", "LGatedWorks$Row;", true)
  | 4 => ("GatedWorks$Floor", "master", "LGatedWorks$Gate;", true)
  | 5 => ("GatedWorks$Floor", "bufferCount", "I", false)
  | 6 => ("GatedWorks$Floor", "stationCount", "I", false)
  | 7 => ("GatedWorks$Floor", "tickCount", "I", false)
  | _ => ("GatedWorks$Floor", "unguarded", "I", false)
def tyX1 : Nat → FieldType := fun k => match k with
  | 0 => .array (.object "GatedWorks$Buffer")
  | 1 => .array (.object "GatedWorks$Station")
  | 2 => .array (.object "GatedWorks$Worker")
  | 3 => .object "GatedWorks$Row"
  | 4 => .object "GatedWorks$Gate"
  | 5 => .int
  | 6 => .int
  | 7 => .int
  | _ => .int
abbrev wsX10 : List Cond := u_ws RX1 TX1 9
theorem nmX1 : ∀ a, a < 9 → ∀ b, b < 9 → a ≠ b → (TX1 a).2.1 ≠ (TX1 b).2.1 := by decide +kernel
theorem tyX1_ok : ∀ k, k < 9 → parseFieldDescriptor (TX1 k).2.2.1 = some (tyX1 k) := by decide +kernel
abbrev cX1_init : ByteArray := prog_3_method_1_code
def yX1_init : MethodName := ⟨RX1, "<init>", "()V"⟩
abbrev cX1_startAnew : ByteArray := prog_3_method_2_code
def yX1_startAnew : MethodName := ⟨RX1, "startAnew", "(I)V"⟩
abbrev cX1_hasBuffer : ByteArray := prog_3_method_3_code
def yX1_hasBuffer : MethodName := ⟨RX1, "hasBuffer", "(I)Z"⟩
abbrev cX1_hasBufferOrNone : ByteArray := prog_3_method_4_code
def yX1_hasBufferOrNone : MethodName := ⟨RX1, "hasBufferOrNone", "(I)Z"⟩
abbrev cX1_hasStation : ByteArray := prog_3_method_5_code
def yX1_hasStation : MethodName := ⟨RX1, "hasStation", "(I)Z"⟩
abbrev cX1_move : ByteArray := prog_3_method_6_code
def yX1_move : MethodName := ⟨RX1, "move", "(III)I"⟩
abbrev cX1_moveOne : ByteArray := prog_3_method_7_code
def yX1_moveOne : MethodName := ⟨RX1, "moveOne", "(LGatedWorks$Buffer;LGatedWorks$Buffer;)Z"⟩
abbrev cX1_leaveBoth : ByteArray := prog_3_method_8_code
def yX1_leaveBoth : MethodName := ⟨RX1, "leaveBoth", "(LGatedWorks$Gate;LGatedWorks$Gate;Z)V"⟩
abbrev cX1_tick : ByteArray := prog_3_method_9_code
def yX1_tick : MethodName := ⟨RX1, "tick", "()I"⟩
abbrev cX1_tickStation : ByteArray := prog_3_method_10_code
def yX1_tickStation : MethodName := ⟨RX1, "tickStation", "(LGatedWorks$Station;)I"⟩
abbrev cX1_work : ByteArray := prog_3_method_11_code
def yX1_work : MethodName := ⟨RX1, "work", "(LGatedWorks$Station;)I"⟩
abbrev cX1_deliver : ByteArray := prog_3_method_12_code
def yX1_deliver : MethodName := ⟨RX1, "deliver", "(LGatedWorks$Station;)I"⟩
abbrev cX1_takePair : ByteArray := prog_3_method_13_code
def yX1_takePair : MethodName := ⟨RX1, "takePair", "(II)I"⟩
abbrev cX1_tryWish : ByteArray := prog_3_method_14_code
def yX1_tryWish : MethodName := ⟨RX1, "tryWish", "(I)Z"⟩
abbrev cX1_serve : ByteArray := prog_3_method_15_code
def yX1_serve : MethodName := ⟨RX1, "serve", "()V"⟩
abbrev cX1_serveFirst : ByteArray := prog_3_method_16_code
def yX1_serveFirst : MethodName := ⟨RX1, "serveFirst", "()Z"⟩
abbrev cX1_queuedAt : ByteArray := prog_3_method_17_code
def yX1_queuedAt : MethodName := ⟨RX1, "queuedAt", "(I)I"⟩
abbrev cX1_stuckBits : ByteArray := prog_3_method_18_code
def yX1_stuckBits : MethodName := ⟨RX1, "stuckBits", "()I"⟩
abbrev cX1_isStuck : ByteArray := prog_3_method_19_code
def yX1_isStuck : MethodName := ⟨RX1, "isStuck", "(I)Z"⟩
abbrev cX1_worksTold : ByteArray := prog_3_method_20_code
def yX1_worksTold : MethodName := ⟨RX1, "worksTold", "(I)I"⟩
abbrev cX1_allItems : ByteArray := prog_3_method_21_code
def yX1_allItems : MethodName := ⟨RX1, "allItems", "()I"⟩
abbrev cX1_allEntries : ByteArray := prog_3_method_22_code
def yX1_allEntries : MethodName := ⟨RX1, "allEntries", "()I"⟩
abbrev cX1_copyFrom : ByteArray := prog_3_method_23_code
def yX1_copyFrom : MethodName := ⟨RX1, "copyFrom", "(LGatedWorks$Floor;)V"⟩
def RX2 : String := "GatedWorks$Gate"
def TX2 : u_T := fun k => match k with
  | 0 => ("GatedWorks$Gate", "entries", "I", false)
  | 1 => ("GatedWorks$Gate", "depth", "I", false)
  | 2 => ("GatedWorks$Gate", "deepest", "I", false)
  | _ => ("GatedWorks$Gate", "thrown", "I", false)
def tyX2 : Nat → FieldType := fun k => match k with
  | 0 => .int
  | 1 => .int
  | 2 => .int
  | _ => .int
abbrev wsX20 : List Cond := u_ws RX2 TX2 4
theorem nmX2 : ∀ a, a < 4 → ∀ b, b < 4 → a ≠ b → (TX2 a).2.1 ≠ (TX2 b).2.1 := by decide +kernel
theorem tyX2_ok : ∀ k, k < 4 → parseFieldDescriptor (TX2 k).2.2.1 = some (tyX2 k) := by decide +kernel
abbrev cX2_init : ByteArray := prog_4_method_1_code
def yX2_init : MethodName := ⟨RX2, "<init>", "()V"⟩
abbrev cX2_enter : ByteArray := prog_4_method_2_code
def yX2_enter : MethodName := ⟨RX2, "enter", "()V"⟩
abbrev cX2_leave : ByteArray := prog_4_method_3_code
def yX2_leave : MethodName := ⟨RX2, "leave", "()V"⟩
abbrev cX2_leaveThrown : ByteArray := prog_4_method_4_code
def yX2_leaveThrown : MethodName := ⟨RX2, "leaveThrown", "()V"⟩
abbrev cX2_startAnew : ByteArray := prog_4_method_5_code
def yX2_startAnew : MethodName := ⟨RX2, "startAnew", "()V"⟩
abbrev cX2_copyFrom : ByteArray := prog_4_method_6_code
def yX2_copyFrom : MethodName := ⟨RX2, "copyFrom", "(LGatedWorks$Gate;)V"⟩
def RX3 : String := "GatedWorks$History"
def TX3 : u_T := fun k => match k with
  | 0 => ("GatedWorks$History", "floors", "[LGatedWorks$Floor;", true)
  | 1 => ("GatedWorks$History", "next", "I", false)
  | _ => ("GatedWorks$History", "size", "I", false)
def tyX3 : Nat → FieldType := fun k => match k with
  | 0 => .array (.object "GatedWorks$Floor")
  | 1 => .int
  | _ => .int
abbrev wsX30 : List Cond := u_ws RX3 TX3 3
theorem nmX3 : ∀ a, a < 3 → ∀ b, b < 3 → a ≠ b → (TX3 a).2.1 ≠ (TX3 b).2.1 := by decide +kernel
theorem tyX3_ok : ∀ k, k < 3 → parseFieldDescriptor (TX3 k).2.2.1 = some (tyX3 k) := by decide +kernel
abbrev cX3_init : ByteArray := prog_5_method_1_code
def yX3_init : MethodName := ⟨RX3, "<init>", "()V"⟩
abbrev cX3_keep : ByteArray := prog_5_method_2_code
def yX3_keep : MethodName := ⟨RX3, "keep", "(LGatedWorks$Floor;)V"⟩
abbrev cX3_giveBack : ByteArray := prog_5_method_3_code
def yX3_giveBack : MethodName := ⟨RX3, "giveBack", "(LGatedWorks$Floor;)V"⟩
def RX4 : String := "GatedWorks$ItemsAhead"
def TX4 : u_T := fun k => match k with
  | _ => ("GatedWorks$ItemsAhead", "rows", "[LGatedWorks$Row;", true)
def tyX4 : Nat → FieldType := fun k => match k with
  | _ => .array (.object "GatedWorks$Row")
abbrev wsX40 : List Cond := u_ws RX4 TX4 1
theorem nmX4 : ∀ a, a < 1 → ∀ b, b < 1 → a ≠ b → (TX4 a).2.1 ≠ (TX4 b).2.1 := by decide +kernel
theorem tyX4_ok : ∀ k, k < 1 → parseFieldDescriptor (TX4 k).2.2.1 = some (tyX4 k) := by decide +kernel
abbrev cX4_init : ByteArray := prog_6_method_1_code
def yX4_init : MethodName := ⟨RX4, "<init>", "()V"⟩
abbrev cX4_keep : ByteArray := prog_6_method_2_code
def yX4_keep : MethodName := ⟨RX4, "keep", "(LGatedWorks$Floor;)V"⟩
abbrev cX4_giveBack : ByteArray := prog_6_method_3_code
def yX4_giveBack : MethodName := ⟨RX4, "giveBack", "(LGatedWorks$Floor;)V"⟩
def RX5 : String := "GatedWorks$Row"
def TX5 : u_T := fun k => match k with
  | 0 => ("GatedWorks$Row", "values", "[I", true)
  | _ => ("GatedWorks$Row", "size", "I", false)
def tyX5 : Nat → FieldType := fun k => match k with
  | 0 => .array .int
  | _ => .int
abbrev wsX50 : List Cond := u_ws RX5 TX5 2
theorem nmX5 : ∀ a, a < 2 → ∀ b, b < 2 → a ≠ b → (TX5 a).2.1 ≠ (TX5 b).2.1 := by decide +kernel
theorem tyX5_ok : ∀ k, k < 2 → parseFieldDescriptor (TX5 k).2.2.1 = some (tyX5 k) := by decide +kernel
abbrev cX5_init : ByteArray := prog_7_method_1_code
def yX5_init : MethodName := ⟨RX5, "<init>", "()V"⟩
abbrev cX5_at : ByteArray := prog_7_method_2_code
def yX5_at : MethodName := ⟨RX5, "at", "(I)I"⟩
abbrev cX5_placeOf : ByteArray := prog_7_method_3_code
def yX5_placeOf : MethodName := ⟨RX5, "placeOf", "(I)I"⟩
abbrev cX5_addLast : ByteArray := prog_7_method_4_code
def yX5_addLast : MethodName := ⟨RX5, "addLast", "(I)V"⟩
abbrev cX5_addFirst : ByteArray := prog_7_method_5_code
def yX5_addFirst : MethodName := ⟨RX5, "addFirst", "(I)V"⟩
abbrev cX5_removeAt : ByteArray := prog_7_method_6_code
def yX5_removeAt : MethodName := ⟨RX5, "removeAt", "(I)I"⟩
abbrev cX5_copyFrom : ByteArray := prog_7_method_7_code
def yX5_copyFrom : MethodName := ⟨RX5, "copyFrom", "(LGatedWorks$Row;)V"⟩
def RX6 : String := "GatedWorks$Runner"
def TX6 : u_T := fun k => match k with
  | 0 => ("GatedWorks$Runner", "aheadOf", "[LGatedWorks$ItemsAhead;", true)
  | 1 => ("GatedWorks$Runner", "doneAheadOf", "[I", true)
  | 2 => ("GatedWorks$Runner", "text", "LGatedWorks$Text;", true)
  | 3 => ("GatedWorks$Runner", "floor", "LGatedWorks$Floor;", true)
  | 4 => ("GatedWorks$Runner", "place", "I", false)
  | 5 => ("GatedWorks$Runner", "level", "I", false)
  | 6 => ("GatedWorks$Runner", "done", "I", false)
  | _ => ("GatedWorks$Runner", "cameTo", "I", false)
def tyX6 : Nat → FieldType := fun k => match k with
  | 0 => .array (.object "GatedWorks$ItemsAhead")
  | 1 => .array .int
  | 2 => .object "GatedWorks$Text"
  | 3 => .object "GatedWorks$Floor"
  | 4 => .int
  | 5 => .int
  | 6 => .int
  | _ => .int
abbrev wsX60 : List Cond := u_ws RX6 TX6 8
theorem nmX6 : ∀ a, a < 8 → ∀ b, b < 8 → a ≠ b → (TX6 a).2.1 ≠ (TX6 b).2.1 := by decide +kernel
theorem tyX6_ok : ∀ k, k < 8 → parseFieldDescriptor (TX6 k).2.2.1 = some (tyX6 k) := by decide +kernel
abbrev cX6_init : ByteArray := prog_8_method_1_code
def yX6_init : MethodName := ⟨RX6, "<init>", "(LGatedWorks$Text;LGatedWorks$Floor;)V"⟩
abbrev cX6_run : ByteArray := prog_8_method_2_code
def yX6_run : MethodName := ⟨RX6, "run", "()I"⟩
abbrev cX6_enterLevel : ByteArray := prog_8_method_3_code
def yX6_enterLevel : MethodName := ⟨RX6, "enterLevel", "()V"⟩
abbrev cX6_leaveLevel : ByteArray := prog_8_method_4_code
def yX6_leaveLevel : MethodName := ⟨RX6, "leaveLevel", "()V"⟩
abbrev cX6_undoLevel : ByteArray := prog_8_method_5_code
def yX6_undoLevel : MethodName := ⟨RX6, "undoLevel", "()V"⟩
abbrev cX6_skipGroup : ByteArray := prog_8_method_6_code
def yX6_skipGroup : MethodName := ⟨RX6, "skipGroup", "()V"⟩
abbrev cX6_orderDone : ByteArray := prog_8_method_7_code
def yX6_orderDone : MethodName := ⟨RX6, "orderDone", "(I)Z"⟩
abbrev cX6_nextFigure : ByteArray := prog_8_method_8_code
def yX6_nextFigure : MethodName := ⟨RX6, "nextFigure", "()I"⟩
abbrev cX6_nextByte : ByteArray := prog_8_method_9_code
def yX6_nextByte : MethodName := ⟨RX6, "nextByte", "()I"⟩
def RX7 : String := "GatedWorks$Station"
def TX7 : u_T := fun k => match k with
  | 0 => ("GatedWorks$Station", "in0", "I", false)
  | 1 => ("GatedWorks$Station", "in1", "I", false)
  | 2 => ("GatedWorks$Station", "out", "I", false)
  | 3 => ("GatedWorks$Station", "time", "I", false)
  | 4 => ("GatedWorks$Station", "add", "I", false)
  | 5 => ("GatedWorks$Station", "guard", "I", false)
  | 6 => ("GatedWorks$Station", "phase", "I", false)
  | 7 => ("GatedWorks$Station", "left", "I", false)
  | 8 => ("GatedWorks$Station", "kind", "I", false)
  | 9 => ("GatedWorks$Station", "made", "I", false)
  | 10 => ("GatedWorks$Station", "held", "I", false)
  | _ => ("GatedWorks$Station", "starved", "I", false)
def tyX7 : Nat → FieldType := fun k => match k with
  | 0 => .int
  | 1 => .int
  | 2 => .int
  | 3 => .int
  | 4 => .int
  | 5 => .int
  | 6 => .int
  | 7 => .int
  | 8 => .int
  | 9 => .int
  | 10 => .int
  | _ => .int
abbrev wsX70 : List Cond := u_ws RX7 TX7 12
theorem nmX7 : ∀ a, a < 12 → ∀ b, b < 12 → a ≠ b → (TX7 a).2.1 ≠ (TX7 b).2.1 := by decide +kernel
theorem tyX7_ok : ∀ k, k < 12 → parseFieldDescriptor (TX7 k).2.2.1 = some (tyX7 k) := by decide +kernel
abbrev cX7_init : ByteArray := prog_9_method_1_code
def yX7_init : MethodName := ⟨RX7, "<init>", "()V"⟩
abbrev cX7_setUp : ByteArray := prog_9_method_2_code
def yX7_setUp : MethodName := ⟨RX7, "setUp", "(IIIII)V"⟩
abbrev cX7_becomeIdle : ByteArray := prog_9_method_3_code
def yX7_becomeIdle : MethodName := ⟨RX7, "becomeIdle", "()V"⟩
abbrev cX7_load : ByteArray := prog_9_method_4_code
def yX7_load : MethodName := ⟨RX7, "load", "(I)V"⟩
abbrev cX7_workOn : ByteArray := prog_9_method_5_code
def yX7_workOn : MethodName := ⟨RX7, "workOn", "()V"⟩
abbrev cX7_stationTold : ByteArray := prog_9_method_6_code
def yX7_stationTold : MethodName := ⟨RX7, "stationTold", "(I)I"⟩
abbrev cX7_copyFrom : ByteArray := prog_9_method_7_code
def yX7_copyFrom : MethodName := ⟨RX7, "copyFrom", "(LGatedWorks$Station;)V"⟩
def RX8 : String := "GatedWorks$Text"
def TX8 : u_T := fun k => match k with
  | 0 => ("GatedWorks$Text", "bytes", "[I", true)
  | _ => ("GatedWorks$Text", "length", "I", false)
def tyX8 : Nat → FieldType := fun k => match k with
  | 0 => .array .int
  | _ => .int
abbrev wsX80 : List Cond := u_ws RX8 TX8 2
theorem nmX8 : ∀ a, a < 2 → ∀ b, b < 2 → a ≠ b → (TX8 a).2.1 ≠ (TX8 b).2.1 := by decide +kernel
theorem tyX8_ok : ∀ k, k < 2 → parseFieldDescriptor (TX8 k).2.2.1 = some (tyX8 k) := by decide +kernel
abbrev cX8_init : ByteArray := prog_10_method_1_code
def yX8_init : MethodName := ⟨RX8, "<init>", "()V"⟩
abbrev cX8_isFull : ByteArray := prog_10_method_2_code
def yX8_isFull : MethodName := ⟨RX8, "isFull", "()Z"⟩
abbrev cX8_add : ByteArray := prog_10_method_3_code
def yX8_add : MethodName := ⟨RX8, "add", "(I)V"⟩
abbrev cX8_at : ByteArray := prog_10_method_4_code
def yX8_at : MethodName := ⟨RX8, "at", "(I)I"⟩
abbrev cX8_fault : ByteArray := prog_10_method_5_code
def yX8_fault : MethodName := ⟨RX8, "fault", "()I"⟩
abbrev cX8_figuresOf : ByteArray := prog_10_method_6_code
def yX8_figuresOf : MethodName := ⟨RX8, "figuresOf", "(I)I"⟩
def RX9 : String := "GatedWorks$Worker"
def TX9 : u_T := fun k => match k with
  | 0 => ("GatedWorks$Worker", "place", "I", false)
  | 1 => ("GatedWorks$Worker", "wish", "I", false)
  | 2 => ("GatedWorks$Worker", "kind", "I", false)
  | _ => ("GatedWorks$Worker", "got", "I", false)
def tyX9 : Nat → FieldType := fun k => match k with
  | 0 => .int
  | 1 => .int
  | 2 => .int
  | _ => .int
abbrev wsX90 : List Cond := u_ws RX9 TX9 4
theorem nmX9 : ∀ a, a < 4 → ∀ b, b < 4 → a ≠ b → (TX9 a).2.1 ≠ (TX9 b).2.1 := by decide +kernel
theorem tyX9_ok : ∀ k, k < 4 → parseFieldDescriptor (TX9 k).2.2.1 = some (tyX9 k) := by decide +kernel
abbrev cX9_init : ByteArray := prog_11_method_1_code
def yX9_init : MethodName := ⟨RX9, "<init>", "()V"⟩
abbrev cX9_waits : ByteArray := prog_11_method_2_code
def yX9_waits : MethodName := ⟨RX9, "waits", "()Z"⟩
abbrev cX9_wishFor : ByteArray := prog_11_method_3_code
def yX9_wishFor : MethodName := ⟨RX9, "wishFor", "(III)V"⟩
abbrev cX9_wishNoMore : ByteArray := prog_11_method_4_code
def yX9_wishNoMore : MethodName := ⟨RX9, "wishNoMore", "()V"⟩
abbrev cX9_workerTold : ByteArray := prog_11_method_5_code
def yX9_workerTold : MethodName := ⟨RX9, "workerTold", "(I)I"⟩
abbrev cX9_startAnew : ByteArray := prog_11_method_6_code
def yX9_startAnew : MethodName := ⟨RX9, "startAnew", "()V"⟩
abbrev cX9_copyFrom : ByteArray := prog_11_method_7_code
def yX9_copyFrom : MethodName := ⟨RX9, "copyFrom", "(LGatedWorks$Worker;)V"⟩
def RX10 : String := "GatedWorks"
def TX10 : u_T := fun k => match k with
  | 0 => ("GatedWorks", "floor", "LGatedWorks$Floor;", true)
  | 1 => ("GatedWorks", "history", "LGatedWorks$History;", true)
  | 2 => ("GatedWorks", "text", "LGatedWorks$Text;", true)
  | 3 => ("GatedWorks", "runner", "LGatedWorks$Runner;", true)
  | 4 => ("GatedWorks", "aheadOfMove", "LGatedWorks$ItemsAhead;", true)
  | 5 => ("GatedWorks", "timesBad", "I", false)
  | 6 => ("GatedWorks", "timesNo", "I", false)
  | _ => ("GatedWorks", "timesFull", "I", false)
def tyX10 : Nat → FieldType := fun k => match k with
  | 0 => .object "GatedWorks$Floor"
  | 1 => .object "GatedWorks$History"
  | 2 => .object "GatedWorks$Text"
  | 3 => .object "GatedWorks$Runner"
  | 4 => .object "GatedWorks$ItemsAhead"
  | 5 => .int
  | 6 => .int
  | _ => .int
abbrev wsX100 : List Cond := u_ws RX10 TX10 8
theorem nmX10 : ∀ a, a < 8 → ∀ b, b < 8 → a ≠ b → (TX10 a).2.1 ≠ (TX10 b).2.1 := by decide +kernel
theorem tyX10_ok : ∀ k, k < 8 → parseFieldDescriptor (TX10 k).2.2.1 = some (tyX10 k) := by decide +kernel
abbrev cX10_init : ByteArray := prog_1_method_1_code
def yX10_init : MethodName := ⟨RX10, "<init>", "()V"⟩
abbrev cX10_begins : ByteArray := prog_1_method_2_code
def yX10_begins : MethodName := ⟨RX10, "begins", "(I)I"⟩
abbrev cX10_rooms : ByteArray := prog_1_method_3_code
def yX10_rooms : MethodName := ⟨RX10, "rooms", "(II)I"⟩
abbrev cX10_station : ByteArray := prog_1_method_4_code
def yX10_station : MethodName := ⟨RX10, "station", "(IIIII)I"⟩
abbrev cX10_guards : ByteArray := prog_1_method_5_code
def yX10_guards : MethodName := ⟨RX10, "guards", "(II)I"⟩
abbrev cX10_ticks : ByteArray := prog_1_method_6_code
def yX10_ticks : MethodName := ⟨RX10, "ticks", "(I)I"⟩
abbrev cX10_puts : ByteArray := prog_1_method_7_code
def yX10_puts : MethodName := ⟨RX10, "puts", "(II)I"⟩
abbrev cX10_takes : ByteArray := prog_1_method_8_code
def yX10_takes : MethodName := ⟨RX10, "takes", "(I)I"⟩
abbrev cX10_moves : ByteArray := prog_1_method_9_code
def yX10_moves : MethodName := ⟨RX10, "moves", "(IIII)I"⟩
abbrev cX10_asks : ByteArray := prog_1_method_10_code
def yX10_asks : MethodName := ⟨RX10, "asks", "(IIII)I"⟩
abbrev cX10_cancels : ByteArray := prog_1_method_11_code
def yX10_cancels : MethodName := ⟨RX10, "cancels", "(I)I"⟩
abbrev cX10_keeps : ByteArray := prog_1_method_12_code
def yX10_keeps : MethodName := ⟨RX10, "keeps", "(II)I"⟩
abbrev cX10_lets : ByteArray := prog_1_method_13_code
def yX10_lets : MethodName := ⟨RX10, "lets", "(II)I"⟩
abbrev cX10_quits : ByteArray := prog_1_method_14_code
def yX10_quits : MethodName := ⟨RX10, "quits", "(I)I"⟩
abbrev cX10_keeper : ByteArray := prog_1_method_15_code
def yX10_keeper : MethodName := ⟨RX10, "keeper", "(II)I"⟩
abbrev cX10_queue : ByteArray := prog_1_method_16_code
def yX10_queue : MethodName := ⟨RX10, "queue", "(II)I"⟩
abbrev cX10_stuck : ByteArray := prog_1_method_17_code
def yX10_stuck : MethodName := ⟨RX10, "stuck", "()I"⟩
abbrev cX10_buffer : ByteArray := prog_1_method_18_code
def yX10_buffer : MethodName := ⟨RX10, "buffer", "(II)I"⟩
abbrev cX10_item : ByteArray := prog_1_method_19_code
def yX10_item : MethodName := ⟨RX10, "item", "(II)I"⟩
abbrev cX10_of : ByteArray := prog_1_method_20_code
def yX10_of : MethodName := ⟨RX10, "of", "(II)I"⟩
abbrev cX10_worker : ByteArray := prog_1_method_21_code
def yX10_worker : MethodName := ⟨RX10, "worker", "(II)I"⟩
abbrev cX10_line : ByteArray := prog_1_method_22_code
def yX10_line : MethodName := ⟨RX10, "line", "(I)I"⟩
abbrev cX10_works : ByteArray := prog_1_method_23_code
def yX10_works : MethodName := ⟨RX10, "works", "(I)I"⟩
abbrev cX10_type : ByteArray := prog_1_method_24_code
def yX10_type : MethodName := ⟨RX10, "type", "(I)I"⟩
abbrev cX10_clear : ByteArray := prog_1_method_25_code
def yX10_clear : MethodName := ⟨RX10, "clear", "()I"⟩
abbrev cX10_does : ByteArray := prog_1_method_26_code
def yX10_does : MethodName := ⟨RX10, "does", "()I"⟩
abbrev cX10_back : ByteArray := prog_1_method_27_code
def yX10_back : MethodName := ⟨RX10, "back", "()I"⟩
abbrev cX10_told : ByteArray := prog_1_method_28_code
def yX10_told : MethodName := ⟨RX10, "told", "(I)I"⟩
abbrev cX10_digest : ByteArray := prog_1_method_29_code
def yX10_digest : MethodName := ⟨RX10, "digest", "()J"⟩
abbrev cX10_toldOf : ByteArray := prog_1_method_30_code
def yX10_toldOf : MethodName := ⟨RX10, "toldOf", "(I)I"⟩
abbrev cX10_refuseBad : ByteArray := prog_1_method_31_code
def yX10_refuseBad : MethodName := ⟨RX10, "refuseBad", "()I"⟩
abbrev cX10_refuseNo : ByteArray := prog_1_method_32_code
def yX10_refuseNo : MethodName := ⟨RX10, "refuseNo", "()I"⟩
abbrev cX10_refuseFull : ByteArray := prog_1_method_33_code
def yX10_refuseFull : MethodName := ⟨RX10, "refuseFull", "()I"⟩
abbrev cX10_within : ByteArray := prog_1_method_34_code
def yX10_within : MethodName := ⟨RX10, "within", "(III)Z"⟩
abbrev cX10_isWorker : ByteArray := prog_1_method_35_code
def yX10_isWorker : MethodName := ⟨RX10, "isWorker", "(I)Z"⟩
abbrev cX10_mixed : ByteArray := prog_1_method_36_code
def yX10_mixed : MethodName := ⟨RX10, "mixed", "(JI)J"⟩
abbrev cX10_mixedRow : ByteArray := prog_1_method_37_code
def yX10_mixedRow : MethodName := ⟨RX10, "mixedRow", "(JLGatedWorks$Row;)J"⟩
abbrev cX10_mixedBuffer : ByteArray := prog_1_method_38_code
def yX10_mixedBuffer : MethodName := ⟨RX10, "mixedBuffer", "(JLGatedWorks$Buffer;)J"⟩
abbrev cX10_mixedStation : ByteArray := prog_1_method_39_code
def yX10_mixedStation : MethodName := ⟨RX10, "mixedStation", "(JLGatedWorks$Station;)J"⟩
abbrev cX10_mixedWorker : ByteArray := prog_1_method_40_code
def yX10_mixedWorker : MethodName := ⟨RX10, "mixedWorker", "(JLGatedWorks$Worker;)J"⟩
def RX11 : String := "GatedWorksModel"
def TX11 : u_T := fun k => match k with
  | 0 => ("GatedWorksModel", "refused", "[I", true)
  | 1 => ("GatedWorksModel", "now", "[I", true)
  | 2 => ("GatedWorksModel", "states", "I", false)
  | 3 => ("GatedWorksModel", "kept", "[I", true)
  | 4 => ("GatedWorksModel", "aside", "[I", true)
  | 5 => ("GatedWorksModel", "text", "[I", true)
  | 6 => ("GatedWorksModel", "length", "I", false)
  | 7 => ("GatedWorksModel", "readAt", "I", false)
  | 8 => ("GatedWorksModel", "isFaulty", "Z", false)
  | 9 => ("GatedWorksModel", "orders", "I", false)
  | 10 => ("GatedWorksModel", "letter", "[I", true)
  | 11 => ("GatedWorksModel", "first", "[I", true)
  | 12 => ("GatedWorksModel", "second", "[I", true)
  | 13 => ("GatedWorksModel", "third", "[I", true)
  | 14 => ("GatedWorksModel", "mate", "[I", true)
  | 15 => ("GatedWorksModel", "open", "[I", true)
  | _ => ("GatedWorksModel", "doneAt", "[I", true)
def tyX11 : Nat → FieldType := fun k => match k with
  | 0 => .array .int
  | 1 => .array .int
  | 2 => .int
  | 3 => .array .int
  | 4 => .array .int
  | 5 => .array .int
  | 6 => .int
  | 7 => .int
  | 8 => .boolean
  | 9 => .int
  | 10 => .array .int
  | 11 => .array .int
  | 12 => .array .int
  | 13 => .array .int
  | 14 => .array .int
  | 15 => .array .int
  | _ => .array .int
abbrev wsX110 : List Cond := u_ws RX11 TX11 17
theorem nmX11 : ∀ a, a < 17 → ∀ b, b < 17 → a ≠ b → (TX11 a).2.1 ≠ (TX11 b).2.1 := by decide +kernel
theorem tyX11_ok : ∀ k, k < 17 → parseFieldDescriptor (TX11 k).2.2.1 = some (tyX11 k) := by decide +kernel
abbrev cX11_init : ByteArray := prog_13_method_1_code
def yX11_init : MethodName := ⟨RX11, "<init>", "()V"⟩
abbrev cX11_bad : ByteArray := prog_13_method_2_code
def yX11_bad : MethodName := ⟨RX11, "bad", "()I"⟩
abbrev cX11_no : ByteArray := prog_13_method_3_code
def yX11_no : MethodName := ⟨RX11, "no", "()I"⟩
abbrev cX11_full : ByteArray := prog_13_method_4_code
def yX11_full : MethodName := ⟨RX11, "full", "()I"⟩
abbrev cX11_in : ByteArray := prog_13_method_5_code
def yX11_in : MethodName := ⟨RX11, "in", "(III)Z"⟩
abbrev cX11_atBuffer : ByteArray := prog_13_method_6_code
def yX11_atBuffer : MethodName := ⟨RX11, "atBuffer", "(I)I"⟩
abbrev cX11_gate : ByteArray := prog_13_method_7_code
def yX11_gate : MethodName := ⟨RX11, "gate", "(I)I"⟩
abbrev cX11_stationAt : ByteArray := prog_13_method_8_code
def yX11_stationAt : MethodName := ⟨RX11, "stationAt", "(I)I"⟩
abbrev cX11_workerAt : ByteArray := prog_13_method_9_code
def yX11_workerAt : MethodName := ⟨RX11, "workerAt", "(I)I"⟩
abbrev cX11_isBuffer : ByteArray := prog_13_method_10_code
def yX11_isBuffer : MethodName := ⟨RX11, "isBuffer", "(I)Z"⟩
abbrev cX11_isWorker : ByteArray := prog_13_method_11_code
def yX11_isWorker : MethodName := ⟨RX11, "isWorker", "(I)Z"⟩
abbrev cX11_lays : ByteArray := prog_13_method_12_code
def yX11_lays : MethodName := ⟨RX11, "lays", "(I)V"⟩
abbrev cX11_leavesState : ByteArray := prog_13_method_13_code
def yX11_leavesState : MethodName := ⟨RX11, "leavesState", "()V"⟩
abbrev cX11_back : ByteArray := prog_13_method_14_code
def yX11_back : MethodName := ⟨RX11, "back", "()I"⟩
abbrev cX11_enters : ByteArray := prog_13_method_15_code
def yX11_enters : MethodName := ⟨RX11, "enters", "(I)V"⟩
abbrev cX11_leaves : ByteArray := prog_13_method_16_code
def yX11_leaves : MethodName := ⟨RX11, "leaves", "(I)V"⟩
abbrev cX11_thrownOut : ByteArray := prog_13_method_17_code
def yX11_thrownOut : MethodName := ⟨RX11, "thrownOut", "(I)V"⟩
abbrev cX11_isKeptFor : ByteArray := prog_13_method_18_code
def yX11_isKeptFor : MethodName := ⟨RX11, "isKeptFor", "(II)Z"⟩
abbrev cX11_put : ByteArray := prog_13_method_19_code
def yX11_put : MethodName := ⟨RX11, "put", "(III)Z"⟩
abbrev cX11_firstOf : ByteArray := prog_13_method_20_code
def yX11_firstOf : MethodName := ⟨RX11, "firstOf", "(I)I"⟩
abbrev cX11_take : ByteArray := prog_13_method_21_code
def yX11_take : MethodName := ⟨RX11, "take", "(II)I"⟩
abbrev cX11_firstAgain : ByteArray := prog_13_method_22_code
def yX11_firstAgain : MethodName := ⟨RX11, "firstAgain", "(II)V"⟩
abbrev cX11_lesser : ByteArray := prog_13_method_23_code
def yX11_lesser : MethodName := ⟨RX11, "lesser", "(II)I"⟩
abbrev cX11_greater : ByteArray := prog_13_method_24_code
def yX11_greater : MethodName := ⟨RX11, "greater", "(II)I"⟩
abbrev cX11_move : ByteArray := prog_13_method_25_code
def yX11_move : MethodName := ⟨RX11, "move", "(III)I"⟩
abbrev cX11_laysAside : ByteArray := prog_13_method_26_code
def yX11_laysAside : MethodName := ⟨RX11, "laysAside", "(I)V"⟩
abbrev cX11_undoes : ByteArray := prog_13_method_27_code
def yX11_undoes : MethodName := ⟨RX11, "undoes", "(I)V"⟩
abbrev cX11_goesFromLine : ByteArray := prog_13_method_28_code
def yX11_goesFromLine : MethodName := ⟨RX11, "goesFromLine", "(I)V"⟩
abbrev cX11_tries : ByteArray := prog_13_method_29_code
def yX11_tries : MethodName := ⟨RX11, "tries", "(IIII)Z"⟩
abbrev cX11_serves : ByteArray := prog_13_method_30_code
def yX11_serves : MethodName := ⟨RX11, "serves", "()V"⟩
abbrev cX11_starts : ByteArray := prog_13_method_31_code
def yX11_starts : MethodName := ⟨RX11, "starts", "(II)V"⟩
abbrev cX11_takesBoth : ByteArray := prog_13_method_32_code
def yX11_takesBoth : MethodName := ⟨RX11, "takesBoth", "(I)V"⟩
abbrev cX11_takesOne : ByteArray := prog_13_method_33_code
def yX11_takesOne : MethodName := ⟨RX11, "takesOne", "(I)V"⟩
abbrev cX11_worksOn : ByteArray := prog_13_method_34_code
def yX11_worksOn : MethodName := ⟨RX11, "worksOn", "(I)V"⟩
abbrev cX11_madeOfAll : ByteArray := prog_13_method_35_code
def yX11_madeOfAll : MethodName := ⟨RX11, "madeOfAll", "()I"⟩
abbrev cX11_tick : ByteArray := prog_13_method_36_code
def yX11_tick : MethodName := ⟨RX11, "tick", "()V"⟩
abbrev cX11_begins : ByteArray := prog_13_method_37_code
def yX11_begins : MethodName := ⟨RX11, "begins", "(I)I"⟩
abbrev cX11_rooms : ByteArray := prog_13_method_38_code
def yX11_rooms : MethodName := ⟨RX11, "rooms", "(II)I"⟩
abbrev cX11_station : ByteArray := prog_13_method_39_code
def yX11_station : MethodName := ⟨RX11, "station", "(IIIII)I"⟩
abbrev cX11_isStation : ByteArray := prog_13_method_40_code
def yX11_isStation : MethodName := ⟨RX11, "isStation", "(I)Z"⟩
abbrev cX11_guards : ByteArray := prog_13_method_41_code
def yX11_guards : MethodName := ⟨RX11, "guards", "(II)I"⟩
abbrev cX11_ticks : ByteArray := prog_13_method_42_code
def yX11_ticks : MethodName := ⟨RX11, "ticks", "(I)I"⟩
abbrev cX11_puts : ByteArray := prog_13_method_43_code
def yX11_puts : MethodName := ⟨RX11, "puts", "(II)I"⟩
abbrev cX11_takes : ByteArray := prog_13_method_44_code
def yX11_takes : MethodName := ⟨RX11, "takes", "(I)I"⟩
abbrev cX11_moves : ByteArray := prog_13_method_45_code
def yX11_moves : MethodName := ⟨RX11, "moves", "(IIII)I"⟩
abbrev cX11_asks : ByteArray := prog_13_method_46_code
def yX11_asks : MethodName := ⟨RX11, "asks", "(IIII)I"⟩
abbrev cX11_cancels : ByteArray := prog_13_method_47_code
def yX11_cancels : MethodName := ⟨RX11, "cancels", "(I)I"⟩
abbrev cX11_queueOf : ByteArray := prog_13_method_48_code
def yX11_queueOf : MethodName := ⟨RX11, "queueOf", "(I)I"⟩
abbrev cX11_goesFromQueue : ByteArray := prog_13_method_49_code
def yX11_goesFromQueue : MethodName := ⟨RX11, "goesFromQueue", "(II)V"⟩
abbrev cX11_keeps : ByteArray := prog_13_method_50_code
def yX11_keeps : MethodName := ⟨RX11, "keeps", "(II)I"⟩
abbrev cX11_lets : ByteArray := prog_13_method_51_code
def yX11_lets : MethodName := ⟨RX11, "lets", "(II)I"⟩
abbrev cX11_quits : ByteArray := prog_13_method_52_code
def yX11_quits : MethodName := ⟨RX11, "quits", "(I)I"⟩
abbrev cX11_keeper : ByteArray := prog_13_method_53_code
def yX11_keeper : MethodName := ⟨RX11, "keeper", "(II)I"⟩
abbrev cX11_queue : ByteArray := prog_13_method_54_code
def yX11_queue : MethodName := ⟨RX11, "queue", "(II)I"⟩
abbrev cX11_isStuck : ByteArray := prog_13_method_55_code
def yX11_isStuck : MethodName := ⟨RX11, "isStuck", "(I)Z"⟩
abbrev cX11_stuck : ByteArray := prog_13_method_56_code
def yX11_stuck : MethodName := ⟨RX11, "stuck", "()I"⟩
abbrev cX11_ofBuffer : ByteArray := prog_13_method_57_code
def yX11_ofBuffer : MethodName := ⟨RX11, "ofBuffer", "(II)I"⟩
abbrev cX11_buffer : ByteArray := prog_13_method_58_code
def yX11_buffer : MethodName := ⟨RX11, "buffer", "(II)I"⟩
abbrev cX11_item : ByteArray := prog_13_method_59_code
def yX11_item : MethodName := ⟨RX11, "item", "(II)I"⟩
abbrev cX11_ofStation : ByteArray := prog_13_method_60_code
def yX11_ofStation : MethodName := ⟨RX11, "ofStation", "(II)I"⟩
abbrev cX11_of : ByteArray := prog_13_method_61_code
def yX11_of : MethodName := ⟨RX11, "of", "(II)I"⟩
abbrev cX11_worker : ByteArray := prog_13_method_62_code
def yX11_worker : MethodName := ⟨RX11, "worker", "(II)I"⟩
abbrev cX11_line : ByteArray := prog_13_method_63_code
def yX11_line : MethodName := ⟨RX11, "line", "(I)I"⟩
abbrev cX11_itemsOfAll : ByteArray := prog_13_method_64_code
def yX11_itemsOfAll : MethodName := ⟨RX11, "itemsOfAll", "()I"⟩
abbrev cX11_entriesOfAll : ByteArray := prog_13_method_65_code
def yX11_entriesOfAll : MethodName := ⟨RX11, "entriesOfAll", "()I"⟩
abbrev cX11_worksBy : ByteArray := prog_13_method_66_code
def yX11_worksBy : MethodName := ⟨RX11, "worksBy", "(I)I"⟩
abbrev cX11_works : ByteArray := prog_13_method_67_code
def yX11_works : MethodName := ⟨RX11, "works", "(I)I"⟩
abbrev cX11_type : ByteArray := prog_13_method_68_code
def yX11_type : MethodName := ⟨RX11, "type", "(I)I"⟩
abbrev cX11_clear : ByteArray := prog_13_method_69_code
def yX11_clear : MethodName := ⟨RX11, "clear", "()I"⟩
abbrev cX11_here : ByteArray := prog_13_method_70_code
def yX11_here : MethodName := ⟨RX11, "here", "()I"⟩
abbrev cX11_figure : ByteArray := prog_13_method_71_code
def yX11_figure : MethodName := ⟨RX11, "figure", "()I"⟩
abbrev cX11_comes : ByteArray := prog_13_method_72_code
def yX11_comes : MethodName := ⟨RX11, "comes", "(I)V"⟩
abbrev cX11_reads : ByteArray := prog_13_method_73_code
def yX11_reads : MethodName := ⟨RX11, "reads", "()Z"⟩
abbrev cX11_doesOne : ByteArray := prog_13_method_74_code
def yX11_doesOne : MethodName := ⟨RX11, "doesOne", "(I)Z"⟩
abbrev cX11_doesAll : ByteArray := prog_13_method_75_code
def yX11_doesAll : MethodName := ⟨RX11, "doesAll", "()I"⟩
abbrev cX11_does : ByteArray := prog_13_method_76_code
def yX11_does : MethodName := ⟨RX11, "does", "()I"⟩
abbrev cX11_toldOf : ByteArray := prog_13_method_77_code
def yX11_toldOf : MethodName := ⟨RX11, "toldOf", "(I)I"⟩
abbrev cX11_told : ByteArray := prog_13_method_78_code
def yX11_told : MethodName := ⟨RX11, "told", "(I)I"⟩
abbrev cX11_digest : ByteArray := prog_13_method_79_code
def yX11_digest : MethodName := ⟨RX11, "digest", "()J"⟩
def RJ9 : String := "java/lang/Math"
def TJ9 : u_T := fun k => match k with
  | _ => ("", "", "", false)
def tyJ9 : Nat → FieldType := fun k => match k with
  | _ => .int
abbrev wsJ90 : List Cond := u_ws RJ9 TJ9 0
theorem nmJ9 : ∀ a, a < 0 → ∀ b, b < 0 → a ≠ b → (TJ9 a).2.1 ≠ (TJ9 b).2.1 := by decide +kernel
theorem tyJ9_ok : ∀ k, k < 0 → parseFieldDescriptor (TJ9 k).2.2.1 = some (tyJ9 k) := by decide +kernel
abbrev cJ9_max_7cf53 : ByteArray := prog_14_method_65_code
def yJ9_max_7cf53 : MethodName := ⟨RJ9, "max", "(II)I"⟩
abbrev cJ9_min_7cf53 : ByteArray := prog_14_method_69_code
def yJ9_min_7cf53 : MethodName := ⟨RJ9, "min", "(II)I"⟩
def RJ10 : String := "java/lang/System"
def TJ10 : u_T := fun k => match k with
  | _ => ("", "", "", false)
def tyJ10 : Nat → FieldType := fun k => match k with
  | _ => .int
abbrev wsJ100 : List Cond := u_ws RJ10 TJ10 0
theorem nmJ10 : ∀ a, a < 0 → ∀ b, b < 0 → a ≠ b → (TJ10 a).2.1 ≠ (TJ10 b).2.1 := by decide +kernel
theorem tyJ10_ok : ∀ k, k < 0 → parseFieldDescriptor (TJ10 k).2.2.1 = some (tyJ10 k) := by decide +kernel
def RL : String := "GatedWorksLaw"
abbrev cL_law : ByteArray := code
def yL_law : MethodName := ⟨RL, "law", "([I)Z"⟩
abbrev vwCl : List vw_C := [(RX0, TX0, 9), (RX1, TX1, 9), (RX2, TX2, 4), (RX3, TX3, 3), (RX4, TX4, 1), (RX5, TX5, 2), (RX6, TX6, 8), (RX7, TX7, 12), (RX8, TX8, 2), (RX9, TX9, 4), (RX10, TX10, 8), (RX11, TX11, 17)]
end
section
/-! ===== the judgement: a heap as a function; one row an instruction ===== -/
abbrev gj_X : Type := Launch × va_G × (Nat → ClassId) × Nat
abbrev gj_M : Type := ByteArray × MethodName × Nat × Option FieldType × Nat × Nat
abbrev gj_S : Type := (Nat × List (Option (Option Nat))) ⊕ (Nat ⊕ (Nat × List (Option Nat)))
abbrev gj_V : Type := Nat → Nat → Int32
abbrev gj_H : Type := Nat → Option gj_S
abbrev gj_Q : Type := Option Value → Nat → gj_H → gj_V → Prop
/-- the fields of an object: its template says which are references; the ints come from x -/
def gj_fs : List (Option (Option Nat)) → (Nat → Int32) → Nat → List Value
  | [], _, _ => []
  | none :: t, x, i => .int (x i) :: gj_fs t x (i + 1)
  | some r :: t, x, i => va_rf r :: gj_fs t x (i + 1)
def gj_e (ids : Nat → ClassId) (s : Option gj_S) (x : Nat → Int32) : va_E := match s with
  | none => .inr (0, [])
  | some (.inl (ci, t)) => .inr (ci, gj_fs t x 0)
  | some (.inr (.inl n)) => .inl (ids 0, (n, .inl x))
  | some (.inr (.inr (k, L))) => .inl (ids k, (L.length, .inr (.inr (.inr (.inr (fun i => L.getD i none))))))
theorem gj_fs_at : ∀ (t : List (Option (Option Nat))) (x : Nat → Int32) (i k : Nat), (gj_fs t x i)[k]? = (t[k]?).map (fun o => match o with | none => Value.int (x (i + k)) | some r => va_rf r)
  | [], x, i, k => by simp [gj_fs]
  | none :: t, x, i, 0 => by simp [gj_fs]
  | some r :: t, x, i, 0 => by simp [gj_fs]
  | none :: t, x, i, k + 1 => by
    have := gj_fs_at t x (i + 1) k
    simp only [gj_fs, List.getElem?_cons_succ, this]
    rw [show i + 1 + k = i + (k + 1) by omega]
  | some r :: t, x, i, k + 1 => by
    have := gj_fs_at t x (i + 1) k
    simp only [gj_fs, List.getElem?_cons_succ, this]
    rw [show i + 1 + k = i + (k + 1) by omega]
theorem gj_fs_len : ∀ (t : List (Option (Option Nat))) (x : Nat → Int32) (i : Nat), (gj_fs t x i).length = t.length
  | [], x, i => rfl
  | none :: t, x, i => by simp [gj_fs, gj_fs_len t x (i + 1)]
  | some r :: t, x, i => by simp [gj_fs, gj_fs_len t x (i + 1)]
/-- an int field is set -/
theorem gj_fs_set (t : List (Option (Option Nat))) (x : Nat → Int32) (k : Nat) (z : Int32) (h : t[k]? = some none) : (gj_fs t x 0).set k (.int z) = gj_fs t (upd x k z) 0 := by
  apply List.ext_getElem?
  intro j
  rw [gj_fs_at, Nat.zero_add]
  by_cases hj : j = k
  · subst hj
    have hl : j < (gj_fs t x 0).length := by rw [gj_fs_len]; exact (List.getElem?_eq_some_iff.mp h).1
    rw [List.getElem?_set_self hl, h]
    simp [upd]
  · rw [List.getElem?_set_ne (Ne.symm hj), gj_fs_at, Nat.zero_add]
    cases ht : t[j]? with
    | none => rfl
    | some o => cases o <;> simp [upd, hj]
/-- a reference field is set -/
theorem gj_fs_setr (t : List (Option (Option Nat))) (x : Nat → Int32) (k : Nat) (r : Option Nat) (h : k < t.length) : (gj_fs t x 0).set k (va_rf r) = gj_fs (t.set k (some r)) x 0 := by
  apply List.ext_getElem?
  intro j
  rw [gj_fs_at, Nat.zero_add]
  by_cases hj : j = k
  · subst hj
    rw [List.getElem?_set_self (by rw [gj_fs_len]; exact h), List.getElem?_set_self h]
    rfl
  · rw [List.getElem?_set_ne (Ne.symm hj), List.getElem?_set_ne (Ne.symm hj), gj_fs_at, Nat.zero_add]
/-- the domain: all cells from the base on -/
abbrev gj_dom (b lim : Nat) : List Nat := List.range' b (lim - b)
theorem gj_dom_mem {b lim a : Nat} (h1 : b ≤ a) (h2 : a < lim) : a ∈ gj_dom b lim := by
  rw [List.mem_range'_1]; omega
abbrev gj_pl (X : gj_X) (lim : Nat) (σ : gj_H) (v : gj_V) : va_W := va_pl (gj_dom X.2.2.2 lim) (fun a => gj_e X.2.2.1 (σ a) (v a))
abbrev gj_A (X : gj_X) : Nat → Prop := fun q => X.2.2.2 ≤ q
def gj_rep (X : gj_X) (lim : Nat) (σ : gj_H) (v : gj_V) (H : Heap) : Prop :=
  X.2.2.2 ≤ lim ∧ H.size = lim ∧ (∀ a, (σ a).isSome = true → X.2.2.2 ≤ a ∧ a < lim) ∧ va_P X.2.1 vwCl ([] ++ gj_pl X lim σ v) H ∧ va_D (gj_A X) ([] ++ gj_pl X lim σ v)
theorem gj_rep.mem {X : gj_X} {lim : Nat} {σ : gj_H} {v : gj_V} {H : Heap} (h : gj_rep X lim σ v H) {a : Nat} {sh : gj_S} (hs : σ a = some sh) : a ∈ gj_dom X.2.2.2 lim := by
  have := h.2.2.1 a (by rw [hs]; rfl)
  exact gj_dom_mem this.1 this.2
theorem gj_rep.at {X : gj_X} {lim : Nat} {σ : gj_H} {v : gj_V} {H : Heap} (h : gj_rep X lim σ v H) {a : Nat} {sh : gj_S} (hs : σ a = some sh) : ∃ k : Nat, ([] ++ gj_pl X lim σ v)[k]? = some (a, gj_e X.2.2.1 (some sh) (v a)) := by
  obtain ⟨k, hk⟩ := va_pl_get (X := []) (f := fun a => gj_e X.2.2.1 (σ a) (v a)) (h.mem hs)
  exact ⟨k, by rw [hs] at hk; exact hk⟩
def gj_up (v : gj_V) (a : Nat) (f : Nat → Int32) : gj_V := va_up v a f
def gj_up2 (v : gj_V) (a k : Nat) (x : Int32) : gj_V := va_up v a (upd (v a) k x)
theorem gj_upf_eq {X : gj_X} {σ : gj_H} {v : gj_V} {a : Nat} {f : Nat → Int32} {sh : gj_S} (hs : σ a = some sh) : va_up (fun a => gj_e X.2.2.1 (σ a) (v a)) a (gj_e X.2.2.1 (some sh) f) = fun b => gj_e X.2.2.1 (σ b) (va_up v a f b) := by
  funext b
  by_cases hb : b = a
  · subst hb
    rw [va_up_self, va_up_self, hs]
  · rw [va_up_ne _ _ hb, va_up_ne _ _ hb]
theorem gj_ups_eq {X : gj_X} {σ : gj_H} {v : gj_V} {a : Nat} {sh : gj_S} : va_up (fun a => gj_e X.2.2.1 (σ a) (v a)) a (gj_e X.2.2.1 (some sh) (v a)) = fun b => gj_e X.2.2.1 (va_up σ a (some sh) b) (v b) := by
  funext b
  by_cases hb : b = a
  · subst hb
    rw [va_up_self, va_up_self]
  · rw [va_up_ne _ _ hb, va_up_ne _ _ hb]
/-! words -/
def gj_isNest : Cond → Bool
  | .fieldLinkNest .. => true
  | .methodLinkNest .. => true
  | _ => false
def gj_w : List Cond := lw_tbl.filter goodWord
def gj_nw : List Cond := lw_tbl.filter gj_isNest
theorem gj_w_in {w : Cond} (i : Nat) (h : lw_tbl[i]? = some w) (hg : goodWord w = true) : w ∈ gj_w := List.mem_filter.mpr ⟨List.mem_of_getElem? h, hg⟩
theorem gj_nw_in {w : Cond} (i : Nat) (h : lw_tbl[i]? = some w) (hg : gj_isNest w = true) : w ∈ gj_nw := List.mem_filter.mpr ⟨List.mem_of_getElem? h, hg⟩
theorem gj_nw_tab {w : Cond} (h : w ∈ gj_nw) : w.onTables = true := by
  have := (List.mem_filter.mp h).2
  cases w <;> first | rfl | (simp [gj_isNest] at this)
theorem gj_nw_warm {w : Cond} (h : w ∈ gj_nw) {s U : State} (hW : s.WarmedH U.vm) (hZ : va_Nw w s) : va_Nw w U := by
  have hn := (List.mem_filter.mp h).2
  cases w <;> first | exact va_Nw.warmF hW hZ | exact va_Nw.warmM hW hZ | (simp [gj_isNest] at hn)
def gj_ao : List String := [RX0, RX1, RX4, RX5, RX7, RX9]
abbrev gj_tys (ids : Nat → ClassId) : List (ClassId × FieldType) := [(ids 0, .int), (ids 1, .object RX0), (ids 2, .object RX1), (ids 3, .object RX4), (ids 4, .object RX5), (ids 5, .object RX7), (ids 6, .object RX9)]
def gj_K (X : gj_X) (U : State) : Prop := va_K X.2.1 vwCl (gj_tys X.2.2.1) U ∧ (∀ w ∈ gj_nw, va_Nw w U) ∧ ∀ C ∈ gj_ao, va_AO C U
theorem gj_K.warm {X : gj_X} {s U : State} (hW : s.WarmedH U.vm) (h : gj_K X s) : gj_K X U := ⟨va_K.moved hW.alike h.1, fun w hw => gj_nw_warm hw hW (h.2.1 w hw), fun C hC => va_AO.moved hW.alike (h.2.2 C hC)⟩
theorem gj_K.same {X : gj_X} {s U : State} (hv : s.vm = U.vm) (h : gj_K X s) : gj_K X U := ⟨va_K.moved (by rw [hv]; exact Vm.Alike.refl _) h.1, fun w hw => va_Nw.same (gj_nw_tab hw) hv (h.2.1 w hw), fun C hC => va_AO.moved (by rw [hv]; exact Vm.Alike.refl _) (h.2.2 C hC)⟩
def gj_R (d : Nat) (M : gj_M) : Room := { frames := d + 1, cells := M.2.2.2.2.1, slots := M.2.2.2.2.2, locals := 29 * d + 40 }
def gj_ws (M : gj_M) : List Cond := .code M.2.1 M.1 M.2.2.1 M.2.2.2.1 :: gj_w
def gj_F (X : gj_X) (Q : gj_Q) : Array Value → State → Outcome → State → Prop := fun _ st oc t => (∃ (r : Option Value) (lim : Nat) (σ : gj_H) (v : gj_V), oc = .returned r ∧ Q r lim σ v ∧ gj_rep X lim σ v t.heap) ∧ va_F (gj_A X) st t
/-- a method's contract -/
def gj_E (X : gj_X) (d : Nat) (M : gj_M) (as : List Value) (lim : Nat) (σ : gj_H) (v : gj_V) (Q : gj_Q) : Prop :=
  Met X.1 M.2.1 (gj_ws M) (gj_R d M) (va_Pc as (fun U => gj_rep X lim σ v U.heap ∧ gj_K X U)) (gj_F X Q) M.2.2.2.2.1 M.2.2.2.2.2 (gj_A X)
def gj_C (X : gj_X) (M : gj_M) (p : Program) (s : State) (m : MethodId) (args : Array Value) (meth : Method) (c : Code) : Prop :=
  p.tables.exec = Jvm.exec ∧ c.code = M.1 ∧ c.maxLocals = M.2.2.1 ∧ meth.sig.returnType = M.2.2.2.1 ∧ meth.locks = false ∧ s.vm.findClass M.2.1.cls = some m.cls ∧ (∀ w ∈ gj_w, w.before args s = true) ∧ gj_K X s ∧ X.2.2.2 ≤ s.heap.size ∧ meth.name = M.2.1.name
/-! locals by their slots -/
def gj_L (L : List (Option Value)) : List (Nat × Value) := (List.range L.length).filterMap (fun i => (L[i]?.join).map (fun v => (i, v)))
theorem gj_L_mem {L : List (Option Value)} {i : Nat} {v : Value} : (i, v) ∈ gj_L L ↔ L[i]? = some (some v) := by
  unfold gj_L
  rw [List.mem_filterMap]
  constructor
  · rintro ⟨j, hj, h⟩
    cases hL : L[j]? with
    | none => rw [hL] at h; simp at h
    | some o =>
      cases o with
      | none => rw [hL] at h; simp at h
      | some w =>
        rw [hL] at h
        simp at h
        obtain ⟨rfl, rfl⟩ := h
        exact hL
  · intro h
    exact ⟨i, List.mem_range.mpr (List.getElem?_eq_some_iff.mp h).1, by rw [h]; rfl⟩
theorem gj_lat {ls : Array Slot} {nL : Nat} {L : List (Option Value)} (h : lv_has ls nL (gj_L L)) {i : Nat} {v : Value} (hl : L[i]? = some (some v)) : ls[i]? = some (.val v) := h.2.2 (i, v) (gj_L_mem.mpr hl)
def gj_ok1 (L : List (Option Value)) (i : Nat) : Bool := match i with
  | 0 => true
  | j + 1 => match L[j]? with
    | some (some (.long _)) => false
    | some (some (.double _)) => false
    | _ => true
theorem gj_ok1_spec {L : List (Option Value)} {i j : Nat} {w : Value} (h : gj_ok1 L i = true) (hj : L[j]? = some (some w)) (e : j + 1 = i) : ¬ w.category = 2 := by
  subst e
  simp only [gj_ok1, hj] at h
  cases w <;> simp_all [Value.category]
theorem gj_st1 {ls : Array Slot} {nL : Nat} {L : List (Option Value)} {i : Nat} {v : Value} (hok : gj_ok1 L i = true) (h : lv_has ls nL ((i, v) :: (gj_L L).filter (fun q => !(q.1 == i) && !(q.1 + 1 == i && q.2.category == 2)))) : lv_has ls nL (gj_L (L.set i (some v))) := by
  refine ⟨h.1, h.2.1, fun q hq => ?_⟩
  obtain ⟨j, w⟩ := q
  have hm := gj_L_mem.mp hq
  by_cases hj : j = i
  · subst hj
    have hl := (List.getElem?_eq_some_iff.mp hm).1
    rw [List.length_set] at hl
    rw [List.getElem?_set_self hl] at hm
    cases hm
    exact h.2.2 _ List.mem_cons_self
  · rw [List.getElem?_set_ne (Ne.symm hj)] at hm
    refine h.2.2 (j, w) (List.mem_cons_of_mem _ (List.mem_filter.mpr ⟨gj_L_mem.mpr hm, ?_⟩))
    have hc : j + 1 = i → ¬ w.category = 2 := gj_ok1_spec hok hm
    simp only [Bool.and_eq_true, Bool.not_eq_true', beq_eq_false_iff_ne, ne_eq, Bool.and_eq_false_iff]
    refine ⟨hj, ?_⟩
    by_cases e : j + 1 = i
    · exact Or.inr (hc e)
    · exact Or.inl e
theorem gj_st2 {ls : Array Slot} {nL : Nat} {L : List (Option Value)} {i : Nat} {v : Value} (hok : gj_ok1 L i = true) (h : lv_has ls nL ((i, v) :: (gj_L L).filter (fun q => !(q.1 == i) && (!(q.1 == i + 1) && !(q.1 + 1 == i && q.2.category == 2))))) : lv_has ls nL (gj_L ((L.set i (some v)).set (i + 1) none)) := by
  refine ⟨h.1, h.2.1, fun q hq => ?_⟩
  obtain ⟨j, w⟩ := q
  have hm := gj_L_mem.mp hq
  by_cases hj1 : j = i + 1
  · subst hj1
    have hl := (List.getElem?_eq_some_iff.mp hm).1
    rw [List.length_set] at hl
    rw [List.getElem?_set_self hl] at hm
    cases hm
  · rw [List.getElem?_set_ne (Ne.symm hj1)] at hm
    by_cases hj : j = i
    · subst hj
      have hl := (List.getElem?_eq_some_iff.mp hm).1
      rw [List.length_set] at hl
      rw [List.getElem?_set_self hl] at hm
      cases hm
      exact h.2.2 _ List.mem_cons_self
    · rw [List.getElem?_set_ne (Ne.symm hj)] at hm
      refine h.2.2 (j, w) (List.mem_cons_of_mem _ (List.mem_filter.mpr ⟨gj_L_mem.mpr hm, ?_⟩))
      have hc : j + 1 = i → ¬ w.category = 2 := gj_ok1_spec hok hm
      simp only [Bool.and_eq_true, Bool.not_eq_true', beq_eq_false_iff_ne, ne_eq, Bool.and_eq_false_iff]
      refine ⟨hj, hj1, ?_⟩
      by_cases e : j + 1 = i
      · exact Or.inr (hc e)
      · exact Or.inl e
/-- the judgement -/
def gj_G (X : gj_X) (d : Nat) (M : gj_M) (Q : gj_Q) (lim : Nat) (σ : gj_H) (v : gj_V) (kc ks pc : Nat) (L : List (Option Value)) (st : List Value) : Prop :=
  ∀ (p : Program) (e : Env) (s : State) (m : MethodId) (args : Array Value) (below : List Frame) (meth : Method) (c : Code) (H : Heap) (locs : List Loc) (ls : Array Slot),
    gj_C X M p s m args meth c → gj_rep X lim σ v H → va_S (gj_A X) s.heap H locs → lv_has ls M.2.2.1 (gj_L L) →
    W p X.1 e (gj_R d M) s m args below meth c H locs kc ks (MQ below (gj_F X Q) args s M.2.2.2.2.1 M.2.2.2.2.2 (gj_A X)) (F0 m pc ls st)
section GJ
variable {X : gj_X} {d : Nat} {M : gj_M} {Q : gj_Q} {lim : Nat} {σ : gj_H} {v : gj_V} {kc ks pc q : Nat} {L L' : List (Option Value)} {st : List Value}
theorem gj_G.of (k : ∀ (p : Program) (e : Env) (s : State) (m : MethodId) (args : Array Value) (below : List Frame) (meth : Method) (c : Code) (H : Heap) (locs : List Loc) (ls : Array Slot),
    gj_C X M p s m args meth c → gj_rep X lim σ v H → va_S (gj_A X) s.heap H locs → lv_has ls M.2.2.1 (gj_L L) →
    W p X.1 e (gj_R d M) s m args below meth c H locs kc ks (MQ below (gj_F X Q) args s M.2.2.2.2.1 M.2.2.2.2.2 (gj_A X)) (F0 m pc ls st)) : gj_G X d M Q lim σ v kc ks pc L st := k
theorem g_iload_n {n : Fin 4} {x : Int32} (hd : decode M.1 pc = .ok (.iload_n n, 1)) (hl : L[n.val]? = some (some (.int x))) (hq : pc + 1 = q) (k : gj_G X d M Q lim σ v kc ks q L (.int x :: st)) : gj_G X d M Q lim σ v kc ks pc L st := by
  subst hq
  intro p e s m args below meth c H locs ls hC hR hS hL
  exact lv_iload_n hC.1 hC.2.1 hd rfl (gj_lat hL hl) (k p e s m args below meth c H locs ls hC hR hS hL)
theorem g_iload {i : Nat} {x : Int32} (hd : decode M.1 pc = .ok (.iload i, 2)) (hl : L[i]? = some (some (.int x))) (hq : pc + 2 = q) (k : gj_G X d M Q lim σ v kc ks q L (.int x :: st)) : gj_G X d M Q lim σ v kc ks pc L st := by
  subst hq
  intro p e s m args below meth c H locs ls hC hR hS hL
  exact lv_iload hC.1 hC.2.1 hd (gj_lat hL hl) (k p e s m args below meth c H locs ls hC hR hS hL)
theorem g_lload_n {n : Fin 4} {x : Int64} (hd : decode M.1 pc = .ok (.lload_n n, 1)) (hl : L[n.val]? = some (some (.long x))) (hq : pc + 1 = q) (k : gj_G X d M Q lim σ v kc ks q L (.long x :: st)) : gj_G X d M Q lim σ v kc ks pc L st := by
  subst hq
  intro p e s m args below meth c H locs ls hC hR hS hL
  exact lv_lload_n hC.1 hC.2.1 hd rfl (gj_lat hL hl) (k p e s m args below meth c H locs ls hC hR hS hL)
theorem g_aload_n {n : Fin 4} {x : Nat} (hd : decode M.1 pc = .ok (.aload_n n, 1)) (hl : L[n.val]? = some (some (.ref x))) (hq : pc + 1 = q) (k : gj_G X d M Q lim σ v kc ks q L (.ref x :: st)) : gj_G X d M Q lim σ v kc ks pc L st := by
  subst hq
  intro p e s m args below meth c H locs ls hC hR hS hL
  exact lv_aload_n hC.1 hC.2.1 hd rfl (gj_lat hL hl) (k p e s m args below meth c H locs ls hC hR hS hL)
theorem g_aload {i x : Nat} (hd : decode M.1 pc = .ok (.aload i, 2)) (hl : L[i]? = some (some (.ref x))) (hq : pc + 2 = q) (k : gj_G X d M Q lim σ v kc ks q L (.ref x :: st)) : gj_G X d M Q lim σ v kc ks pc L st := by
  subst hq
  intro p e s m args below meth c H locs ls hC hR hS hL
  exact lv_aload hC.1 hC.2.1 hd (gj_lat hL hl) (k p e s m args below meth c H locs ls hC hR hS hL)
theorem g_istore_n {n : Fin 4} {x : Int32} (hd : decode M.1 pc = .ok (.istore_n n, 1)) (hi : Nat.blt n.val M.2.2.1 = true) (hok : gj_ok1 L n.val = true) (hl : L.set n.val (some (.int x)) = L') (hq : pc + 1 = q) (k : gj_G X d M Q lim σ v kc ks q L' st) : gj_G X d M Q lim σ v kc ks pc L (.int x :: st) := by
  subst hq; subst hl
  intro p e s m args below meth c H locs ls hC hR hS hL
  exact lv_istore_n hC.1 hC.2.1 hd rfl hL (Nat.blt_eq.mp hi) rfl (fun ls' h => k p e s m args below meth c H locs ls' hC hR hS (gj_st1 hok h))
theorem g_istore {i : Nat} {x : Int32} (hd : decode M.1 pc = .ok (.istore i, 2)) (hi : Nat.blt i M.2.2.1 = true) (hok : gj_ok1 L i = true) (hl : L.set i (some (.int x)) = L') (hq : pc + 2 = q) (k : gj_G X d M Q lim σ v kc ks q L' st) : gj_G X d M Q lim σ v kc ks pc L (.int x :: st) := by
  subst hq; subst hl
  intro p e s m args below meth c H locs ls hC hR hS hL
  exact lv_istore hC.1 hC.2.1 hd hL (Nat.blt_eq.mp hi) rfl (fun ls' h => k p e s m args below meth c H locs ls' hC hR hS (gj_st1 hok h))
theorem g_astore_n {n : Fin 4} {x : Nat} (hd : decode M.1 pc = .ok (.astore_n n, 1)) (hi : Nat.blt n.val M.2.2.1 = true) (hok : gj_ok1 L n.val = true) (hl : L.set n.val (some (.ref x)) = L') (hq : pc + 1 = q) (k : gj_G X d M Q lim σ v kc ks q L' st) : gj_G X d M Q lim σ v kc ks pc L (.ref x :: st) := by
  subst hq; subst hl
  intro p e s m args below meth c H locs ls hC hR hS hL
  exact lv_astore_n hC.1 hC.2.1 hd rfl hL (Nat.blt_eq.mp hi) rfl (fun ls' h => k p e s m args below meth c H locs ls' hC hR hS (gj_st1 hok h))
theorem g_astore {i x : Nat} (hd : decode M.1 pc = .ok (.astore i, 2)) (hi : Nat.blt i M.2.2.1 = true) (hok : gj_ok1 L i = true) (hl : L.set i (some (.ref x)) = L') (hq : pc + 2 = q) (k : gj_G X d M Q lim σ v kc ks q L' st) : gj_G X d M Q lim σ v kc ks pc L (.ref x :: st) := by
  subst hq; subst hl
  intro p e s m args below meth c H locs ls hC hR hS hL
  exact lv_astore hC.1 hC.2.1 hd hL (Nat.blt_eq.mp hi) rfl (fun ls' h => k p e s m args below meth c H locs ls' hC hR hS (gj_st1 hok h))
theorem g_lstore_n {n : Fin 4} {x : Int64} (hd : decode M.1 pc = .ok (.lstore_n n, 1)) (hi : Nat.blt (n.val + 1) M.2.2.1 = true) (hok : gj_ok1 L n.val = true) (hl : (L.set n.val (some (.long x))).set (n.val + 1) none = L') (hq : pc + 1 = q) (k : gj_G X d M Q lim σ v kc ks q L' st) : gj_G X d M Q lim σ v kc ks pc L (.long x :: st) := by
  subst hq; subst hl
  intro p e s m args below meth c H locs ls hC hR hS hL
  exact lv_lstore_n hC.1 hC.2.1 hd rfl hL (Nat.blt_eq.mp hi) rfl (fun ls' h => k p e s m args below meth c H locs ls' hC hR hS (gj_st2 hok h))
theorem g_iinc {i : Nat} {n : Int} {x y : Int32} (hd : decode M.1 pc = .ok (.iinc i n, 3)) (hx : L[i]? = some (some (.int x))) (hv : x + Int32.ofInt n = y) (hi : Nat.blt i M.2.2.1 = true) (hok : gj_ok1 L i = true) (hl : L.set i (some (.int y)) = L') (hq : pc + 3 = q) (k : gj_G X d M Q lim σ v kc ks q L' st) : gj_G X d M Q lim σ v kc ks pc L st := by
  subst hq; subst hl
  intro p e s m args below meth c H locs ls hC hR hS hL
  obtain ⟨z, hz⟩ := List.getElem?_of_mem (gj_L_mem.mpr hx)
  exact lv_iinc hC.1 hC.2.1 hd hL hz hv (Nat.blt_eq.mp hi) rfl (fun ls' h => k p e s m args below meth c H locs ls' hC hR hS (gj_st1 hok h))
theorem g_iconst {n : Int} {x : Int32} (hd : decode M.1 pc = .ok (.iconst n, 1)) (hv : Int32.ofInt n = x) (hq : pc + 1 = q) (k : gj_G X d M Q lim σ v kc ks q L (.int x :: st)) : gj_G X d M Q lim σ v kc ks pc L st := by
  subst hq
  intro p e s m args below meth c H locs ls hC hR hS hL
  exact lv_iconst hC.1 hC.2.1 hd hv (k p e s m args below meth c H locs ls hC hR hS hL)
theorem g_bipush {n : Int} {x : Int32} (hd : decode M.1 pc = .ok (.bipush n, 2)) (hv : (Int8.ofInt n).toInt32 = x) (hq : pc + 2 = q) (k : gj_G X d M Q lim σ v kc ks q L (.int x :: st)) : gj_G X d M Q lim σ v kc ks pc L st := by
  subst hq
  intro p e s m args below meth c H locs ls hC hR hS hL
  exact lv_bipush hC.1 hC.2.1 hd hv (k p e s m args below meth c H locs ls hC hR hS hL)
theorem g_sipush {n : Int} {x : Int32} (hd : decode M.1 pc = .ok (.sipush n, 3)) (hv : (Int16.ofInt n).toInt32 = x) (hq : pc + 3 = q) (k : gj_G X d M Q lim σ v kc ks q L (.int x :: st)) : gj_G X d M Q lim σ v kc ks pc L st := by
  subst hq
  intro p e s m args below meth c H locs ls hC hR hS hL
  exact lv_sipush hC.1 hC.2.1 hd hv (k p e s m args below meth c H locs ls hC hR hS hL)
theorem g_ldc2 {i : Nat} {x : Int64} (hd : decode M.1 pc = .ok (.ldc2_w i, 3)) (hw : Cond.constantLong M.2.1.cls i x ∈ gj_w) (hq : pc + 3 = q) (k : gj_G X d M Q lim σ v kc ks q L (.long x :: st)) : gj_G X d M Q lim σ v kc ks pc L st := by
  subst hq
  intro p e s m args below meth c H locs ls hC hR hS hL
  exact lv_ldc2 hC.1 hC.2.1 hC.2.2.2.2.2.1 (hC.2.2.2.2.2.2.1 _ hw) hd (k p e s m args below meth c H locs ls hC hR hS hL)
theorem g_iadd {x y : Int32} (hd : decode M.1 pc = .ok (.iadd, 1)) (hq : pc + 1 = q) (k : gj_G X d M Q lim σ v kc ks q L (.int (x + y) :: st)) : gj_G X d M Q lim σ v kc ks pc L (.int y :: .int x :: st) := by
  subst hq
  intro p e s m args below meth c H locs ls hC hR hS hL
  exact lv_iadd hC.1 hC.2.1 hd (k p e s m args below meth c H locs ls hC hR hS hL)
theorem g_isub {x y : Int32} (hd : decode M.1 pc = .ok (.isub, 1)) (hq : pc + 1 = q) (k : gj_G X d M Q lim σ v kc ks q L (.int (x - y) :: st)) : gj_G X d M Q lim σ v kc ks pc L (.int y :: .int x :: st) := by
  subst hq
  intro p e s m args below meth c H locs ls hC hR hS hL
  exact lv_isub hC.1 hC.2.1 hd (k p e s m args below meth c H locs ls hC hR hS hL)
theorem g_imul {x y : Int32} (hd : decode M.1 pc = .ok (.imul, 1)) (hq : pc + 1 = q) (k : gj_G X d M Q lim σ v kc ks q L (.int (x * y) :: st)) : gj_G X d M Q lim σ v kc ks pc L (.int y :: .int x :: st) := by
  subst hq
  intro p e s m args below meth c H locs ls hC hR hS hL
  exact lv_imul hC.1 hC.2.1 hd (k p e s m args below meth c H locs ls hC hR hS hL)
theorem g_irem {x y : Int32} (hd : decode M.1 pc = .ok (.irem, 1)) (hy : ¬ y = 0) (hq : pc + 1 = q) (k : gj_G X d M Q lim σ v kc ks q L (.int (x - x / y * y) :: st)) : gj_G X d M Q lim σ v kc ks pc L (.int y :: .int x :: st) := by
  subst hq
  intro p e s m args below meth c H locs ls hC hR hS hL
  exact lv_irem hC.1 hC.2.1 hd hy (k p e s m args below meth c H locs ls hC hR hS hL)
theorem g_iand {x y : Int32} (hd : decode M.1 pc = .ok (.iand, 1)) (hq : pc + 1 = q) (k : gj_G X d M Q lim σ v kc ks q L (.int (x &&& y) :: st)) : gj_G X d M Q lim σ v kc ks pc L (.int y :: .int x :: st) := by
  subst hq
  intro p e s m args below meth c H locs ls hC hR hS hL
  exact lv_iand hC.1 hC.2.1 hd (k p e s m args below meth c H locs ls hC hR hS hL)
theorem g_ior {x y : Int32} (hd : decode M.1 pc = .ok (.ior, 1)) (hq : pc + 1 = q) (k : gj_G X d M Q lim σ v kc ks q L (.int (x ||| y) :: st)) : gj_G X d M Q lim σ v kc ks pc L (.int y :: .int x :: st) := by
  subst hq
  intro p e s m args below meth c H locs ls hC hR hS hL
  exact lv_ior hC.1 hC.2.1 hd (k p e s m args below meth c H locs ls hC hR hS hL)
theorem g_ishl {x y : Int32} (hd : decode M.1 pc = .ok (.ishl, 1)) (hq : pc + 1 = q) (k : gj_G X d M Q lim σ v kc ks q L (.int (x <<< (y &&& 31)) :: st)) : gj_G X d M Q lim σ v kc ks pc L (.int y :: .int x :: st) := by
  subst hq
  intro p e s m args below meth c H locs ls hC hR hS hL
  exact lv_ishl hC.1 hC.2.1 hd (k p e s m args below meth c H locs ls hC hR hS hL)
theorem g_ladd {x y : Int64} (hd : decode M.1 pc = .ok (.ladd, 1)) (hq : pc + 1 = q) (k : gj_G X d M Q lim σ v kc ks q L (.long (x + y) :: st)) : gj_G X d M Q lim σ v kc ks pc L (.long y :: .long x :: st) := by
  subst hq
  intro p e s m args below meth c H locs ls hC hR hS hL
  exact lv_ladd hC.1 hC.2.1 hd (k p e s m args below meth c H locs ls hC hR hS hL)
theorem g_lmul {x y : Int64} (hd : decode M.1 pc = .ok (.lmul, 1)) (hq : pc + 1 = q) (k : gj_G X d M Q lim σ v kc ks q L (.long (x * y) :: st)) : gj_G X d M Q lim σ v kc ks pc L (.long y :: .long x :: st) := by
  subst hq
  intro p e s m args below meth c H locs ls hC hR hS hL
  exact lv_lmul hC.1 hC.2.1 hd (k p e s m args below meth c H locs ls hC hR hS hL)
theorem g_i2l {x : Int32} (hd : decode M.1 pc = .ok (.i2l, 1)) (hq : pc + 1 = q) (k : gj_G X d M Q lim σ v kc ks q L (.long x.toInt64 :: st)) : gj_G X d M Q lim σ v kc ks pc L (.int x :: st) := by
  subst hq
  intro p e s m args below meth c H locs ls hC hR hS hL
  exact lv_i2l hC.1 hC.2.1 hd rfl (k p e s m args below meth c H locs ls hC hR hS hL)
theorem g_dup {x : Value} (hd : decode M.1 pc = .ok (.dup, 1)) (hc : x.category = 1) (hq : pc + 1 = q) (k : gj_G X d M Q lim σ v kc ks q L (x :: x :: st)) : gj_G X d M Q lim σ v kc ks pc L (x :: st) := by
  subst hq
  intro p e s m args below meth c H locs ls hC hR hS hL
  exact lv_dup hC.1 hC.2.1 hd hc (k p e s m args below meth c H locs ls hC hR hS hL)
theorem g_dup2 {x y : Value} (hd : decode M.1 pc = .ok (.dup2, 1)) (hc : x.category = 1) (hc2 : y.category = 1) (hq : pc + 1 = q) (k : gj_G X d M Q lim σ v kc ks q L (x :: y :: x :: y :: st)) : gj_G X d M Q lim σ v kc ks pc L (x :: y :: st) := by
  subst hq
  intro p e s m args below meth c H locs ls hC hR hS hL
  exact lv_dup2_11 hC.1 hC.2.1 hd hc hc2 (k p e s m args below meth c H locs ls hC hR hS hL)
theorem g_pop {x : Value} (hd : decode M.1 pc = .ok (.pop, 1)) (hc : x.category = 1) (hq : pc + 1 = q) (k : gj_G X d M Q lim σ v kc ks q L st) : gj_G X d M Q lim σ v kc ks pc L (x :: st) := by
  subst hq
  intro p e s m args below meth c H locs ls hC hR hS hL
  exact lv_pop hC.1 hC.2.1 hd hc (k p e s m args below meth c H locs ls hC hR hS hL)
theorem g_goto {o : Int} (hd : decode M.1 pc = .ok (.goto o, 3)) (hq : (pc : Int) + o = (q : Int)) (k : gj_G X d M Q lim σ v kc ks q L st) : gj_G X d M Q lim σ v kc ks pc L st := by
  intro p e s m args below meth c H locs ls hC hR hS hL
  exact lv_goto hC.1 hC.2.1 hd hq (k p e s m args below meth c H locs ls hC hR hS hL)
variable {x y : Int32} {o : Int} {t : Nat}
theorem g_ifeq (hd : decode M.1 pc = .ok (.ifCond .eq o, 3)) (ht : (pc : Int) + o = (t : Int)) (hq : pc + 3 = q) (kt : x = 0 → gj_G X d M Q lim σ v kc ks t L st) (kf : ¬ x = 0 → gj_G X d M Q lim σ v kc ks q L st) : gj_G X d M Q lim σ v kc ks pc L (.int x :: st) := by
  subst hq
  intro p e s m args below meth c H locs ls hC hR hS hL
  exact lv_if_eq hC.1 hC.2.1 hd ht (fun h => kt h p e s m args below meth c H locs ls hC hR hS hL) (fun h => kf h p e s m args below meth c H locs ls hC hR hS hL)
theorem g_ifne (hd : decode M.1 pc = .ok (.ifCond .ne o, 3)) (ht : (pc : Int) + o = (t : Int)) (hq : pc + 3 = q) (kt : ¬ x = 0 → gj_G X d M Q lim σ v kc ks t L st) (kf : x = 0 → gj_G X d M Q lim σ v kc ks q L st) : gj_G X d M Q lim σ v kc ks pc L (.int x :: st) := by
  subst hq
  intro p e s m args below meth c H locs ls hC hR hS hL
  exact lv_if_ne hC.1 hC.2.1 hd ht (fun h => kt (by simpa using h) p e s m args below meth c H locs ls hC hR hS hL) (fun h => kf (by simpa using h) p e s m args below meth c H locs ls hC hR hS hL)
theorem g_iflt (hd : decode M.1 pc = .ok (.ifCond .lt o, 3)) (ht : (pc : Int) + o = (t : Int)) (hq : pc + 3 = q) (kt : x < 0 → gj_G X d M Q lim σ v kc ks t L st) (kf : ¬ x < 0 → gj_G X d M Q lim σ v kc ks q L st) : gj_G X d M Q lim σ v kc ks pc L (.int x :: st) := by
  subst hq
  intro p e s m args below meth c H locs ls hC hR hS hL
  exact lv_if_lt hC.1 hC.2.1 hd ht (fun h => kt h p e s m args below meth c H locs ls hC hR hS hL) (fun h => kf h p e s m args below meth c H locs ls hC hR hS hL)
theorem g_ifge (hd : decode M.1 pc = .ok (.ifCond .ge o, 3)) (ht : (pc : Int) + o = (t : Int)) (hq : pc + 3 = q) (kt : 0 ≤ x → gj_G X d M Q lim σ v kc ks t L st) (kf : ¬ 0 ≤ x → gj_G X d M Q lim σ v kc ks q L st) : gj_G X d M Q lim σ v kc ks pc L (.int x :: st) := by
  subst hq
  intro p e s m args below meth c H locs ls hC hR hS hL
  exact lv_if_ge hC.1 hC.2.1 hd ht (fun h => kt h p e s m args below meth c H locs ls hC hR hS hL) (fun h => kf h p e s m args below meth c H locs ls hC hR hS hL)
theorem g_ifgt (hd : decode M.1 pc = .ok (.ifCond .gt o, 3)) (ht : (pc : Int) + o = (t : Int)) (hq : pc + 3 = q) (kt : 0 < x → gj_G X d M Q lim σ v kc ks t L st) (kf : ¬ 0 < x → gj_G X d M Q lim σ v kc ks q L st) : gj_G X d M Q lim σ v kc ks pc L (.int x :: st) := by
  subst hq
  intro p e s m args below meth c H locs ls hC hR hS hL
  exact lv_if_gt hC.1 hC.2.1 hd ht (fun h => kt h p e s m args below meth c H locs ls hC hR hS hL) (fun h => kf h p e s m args below meth c H locs ls hC hR hS hL)
theorem g_ifle (hd : decode M.1 pc = .ok (.ifCond .le o, 3)) (ht : (pc : Int) + o = (t : Int)) (hq : pc + 3 = q) (kt : x ≤ 0 → gj_G X d M Q lim σ v kc ks t L st) (kf : ¬ x ≤ 0 → gj_G X d M Q lim σ v kc ks q L st) : gj_G X d M Q lim σ v kc ks pc L (.int x :: st) := by
  subst hq
  intro p e s m args below meth c H locs ls hC hR hS hL
  exact lv_if_le hC.1 hC.2.1 hd ht (fun h => kt h p e s m args below meth c H locs ls hC hR hS hL) (fun h => kf h p e s m args below meth c H locs ls hC hR hS hL)
theorem g_icmpeq (hd : decode M.1 pc = .ok (.if_icmp .eq o, 3)) (ht : (pc : Int) + o = (t : Int)) (hq : pc + 3 = q) (kt : x = y → gj_G X d M Q lim σ v kc ks t L st) (kf : ¬ x = y → gj_G X d M Q lim σ v kc ks q L st) : gj_G X d M Q lim σ v kc ks pc L (.int y :: .int x :: st) := by
  subst hq
  intro p e s m args below meth c H locs ls hC hR hS hL
  exact lv_icmp_eq hC.1 hC.2.1 hd ht (fun h => kt h p e s m args below meth c H locs ls hC hR hS hL) (fun h => kf h p e s m args below meth c H locs ls hC hR hS hL)
theorem g_icmpne (hd : decode M.1 pc = .ok (.if_icmp .ne o, 3)) (ht : (pc : Int) + o = (t : Int)) (hq : pc + 3 = q) (kt : ¬ x = y → gj_G X d M Q lim σ v kc ks t L st) (kf : x = y → gj_G X d M Q lim σ v kc ks q L st) : gj_G X d M Q lim σ v kc ks pc L (.int y :: .int x :: st) := by
  subst hq
  intro p e s m args below meth c H locs ls hC hR hS hL
  exact lv_icmp_ne hC.1 hC.2.1 hd ht (fun h => kt (by simpa using h) p e s m args below meth c H locs ls hC hR hS hL) (fun h => kf (by simpa using h) p e s m args below meth c H locs ls hC hR hS hL)
theorem g_icmplt (hd : decode M.1 pc = .ok (.if_icmp .lt o, 3)) (ht : (pc : Int) + o = (t : Int)) (hq : pc + 3 = q) (kt : x < y → gj_G X d M Q lim σ v kc ks t L st) (kf : ¬ x < y → gj_G X d M Q lim σ v kc ks q L st) : gj_G X d M Q lim σ v kc ks pc L (.int y :: .int x :: st) := by
  subst hq
  intro p e s m args below meth c H locs ls hC hR hS hL
  exact lv_icmp_lt hC.1 hC.2.1 hd ht (fun h => kt h p e s m args below meth c H locs ls hC hR hS hL) (fun h => kf h p e s m args below meth c H locs ls hC hR hS hL)
theorem g_icmpge (hd : decode M.1 pc = .ok (.if_icmp .ge o, 3)) (ht : (pc : Int) + o = (t : Int)) (hq : pc + 3 = q) (kt : y ≤ x → gj_G X d M Q lim σ v kc ks t L st) (kf : ¬ y ≤ x → gj_G X d M Q lim σ v kc ks q L st) : gj_G X d M Q lim σ v kc ks pc L (.int y :: .int x :: st) := by
  subst hq
  intro p e s m args below meth c H locs ls hC hR hS hL
  exact lv_icmp_ge hC.1 hC.2.1 hd ht (fun h => kt h p e s m args below meth c H locs ls hC hR hS hL) (fun h => kf h p e s m args below meth c H locs ls hC hR hS hL)
theorem g_icmpgt (hd : decode M.1 pc = .ok (.if_icmp .gt o, 3)) (ht : (pc : Int) + o = (t : Int)) (hq : pc + 3 = q) (kt : y < x → gj_G X d M Q lim σ v kc ks t L st) (kf : ¬ y < x → gj_G X d M Q lim σ v kc ks q L st) : gj_G X d M Q lim σ v kc ks pc L (.int y :: .int x :: st) := by
  subst hq
  intro p e s m args below meth c H locs ls hC hR hS hL
  exact lv_icmp_gt hC.1 hC.2.1 hd ht (fun h => kt h p e s m args below meth c H locs ls hC hR hS hL) (fun h => kf h p e s m args below meth c H locs ls hC hR hS hL)
theorem g_icmple (hd : decode M.1 pc = .ok (.if_icmp .le o, 3)) (ht : (pc : Int) + o = (t : Int)) (hq : pc + 3 = q) (kt : x ≤ y → gj_G X d M Q lim σ v kc ks t L st) (kf : ¬ x ≤ y → gj_G X d M Q lim σ v kc ks q L st) : gj_G X d M Q lim σ v kc ks pc L (.int y :: .int x :: st) := by
  subst hq
  intro p e s m args below meth c H locs ls hC hR hS hL
  exact lv_icmp_le hC.1 hC.2.1 hd ht (fun h => kt h p e s m args below meth c H locs ls hC hR hS hL) (fun h => kf h p e s m args below meth c H locs ls hC hR hS hL)
theorem g_tableIn {dflt lo hi : Int} {offs : Array Int} {len : Nat} (hd : decode M.1 pc = .ok (.tableswitch dflt lo hi offs, len)) (h1 : ¬ x.toInt < lo) (h2 : ¬ hi < x.toInt) (ho : offs[(x.toInt - lo).toNat]? = some o) (ht : (pc : Int) + o = (t : Int)) (k : gj_G X d M Q lim σ v kc ks t L st) : gj_G X d M Q lim σ v kc ks pc L (.int x :: st) := by
  intro p e s m args below meth c H locs ls hC hR hS hL
  exact lv_tableIn hC.1 hC.2.1 hd h1 h2 ho ht (k p e s m args below meth c H locs ls hC hR hS hL)
theorem g_tableOut {dflt lo hi : Int} {offs : Array Int} {len : Nat} (hd : decode M.1 pc = .ok (.tableswitch dflt lo hi offs, len)) (h1 : x.toInt < lo ∨ hi < x.toInt) (ht : (pc : Int) + dflt = (t : Int)) (k : gj_G X d M Q lim σ v kc ks t L st) : gj_G X d M Q lim σ v kc ks pc L (.int x :: st) := by
  intro p e s m args below meth c H locs ls hC hR hS hL
  exact lv_tableOut hC.1 hC.2.1 hd h1 ht (k p e s m args below meth c H locs ls hC hR hS hL)
theorem g_lookup {dflt : Int} {ps : Array (Int × Int)} {len : Nat} (hd : decode M.1 pc = .ok (.lookupswitch dflt ps, len)) (hp : (ps.toList.zip (ps.toList.drop 1)).all (fun (a, next) => a.1 < next.1) = true) (ho : Op.lookupswitch.offset ps.toList dflt x.toInt = o) (ht : (pc : Int) + o = (t : Int)) (k : gj_G X d M Q lim σ v kc ks t L st) : gj_G X d M Q lim σ v kc ks pc L (.int x :: st) := by
  intro p e s m args below meth c H locs ls hC hR hS hL
  exact lv_lookup hC.1 hC.2.1 hd hp ho ht (k p e s m args below meth c H locs ls hC hR hS hL)
end GJ
end
section
/-! ===== the judgement's rows of fields, arrays, calls, ends ===== -/
/-- a field as an instruction names it: class ci, place k, its type, whether final -/
def gj_Fk (own : String) (index ci k : Nat) (ty : FieldType) (fin : Bool) : Prop :=
  ∃ (C : String) (T : u_T) (N : Nat) (ty0 : Nat → FieldType), vwCl[ci]? = some (C, T, N) ∧ (∀ w ∈ u_ws C T N, w ∈ gj_w) ∧ (∀ k, k < N → parseFieldDescriptor (T k).2.2.1 = some (ty0 k)) ∧ (∀ a, a < N → ∀ b, b < N → a ≠ b → (T a).2.1 ≠ (T b).2.1) ∧
    k < N ∧ ty0 k = ty ∧ (T k).2.2.2 = fin ∧ (T k).1 = C ∧ (Cond.fieldLink own index (T k).1 (T k).2.1 (T k).2.2.1 ∈ gj_w ∨ ∃ host, Cond.fieldLinkNest own index (T k).1 (T k).2.1 (T k).2.2.1 host ∈ gj_nw)
theorem gj_rep.put {X : gj_X} {lim : Nat} {σ : gj_H} {v : gj_V} {H H1 : Heap} (h : gj_rep X lim σ v H) {a : Nat} {sh : gj_S} (hs : σ a = some sh) {f : Nat → Int32} (hat : va_at X.2.1 vwCl (a, gj_e X.2.2.1 (some sh) f) H1) (hz : H1.size = H.size) (oq : ∀ q : Nat, q ≠ a → H1[q]? = H[q]?) : gj_rep X lim σ (gj_up v a f) H1 := by
  obtain ⟨k, hk⟩ := h.at hs
  have hk2 : ([] ++ gj_pl X lim σ v)[k]? = some (a, (fun a => gj_e X.2.2.1 (σ a) (v a)) a) := by rw [hk]; simp only [hs]
  have e := va_pl_set (e := gj_e X.2.2.1 (some sh) f) h.2.2.2.2 (h.mem hs) hk2
  rw [gj_upf_eq hs] at e
  refine ⟨h.1, hz.trans h.2.1, h.2.2.1, ?_, ?_⟩
  · have := h.2.2.2.1.set h.2.2.2.2 hk hat oq
    rw [e] at this
    exact this
  · have := h.2.2.2.2.set (e := gj_e X.2.2.1 (some sh) f) hk
    rw [e] at this
    exact this
theorem gj_rep.puts {X : gj_X} {lim : Nat} {σ : gj_H} {v : gj_V} {H H1 : Heap} (h : gj_rep X lim σ v H) {a : Nat} {sh sh' : gj_S} (hs : σ a = some sh) (hat : va_at X.2.1 vwCl (a, gj_e X.2.2.1 (some sh') (v a)) H1) (hz : H1.size = H.size) (oq : ∀ q : Nat, q ≠ a → H1[q]? = H[q]?) : gj_rep X lim (va_up σ a (some sh')) v H1 := by
  obtain ⟨k, hk⟩ := h.at hs
  have hk2 : ([] ++ gj_pl X lim σ v)[k]? = some (a, (fun a => gj_e X.2.2.1 (σ a) (v a)) a) := by rw [hk]; simp only [hs]
  have e := va_pl_set (e := gj_e X.2.2.1 (some sh') (v a)) h.2.2.2.2 (h.mem hs) hk2
  rw [gj_ups_eq] at e
  refine ⟨h.1, hz.trans h.2.1, fun b hb => ?_, ?_, ?_⟩
  · by_cases hba : b = a
    · subst hba
      exact h.2.2.1 b (by rw [hs]; rfl)
    · rw [va_up_ne _ _ hba] at hb
      exact h.2.2.1 b hb
  · have := h.2.2.2.1.set h.2.2.2.2 hk hat oq
    rw [e] at this
    exact this
  · have := h.2.2.2.2.set (e := gj_e X.2.2.1 (some sh') (v a)) hk
    rw [e] at this
    exact this
theorem gj_rep.A {X : gj_X} {lim : Nat} {σ : gj_H} {v : gj_V} {H : Heap} (h : gj_rep X lim σ v H) {a : Nat} {sh : gj_S} (hs : σ a = some sh) : gj_A X a := (h.2.2.1 a (by rw [hs]; rfl)).1
/-- a cell of the pool, for the kit's rows -/
theorem gj_rep.one {X : gj_X} {lim : Nat} {σ : gj_H} {v : gj_V} {H : Heap} (h : gj_rep X lim σ v H) {a : Nat} {sh : gj_S} (hs : σ a = some sh) : va_P X.2.1 vwCl [(a, gj_e X.2.2.1 (some sh) (v a))] H := by
  obtain ⟨k, hk⟩ := h.at hs
  intro j q hq
  have hj : j < 1 := (List.getElem?_eq_some_iff.mp hq).1
  rw [show j = 0 by omega] at hq
  cases hq
  exact h.2.2.2.1 k _ hk
section GH
variable {X : gj_X} {d : Nat} {M : gj_M} {Q : gj_Q} {lim : Nat} {σ : gj_H} {v : gj_V} {kc ks pc q : Nat} {L L' : List (Option Value)} {st : List Value}
theorem g_getf {index ci k a : Nat} {ty : FieldType} {fin : Bool} {t : List (Option (Option Nat))} {w : Value} (hf : gj_Fk M.2.1.cls index ci k ty fin) (hs : σ a = some (.inl (ci, t))) (hw : (gj_fs t (v a) 0)[k]? = some w) (hd : decode M.1 pc = .ok (.getfield index, 3)) (hq : pc + 3 = q) (kk : gj_G X d M Q lim σ v kc ks q L (w :: st)) : gj_G X d M Q lim σ v kc ks pc L (.ref a :: st) := by
  subst hq
  intro p e s m args below meth c H locs ls hC hR hS hL
  obtain ⟨C, T, N, ty0, h1, h2, h3, h4, h5, h6, h7, h8, h9⟩ := hf
  have hP := hR.one hs
  rcases h9 with h9 | ⟨host, h9⟩
  · exact va_get hC.1 hC.2.1 hC.2.2.2.2.2.2.1 h2 hC.2.2.2.2.2.1 hC.2.2.2.2.2.2.2.1.1 hP 0 rfl h1 k h5 (hC.2.2.2.2.2.2.1 _ h9) (fun _ h => h) hw hd (kk p e s m args below meth c H locs ls hC hR hS hL)
  · exact va_getN hC.1 hC.2.1 hC.2.2.2.2.2.2.1 h2 hC.2.2.2.2.2.1 hC.2.2.2.2.2.2.2.1.1 hP 0 rfl h1 k h5 (va_Nw.use rfl (hC.2.2.2.2.2.2.2.1.2.1 _ h9)) (fun _ h => h) hw hd (kk p e s m args below meth c H locs ls hC hR hS hL)
theorem g_getI {index ci k a : Nat} {ty : FieldType} {fin : Bool} {t : List (Option (Option Nat))} (hf : gj_Fk M.2.1.cls index ci k ty fin) (hs : σ a = some (.inl (ci, t))) (hw : t[k]? = some none) (hd : decode M.1 pc = .ok (.getfield index, 3)) (hq : pc + 3 = q) (kk : gj_G X d M Q lim σ v kc ks q L (.int (v a k) :: st)) : gj_G X d M Q lim σ v kc ks pc L (.ref a :: st) :=
  g_getf hf hs (by rw [gj_fs_at, hw, Nat.zero_add]; rfl) hd hq kk
theorem g_getR {index ci k a r : Nat} {ty : FieldType} {fin : Bool} {t : List (Option (Option Nat))} (hf : gj_Fk M.2.1.cls index ci k ty fin) (hs : σ a = some (.inl (ci, t))) (hw : t[k]? = some (some (some r))) (hd : decode M.1 pc = .ok (.getfield index, 3)) (hq : pc + 3 = q) (kk : gj_G X d M Q lim σ v kc ks q L (.ref r :: st)) : gj_G X d M Q lim σ v kc ks pc L (.ref a :: st) :=
  g_getf hf hs (by rw [gj_fs_at, hw]; rfl) hd hq kk
/-- an int field that isn't final -/
theorem g_putI {index ci k a : Nat} {ty : FieldType} {t : List (Option (Option Nat))} {x : Int32} (hf : gj_Fk M.2.1.cls index ci k ty false) (hs : σ a = some (.inl (ci, t))) (hw : t[k]? = some none) (hn : narrow ty (.int x) = .int x) (hfit : fits ty (.int x) = true) (hd : decode M.1 pc = .ok (.putfield index, 3)) (hq : pc + 3 = q) (kk : gj_G X d M Q lim σ (gj_up2 v a k x) kc ks q L st) : gj_G X d M Q lim σ v kc ks pc L (.int x :: .ref a :: st) := by
  subst hq
  intro p e s m args below meth c H locs ls hC hR hS hL
  obtain ⟨C, T, N, ty0, h1, h2, h3, h4, h5, h6, h7, h8, h9⟩ := hf
  have hts := hC.2.2.2.2.2.2.1
  have hown := hC.2.2.2.2.2.1
  have hK := hC.2.2.2.2.2.2.2.1.1
  have hap := va_apart (own := M.2.1.cls) hts h2 ty0 h3 h4 hK h1
  obtain ⟨r, g1, cell, q1, q2, q3, q4⟩ := hR.one hs 0 _ rfl
  have hr : r = (C, T, N) := Option.some.inj (g1.symm.trans h1)
  subst hr
  obtain ⟨hSl, hfc, kC, hkC, hkind⟩ := hK.1 ci _ h1
  obtain ⟨cf, kf, fi, f, hi, hsl⟩ := hSl k h5
  have hlay := hts _ (h2 _ (u_in_lay h5))
  unfold u_lay at hlay
  rw [if_neg (by rw [h7]; decide)] at hlay
  have hst := (u_facts hfc hkC (u_lays hts h2 h5) hi).1
  have h10 := u_store hfc hkC hkind hlay hi (by rw [h3 k h5, h6]) hn hfit
  have hlen : k < (gj_fs t (v a) 0).length := by rw [gj_fs_len]; exact (List.getElem?_eq_some_iff.mp hw).1
  have fin : ∀ H' : Heap, H'[a]? = some (cell.setSlot f.slot (.int x)) → H'.size = H.size → (∀ q, q ≠ a → H'[q]? = H[q]?) → W p X.1 e (gj_R d M) s m args below meth c H' (locs ++ [⟨a, f.slot⟩]) kc ks (MQ below (gj_F X Q) args s M.2.2.2.2.1 M.2.2.2.2.2 (gj_A X)) (F0 m (pc + 3) ls st) := by
    intro H' e1 e2 e3
    rw [hsl] at e1 ⊢
    refine kk p e s m args below meth c H' _ ls hC (hR.put hs (f := upd (v a) k x) ?_ e2 e3) (hS.put e2 e3 (hR.A hs)) hL
    show va_at X.2.1 vwCl (a, .inr (ci, gj_fs t (upd (v a) k x) 0)) H'
    rw [← gj_fs_set t (v a) k x hw]
    exact ⟨_, h1, t_OB.to (V := updV (vp_V (gj_fs t (v a) 0)) k (.int x)) ⟨_, e1, q2, q3, t_set q4 hap h5 (.int x)⟩ (fun j _ => vp_updV_set hlen (.int x) j)⟩
  rcases h9 with h9 | ⟨host, h9⟩
  · exact W.putK hC.1 hC.2.1 (f := f) ⟨hown, hts _ h9, ⟨_, _, _, hi⟩, hst⟩ (by rw [q2]; exact h10) q1 q3 (by rw [hsl]; exact k2_hasslot (q4 k h5)) rfl rfl hd fin
  · exact va_WputK hC.1 hC.2.1 (f := f) hown (va_Nw.use rfl (hC.2.2.2.2.2.2.2.1.2.1 _ h9)) hi hst (by rw [q2]; exact h10) q1 q3 (by rw [hsl]; exact k2_hasslot (q4 k h5)) rfl rfl hd fin
/-- an int array, read by a natural index -/
theorem g_iald {a n k : Nat} {i : Int32} (hs : σ a = some (.inr (.inl n))) (hi : i = nI k) (hk : k < n) (hn : n < 2147483648) (hd : decode M.1 pc = .ok (.iaload, 1)) (hq : pc + 1 = q) (kk : gj_G X d M Q lim σ v kc ks q L (.int (v a k) :: st)) : gj_G X d M Q lim σ v kc ks pc L (.int i :: .ref a :: st) := by
  subst hq; subst hi
  intro p e s m args below meth c H locs ls hC hR hS hL
  have hP := hR.one hs
  have hc : (nI k).toNatClampNeg = k := nI_clamp (Nat.lt_trans hk hn)
  refine va_iald hC.1 hC.2.1 hC.2.2.2.2.2.2.2.1.1 hP 0 0 (f := v a) (n := n) rfl rfl (vp_in_nI hk hn) hd ?_
  rw [hc]
  exact kk p e s m args below meth c H locs ls hC hR hS hL
theorem g_iast {a n k : Nat} {i x : Int32} (hs : σ a = some (.inr (.inl n))) (hi : i = nI k) (hk : k < n) (hn : n < 2147483648) (hd : decode M.1 pc = .ok (.iastore, 1)) (hq : pc + 1 = q) (kk : gj_G X d M Q lim σ (gj_up2 v a k x) kc ks q L st) : gj_G X d M Q lim σ v kc ks pc L (.int x :: .int i :: .ref a :: st) := by
  subst hq; subst hi
  intro p e s m args below meth c H locs ls hC hR hS hL
  have hP := hR.one hs
  have hc : (nI k).toNatClampNeg = k := nI_clamp (Nat.lt_trans hk hn)
  have hin : vp_in (nI k) n := vp_in_nI hk hn
  refine W.iast hC.1 hC.2.1 (hP 0 _ rfl) ((hC.2.2.2.2.2.2.2.1.1.2 0 _ rfl).1 n (fun j => .int (v a j))) (fun q => by cases q) (by show ¬ (nI k < 0 ∨ (arrV _ _ _).slots.size ≤ _); rw [arrV_size]; exact hin) rfl rfl hd fun H1 e1 z oq => ?_
  refine kk p e s m args below meth c H1 _ ls hC (hR.put hs (f := upd (v a) k x) ?_ z oq) (hS.put z oq (hR.A hs)) hL
  show H1[a]? = some (vp_cell (X.2.2.1 0) (n, .inl (upd (v a) k x)))
  rw [e1, hc]
  show some ((vp_cell (X.2.2.1 0) (n, .inl (v a))).setSlot k (.int x)) = _
  rw [vp_cell_i, vp_cell_i, arrV_store]
  congr 2
  funext j
  by_cases hj : j = k
  · subst hj
    simp [updV, upd]
  · simp [updV, upd, hj]
theorem g_alen {a n : Nat} (hs : σ a = some (.inr (.inl n))) (hd : decode M.1 pc = .ok (.arraylength, 1)) (hq : pc + 1 = q) (kk : gj_G X d M Q lim σ v kc ks q L (.int (nI n) :: st)) : gj_G X d M Q lim σ v kc ks pc L (.ref a :: st) := by
  subst hq
  intro p e s m args below meth c H locs ls hC hR hS hL
  exact va_alen hC.1 hC.2.1 hC.2.2.2.2.2.2.2.1.1 (hR.one hs) 0 0 rfl rfl rfl hd (kk p e s m args below meth c H locs ls hC hR hS hL)
/-- an array of references, read by a natural index -/
theorem g_aald {a k r kk0 : Nat} {C : String} {i : Int32} {A : List (Option Nat)} (hs : σ a = some (.inr (.inr (kk0, A)))) (hC0 : (gj_tys X.2.2.1)[kk0]? = some (X.2.2.1 kk0, .object C)) (hi : i = nI k) (hr : A[k]? = some (some r)) (hn : A.length < 2147483648) (hd : decode M.1 pc = .ok (.aaload, 1)) (hq : pc + 1 = q) (kk : gj_G X d M Q lim σ v kc ks q L (.ref r :: st)) : gj_G X d M Q lim σ v kc ks pc L (.int i :: .ref a :: st) := by
  subst hq; subst hi
  intro p e s m args below meth c H locs ls hC hR hS hL
  have hk : k < A.length := (List.getElem?_eq_some_iff.mp hr).1
  have hc : (nI k).toNatClampNeg = k := nI_clamp (Nat.lt_trans hk hn)
  refine va_aldq hC.1 hC.2.1 hC.2.2.2.2.2.2.2.1.1 (hR.one hs) 0 kk0 (n := A.length) (f := fun i => A.getD i none) rfl hC0 (vp_in_nI hk hn) hd ?_
  rw [hc]
  have e1 : A.getD k none = some r := by rw [List.getD_eq_getElem?_getD, hr]; rfl
  show W p X.1 e (gj_R d M) s m args below meth c H locs kc ks _ (F0 m (pc + 1) ls (va_rf (A.getD k none) :: st))
  rw [e1]
  exact kk p e s m args below meth c H locs ls hC hR hS hL
/-! ends -/
theorem gj_end {p : Program} {e : Env} {s : State} {m : MethodId} {args : Array Value} {below : List Frame} {meth : Method} {c : Code} {H : Heap} {locs : List Loc} {r : Option Value} (hR : gj_rep X lim σ v H) (hS : va_S (gj_A X) s.heap H locs) (hQ : Q r lim σ v) : ∀ t : State, t.heap = H → s.WarmedH t.vm → gj_F X Q args s (.returned r) t :=
  fun t ht _ => ⟨⟨r, lim, σ, v, rfl, hQ, by rw [ht]; exact hR⟩, hS.F ht⟩
theorem g_iret {x : Int32} (hr : M.2.2.2.1 = some .int) (hkc : kc = M.2.2.2.2.1) (hks : ks = M.2.2.2.2.2) (hd : decode M.1 pc = .ok (.ireturn, 1)) (hQ : Q (some (.int x)) lim σ v) : gj_G X d M Q lim σ v kc ks pc L [.int x] := by
  subst hkc; subst hks
  intro p e s m args below meth c H locs ls hC hR hS hL
  exact W.iret hC.1 hC.2.1 (hC.2.2.2.1.trans hr) (gj_end (p := p) (e := e) (m := m) (below := below) (meth := meth) (c := c) hR hS hQ) hS.2.2 hd hC.2.2.2.2.1
theorem g_zret {x : Int32} (hr : M.2.2.2.1 = some .boolean) (hz : narrow .boolean (.int x) = .int x) (hkc : kc = M.2.2.2.2.1) (hks : ks = M.2.2.2.2.2) (hd : decode M.1 pc = .ok (.ireturn, 1)) (hQ : Q (some (.int x)) lim σ v) : gj_G X d M Q lim σ v kc ks pc L [.int x] := by
  subst hkc; subst hks
  intro p e s m args below meth c H locs ls hC hR hS hL
  exact W.zret hC.1 hC.2.1 (hC.2.2.2.1.trans hr) hz (gj_end (p := p) (e := e) (m := m) (below := below) (meth := meth) (c := c) hR hS hQ) hS.2.2 hd hC.2.2.2.2.1
theorem g_lret {x : Int64} (hr : M.2.2.2.1 = some .long) (hkc : kc = M.2.2.2.2.1) (hks : ks = M.2.2.2.2.2) (hd : decode M.1 pc = .ok (.lreturn, 1)) (hQ : Q (some (.long x)) lim σ v) : gj_G X d M Q lim σ v kc ks pc L [.long x] := by
  subst hkc; subst hks
  intro p e s m args below meth c H locs ls hC hR hS hL
  exact W.lret hC.1 hC.2.1 (hC.2.2.2.1.trans hr) (gj_end (p := p) (e := e) (m := m) (below := below) (meth := meth) (c := c) hR hS hQ) hS.2.2 hd hC.2.2.2.2.1
theorem g_vret (hr : M.2.2.2.1 = none) (hkc : kc = M.2.2.2.2.1) (hks : ks = M.2.2.2.2.2) (hd : decode M.1 pc = .ok (.return_, 1)) (hQ : Q none lim σ v) : gj_G X d M Q lim σ v kc ks pc L [] := by
  subst hkc; subst hks
  intro p e s m args below meth c H locs ls hC hR hS hL
  exact W.vret hC.1 hC.2.1 (hC.2.2.2.1.trans hr) (gj_end (p := p) (e := e) (m := m) (below := below) (meth := meth) (c := c) hR hS hQ) hS.2.2 hd hC.2.2.2.2.1
/-! a contract out of the judgement -/
def gj_ent : List Value → List (Option Value)
  | [] => []
  | .long x :: r => some (.long x) :: none :: gj_ent r
  | .double x :: r => some (.double x) :: none :: gj_ent r
  | x :: r => some x :: gj_ent r
theorem gj_ent_in : ∀ (vs : List Value) (n i : Nat) (w : Value), (gj_ent vs)[i]? = some (some w) → (n + i, w) ∈ lv_args n vs
  | [], n, i, w, h => by simp [gj_ent] at h
  | x :: r, n, i, w, h => by
    have ih1 := gj_ent_in r (n + 1)
    have ih2 := gj_ent_in r (n + 2)
    cases x <;> (
      simp only [gj_ent] at h
      unfold lv_args
      rcases i with _ | i
      · simp at h
        subst h
        simp
      · first
          | (rcases i with _ | i
             · simp at h
             · have := ih2 i w (by simpa using h)
               rw [show n + 2 + i = n + (i + 1 + 1) by omega] at this
               simp only [Value.category, List.mem_cons]
               exact Or.inr this)
          | (have := ih1 i w (by simpa using h)
             rw [show n + 1 + i = n + (i + 1) by omega] at this
             simp only [Value.category, List.mem_cons]
             exact Or.inr this))
theorem gj_E_of {as : List Value} (hy : plainName M.2.1.cls = true) (hL : Nat.ble (lg_sl as).length M.2.2.1 = true) (hl : ∀ (i : Nat) (w : Value), L[i]? = some (some w) → (gj_ent as)[i]? = some (some w)) (h : gj_G X d M Q lim σ v 0 0 0 L []) : gj_E X d M as lim σ v Q := by
  refine Met.ofW (cc := M.1) (maxL := M.2.2.1) (ret := M.2.2.2.1) hy rfl ?_
  intro p e s m args below meth c s₁ B hml hv
  obtain ⟨rfl, hR, hK⟩ := hv
  have hts := atoms_spec (ws := gj_ws M) B.pre
  have hent := lv_entry as (n := M.2.2.1) (Nat.ble_eq.mp hL)
  rw [lg_entry_eq]
  refine h p e s m as.toArray below meth c s.heap [] _ ⟨B.exec, B.bytes, hml, B.returns, B.notSynchronized, findClass_of_methodNamed B.named, fun w hw => hts w (List.mem_cons_of_mem _ hw), hK, by rw [hR.2.1]; exact hR.1, (name_of_methodNamed B.named B.method).1⟩ hR va_S.rf ⟨hent.1, hent.2.1, fun q hq => ?_⟩
  obtain ⟨i, w⟩ := q
  have h1 := gj_ent_in as 0 i w (hl i w (gj_L_mem.mp hq))
  rw [Nat.zero_add] at h1
  exact hent.2.2 (i, w) h1
/-- locals may be forgotten -/
theorem g_weak (h : ∀ (i : Nat) (w : Value), L'[i]? = some (some w) → L[i]? = some (some w)) (k : gj_G X d M Q lim σ v kc ks pc L' st) : gj_G X d M Q lim σ v kc ks pc L st := by
  intro p e s m args below meth c H locs ls hC hR hS hL
  refine k p e s m args below meth c H locs ls hC hR hS ⟨hL.1, hL.2.1, fun q hq => ?_⟩
  obtain ⟨i, w⟩ := q
  exact hL.2.2 (i, w) (gj_L_mem.mpr (h i w (gj_L_mem.mp hq)))
end GH
end
section
/-! ===== calls, the library's three, and what a constructor does ===== -/
def gj_Ck (own : String) (index : Nat) (N : gj_M) (n : Nat) : Prop :=
  (Cond.methodLink own index N.2.1 ∈ gj_w ∨ ∃ host, Cond.methodLinkNest own index N.2.1 host ∈ gj_nw) ∧ Cond.code N.2.1 N.1 N.2.2.1 N.2.2.2.1 ∈ gj_w ∧ Cond.initialized N.2.1.cls ∈ gj_w ∧ (N.2.1.cls ≠ "java/lang/invoke/MethodHandle" ∧ N.2.1.cls ≠ "java/lang/invoke/VarHandle") ∧ (parseMethodDescriptor N.2.1.desc).map (fun d => d.parameters.length) = some n ∧ N.2.2.1 ≤ 10
def gj_CkV (own : String) (index : Nat) (N : gj_M) (n : Nat) : Prop := gj_Ck own index N n ∧ Cond.instanceMethod N.2.1 ∈ gj_w ∧ Cond.selects N.2.1.cls N.2.1 N.2.1 ∈ gj_w
def gj_CkS (own : String) (index : Nat) (N : gj_M) (n : Nat) : Prop := gj_Ck own index N n ∧ Cond.static N.2.1 ∈ gj_w
def gj_CkI (own : String) (index : Nat) (N : gj_M) (n : Nat) : Prop := gj_Ck own index N n ∧ N.2.1.name = "<init>" ∧ Cond.instanceMethod N.2.1 ∈ gj_w ∧ N.2.2.2.1 = none
theorem gj_pay {N : gj_M} (hc : Cond.code N.2.1 N.1 N.2.2.1 N.2.2.2.1 ∈ gj_w) {args : Array Value} {s : State} (hts : ∀ w ∈ gj_w, w.before args s = true) : ∀ w ∈ gj_ws N, ∀ (a' : Array Value) (U : State), s.WarmedH U.vm → w.before a' U = true := by
  refine pay_in hts (fun w hw => ?_)
  rcases List.mem_cons.mp hw with rfl | hw
  · exact ⟨hc, good_of_word (List.mem_filter.mp hc).2⟩
  · exact ⟨hw, good_of_word (List.mem_filter.mp hw).2⟩
theorem gj_blind {X : gj_X} {as : List Value} {lim : Nat} {σ : gj_H} {v : gj_V} : FrameBlind (va_Pc as (fun U => gj_rep X lim σ v U.heap ∧ gj_K X U)) := by
  intro a U g mk h
  exact ⟨h.1, h.2.1, gj_K.same (s := U) rfl h.2.2⟩
section GC
variable {X : gj_X} {d d' : Nat} {M N : gj_M} {Q Q' : gj_Q} {lim : Nat} {σ : gj_H} {v : gj_V} {kc ks pc q index n b ci : Nat} {L L' : List (Option Value)} {st st0 As rest : List Value} {t : List (Option (Option Nat))}
/-- behind a call -/
theorem gj_back {p : Program} {e : Env} {s : State} {m : MethodId} {args : Array Value} {below : List Frame} {meth : Method} {c : Code} {H : Heap} {locs : List Loc} {ls : Array Slot} {a : Array Value}
    (hr : va_Run p X.1 e (gj_R d M) s m args below meth c H locs kc ks N.2.2.2.2.1 N.2.2.2.2.2 (F0 m pc ls st0) rest (gj_F X Q' a) (gj_A X)) (hC : gj_C X M p s m args meth c) (hS : va_S (gj_A X) s.heap H locs) (hL : lv_has ls M.2.2.1 (gj_L L))
    (kk : ∀ (r : Option Value) (lim' : Nat) (σ' : gj_H) (v' : gj_V), Q' r lim' σ' v' → gj_G X d M Q lim' σ' v' (kc + N.2.2.2.2.1) (ks + N.2.2.2.2.2) (pc + 3) L (r.toList ++ rest)) :
    W p X.1 e (gj_R d M) s m args below meth c H locs kc ks (MQ below (gj_F X Q) args s M.2.2.2.2.1 M.2.2.2.2.2 (gj_A X)) (F0 m pc ls st0) := by
  intro T hT Xs
  obtain ⟨w, st₀, t, T', LL, h0, X', hLL, e1, e2, ⟨⟨r, lim', σ', v', hw, hq', hrep⟩, hz, hkp⟩, stp⟩ := hr T hT Xs
  cases hw
  rw [h0] at hz hkp
  obtain ⟨t2, a1, b1⟩ := kk _ lim' σ' v' hq' p e s m args below meth c T'.heap (locs ++ LL) ls hC (by rw [e1]; exact hrep)
    ⟨Nat.le_trans hS.1 (by rw [e1]; exact hz), fun x g1 g2 => by rw [e1, hkp x (Nat.lt_of_lt_of_le g1 hS.1) g2]; exact hS.2.1 x g1 g2, fun x hx => by
      rcases List.mem_append.mp hx with h | h
      · exact hS.2.2 x h
      · exact hLL x h⟩ hL T' rfl X'
  exact ⟨t2, stp t2 a1, b1⟩
theorem gj_pre {s : State} {args : Array Value} {H : Heap} (hR : gj_rep X lim σ v H) (hK : gj_K X s) (as : List Value) : PreS s H (va_Pc as (fun U => gj_rep X lim σ v U.heap ∧ gj_K X U)) as :=
  ⟨gj_blind, fun U hU hW => ⟨rfl, by rw [hU]; exact hR, gj_K.warm hW hK⟩⟩
theorem gj_room (hN : N.2.2.1 ≤ 10) (hd' : d' < d) : (gj_R d' N).frames + 1 ≤ (gj_R d M).frames ∧ 8 + (N.2.2.1 + 11) + (gj_R d' N).locals ≤ (gj_R d M).locals := by
  simp only [gj_R]; omega
theorem g_callV (hk : gj_CkV M.2.1.cls index N n) (hs : σ b = some (.inl (ci, t))) (hcl : (vwCl[ci]?).map (fun z => z.1) = some N.2.1.cls) (hd' : d' < d) (hn : As.length = n) (hst : st0 = As.reverse ++ .ref b :: rest) (hrm : (rest.map fun v => v.category).sum ≤ 8) (hkc : kc + N.2.2.2.2.1 ≤ M.2.2.2.2.1) (hks : ks + N.2.2.2.2.2 ≤ M.2.2.2.2.2) (hd : decode M.1 pc = .ok (.invokevirtual index, 3)) (hq : pc + 3 = q)
    (hE : gj_E X d' N (.ref b :: As) lim σ v Q') (kk : ∀ (r : Option Value) (lim' : Nat) (σ' : gj_H) (v' : gj_V), Q' r lim' σ' v' → gj_G X d M Q lim' σ' v' (kc + N.2.2.2.2.1) (ks + N.2.2.2.2.2) q L (r.toList ++ rest)) : gj_G X d M Q lim σ v kc ks pc L st0 := by
  subst hq; subst hst
  intro p e s m args below meth c H locs ls hC hR hS hL
  obtain ⟨⟨hl, hc, hi, hy, hp, hN⟩, hin, hse⟩ := hk
  have hts := hC.2.2.2.2.2.2.1
  have hrm2 := gj_room (M := M) hN hd'
  have hlen : ∀ sig, parseMethodDescriptor N.2.1.desc = some sig → n = sig.parameters.length := fun sig h => by
    rw [h] at hp
    exact (Option.some.inj hp).symm
  have hrecv : ∃ cellB : Cell, H[b]? = some cellB ∧ cellB.vm.isStatics = false ∧ s.vm.findClass N.2.1.cls = some cellB.cls := by
    cases hci : vwCl[ci]? with
    | none => rw [hci] at hcl; cases hcl
    | some z =>
      rw [hci] at hcl
      have hz : z.1 = N.2.1.cls := Option.some.inj hcl
      rw [← hz]
      exact va_recv hC.2.2.2.2.2.2.2.1.1 (hR.one hs) hci (q0 := 0) rfl
  have hpre := gj_pre (args := args) hR hC.2.2.2.2.2.2.2.1 (.ref b :: As)
  have hcb : ∀ w ∈ gj_w, w.before args s = true := hts
  refine gj_back (N := N) (rest := rest) (Q' := Q') (a := (Value.ref b :: As).toArray) ?_ hC hS hL kk
  rcases hl with hl | ⟨host, hl⟩
  · exact va_runV (As := As) (rest := rest) (C := N.2.1.cls) ⟨hC.1, hC.2.1, hC.2.2.1, hC.2.2.2.2.2.1, hts⟩ hE ⟨⟨rfl, rfl, hrm2.1, hrm2.2, gj_pay hc hts, List.mem_cons_self, hts _ hc, hts _ hi, hy, hlen, hts _ hl⟩, hts _ hin, hts _ hse⟩ ⟨hpre.1, hrecv, hpre.2⟩ rfl hn hL.1 rfl (lv_room hrm) hd ⟨hkc, hks⟩
  · exact va_runVN (As := As) (rest := rest) (C := N.2.1.cls) ⟨hC.1, hC.2.1, hC.2.2.1, hC.2.2.2.2.2.1, hts⟩ hE ⟨⟨⟨rfl, rfl, hrm2.1, hrm2.2, gj_pay hc hts, List.mem_cons_self⟩, hts _ hc, hts _ hi, hy, hlen, va_Nw.use rfl (hC.2.2.2.2.2.2.2.1.2.1 _ hl)⟩, hts _ hin, hts _ hse⟩ ⟨hpre.1, hrecv, hpre.2⟩ rfl hn hL.1 rfl (lv_room hrm) hd ⟨hkc, hks⟩
theorem g_callS (hk : gj_CkS M.2.1.cls index N n) (hd' : d' < d) (hn : As.length = n) (hst : st0 = As.reverse ++ rest) (hrm : (rest.map fun v => v.category).sum ≤ 8) (hkc : kc + N.2.2.2.2.1 ≤ M.2.2.2.2.1) (hks : ks + N.2.2.2.2.2 ≤ M.2.2.2.2.2) (hd : decode M.1 pc = .ok (.invokestatic index, 3)) (hq : pc + 3 = q)
    (hE : gj_E X d' N As lim σ v Q') (kk : ∀ (r : Option Value) (lim' : Nat) (σ' : gj_H) (v' : gj_V), Q' r lim' σ' v' → gj_G X d M Q lim' σ' v' (kc + N.2.2.2.2.1) (ks + N.2.2.2.2.2) q L (r.toList ++ rest)) : gj_G X d M Q lim σ v kc ks pc L st0 := by
  subst hq; subst hst
  intro p e s m args below meth c H locs ls hC hR hS hL
  obtain ⟨⟨hl, hc, hi, hy, hp, hN⟩, hstt⟩ := hk
  have hts := hC.2.2.2.2.2.2.1
  have hrm2 := gj_room (M := M) hN hd'
  have hlen : ∀ sig, parseMethodDescriptor N.2.1.desc = some sig → n = sig.parameters.length := fun sig h => by
    rw [h] at hp
    exact (Option.some.inj hp).symm
  have hpre := gj_pre (args := args) hR hC.2.2.2.2.2.2.2.1 As
  refine gj_back (N := N) (rest := rest) (Q' := Q') (a := As.toArray) ?_ hC hS hL kk
  rcases hl with hl | ⟨host, hl⟩
  · exact va_runS (As := As) (rest := rest) ⟨hC.1, hC.2.1, hC.2.2.1, hC.2.2.2.2.2.1, hts⟩ hE ⟨⟨rfl, rfl, hrm2.1, hrm2.2, gj_pay hc hts, List.mem_cons_self, hts _ hc, hts _ hi, hy, hlen, hts _ hl⟩, hts _ hstt⟩ hpre rfl hn hL.1 rfl (lv_room hrm) hd ⟨hkc, hks⟩
  · exact va_runSN (As := As) (rest := rest) ⟨hC.1, hC.2.1, hC.2.2.1, hC.2.2.2.2.2.1, hts⟩ hE ⟨⟨⟨rfl, rfl, hrm2.1, hrm2.2, gj_pay hc hts, List.mem_cons_self⟩, hts _ hc, hts _ hi, hy, hlen, va_Nw.use rfl (hC.2.2.2.2.2.2.2.1.2.1 _ hl)⟩, hts _ hstt, trivial⟩ hpre rfl hn hL.1 rfl (lv_room hrm) hd ⟨hkc, hks⟩
theorem g_callI (hk : gj_CkI M.2.1.cls index N n) (hd' : d' < d) (hn : As.length = n) (hst : st0 = As.reverse ++ .ref b :: rest) (hrm : (rest.map fun v => v.category).sum ≤ 8) (hkc : kc + N.2.2.2.2.1 ≤ M.2.2.2.2.1) (hks : ks + N.2.2.2.2.2 ≤ M.2.2.2.2.2) (hd : decode M.1 pc = .ok (.invokespecial index, 3)) (hq : pc + 3 = q)
    (hE : gj_E X d' N (.ref b :: As) lim σ v Q') (kk : ∀ (r : Option Value) (lim' : Nat) (σ' : gj_H) (v' : gj_V), Q' r lim' σ' v' → gj_G X d M Q lim' σ' v' (kc + N.2.2.2.2.1) (ks + N.2.2.2.2.2) q L (r.toList ++ rest)) : gj_G X d M Q lim σ v kc ks pc L st0 := by
  subst hq; subst hst
  intro p e s m args below meth c H locs ls hC hR hS hL
  obtain ⟨⟨hl, hc, hi, hy, hp, hN⟩, hnm, hin, hret⟩ := hk
  have hts := hC.2.2.2.2.2.2.1
  have hrm2 := gj_room (M := M) hN hd'
  have hlen : ∀ sig, parseMethodDescriptor N.2.1.desc = some sig → n = sig.parameters.length := fun sig h => by
    rw [h] at hp
    exact (Option.some.inj hp).symm
  have hpre := gj_pre (args := args) hR hC.2.2.2.2.2.2.2.1 (.ref b :: As)
  have hmem : Cond.code N.2.1 N.1 N.2.2.1 none ∈ gj_ws N := by
    have : Cond.code N.2.1 N.1 N.2.2.1 N.2.2.2.1 ∈ gj_ws N := List.mem_cons_self
    rw [hret] at this
    exact this
  have hc0 : (Cond.code N.2.1 N.1 N.2.2.1 none).before args s = true := by
    have := hts _ hc
    rw [hret] at this
    exact this
  refine gj_back (N := N) (rest := rest) (Q' := Q') (a := (Value.ref b :: As).toArray) ?_ hC hS hL kk
  rcases hl with hl | ⟨host, hl⟩
  · exact va_runI (As := As) (rest := rest) (b := b) ⟨hC.1, hC.2.1, hC.2.2.1, hC.2.2.2.2.2.1, hts⟩ hE ⟨⟨rfl, rfl, hrm2.1, hrm2.2, gj_pay hc hts, hmem, hc0, hts _ hi, hy, hlen, hts _ hl⟩, hnm, hts _ hin⟩ hpre rfl hn hL.1 rfl (lv_room hrm) hd ⟨hkc, hks⟩
  · exact va_runIN (As := As) (rest := rest) (b := b) ⟨hC.1, hC.2.1, hC.2.2.1, hC.2.2.2.2.2.1, hts⟩ hE ⟨⟨⟨rfl, rfl, hrm2.1, hrm2.2, gj_pay hc hts, hmem⟩, hc0, hts _ hi, hy, hlen, va_Nw.use rfl (hC.2.2.2.2.2.2.2.1.2.1 _ hl)⟩, hnm, hts _ hin⟩ hpre rfl hn hL.1 rfl (lv_room hrm) hd ⟨hkc, hks⟩
/-! Math.max, Math.min -/
def gj_Mx (own : String) (index : Nat) : Prop := Cond.methodLink own index Lib.Math.max.name ∈ gj_w ∧ Cond.static Lib.Math.max.name ∈ gj_w ∧ Cond.initialized "java/lang/Math" ∈ gj_w ∧ Cond.code Lib.Math.max.name Lib.Math.max.code 2 (some .int) ∈ gj_w
def gj_Mn (own : String) (index : Nat) : Prop := Cond.methodLink own index Lib.Math.min.name ∈ gj_w ∧ Cond.static Lib.Math.min.name ∈ gj_w ∧ Cond.initialized "java/lang/Math" ∈ gj_w ∧ Cond.code Lib.Math.min.name Lib.Math.min.code 2 (some .int) ∈ gj_w
theorem g_max {x y : Int32} (hk : gj_Mx M.2.1.cls index) (hrm : (rest.map fun v => v.category).sum ≤ 8) (hkc : kc ≤ M.2.2.2.2.1) (hks : ks ≤ M.2.2.2.2.2) (hd : decode M.1 pc = .ok (.invokestatic index, 3)) (hq : pc + 3 = q) (kk : gj_G X d M Q lim σ v kc ks q L (.int (if x < y then y else x) :: rest)) : gj_G X d M Q lim σ v kc ks pc L (.int y :: .int x :: rest) := by
  subst hq
  intro p e s m args below meth c H locs ls hC hR hS hL
  have hts := hC.2.2.2.2.2.2.1
  exact va_mmax hC.1 hC.2.1 (hC.2.2.1.trans hL.1.symm) hC.2.2.2.2.2.1 (hts _ hk.1) (hts _ hk.2.1) (hts _ hk.2.2.1) (hts _ hk.2.2.2) (by simp only [gj_R]; omega) (by simp only [gj_R]; omega) hkc hks hd (kk p e s m args below meth c H locs ls hC hR hS hL)
theorem g_min {x y : Int32} (hk : gj_Mn M.2.1.cls index) (hrm : (rest.map fun v => v.category).sum ≤ 8) (hkc : kc ≤ M.2.2.2.2.1) (hks : ks ≤ M.2.2.2.2.2) (hd : decode M.1 pc = .ok (.invokestatic index, 3)) (hq : pc + 3 = q) (kk : gj_G X d M Q lim σ v kc ks q L (.int (if y < x then y else x) :: rest)) : gj_G X d M Q lim σ v kc ks pc L (.int y :: .int x :: rest) := by
  subst hq
  intro p e s m args below meth c H locs ls hC hR hS hL
  have hts := hC.2.2.2.2.2.2.1
  exact va_mmin hC.1 hC.2.1 (hC.2.2.1.trans hL.1.symm) hC.2.2.2.2.2.1 (hts _ hk.1) (hts _ hk.2.1) (hts _ hk.2.2.1) (hts _ hk.2.2.2) (by simp only [gj_R]; omega) (by simp only [gj_R]; omega) hkc hks hd (kk p e s m args below meth c H locs ls hC hR hS hL)
/-! System.arraycopy of int arrays -/
def gj_Ac (own : String) (index : Nat) : Prop := Cond.methodLink own index arraycopyName ∈ gj_w ∧ Cond.native arraycopyName ∈ gj_w ∧ Cond.static arraycopyName ∈ gj_w ∧ Cond.initialized "java/lang/System" ∈ gj_w
theorem g_acopy {a a0 n0 n1 sp dp k : Nat} {i0 i1 i2 : Int32} (hk : gj_Ac M.2.1.cls index) (hs0 : σ a0 = some (.inr (.inl n0))) (hs : σ a = some (.inr (.inl n1))) (e0 : i0 = nI sp) (e1 : i1 = nI dp) (e2 : i2 = nI k) (h0 : sp + k ≤ n0) (h1 : dp + k ≤ n1) (hn0 : n0 < 2147483648) (hn1 : n1 < 2147483648) (hrm : (rest.map fun v => v.category).sum ≤ 8) (hd : decode M.1 pc = .ok (.invokestatic index, 3)) (hq : pc + 3 = q)
    (kk : gj_G X d M Q lim σ (gj_up v a (va_cpy (v a0) (v a) sp dp k)) kc ks q L rest) : gj_G X d M Q lim σ v kc ks pc L (.int i2 :: .int i1 :: .ref a :: .int i0 :: .ref a0 :: rest) := by
  subst hq; subst e0; subst e1; subst e2
  intro p e s m args below meth c H locs ls hC hR hS hL
  have hts := hC.2.2.2.2.2.2.1
  have csp : (nI sp).toNatClampNeg = sp := nI_clamp (by omega)
  have cdp : (nI dp).toNatClampNeg = dp := nI_clamp (by omega)
  have ck : (nI k).toNatClampNeg = k := nI_clamp (by omega)
  have nn : ∀ j : Nat, j < 2 ^ 31 → (nI j).toInt = (j : Int) := fun j hj => nI_toInt hj
  intro T hT Xs
  have hc0 : H[a0]? = some (vp_cell (X.2.2.1 0) (n0, .inl (v a0))) := hR.one hs0 0 _ rfl
  have hc1 : H[a]? = some (vp_cell (X.2.2.1 0) (n1, .inl (v a))) := hR.one hs 0 _ rfl
  have hAr := (hC.2.2.2.2.2.2.2.1.1.2 0 (X.2.2.1 0, .int) rfl).1
  obtain ⟨-, k0, hk0, cm0, hkk0⟩ := hAr n0 (fun j => .int (v a0 j))
  obtain ⟨-, k1, hk1, cm1, hkk1⟩ := hAr n1 (fun j => .int (v a j))
  obtain ⟨vm', X', step⟩ := Xs.arraycopy hC.1 hC.2.2.2.2.2.1 (hts _ hk.1) (hts _ hk.2.1) (hts _ hk.2.2.1) (hts _ hk.2.2.2) (src := a0) (dst := a) (cs := vp_cell (X.2.2.1 0) (n0, .inl (v a0))) (cd := vp_cell (X.2.2.1 0) (n1, .inl (v a))) (srcPos := nI sp) (destPos := nI dp) (n := nI k) (by rw [hT]; exact hc0) (by rw [hT]; exact hc1)
    (fun _ h => by cases h) (fun _ h => by cases h) (fun h => by cases h) (fun h => by cases h) hk0 hk1 hkk0 hkk1 (by simp [refKind]) (nI_pos (by omega)) (nI_pos (by omega)) (nI_pos (by omega))
    (by rw [nn sp (by omega), nn k (by omega)]; show ¬ _ > ((arrV (X.2.2.1 0) n0 (fun j => .int (v a0 j))).slots.size : Int); rw [arrV_size]; omega)
    (by rw [nn dp (by omega), nn k (by omega)]; show ¬ _ > ((arrV (X.2.2.1 0) n1 (fun j => .int (v a j))).slots.size : Int); rw [arrV_size]; omega)
    (fun vm₁ _ i hi => by
      have e : (vp_cell (X.2.2.1 0) (n0, .inl (v a0))).slots.getD ((nI sp).toNatClampNeg + i) .null = .int (v a0 ((nI sp).toNatClampNeg + i)) := by
        show (arrV (X.2.2.1 0) n0 (fun j => .int (v a0 j))).slots.getD _ _ = _
        rw [Array.getD_eq_getD_getElem?, arrV_read _ _ (by rw [ck] at hi; omega)]
        rfl
      refine ⟨?_, ?_⟩
      · rw [e]; rfl
      · rw [e]; exact trivial)
    (g := F0 m pc ls (.int (nI k) :: .int (nI dp) :: .ref a :: .int (nI sp) :: .ref a0 :: rest)) rfl (by show ls.size = _; rw [hL.1]; exact hC.2.2.1.symm) (rest := rest) rfl (by rw [hC.2.1]; exact hd) (by simp only [gj_R]; omega) (by
      show 2 * 0 + _ + _ ≤ _
      have : nativeFrameWords "java/lang/System" "arraycopy" 5 + 11 = 18 := by decide +kernel
      simp only [gj_R]; omega)
  have e1 : copied (vp_cell (X.2.2.1 0) (n0, .inl (v a0))) (vp_cell (X.2.2.1 0) (n1, .inl (v a))) (nI sp) (nI dp) (nI k) = vp_cell (X.2.2.1 0) (n1, .inl (va_cpy (v a0) (v a) (nI sp).toNatClampNeg (nI dp).toNatClampNeg (nI k).toNatClampNeg)) := va_copied (fun z => .int z) (X.2.2.1 0) (X.2.2.1 0) (v a0) (v a) (by rw [csp, ck]; exact h0)
  rw [csp, cdp, ck] at e1
  rw [e1] at X' step
  have hl : a < H.size := (Array.getElem?_eq_some_iff.mp hc1).1
  have hheap : ((T.setVm vm').setCell a (vp_cell (X.2.2.1 0) (n1, .inl (va_cpy (v a0) (v a) sp dp k)))).heap = H.setIfInBounds a (vp_cell (X.2.2.1 0) (n1, .inl (va_cpy (v a0) (v a) sp dp k))) := by rw [← hT]; rfl
  have oq : ∀ q : Nat, q ≠ a → (H.setIfInBounds a (vp_cell (X.2.2.1 0) (n1, .inl (va_cpy (v a0) (v a) sp dp k))))[q]? = H[q]? := fun q hq => by simp [Array.getElem?_setIfInBounds, Ne.symm hq]
  obtain ⟨t, a1, b1⟩ := kk p e s m args below meth c _ _ ls hC (hR.put hs (f := va_cpy (v a0) (v a) sp dp k) (show (H.setIfInBounds a _)[a]? = some _ by simp [Array.getElem?_setIfInBounds, hl]) (by simp) oq) ⟨by simp; exact hS.1, fun q g1 g2 => by
      rw [oq q (fun e => g2 (by rw [e]; exact hR.A hs))]
      exact hS.2.1 q g1 g2, fun q hq => by
      rcases List.mem_append.mp hq with h | h
      · exact hS.2.2 q h
      · obtain ⟨z, -, hz⟩ := List.mem_map.mp h
        rw [← hz]
        exact hR.A hs⟩ hL _ hheap X'
  exact ⟨t, step t a1, b1⟩
end GC
end
section
/-! ===== what a constructor does: new cells, references put ===== -/
theorem gj_dom_push {b lim : Nat} (h : b ≤ lim) : gj_dom b (lim + 1) = gj_dom b lim ++ [lim] := by
  unfold gj_dom
  rw [show lim + 1 - b = (lim - b) + 1 by omega, List.range'_concat]
  simp
  omega
theorem gj_rep.push {X : gj_X} {lim : Nat} {σ : gj_H} {v : gj_V} {H H1 : Heap} (h : gj_rep X lim σ v H) {sh : gj_S} {f : Nat → Int32} (hat : va_at X.2.1 vwCl (lim, gj_e X.2.2.1 (some sh) f) H1) (hz : H1.size = lim + 1) (oq : ∀ q : Nat, q < lim → H1[q]? = H[q]?) : gj_rep X (lim + 1) (va_up σ lim (some sh)) (gj_up v lim f) H1 := by
  have hnl : lim ∉ gj_dom X.2.2.2 lim := by rw [List.mem_range'_1]; omega
  have e1 : ∀ a, gj_e X.2.2.1 (va_up σ lim (some sh) a) (gj_up v lim f a) = va_up (fun a => gj_e X.2.2.1 (σ a) (v a)) lim (gj_e X.2.2.1 (some sh) f) a := by
    intro a
    by_cases ha : a = lim
    · subst ha
      simp only [gj_up, va_up_self]
    · simp only [gj_up, va_up_ne _ _ ha]
  have e : [] ++ gj_pl X (lim + 1) (va_up σ lim (some sh)) (gj_up v lim f) = ([] ++ gj_pl X lim σ v) ++ [(lim, gj_e X.2.2.1 (some sh) f)] := by
    simp only [gj_pl, List.nil_append]
    rw [va_pl_push hnl, gj_dom_push h.1]
    exact va_pl_congr e1
  have hk : ∀ (k : Nat) (x : Nat × va_E), ([] ++ gj_pl X lim σ v)[k]? = some x → H1[x.1]? = H[x.1]? := fun k x hx => oq x.1 (by rw [← h.2.1]; exact (h.2.2.2.1 k x hx).lt)
  refine ⟨Nat.le_succ_of_le h.1, hz, fun a ha => ?_, ?_, ?_⟩
  · by_cases hal : a = lim
    · subst hal
      exact ⟨h.1, Nat.lt_succ_self _⟩
    · rw [va_up_ne _ _ hal] at ha
      have := h.2.2.1 a ha
      omega
  · rw [e]
    refine (h.2.2.2.1.kept hk).app (fun k x hx => ?_)
    have hz : k < 1 := (List.getElem?_eq_some_iff.mp hx).1
    rw [show k = 0 by omega] at hx
    cases hx
    exact hat
  · rw [e]
    exact h.2.2.2.2.push h.2.2.2.1 h.2.1.symm h.1
section GN
variable {X : gj_X} {d d' : Nat} {M N : gj_M} {Q Q' : gj_Q} {lim : Nat} {σ : gj_H} {v : gj_V} {kc ks pc q index n b ci : Nat} {L L' : List (Option Value)} {st st0 As rest : List Value} {t : List (Option (Option Nat))}
/-- new C: the class, its slots, its blank template -/
def gj_Nk (own : String) (index ci : Nat) (N : Nat) (t : List (Option (Option Nat))) : Prop :=
  ∃ (C : String) (T : u_T) (ty0 : Nat → FieldType), vwCl[ci]? = some (C, T, N) ∧ (∀ w ∈ u_ws C T N, w ∈ gj_w) ∧ (∀ k, k < N → parseFieldDescriptor (T k).2.2.1 = some (ty0 k)) ∧ Cond.classLink own index C ∈ gj_w ∧ Cond.instantiable C N ∈ gj_w ∧ Cond.initialized C ∈ gj_w ∧ (∀ j, j < N → defaultValue (ty0 j) = vp_V (gj_fs t (fun _ => 0) 0) j)
theorem g_new {n : Nat} (hk : gj_Nk M.2.1.cls index ci n t) (hkc : kc + 1 ≤ M.2.2.2.2.1) (hks : ks + n ≤ M.2.2.2.2.2) (hd : decode M.1 pc = .ok (.new index, 3)) (hq : pc + 3 = q)
    (kk : gj_G X d M Q (lim + 1) (va_up σ lim (some (.inl (ci, t)))) (gj_up v lim (fun _ => 0)) (kc + 1) (ks + n) q L (.ref lim :: st)) : gj_G X d M Q lim σ v kc ks pc L st := by
  subst hq
  intro p e s m args below meth c H locs ls hC hR hS hL
  obtain ⟨C, T, ty0, h1, h2, h3, h4, h5, h6, h7⟩ := hk
  have hts := hC.2.2.2.2.2.2.1
  have hKn := hC.2.2.2.2.2.2.2.1.1.1 ci _ h1
  refine W.newcK hC.1 hC.2.1 hC.2.2.2.2.2.1 (hts _ h4) (hts _ h5) (hts _ h6) rfl hd hkc hks hKn.2.1 rfl fun H1 kC hkC e1 z1 o1 => ?_
  have hsz := hR.2.1
  rw [hsz] at e1 z1 o1 ⊢
  refine kk p e s m args below meth c H1 locs ls hC (hR.push (sh := .inl (ci, t)) (f := fun _ => 0) ⟨_, h1, (u_born ty0 hts h2 hKn hkC e1 h3).to h7⟩ z1 o1) ⟨Nat.le_trans hS.1 (by omega), fun x g1 g2 => (o1 x (by have := hS.1; omega)).trans (hS.2.1 x g1 g2), hS.2.2⟩ hL
theorem g_newi {i : Int32} {n : Nat} (hw : Cond.arrayClass .int ∈ gj_w) (hi : i = nI n) (hn : n < 100000) (hkc : kc + 1 ≤ M.2.2.2.2.1) (hks : ks + n ≤ M.2.2.2.2.2) (hd : decode M.1 pc = .ok (.newarray .int, 2)) (hq : pc + 2 = q)
    (kk : gj_G X d M Q (lim + 1) (va_up σ lim (some (.inr (.inl n)))) (gj_up v lim (fun _ => 0)) (kc + 1) (ks + n) q L (.ref lim :: st)) : gj_G X d M Q lim σ v kc ks pc L (.int i :: st) := by
  subst hq; subst hi
  intro p e s m args below meth c H locs ls hC hR hS hL
  have hts := hC.2.2.2.2.2.2.1
  have hc : (nI n).toNatClampNeg = n := nI_clamp (by omega)
  refine va_newaK hC.1 hC.2.1 (atype := .int) (hts _ hw) rfl hd rfl (nI_pos (by omega)) hc (by show n * 4 ≤ _; omega) hkc hks rfl fun H1 cA e1 z1 o1 hAr hNm => ?_
  have hsz := hR.2.1
  rw [hsz] at e1 z1 o1 ⊢
  have hcA : cA = X.2.2.1 0 := by
    have hra : s.vm.findClass ("[" ++ FieldType.int.toString) = some (X.2.2.1 0) := (hC.2.2.2.2.2.2.2.1.1.2 0 (X.2.2.1 0, .int) rfl).2
    exact Option.some.inj (hNm.symm.trans hra)
  subst hcA
  refine kk p e s m args below meth c H1 locs ls hC (hR.push (sh := .inr (.inl n)) (f := fun _ => 0) ?_ z1 o1) ⟨Nat.le_trans hS.1 (by omega), fun x g1 g2 => (o1 x (by have := hS.1; omega)).trans (hS.2.1 x g1 g2), hS.2.2⟩ hL
  show H1[lim]? = some (vp_cell (X.2.2.1 0) (n, .inl (fun _ => 0)))
  rw [e1, vp_cell_i]
  rfl
theorem g_anew {i : Int32} {n k0 : Nat} {C : String} (hw : Cond.classLink M.2.1.cls index C ∈ gj_w) (hao : C ∈ gj_ao) (hty : (gj_tys X.2.2.1)[k0]? = some (X.2.2.1 k0, .object C)) (hi : i = nI n) (hn : n < 100000) (hkc : kc + 1 ≤ M.2.2.2.2.1) (hks : ks + n ≤ M.2.2.2.2.2) (hd : decode M.1 pc = .ok (.anewarray index, 3)) (hq : pc + 3 = q)
    (kk : gj_G X d M Q (lim + 1) (va_up σ lim (some (.inr (.inr (k0, List.replicate n none))))) (gj_up v lim (fun _ => 0)) (kc + 1) (ks + n) q L (.ref lim :: st)) : gj_G X d M Q lim σ v kc ks pc L (.int i :: st) := by
  subst hq; subst hi
  intro p e s m args below meth c H locs ls hC hR hS hL
  have hts := hC.2.2.2.2.2.2.1
  have hc : (nI n).toNatClampNeg = n := nI_clamp (by omega)
  refine W.anew hC.1 hC.2.1 hC.2.2.2.2.2.1 (hts _ hw) (va_AO.use (hC.2.2.2.2.2.2.2.1.2.2 C hao)) rfl hd rfl (nI_pos (by omega)) (by rw [hc]; omega) hkc (by rw [hc]; exact hks) fun cA kA comp f1 f2 f3 f4 => ?_
  have hsz := hR.2.1
  have hcA : cA = X.2.2.1 k0 := by
    obtain ⟨-, -, -, -, -, h4⟩ := (hC.2.2.2.2.2.2.2.1.1.2 k0 (X.2.2.1 k0, .object C) hty).2
    exact Option.some.inj (f1.symm.trans h4)
  subst hcA
  rw [hc]
  generalize hH1 : H.push ({ cls := X.2.2.1 k0, slots := Array.replicate n .null, vm := .none } : Cell) = H1
  have z1 : H1.size = lim + 1 := by rw [← hH1, Array.size_push, hsz]
  have e1 : H1[lim]? = some (arrV (X.2.2.1 k0) n (fun _ => .null)) := by rw [← hH1, ← hsz, Array.getElem?_push_size, ← arrV_new]
  have o1 : ∀ q : Nat, q < lim → H1[q]? = H[q]? := fun q hq => by rw [← hH1, Array.getElem?_push, if_neg (by omega)]
  rw [hsz]
  refine kk p e s m args below meth c H1 locs ls hC (hR.push (sh := .inr (.inr (k0, List.replicate n none))) (f := fun _ => 0) ?_ z1 o1) ⟨Nat.le_trans hS.1 (by omega), fun x g1 g2 => (o1 x (by have := hS.1; omega)).trans (hS.2.1 x g1 g2), hS.2.2⟩ hL
  show H1[lim]? = some (vp_cell (X.2.2.1 k0) ((List.replicate n (none : Option Nat)).length, .inr (.inr (.inr (.inr (fun i => (List.replicate n (none : Option Nat)).getD i none))))))
  rw [e1, vp_cell_q, List.length_replicate]
  congr 2
  funext j
  have : (List.replicate n (none : Option Nat)).getD j none = none := by
    rw [List.getD_eq_getElem?_getD]
    by_cases hj : j < n
    · rw [List.getElem?_replicate, if_pos hj]; rfl
    · rw [List.getElem?_replicate, if_neg hj]; rfl
  rw [this]
  rfl
/-- a final reference field, in its constructor -/
theorem g_putR {k a r : Nat} {ty : FieldType} (hf : gj_Fk M.2.1.cls index ci k ty true) (hci : (vwCl[ci]?).map (fun z => z.1) = some M.2.1.cls) (hnm : M.2.1.name = "<init>") (hs : σ a = some (.inl (ci, t))) (hk : k < t.length) (hn : narrow ty (.ref r) = .ref r) (hfit : fits ty (.ref r) = true) (hd : decode M.1 pc = .ok (.putfield index, 3)) (hq : pc + 3 = q)
    (kk : gj_G X d M Q lim (va_up σ a (some (.inl (ci, t.set k (some (some r)))))) v kc ks q L st) : gj_G X d M Q lim σ v kc ks pc L (.ref r :: .ref a :: st) := by
  subst hq
  intro p e s m args below meth c H locs ls hC hR hS hL
  obtain ⟨C, T, N, ty0, h1, h2, h3, h4, h5, h6, h7, h8, h9⟩ := hf
  have hCo : C = M.2.1.cls := by rw [h1] at hci; exact Option.some.inj hci
  have hts := hC.2.2.2.2.2.2.1
  have hown := hC.2.2.2.2.2.1
  have hK := hC.2.2.2.2.2.2.2.1.1
  have hap := va_apart (own := M.2.1.cls) hts h2 ty0 h3 h4 hK h1
  obtain ⟨r', g1, cell, q1, q2, q3, q4⟩ := hR.one hs 0 _ rfl
  have hr : r' = (C, T, N) := Option.some.inj (g1.symm.trans h1)
  subst hr
  obtain ⟨hSl, hfc, kC, hkC, hkind⟩ := hK.1 ci _ h1
  obtain ⟨cf, kf, fi, f, hi, hsl⟩ := hSl k h5
  have hlay := hts _ (h2 _ (u_in_lay h5))
  unfold u_lay at hlay
  rw [if_pos h7] at hlay
  have hst := (u_facts hfc hkC (u_lays hts h2 h5) hi).1
  have hcf : m.cls = cf := by
    obtain ⟨_, _, c', _, _, _, -, -, hf', -, -, -, hown2, -⟩ := Cond.laysFinal_spec hlay
    have e1 : c' = cf := by have := hi.symm.trans hf'; simp at this; exact this.1.symm
    rw [h8, hCo] at hown2
    rw [← e1]; exact Option.some.inj (hown.symm.trans hown2)
  have h10 := u_fits hfc hkC hkind (Or.inr hlay) hi (by rw [h3 k h5, h6]) hn hfit
  have hlen : k < (gj_fs t (v a) 0).length := by rw [gj_fs_len]; exact hk
  have fin : ∀ H' : Heap, H'[a]? = some (cell.setSlot f.slot (.ref r)) → H'.size = H.size → (∀ q, q ≠ a → H'[q]? = H[q]?) → W p X.1 e (gj_R d M) s m args below meth c H' (locs ++ [⟨a, f.slot⟩]) kc ks (MQ below (gj_F X Q) args s M.2.2.2.2.1 M.2.2.2.2.2 (gj_A X)) (F0 m (pc + 3) ls st) := by
    intro H' e1 e2 e3
    rw [hsl] at e1 ⊢
    refine kk p e s m args below meth c H' _ ls hC (hR.puts hs (sh' := .inl (ci, t.set k (some (some r)))) ?_ e2 e3) (hS.put e2 e3 (hR.A hs)) hL
    show va_at X.2.1 vwCl (a, .inr (ci, gj_fs (t.set k (some (some r))) (v a) 0)) H'
    rw [← gj_fs_setr t (v a) k (some r) hk]
    exact ⟨_, h1, t_OB.to (V := updV (vp_V (gj_fs t (v a) 0)) k (.ref r)) ⟨_, e1, q2, q3, t_set q4 hap h5 (.ref r)⟩ (fun j _ => vp_updV_set hlen (.ref r) j)⟩
  rcases h9 with h9 | ⟨host, h9⟩
  · exact W.putFinK hC.1 hC.2.1 hown (hts _ h9) hi hst hcf (hC.2.2.2.2.2.2.2.2.2.trans hnm) (by rw [q2]; exact h10) q1 q3 (by rw [hsl]; exact k2_hasslot (q4 k h5)) rfl rfl hd fin
  · refine va_Wputf hC.1 hC.2.1 hown (va_Nw.use rfl (hC.2.2.2.2.2.2.2.1.2.1 _ h9)) hi hst (Or.inr ⟨hcf, hC.2.2.2.2.2.2.2.2.2.trans hnm⟩) q1 (by rw [q3]; exact fun h => by cases h) (by rw [hsl]; exact k2_hasslot (q4 k h5)) h10.1 (by rw [q2, q3]; exact h10.2) rfl rfl hd ?_
    have ha : a < H.size := (Array.getElem?_eq_some_iff.mp q1).1
    refine fin _ ?_ ?_ ?_
    · simp [Array.getElem?_setIfInBounds, ha]
    · simp
    · intro z hz
      simp [Array.getElem?_setIfInBounds, Ne.symm hz]
/-- an array of references is written -/
theorem g_aast {a k r k0 : Nat} {i : Int32} {A : List (Option Nat)} {z : vw_C} (hs : σ a = some (.inr (.inr (k0, A)))) (hty : (gj_tys X.2.2.1)[k0]? = some (X.2.2.1 k0, .object z.1)) (hi : i = nI k) (hk : k < A.length) (hn : A.length < 2147483648) (hsr : σ r = some (.inl (ci, t))) (hz : vwCl[ci]? = some z) (hd : decode M.1 pc = .ok (.aastore, 1)) (hq : pc + 1 = q)
    (kk : gj_G X d M Q lim (va_up σ a (some (.inr (.inr (k0, A.set k (some r)))))) v kc ks q L st) : gj_G X d M Q lim σ v kc ks pc L (.ref r :: .int i :: .ref a :: st) := by
  subst hq; subst hi
  intro p e s m args below meth c H locs ls hC hR hS hL
  have hc : (nI k).toNatClampNeg = k := nI_clamp (Nat.lt_trans hk hn)
  have hK := hC.2.2.2.2.2.2.2.1.1
  have hP0 : H[a]? = some (vp_cell (X.2.2.1 k0) (A.length, .inr (.inr (.inr (.inr (fun i => A.getD i none)))))) := hR.one hs 0 _ rfl
  obtain ⟨r', hr', cellV, g1, g2, g3, -⟩ := hR.one hsr 0 _ rfl
  have hcls := (hK.1 ci z hz).2
  obtain ⟨kA, comp, k1, k2, k3, -⟩ := (hK.2 k0 (X.2.2.1 k0, .object z.1) hty).2
  have hcomp : comp = X.2.1.1 ci := Option.some.inj (k3.symm.trans hcls.1)
  subst hcomp
  obtain ⟨kC, hkC, -⟩ := hcls.2
  refine W.aast hC.1 hC.2.1 hP0 (fun q h => by cases h) (fun h => by cases h) k1 k2 rfl hkC ⟨nI_pos (by omega), by show _ < (arrV _ _ _).slots.size; rw [arrV_size, hc]; exact hk⟩ g1 (fun q h => by rw [g3] at h; cases h) (by rw [g2]; exact hkC) (by rw [g2]; exact va_assign hcls) rfl rfl hd fun H1 e1 z1 oq => ?_
  refine kk p e s m args below meth c H1 _ ls hC (hR.puts hs (sh' := .inr (.inr (k0, A.set k (some r)))) ?_ z1 oq) (hS.put z1 oq (hR.A hs)) hL
  show H1[a]? = some (vp_cell (X.2.2.1 k0) ((A.set k (some r)).length, .inr (.inr (.inr (.inr (fun i => (A.set k (some r)).getD i none))))))
  rw [e1, hc, vp_cell_q, vp_cell_q, List.length_set, arrV_store]
  congr 2
  funext j
  by_cases hj : j = k
  · subst hj
    simp [updV, va_rf, hk]
  · simp [updV, hj, List.getD_eq_getElem?_getD, List.getElem?_set_ne (Ne.symm hj)]
def gj_Oi (own : String) (index : Nat) : Prop := Cond.methodLink own index objectInit ∈ gj_w ∧ Cond.instanceMethod objectInit ∈ gj_w ∧ Cond.code objectInit ⟨#[0xb1]⟩ 1 none ∈ gj_w
theorem g_oinit {a : Nat} (hk : gj_Oi M.2.1.cls index) (hrm : (st.map fun v => v.category).sum ≤ 8) (hd : decode M.1 pc = .ok (.invokespecial index, 3)) (hq : pc + 3 = q) (kk : gj_G X d M Q lim σ v kc ks q L st) : gj_G X d M Q lim σ v kc ks pc L (.ref a :: st) := by
  subst hq
  intro p e s m args below meth c H locs ls hC hR hS hL
  have hts := hC.2.2.2.2.2.2.1
  exact W.objInit hC.1 hC.2.1 hC.2.2.2.2.2.1 (hts _ hk.1) (hts _ hk.2.1) (hts _ hk.2.2) rfl (by show ls.size = _; rw [hL.1]; exact hC.2.2.1.symm) rfl hd (by simp only [gj_R]; omega) (by show 2 * 0 + _ + 12 ≤ _; simp only [gj_R]; omega) (kk p e s m args below meth c H locs ls hC hR hS hL)
end GN
end
section
/-! ===== links by their places in the tables: written by a program of ours ===== -/
theorem gl_all {ws : List Cond} (ps : List Nat) (hp : ws = ps.filterMap (fun i => lw_tbl[i]?)) (h : ws.all goodWord = true) : ∀ w ∈ ws, w ∈ gj_w := by
  intro w hw
  have h1 := List.all_eq_true.mp h w hw
  rw [hp] at hw
  obtain ⟨i, -, hi⟩ := List.mem_filterMap.mp hw
  exact List.mem_filter.mpr ⟨List.mem_of_getElem? hi, h1⟩
theorem gl_inX0 : ∀ w ∈ u_ws RX0 TX0 9, w ∈ gj_w := gl_all [165, 167, 169, 171, 173, 175, 177, 179, 181] (by decide +kernel) (by decide +kernel)
theorem gl_inX1 : ∀ w ∈ u_ws RX1 TX1 9, w ∈ gj_w := gl_all [296, 298, 300, 302, 304, 306, 308, 310, 312] (by decide +kernel) (by decide +kernel)
theorem gl_inX2 : ∀ w ∈ u_ws RX2 TX2 4, w ∈ gj_w := gl_all [129, 131, 133, 135] (by decide +kernel) (by decide +kernel)
theorem gl_inX3 : ∀ w ∈ u_ws RX3 TX3 3, w ∈ gj_w := gl_all [328, 330, 332] (by decide +kernel) (by decide +kernel)
theorem gl_inX4 : ∀ w ∈ u_ws RX4 TX4 1, w ∈ gj_w := gl_all [367] (by decide +kernel) (by decide +kernel)
theorem gl_inX5 : ∀ w ∈ u_ws RX5 TX5 2, w ∈ gj_w := gl_all [107, 109] (by decide +kernel) (by decide +kernel)
theorem gl_inX6 : ∀ w ∈ u_ws RX6 TX6 8, w ∈ gj_w := gl_all [378, 380, 382, 384, 386, 388, 390, 392] (by decide +kernel) (by decide +kernel)
theorem gl_inX7 : ∀ w ∈ u_ws RX7 TX7 12, w ∈ gj_w := gl_all [210, 212, 214, 216, 218, 220, 222, 224, 226, 228, 230, 232] (by decide +kernel) (by decide +kernel)
theorem gl_inX8 : ∀ w ∈ u_ws RX8 TX8 2, w ∈ gj_w := gl_all [345, 347] (by decide +kernel) (by decide +kernel)
theorem gl_inX9 : ∀ w ∈ u_ws RX9 TX9 4, w ∈ gj_w := gl_all [248, 250, 252, 254] (by decide +kernel) (by decide +kernel)
theorem gl_inX10 : ∀ w ∈ u_ws RX10 TX10 8, w ∈ gj_w := gl_all [405, 407, 409, 411, 413, 415, 417, 419] (by decide +kernel) (by decide +kernel)
theorem gl_inX11 : ∀ w ∈ u_ws RX11 TX11 17, w ∈ gj_w := gl_all [920, 922, 924, 926, 928, 930, 932, 934, 936, 938, 940, 942, 944, 946, 948, 950, 952] (by decide +kernel) (by decide +kernel)
abbrev m_X0_init : gj_M := (cX0_init, yX0_init, 1, none, 5, 20)
abbrev m_X0_put : gj_M := (cX0_put, yX0_put, 3, some .boolean, 0, 0)
abbrev m_X0_take : gj_M := (cX0_take, yX0_take, 3, some .int, 0, 0)
abbrev m_X0_canGive : gj_M := (cX0_canGive, yX0_canGive, 2, some .boolean, 0, 0)
abbrev m_X0_giveFirst : gj_M := (cX0_giveFirst, yX0_giveFirst, 1, some .int, 0, 0)
abbrev m_X0_isKeptByAnother : gj_M := (cX0_isKeptByAnother, yX0_isKeptByAnother, 2, some .boolean, 0, 0)
abbrev m_X0_keepFor : gj_M := (cX0_keepFor, yX0_keepFor, 3, some .int, 0, 0)
abbrev m_X0_letGo : gj_M := (cX0_letGo, yX0_letGo, 2, some .int, 0, 0)
abbrev m_X0_bufferTold : gj_M := (cX0_bufferTold, yX0_bufferTold, 2, some .int, 0, 0)
abbrev m_X0_keepingTold : gj_M := (cX0_keepingTold, yX0_keepingTold, 2, some .int, 0, 0)
abbrev m_X0_startAnew : gj_M := (cX0_startAnew, yX0_startAnew, 1, none, 0, 0)
abbrev m_X0_copyFrom : gj_M := (cX0_copyFrom, yX0_copyFrom, 2, none, 0, 0)
abbrev m_X1_init : gj_M := (cX1_init, yX1_init, 2, none, 54, 300)
abbrev m_X1_startAnew : gj_M := (cX1_startAnew, yX1_startAnew, 3, none, 0, 0)
abbrev m_X1_hasBuffer : gj_M := (cX1_hasBuffer, yX1_hasBuffer, 2, some .boolean, 0, 0)
abbrev m_X1_hasBufferOrNone : gj_M := (cX1_hasBufferOrNone, yX1_hasBufferOrNone, 2, some .boolean, 0, 0)
abbrev m_X1_hasStation : gj_M := (cX1_hasStation, yX1_hasStation, 2, some .boolean, 0, 0)
abbrev m_X1_move : gj_M := (cX1_move, yX1_move, 7, some .int, 0, 0)
abbrev m_X1_moveOne : gj_M := (cX1_moveOne, yX1_moveOne, 3, some .boolean, 0, 0)
abbrev m_X1_leaveBoth : gj_M := (cX1_leaveBoth, yX1_leaveBoth, 3, none, 0, 0)
abbrev m_X1_tick : gj_M := (cX1_tick, yX1_tick, 3, some .int, 0, 0)
abbrev m_X1_tickStation : gj_M := (cX1_tickStation, yX1_tickStation, 4, some .int, 0, 0)
abbrev m_X1_work : gj_M := (cX1_work, yX1_work, 3, some .int, 0, 0)
abbrev m_X1_deliver : gj_M := (cX1_deliver, yX1_deliver, 2, some .int, 0, 0)
abbrev m_X1_takePair : gj_M := (cX1_takePair, yX1_takePair, 7, some .int, 0, 0)
abbrev m_X1_tryWish : gj_M := (cX1_tryWish, yX1_tryWish, 5, some .boolean, 0, 0)
abbrev m_X1_serve : gj_M := (cX1_serve, yX1_serve, 3, none, 0, 0)
abbrev m_X1_serveFirst : gj_M := (cX1_serveFirst, yX1_serveFirst, 2, some .boolean, 0, 0)
abbrev m_X1_queuedAt : gj_M := (cX1_queuedAt, yX1_queuedAt, 3, some .int, 0, 0)
abbrev m_X1_stuckBits : gj_M := (cX1_stuckBits, yX1_stuckBits, 3, some .int, 0, 0)
abbrev m_X1_isStuck : gj_M := (cX1_isStuck, yX1_isStuck, 5, some .boolean, 0, 0)
abbrev m_X1_worksTold : gj_M := (cX1_worksTold, yX1_worksTold, 2, some .int, 0, 0)
abbrev m_X1_allItems : gj_M := (cX1_allItems, yX1_allItems, 3, some .int, 0, 0)
abbrev m_X1_allEntries : gj_M := (cX1_allEntries, yX1_allEntries, 3, some .int, 0, 0)
abbrev m_X1_copyFrom : gj_M := (cX1_copyFrom, yX1_copyFrom, 3, none, 0, 0)
abbrev m_X2_init : gj_M := (cX2_init, yX2_init, 1, none, 0, 0)
abbrev m_X2_enter : gj_M := (cX2_enter, yX2_enter, 1, none, 0, 0)
abbrev m_X2_leave : gj_M := (cX2_leave, yX2_leave, 1, none, 0, 0)
abbrev m_X2_leaveThrown : gj_M := (cX2_leaveThrown, yX2_leaveThrown, 1, none, 0, 0)
abbrev m_X2_startAnew : gj_M := (cX2_startAnew, yX2_startAnew, 1, none, 0, 0)
abbrev m_X2_copyFrom : gj_M := (cX2_copyFrom, yX2_copyFrom, 2, none, 0, 0)
abbrev m_X3_init : gj_M := (cX3_init, yX3_init, 2, none, 331, 1860)
abbrev m_X3_keep : gj_M := (cX3_keep, yX3_keep, 2, none, 0, 0)
abbrev m_X3_giveBack : gj_M := (cX3_giveBack, yX3_giveBack, 2, none, 0, 0)
abbrev m_X4_init : gj_M := (cX4_init, yX4_init, 2, none, 13, 54)
abbrev m_X4_keep : gj_M := (cX4_keep, yX4_keep, 3, none, 0, 0)
abbrev m_X4_giveBack : gj_M := (cX4_giveBack, yX4_giveBack, 3, none, 0, 0)
abbrev m_X5_init : gj_M := (cX5_init, yX5_init, 1, none, 1, 6)
abbrev m_X5_at : gj_M := (cX5_at, yX5_at, 2, some .int, 0, 0)
abbrev m_X5_placeOf : gj_M := (cX5_placeOf, yX5_placeOf, 3, some .int, 0, 0)
abbrev m_X5_addLast : gj_M := (cX5_addLast, yX5_addLast, 2, none, 0, 0)
abbrev m_X5_addFirst : gj_M := (cX5_addFirst, yX5_addFirst, 2, none, 0, 0)
abbrev m_X5_removeAt : gj_M := (cX5_removeAt, yX5_removeAt, 3, some .int, 0, 0)
abbrev m_X5_copyFrom : gj_M := (cX5_copyFrom, yX5_copyFrom, 2, none, 0, 0)
abbrev m_X6_init : gj_M := (cX6_init, yX6_init, 4, none, 72, 285)
abbrev m_X6_run : gj_M := (cX6_run, yX6_run, 2, some .int, 0, 0)
abbrev m_X6_enterLevel : gj_M := (cX6_enterLevel, yX6_enterLevel, 1, none, 0, 0)
abbrev m_X6_leaveLevel : gj_M := (cX6_leaveLevel, yX6_leaveLevel, 1, none, 0, 0)
abbrev m_X6_undoLevel : gj_M := (cX6_undoLevel, yX6_undoLevel, 1, none, 0, 0)
abbrev m_X6_skipGroup : gj_M := (cX6_skipGroup, yX6_skipGroup, 3, none, 0, 0)
abbrev m_X6_orderDone : gj_M := (cX6_orderDone, yX6_orderDone, 6, some .boolean, 0, 0)
abbrev m_X6_nextFigure : gj_M := (cX6_nextFigure, yX6_nextFigure, 1, some .int, 0, 0)
abbrev m_X6_nextByte : gj_M := (cX6_nextByte, yX6_nextByte, 2, some .int, 0, 0)
abbrev m_X7_init : gj_M := (cX7_init, yX7_init, 1, none, 0, 0)
abbrev m_X7_setUp : gj_M := (cX7_setUp, yX7_setUp, 6, none, 0, 0)
abbrev m_X7_becomeIdle : gj_M := (cX7_becomeIdle, yX7_becomeIdle, 1, none, 0, 0)
abbrev m_X7_load : gj_M := (cX7_load, yX7_load, 2, none, 0, 0)
abbrev m_X7_workOn : gj_M := (cX7_workOn, yX7_workOn, 1, none, 0, 0)
abbrev m_X7_stationTold : gj_M := (cX7_stationTold, yX7_stationTold, 2, some .int, 0, 0)
abbrev m_X7_copyFrom : gj_M := (cX7_copyFrom, yX7_copyFrom, 2, none, 0, 0)
abbrev m_X8_init : gj_M := (cX8_init, yX8_init, 1, none, 1, 120)
abbrev m_X8_isFull : gj_M := (cX8_isFull, yX8_isFull, 1, some .boolean, 0, 0)
abbrev m_X8_add : gj_M := (cX8_add, yX8_add, 2, none, 0, 0)
abbrev m_X8_at : gj_M := (cX8_at, yX8_at, 2, some .int, 0, 0)
abbrev m_X8_fault : gj_M := (cX8_fault, yX8_fault, 6, some .int, 0, 0)
abbrev m_X8_figuresOf : gj_M := (cX8_figuresOf, yX8_figuresOf, 1, some .int, 0, 0)
abbrev m_X9_init : gj_M := (cX9_init, yX9_init, 1, none, 0, 0)
abbrev m_X9_waits : gj_M := (cX9_waits, yX9_waits, 1, some .boolean, 0, 0)
abbrev m_X9_wishFor : gj_M := (cX9_wishFor, yX9_wishFor, 4, none, 0, 0)
abbrev m_X9_wishNoMore : gj_M := (cX9_wishNoMore, yX9_wishNoMore, 1, none, 0, 0)
abbrev m_X9_workerTold : gj_M := (cX9_workerTold, yX9_workerTold, 2, some .int, 0, 0)
abbrev m_X9_startAnew : gj_M := (cX9_startAnew, yX9_startAnew, 1, none, 0, 0)
abbrev m_X9_copyFrom : gj_M := (cX9_copyFrom, yX9_copyFrom, 2, none, 0, 0)
abbrev m_X10_init : gj_M := (cX10_init, yX10_init, 1, none, 476, 2642)
abbrev m_X10_begins : gj_M := (cX10_begins, yX10_begins, 3, some .int, 0, 0)
abbrev m_X10_rooms : gj_M := (cX10_rooms, yX10_rooms, 4, some .int, 0, 0)
abbrev m_X10_station : gj_M := (cX10_station, yX10_station, 7, some .int, 0, 0)
abbrev m_X10_guards : gj_M := (cX10_guards, yX10_guards, 4, some .int, 0, 0)
abbrev m_X10_ticks : gj_M := (cX10_ticks, yX10_ticks, 4, some .int, 0, 0)
abbrev m_X10_puts : gj_M := (cX10_puts, yX10_puts, 5, some .int, 0, 0)
abbrev m_X10_takes : gj_M := (cX10_takes, yX10_takes, 3, some .int, 0, 0)
abbrev m_X10_moves : gj_M := (cX10_moves, yX10_moves, 7, some .int, 0, 0)
abbrev m_X10_asks : gj_M := (cX10_asks, yX10_asks, 6, some .int, 0, 0)
abbrev m_X10_cancels : gj_M := (cX10_cancels, yX10_cancels, 2, some .int, 0, 0)
abbrev m_X10_keeps : gj_M := (cX10_keeps, yX10_keeps, 3, some .int, 0, 0)
abbrev m_X10_lets : gj_M := (cX10_lets, yX10_lets, 4, some .int, 0, 0)
abbrev m_X10_quits : gj_M := (cX10_quits, yX10_quits, 4, some .int, 0, 0)
abbrev m_X10_keeper : gj_M := (cX10_keeper, yX10_keeper, 3, some .int, 0, 0)
abbrev m_X10_queue : gj_M := (cX10_queue, yX10_queue, 3, some .int, 0, 0)
abbrev m_X10_stuck : gj_M := (cX10_stuck, yX10_stuck, 1, some .int, 0, 0)
abbrev m_X10_buffer : gj_M := (cX10_buffer, yX10_buffer, 3, some .int, 0, 0)
abbrev m_X10_item : gj_M := (cX10_item, yX10_item, 3, some .int, 0, 0)
abbrev m_X10_of : gj_M := (cX10_of, yX10_of, 3, some .int, 0, 0)
abbrev m_X10_worker : gj_M := (cX10_worker, yX10_worker, 3, some .int, 0, 0)
abbrev m_X10_line : gj_M := (cX10_line, yX10_line, 2, some .int, 0, 0)
abbrev m_X10_works : gj_M := (cX10_works, yX10_works, 2, some .int, 0, 0)
abbrev m_X10_type : gj_M := (cX10_type, yX10_type, 2, some .int, 0, 0)
abbrev m_X10_clear : gj_M := (cX10_clear, yX10_clear, 2, some .int, 0, 0)
abbrev m_X10_does : gj_M := (cX10_does, yX10_does, 3, some .int, 0, 0)
abbrev m_X10_back : gj_M := (cX10_back, yX10_back, 1, some .int, 0, 0)
abbrev m_X10_told : gj_M := (cX10_told, yX10_told, 2, some .int, 0, 0)
abbrev m_X10_digest : gj_M := (cX10_digest, yX10_digest, 4, some .long, 0, 0)
abbrev m_X10_toldOf : gj_M := (cX10_toldOf, yX10_toldOf, 2, some .int, 0, 0)
abbrev m_X10_refuseBad : gj_M := (cX10_refuseBad, yX10_refuseBad, 1, some .int, 0, 0)
abbrev m_X10_refuseNo : gj_M := (cX10_refuseNo, yX10_refuseNo, 1, some .int, 0, 0)
abbrev m_X10_refuseFull : gj_M := (cX10_refuseFull, yX10_refuseFull, 1, some .int, 0, 0)
abbrev m_X10_within : gj_M := (cX10_within, yX10_within, 3, some .boolean, 0, 0)
abbrev m_X10_isWorker : gj_M := (cX10_isWorker, yX10_isWorker, 1, some .boolean, 0, 0)
abbrev m_X10_mixed : gj_M := (cX10_mixed, yX10_mixed, 3, some .long, 0, 0)
abbrev m_X10_mixedRow : gj_M := (cX10_mixedRow, yX10_mixedRow, 6, some .long, 0, 0)
abbrev m_X10_mixedBuffer : gj_M := (cX10_mixedBuffer, yX10_mixedBuffer, 6, some .long, 0, 0)
abbrev m_X10_mixedStation : gj_M := (cX10_mixedStation, yX10_mixedStation, 6, some .long, 0, 0)
abbrev m_X10_mixedWorker : gj_M := (cX10_mixedWorker, yX10_mixedWorker, 6, some .long, 0, 0)
abbrev m_X11_init : gj_M := (cX11_init, yX11_init, 1, none, 12, 3297)
abbrev m_X11_bad : gj_M := (cX11_bad, yX11_bad, 1, some .int, 0, 0)
abbrev m_X11_no : gj_M := (cX11_no, yX11_no, 1, some .int, 0, 0)
abbrev m_X11_full : gj_M := (cX11_full, yX11_full, 1, some .int, 0, 0)
abbrev m_X11_in : gj_M := (cX11_in, yX11_in, 3, some .boolean, 0, 0)
abbrev m_X11_atBuffer : gj_M := (cX11_atBuffer, yX11_atBuffer, 1, some .int, 0, 0)
abbrev m_X11_gate : gj_M := (cX11_gate, yX11_gate, 1, some .int, 0, 0)
abbrev m_X11_stationAt : gj_M := (cX11_stationAt, yX11_stationAt, 1, some .int, 0, 0)
abbrev m_X11_workerAt : gj_M := (cX11_workerAt, yX11_workerAt, 1, some .int, 0, 0)
abbrev m_X11_isBuffer : gj_M := (cX11_isBuffer, yX11_isBuffer, 2, some .boolean, 0, 0)
abbrev m_X11_isWorker : gj_M := (cX11_isWorker, yX11_isWorker, 1, some .boolean, 0, 0)
abbrev m_X11_lays : gj_M := (cX11_lays, yX11_lays, 3, none, 0, 0)
abbrev m_X11_leavesState : gj_M := (cX11_leavesState, yX11_leavesState, 2, none, 0, 0)
abbrev m_X11_back : gj_M := (cX11_back, yX11_back, 2, some .int, 0, 0)
abbrev m_X11_enters : gj_M := (cX11_enters, yX11_enters, 3, none, 0, 0)
abbrev m_X11_leaves : gj_M := (cX11_leaves, yX11_leaves, 2, none, 0, 0)
abbrev m_X11_thrownOut : gj_M := (cX11_thrownOut, yX11_thrownOut, 2, none, 0, 0)
abbrev m_X11_isKeptFor : gj_M := (cX11_isKeptFor, yX11_isKeptFor, 3, some .boolean, 0, 0)
abbrev m_X11_put : gj_M := (cX11_put, yX11_put, 5, some .boolean, 0, 0)
abbrev m_X11_firstOf : gj_M := (cX11_firstOf, yX11_firstOf, 5, some .int, 0, 0)
abbrev m_X11_take : gj_M := (cX11_take, yX11_take, 4, some .int, 0, 0)
abbrev m_X11_firstAgain : gj_M := (cX11_firstAgain, yX11_firstAgain, 5, none, 0, 0)
abbrev m_X11_lesser : gj_M := (cX11_lesser, yX11_lesser, 2, some .int, 0, 0)
abbrev m_X11_greater : gj_M := (cX11_greater, yX11_greater, 2, some .int, 0, 0)
abbrev m_X11_move : gj_M := (cX11_move, yX11_move, 9, some .int, 0, 0)
abbrev m_X11_laysAside : gj_M := (cX11_laysAside, yX11_laysAside, 4, none, 0, 0)
abbrev m_X11_undoes : gj_M := (cX11_undoes, yX11_undoes, 4, none, 0, 0)
abbrev m_X11_goesFromLine : gj_M := (cX11_goesFromLine, yX11_goesFromLine, 4, none, 0, 0)
abbrev m_X11_tries : gj_M := (cX11_tries, yX11_tries, 6, some .boolean, 0, 0)
abbrev m_X11_serves : gj_M := (cX11_serves, yX11_serves, 4, none, 0, 0)
abbrev m_X11_starts : gj_M := (cX11_starts, yX11_starts, 3, none, 0, 0)
abbrev m_X11_takesBoth : gj_M := (cX11_takesBoth, yX11_takesBoth, 10, none, 0, 0)
abbrev m_X11_takesOne : gj_M := (cX11_takesOne, yX11_takesOne, 3, none, 0, 0)
abbrev m_X11_worksOn : gj_M := (cX11_worksOn, yX11_worksOn, 2, none, 0, 0)
abbrev m_X11_madeOfAll : gj_M := (cX11_madeOfAll, yX11_madeOfAll, 3, some .int, 0, 0)
abbrev m_X11_tick : gj_M := (cX11_tick, yX11_tick, 4, none, 0, 0)
abbrev m_X11_begins : gj_M := (cX11_begins, yX11_begins, 3, some .int, 0, 0)
abbrev m_X11_rooms : gj_M := (cX11_rooms, yX11_rooms, 4, some .int, 0, 0)
abbrev m_X11_station : gj_M := (cX11_station, yX11_station, 7, some .int, 0, 0)
abbrev m_X11_isStation : gj_M := (cX11_isStation, yX11_isStation, 2, some .boolean, 0, 0)
abbrev m_X11_guards : gj_M := (cX11_guards, yX11_guards, 4, some .int, 0, 0)
abbrev m_X11_ticks : gj_M := (cX11_ticks, yX11_ticks, 4, some .int, 0, 0)
abbrev m_X11_puts : gj_M := (cX11_puts, yX11_puts, 4, some .int, 0, 0)
abbrev m_X11_takes : gj_M := (cX11_takes, yX11_takes, 3, some .int, 0, 0)
abbrev m_X11_moves : gj_M := (cX11_moves, yX11_moves, 7, some .int, 0, 0)
abbrev m_X11_asks : gj_M := (cX11_asks, yX11_asks, 7, some .int, 0, 0)
abbrev m_X11_cancels : gj_M := (cX11_cancels, yX11_cancels, 3, some .int, 0, 0)
abbrev m_X11_queueOf : gj_M := (cX11_queueOf, yX11_queueOf, 5, some .int, 0, 0)
abbrev m_X11_goesFromQueue : gj_M := (cX11_goesFromQueue, yX11_goesFromQueue, 6, none, 0, 0)
abbrev m_X11_keeps : gj_M := (cX11_keeps, yX11_keeps, 5, some .int, 0, 0)
abbrev m_X11_lets : gj_M := (cX11_lets, yX11_lets, 6, some .int, 0, 0)
abbrev m_X11_quits : gj_M := (cX11_quits, yX11_quits, 3, some .int, 0, 0)
abbrev m_X11_keeper : gj_M := (cX11_keeper, yX11_keeper, 3, some .int, 0, 0)
abbrev m_X11_queue : gj_M := (cX11_queue, yX11_queue, 3, some .int, 0, 0)
abbrev m_X11_isStuck : gj_M := (cX11_isStuck, yX11_isStuck, 6, some .boolean, 0, 0)
abbrev m_X11_stuck : gj_M := (cX11_stuck, yX11_stuck, 3, some .int, 0, 0)
abbrev m_X11_ofBuffer : gj_M := (cX11_ofBuffer, yX11_ofBuffer, 3, some .int, 0, 0)
abbrev m_X11_buffer : gj_M := (cX11_buffer, yX11_buffer, 3, some .int, 0, 0)
abbrev m_X11_item : gj_M := (cX11_item, yX11_item, 3, some .int, 0, 0)
abbrev m_X11_ofStation : gj_M := (cX11_ofStation, yX11_ofStation, 4, some .int, 0, 0)
abbrev m_X11_of : gj_M := (cX11_of, yX11_of, 3, some .int, 0, 0)
abbrev m_X11_worker : gj_M := (cX11_worker, yX11_worker, 3, some .int, 0, 0)
abbrev m_X11_line : gj_M := (cX11_line, yX11_line, 2, some .int, 0, 0)
abbrev m_X11_itemsOfAll : gj_M := (cX11_itemsOfAll, yX11_itemsOfAll, 3, some .int, 0, 0)
abbrev m_X11_entriesOfAll : gj_M := (cX11_entriesOfAll, yX11_entriesOfAll, 3, some .int, 0, 0)
abbrev m_X11_worksBy : gj_M := (cX11_worksBy, yX11_worksBy, 2, some .int, 0, 0)
abbrev m_X11_works : gj_M := (cX11_works, yX11_works, 2, some .int, 0, 0)
abbrev m_X11_type : gj_M := (cX11_type, yX11_type, 2, some .int, 0, 0)
abbrev m_X11_clear : gj_M := (cX11_clear, yX11_clear, 2, some .int, 0, 0)
abbrev m_X11_here : gj_M := (cX11_here, yX11_here, 1, some .int, 0, 0)
abbrev m_X11_figure : gj_M := (cX11_figure, yX11_figure, 2, some .int, 0, 0)
abbrev m_X11_comes : gj_M := (cX11_comes, yX11_comes, 2, none, 0, 0)
abbrev m_X11_reads : gj_M := (cX11_reads, yX11_reads, 6, some .boolean, 0, 0)
abbrev m_X11_doesOne : gj_M := (cX11_doesOne, yX11_doesOne, 4, some .boolean, 0, 0)
abbrev m_X11_doesAll : gj_M := (cX11_doesAll, yX11_doesAll, 5, some .int, 0, 0)
abbrev m_X11_does : gj_M := (cX11_does, yX11_does, 2, some .int, 0, 0)
abbrev m_X11_toldOf : gj_M := (cX11_toldOf, yX11_toldOf, 2, some .int, 0, 0)
abbrev m_X11_told : gj_M := (cX11_told, yX11_told, 2, some .int, 0, 0)
abbrev m_X11_digest : gj_M := (cX11_digest, yX11_digest, 5, some .long, 0, 0)
theorem gl_c_X0_init : Cond.code yX0_init cX0_init 1 (none) ∈ gj_w := gj_w_in 141 (by decide +kernel) (by decide +kernel)
theorem gl_c_X0_put : Cond.code yX0_put cX0_put 3 (some .boolean) ∈ gj_w := gj_w_in 497 (by decide +kernel) (by decide +kernel)
theorem gl_c_X0_take : Cond.code yX0_take cX0_take 3 (some .int) ∈ gj_w := gj_w_in 525 (by decide +kernel) (by decide +kernel)
theorem gl_c_X0_canGive : Cond.code yX0_canGive cX0_canGive 2 (some .boolean) ∈ gj_w := gj_w_in 596 (by decide +kernel) (by decide +kernel)
theorem gl_c_X0_giveFirst : Cond.code yX0_giveFirst cX0_giveFirst 1 (some .int) ∈ gj_w := gj_w_in 600 (by decide +kernel) (by decide +kernel)
theorem gl_c_X0_isKeptByAnother : Cond.code yX0_isKeptByAnother cX0_isKeptByAnother 2 (some .boolean) ∈ gj_w := gj_w_in 508 (by decide +kernel) (by decide +kernel)
theorem gl_c_X0_keepFor : Cond.code yX0_keepFor cX0_keepFor 3 (some .int) ∈ gj_w := gj_w_in 687 (by decide +kernel) (by decide +kernel)
theorem gl_c_X0_letGo : Cond.code yX0_letGo cX0_letGo 2 (some .int) ∈ gj_w := gj_w_in 695 (by decide +kernel) (by decide +kernel)
theorem gl_c_X0_bufferTold : Cond.code yX0_bufferTold cX0_bufferTold 2 (some .int) ∈ gj_w := gj_w_in 733 (by decide +kernel) (by decide +kernel)
theorem gl_c_X0_keepingTold : Cond.code yX0_keepingTold cX0_keepingTold 2 (some .int) ∈ gj_w := gj_w_in 707 (by decide +kernel) (by decide +kernel)
theorem gl_c_X0_startAnew : Cond.code yX0_startAnew cX0_startAnew 1 (none) ∈ gj_w := gj_w_in 264 (by decide +kernel) (by decide +kernel)
theorem gl_c_X0_copyFrom : Cond.code yX0_copyFrom cX0_copyFrom 2 (none) ∈ gj_w := gj_w_in 444 (by decide +kernel) (by decide +kernel)
theorem gl_c_X1_init : Cond.code yX1_init cX1_init 2 (none) ∈ gj_w := gj_w_in 88 (by decide +kernel) (by decide +kernel)
theorem gl_c_X1_startAnew : Cond.code yX1_startAnew cX1_startAnew 3 (none) ∈ gj_w := gj_w_in 260 (by decide +kernel) (by decide +kernel)
theorem gl_c_X1_hasBuffer : Cond.code yX1_hasBuffer cX1_hasBuffer 2 (some .boolean) ∈ gj_w := gj_w_in 477 (by decide +kernel) (by decide +kernel)
theorem gl_c_X1_hasBufferOrNone : Cond.code yX1_hasBufferOrNone cX1_hasBufferOrNone 2 (some .boolean) ∈ gj_w := gj_w_in 539 (by decide +kernel) (by decide +kernel)
theorem gl_c_X1_hasStation : Cond.code yX1_hasStation cX1_hasStation 2 (some .boolean) ∈ gj_w := gj_w_in 560 (by decide +kernel) (by decide +kernel)
theorem gl_c_X1_move : Cond.code yX1_move cX1_move 7 (some .int) ∈ gj_w := gj_w_in 632 (by decide +kernel) (by decide +kernel)
theorem gl_c_X1_moveOne : Cond.code yX1_moveOne cX1_moveOne 3 (some .boolean) ∈ gj_w := gj_w_in 635 (by decide +kernel) (by decide +kernel)
theorem gl_c_X1_leaveBoth : Cond.code yX1_leaveBoth cX1_leaveBoth 3 (none) ∈ gj_w := gj_w_in 603 (by decide +kernel) (by decide +kernel)
theorem gl_c_X1_tick : Cond.code yX1_tick cX1_tick 3 (some .int) ∈ gj_w := gj_w_in 568 (by decide +kernel) (by decide +kernel)
theorem gl_c_X1_tickStation : Cond.code yX1_tickStation cX1_tickStation 4 (some .int) ∈ gj_w := gj_w_in 572 (by decide +kernel) (by decide +kernel)
theorem gl_c_X1_work : Cond.code yX1_work cX1_work 3 (some .int) ∈ gj_w := gj_w_in 576 (by decide +kernel) (by decide +kernel)
theorem gl_c_X1_deliver : Cond.code yX1_deliver cX1_deliver 2 (some .int) ∈ gj_w := gj_w_in 584 (by decide +kernel) (by decide +kernel)
theorem gl_c_X1_takePair : Cond.code yX1_takePair cX1_takePair 7 (some .int) ∈ gj_w := gj_w_in 589 (by decide +kernel) (by decide +kernel)
theorem gl_c_X1_tryWish : Cond.code yX1_tryWish cX1_tryWish 5 (some .boolean) ∈ gj_w := gj_w_in 493 (by decide +kernel) (by decide +kernel)
theorem gl_c_X1_serve : Cond.code yX1_serve cX1_serve 3 (none) ∈ gj_w := gj_w_in 481 (by decide +kernel) (by decide +kernel)
theorem gl_c_X1_serveFirst : Cond.code yX1_serveFirst cX1_serveFirst 2 (some .boolean) ∈ gj_w := gj_w_in 485 (by decide +kernel) (by decide +kernel)
theorem gl_c_X1_queuedAt : Cond.code yX1_queuedAt cX1_queuedAt 3 (some .int) ∈ gj_w := gj_w_in 682 (by decide +kernel) (by decide +kernel)
theorem gl_c_X1_stuckBits : Cond.code yX1_stuckBits cX1_stuckBits 3 (some .int) ∈ gj_w := gj_w_in 720 (by decide +kernel) (by decide +kernel)
theorem gl_c_X1_isStuck : Cond.code yX1_isStuck cX1_isStuck 5 (some .boolean) ∈ gj_w := gj_w_in 724 (by decide +kernel) (by decide +kernel)
theorem gl_c_X1_worksTold : Cond.code yX1_worksTold cX1_worksTold 2 (some .int) ∈ gj_w := gj_w_in 766 (by decide +kernel) (by decide +kernel)
theorem gl_c_X1_allItems : Cond.code yX1_allItems cX1_allItems 3 (some .int) ∈ gj_w := gj_w_in 770 (by decide +kernel) (by decide +kernel)
theorem gl_c_X1_allEntries : Cond.code yX1_allEntries cX1_allEntries 3 (some .int) ∈ gj_w := gj_w_in 774 (by decide +kernel) (by decide +kernel)
theorem gl_c_X1_copyFrom : Cond.code yX1_copyFrom cX1_copyFrom 3 (none) ∈ gj_w := gj_w_in 440 (by decide +kernel) (by decide +kernel)
theorem gl_c_X2_init : Cond.code yX2_init cX2_init 1 (none) ∈ gj_w := gj_w_in 117 (by decide +kernel) (by decide +kernel)
theorem gl_c_X2_enter : Cond.code yX2_enter cX2_enter 1 (none) ∈ gj_w := gj_w_in 501 (by decide +kernel) (by decide +kernel)
theorem gl_c_X2_leave : Cond.code yX2_leave cX2_leave 1 (none) ∈ gj_w := gj_w_in 521 (by decide +kernel) (by decide +kernel)
theorem gl_c_X2_leaveThrown : Cond.code yX2_leaveThrown cX2_leaveThrown 1 (none) ∈ gj_w := gj_w_in 512 (by decide +kernel) (by decide +kernel)
theorem gl_c_X2_startAnew : Cond.code yX2_startAnew cX2_startAnew 1 (none) ∈ gj_w := gj_w_in 268 (by decide +kernel) (by decide +kernel)
theorem gl_c_X2_copyFrom : Cond.code yX2_copyFrom cX2_copyFrom 2 (none) ∈ gj_w := gj_w_in 448 (by decide +kernel) (by decide +kernel)
theorem gl_c_X3_init : Cond.code yX3_init cX3_init 2 (none) ∈ gj_w := gj_w_in 319 (by decide +kernel) (by decide +kernel)
theorem gl_c_X3_keep : Cond.code yX3_keep cX3_keep 2 (none) ∈ gj_w := gj_w_in 436 (by decide +kernel) (by decide +kernel)
theorem gl_c_X3_giveBack : Cond.code yX3_giveBack cX3_giveBack 2 (none) ∈ gj_w := gj_w_in 857 (by decide +kernel) (by decide +kernel)
theorem gl_c_X4_init : Cond.code yX4_init cX4_init 2 (none) ∈ gj_w := gj_w_in 361 (by decide +kernel) (by decide +kernel)
theorem gl_c_X4_keep : Cond.code yX4_keep cX4_keep 3 (none) ∈ gj_w := gj_w_in 627 (by decide +kernel) (by decide +kernel)
theorem gl_c_X4_giveBack : Cond.code yX4_giveBack cX4_giveBack 3 (none) ∈ gj_w := gj_w_in 643 (by decide +kernel) (by decide +kernel)
theorem gl_c_X5_init : Cond.code yX5_init cX5_init 1 (none) ∈ gj_w := gj_w_in 100 (by decide +kernel) (by decide +kernel)
theorem gl_c_X5_at : Cond.code yX5_at cX5_at 2 (some .int) ∈ gj_w := gj_w_in 489 (by decide +kernel) (by decide +kernel)
theorem gl_c_X5_placeOf : Cond.code yX5_placeOf cX5_placeOf 3 (some .int) ∈ gj_w := gj_w_in 673 (by decide +kernel) (by decide +kernel)
theorem gl_c_X5_addLast : Cond.code yX5_addLast cX5_addLast 2 (none) ∈ gj_w := gj_w_in 516 (by decide +kernel) (by decide +kernel)
theorem gl_c_X5_addFirst : Cond.code yX5_addFirst cX5_addFirst 2 (none) ∈ gj_w := gj_w_in 639 (by decide +kernel) (by decide +kernel)
theorem gl_c_X5_removeAt : Cond.code yX5_removeAt cX5_removeAt 3 (some .int) ∈ gj_w := gj_w_in 529 (by decide +kernel) (by decide +kernel)
theorem gl_c_X5_copyFrom : Cond.code yX5_copyFrom cX5_copyFrom 2 (none) ∈ gj_w := gj_w_in 452 (by decide +kernel) (by decide +kernel)
theorem gl_c_X6_init : Cond.code yX6_init cX6_init 4 (none) ∈ gj_w := gj_w_in 354 (by decide +kernel) (by decide +kernel)
theorem gl_c_X6_run : Cond.code yX6_run cX6_run 2 (some .int) ∈ gj_w := gj_w_in 811 (by decide +kernel) (by decide +kernel)
theorem gl_c_X6_enterLevel : Cond.code yX6_enterLevel cX6_enterLevel 1 (none) ∈ gj_w := gj_w_in 815 (by decide +kernel) (by decide +kernel)
theorem gl_c_X6_leaveLevel : Cond.code yX6_leaveLevel cX6_leaveLevel 1 (none) ∈ gj_w := gj_w_in 826 (by decide +kernel) (by decide +kernel)
theorem gl_c_X6_undoLevel : Cond.code yX6_undoLevel cX6_undoLevel 1 (none) ∈ gj_w := gj_w_in 843 (by decide +kernel) (by decide +kernel)
theorem gl_c_X6_skipGroup : Cond.code yX6_skipGroup cX6_skipGroup 3 (none) ∈ gj_w := gj_w_in 849 (by decide +kernel) (by decide +kernel)
theorem gl_c_X6_orderDone : Cond.code yX6_orderDone cX6_orderDone 6 (some .boolean) ∈ gj_w := gj_w_in 831 (by decide +kernel) (by decide +kernel)
theorem gl_c_X6_nextFigure : Cond.code yX6_nextFigure cX6_nextFigure 1 (some .int) ∈ gj_w := gj_w_in 835 (by decide +kernel) (by decide +kernel)
theorem gl_c_X6_nextByte : Cond.code yX6_nextByte cX6_nextByte 2 (some .int) ∈ gj_w := gj_w_in 821 (by decide +kernel) (by decide +kernel)
theorem gl_c_X7_init : Cond.code yX7_init cX7_init 1 (none) ∈ gj_w := gj_w_in 187 (by decide +kernel) (by decide +kernel)
theorem gl_c_X7_setUp : Cond.code yX7_setUp cX7_setUp 6 (none) ∈ gj_w := gj_w_in 548 (by decide +kernel) (by decide +kernel)
theorem gl_c_X7_becomeIdle : Cond.code yX7_becomeIdle cX7_becomeIdle 1 (none) ∈ gj_w := gj_w_in 552 (by decide +kernel) (by decide +kernel)
theorem gl_c_X7_load : Cond.code yX7_load cX7_load 2 (none) ∈ gj_w := gj_w_in 609 (by decide +kernel) (by decide +kernel)
theorem gl_c_X7_workOn : Cond.code yX7_workOn cX7_workOn 1 (none) ∈ gj_w := gj_w_in 580 (by decide +kernel) (by decide +kernel)
theorem gl_c_X7_stationTold : Cond.code yX7_stationTold cX7_stationTold 2 (some .int) ∈ gj_w := gj_w_in 745 (by decide +kernel) (by decide +kernel)
theorem gl_c_X7_copyFrom : Cond.code yX7_copyFrom cX7_copyFrom 2 (none) ∈ gj_w := gj_w_in 459 (by decide +kernel) (by decide +kernel)
theorem gl_c_X8_init : Cond.code yX8_init cX8_init 1 (none) ∈ gj_w := gj_w_in 339 (by decide +kernel) (by decide +kernel)
theorem gl_c_X8_isFull : Cond.code yX8_isFull cX8_isFull 1 (some .boolean) ∈ gj_w := gj_w_in 782 (by decide +kernel) (by decide +kernel)
theorem gl_c_X8_add : Cond.code yX8_add cX8_add 2 (none) ∈ gj_w := gj_w_in 786 (by decide +kernel) (by decide +kernel)
theorem gl_c_X8_at : Cond.code yX8_at cX8_at 2 (some .int) ∈ gj_w := gj_w_in 803 (by decide +kernel) (by decide +kernel)
theorem gl_c_X8_fault : Cond.code yX8_fault cX8_fault 6 (some .int) ∈ gj_w := gj_w_in 799 (by decide +kernel) (by decide +kernel)
theorem gl_c_X8_figuresOf : Cond.code yX8_figuresOf cX8_figuresOf 1 (some .int) ∈ gj_w := gj_w_in 807 (by decide +kernel) (by decide +kernel)
theorem gl_c_X9_init : Cond.code yX9_init cX9_init 1 (none) ∈ gj_w := gj_w_in 238 (by decide +kernel) (by decide +kernel)
theorem gl_c_X9_waits : Cond.code yX9_waits cX9_waits 1 (some .boolean) ∈ gj_w := gj_w_in 654 (by decide +kernel) (by decide +kernel)
theorem gl_c_X9_wishFor : Cond.code yX9_wishFor cX9_wishFor 4 (none) ∈ gj_w := gj_w_in 662 (by decide +kernel) (by decide +kernel)
theorem gl_c_X9_wishNoMore : Cond.code yX9_wishNoMore cX9_wishNoMore 1 (none) ∈ gj_w := gj_w_in 276 (by decide +kernel) (by decide +kernel)
theorem gl_c_X9_workerTold : Cond.code yX9_workerTold cX9_workerTold 2 (some .int) ∈ gj_w := gj_w_in 753 (by decide +kernel) (by decide +kernel)
theorem gl_c_X9_startAnew : Cond.code yX9_startAnew cX9_startAnew 1 (none) ∈ gj_w := gj_w_in 272 (by decide +kernel) (by decide +kernel)
theorem gl_c_X9_copyFrom : Cond.code yX9_copyFrom cX9_copyFrom 2 (none) ∈ gj_w := gj_w_in 463 (by decide +kernel) (by decide +kernel)
theorem gl_c_X10_init : Cond.code yX10_init cX10_init 1 (none) ∈ gj_w := gj_w_in 80 (by decide +kernel) (by decide +kernel)
theorem gl_c_X10_begins : Cond.code yX10_begins cX10_begins 3 (some .int) ∈ gj_w := gj_w_in 425 (by decide +kernel) (by decide +kernel)
theorem gl_c_X10_rooms : Cond.code yX10_rooms cX10_rooms 4 (some .int) ∈ gj_w := gj_w_in 473 (by decide +kernel) (by decide +kernel)
theorem gl_c_X10_station : Cond.code yX10_station cX10_station 7 (some .int) ∈ gj_w := gj_w_in 535 (by decide +kernel) (by decide +kernel)
theorem gl_c_X10_guards : Cond.code yX10_guards cX10_guards 4 (some .int) ∈ gj_w := gj_w_in 556 (by decide +kernel) (by decide +kernel)
theorem gl_c_X10_ticks : Cond.code yX10_ticks cX10_ticks 4 (some .int) ∈ gj_w := gj_w_in 564 (by decide +kernel) (by decide +kernel)
theorem gl_c_X10_puts : Cond.code yX10_puts cX10_puts 5 (some .int) ∈ gj_w := gj_w_in 613 (by decide +kernel) (by decide +kernel)
theorem gl_c_X10_takes : Cond.code yX10_takes cX10_takes 3 (some .int) ∈ gj_w := gj_w_in 618 (by decide +kernel) (by decide +kernel)
theorem gl_c_X10_moves : Cond.code yX10_moves cX10_moves 7 (some .int) ∈ gj_w := gj_w_in 623 (by decide +kernel) (by decide +kernel)
theorem gl_c_X10_asks : Cond.code yX10_asks cX10_asks 6 (some .int) ∈ gj_w := gj_w_in 647 (by decide +kernel) (by decide +kernel)
theorem gl_c_X10_cancels : Cond.code yX10_cancels cX10_cancels 2 (some .int) ∈ gj_w := gj_w_in 668 (by decide +kernel) (by decide +kernel)
theorem gl_c_X10_keeps : Cond.code yX10_keeps cX10_keeps 3 (some .int) ∈ gj_w := gj_w_in 678 (by decide +kernel) (by decide +kernel)
theorem gl_c_X10_lets : Cond.code yX10_lets cX10_lets 4 (some .int) ∈ gj_w := gj_w_in 691 (by decide +kernel) (by decide +kernel)
theorem gl_c_X10_quits : Cond.code yX10_quits cX10_quits 4 (some .int) ∈ gj_w := gj_w_in 699 (by decide +kernel) (by decide +kernel)
theorem gl_c_X10_keeper : Cond.code yX10_keeper cX10_keeper 3 (some .int) ∈ gj_w := gj_w_in 703 (by decide +kernel) (by decide +kernel)
theorem gl_c_X10_queue : Cond.code yX10_queue cX10_queue 3 (some .int) ∈ gj_w := gj_w_in 711 (by decide +kernel) (by decide +kernel)
theorem gl_c_X10_stuck : Cond.code yX10_stuck cX10_stuck 1 (some .int) ∈ gj_w := gj_w_in 716 (by decide +kernel) (by decide +kernel)
theorem gl_c_X10_buffer : Cond.code yX10_buffer cX10_buffer 3 (some .int) ∈ gj_w := gj_w_in 729 (by decide +kernel) (by decide +kernel)
theorem gl_c_X10_item : Cond.code yX10_item cX10_item 3 (some .int) ∈ gj_w := gj_w_in 737 (by decide +kernel) (by decide +kernel)
theorem gl_c_X10_of : Cond.code yX10_of cX10_of 3 (some .int) ∈ gj_w := gj_w_in 741 (by decide +kernel) (by decide +kernel)
theorem gl_c_X10_worker : Cond.code yX10_worker cX10_worker 3 (some .int) ∈ gj_w := gj_w_in 749 (by decide +kernel) (by decide +kernel)
theorem gl_c_X10_line : Cond.code yX10_line cX10_line 2 (some .int) ∈ gj_w := gj_w_in 758 (by decide +kernel) (by decide +kernel)
theorem gl_c_X10_works : Cond.code yX10_works cX10_works 2 (some .int) ∈ gj_w := gj_w_in 762 (by decide +kernel) (by decide +kernel)
theorem gl_c_X10_type : Cond.code yX10_type cX10_type 2 (some .int) ∈ gj_w := gj_w_in 778 (by decide +kernel) (by decide +kernel)
theorem gl_c_X10_clear : Cond.code yX10_clear cX10_clear 2 (some .int) ∈ gj_w := gj_w_in 791 (by decide +kernel) (by decide +kernel)
theorem gl_c_X10_does : Cond.code yX10_does cX10_does 3 (some .int) ∈ gj_w := gj_w_in 795 (by decide +kernel) (by decide +kernel)
theorem gl_c_X10_back : Cond.code yX10_back cX10_back 1 (some .int) ∈ gj_w := gj_w_in 853 (by decide +kernel) (by decide +kernel)
theorem gl_c_X10_told : Cond.code yX10_told cX10_told 2 (some .int) ∈ gj_w := gj_w_in 861 (by decide +kernel) (by decide +kernel)
theorem gl_c_X10_digest : Cond.code yX10_digest cX10_digest 4 (some .long) ∈ gj_w := gj_w_in 869 (by decide +kernel) (by decide +kernel)
theorem gl_c_X10_toldOf : Cond.code yX10_toldOf cX10_toldOf 2 (some .int) ∈ gj_w := gj_w_in 865 (by decide +kernel) (by decide +kernel)
theorem gl_c_X10_refuseBad : Cond.code yX10_refuseBad cX10_refuseBad 1 (some .int) ∈ gj_w := gj_w_in 432 (by decide +kernel) (by decide +kernel)
theorem gl_c_X10_refuseNo : Cond.code yX10_refuseNo cX10_refuseNo 1 (some .int) ∈ gj_w := gj_w_in 658 (by decide +kernel) (by decide +kernel)
theorem gl_c_X10_refuseFull : Cond.code yX10_refuseFull cX10_refuseFull 1 (some .int) ∈ gj_w := gj_w_in 544 (by decide +kernel) (by decide +kernel)
theorem gl_c_X10_within : Cond.code yX10_within cX10_within 3 (some .boolean) ∈ gj_w := gj_w_in 428 (by decide +kernel) (by decide +kernel)
theorem gl_c_X10_isWorker : Cond.code yX10_isWorker cX10_isWorker 1 (some .boolean) ∈ gj_w := gj_w_in 650 (by decide +kernel) (by decide +kernel)
theorem gl_c_X10_mixed : Cond.code yX10_mixed cX10_mixed 3 (some .long) ∈ gj_w := gj_w_in 873 (by decide +kernel) (by decide +kernel)
theorem gl_c_X10_mixedRow : Cond.code yX10_mixedRow cX10_mixedRow 6 (some .long) ∈ gj_w := gj_w_in 880 (by decide +kernel) (by decide +kernel)
theorem gl_c_X10_mixedBuffer : Cond.code yX10_mixedBuffer cX10_mixedBuffer 6 (some .long) ∈ gj_w := gj_w_in 877 (by decide +kernel) (by decide +kernel)
theorem gl_c_X10_mixedStation : Cond.code yX10_mixedStation cX10_mixedStation 6 (some .long) ∈ gj_w := gj_w_in 883 (by decide +kernel) (by decide +kernel)
theorem gl_c_X10_mixedWorker : Cond.code yX10_mixedWorker cX10_mixedWorker 6 (some .long) ∈ gj_w := gj_w_in 886 (by decide +kernel) (by decide +kernel)
theorem gl_c_X11_init : Cond.code yX11_init cX11_init 1 (none) ∈ gj_w := gj_w_in 891 (by decide +kernel) (by decide +kernel)
theorem gl_c_X11_bad : Cond.code yX11_bad cX11_bad 1 (some .int) ∈ gj_w := gj_w_in 973 (by decide +kernel) (by decide +kernel)
theorem gl_c_X11_no : Cond.code yX11_no cX11_no 1 (some .int) ∈ gj_w := gj_w_in 962 (by decide +kernel) (by decide +kernel)
theorem gl_c_X11_full : Cond.code yX11_full cX11_full 1 (some .int) ∈ gj_w := gj_w_in 1036 (by decide +kernel) (by decide +kernel)
theorem gl_c_X11_in : Cond.code yX11_in cX11_in 3 (some .boolean) ∈ gj_w := gj_w_in 969 (by decide +kernel) (by decide +kernel)
theorem gl_c_X11_atBuffer : Cond.code yX11_atBuffer cX11_atBuffer 1 (some .int) ∈ gj_w := gj_w_in 899 (by decide +kernel) (by decide +kernel)
theorem gl_c_X11_gate : Cond.code yX11_gate cX11_gate 1 (some .int) ∈ gj_w := gj_w_in 1004 (by decide +kernel) (by decide +kernel)
theorem gl_c_X11_stationAt : Cond.code yX11_stationAt cX11_stationAt 1 (some .int) ∈ gj_w := gj_w_in 1039 (by decide +kernel) (by decide +kernel)
theorem gl_c_X11_workerAt : Cond.code yX11_workerAt cX11_workerAt 1 (some .int) ∈ gj_w := gj_w_in 902 (by decide +kernel) (by decide +kernel)
theorem gl_c_X11_isBuffer : Cond.code yX11_isBuffer cX11_isBuffer 2 (some .boolean) ∈ gj_w := gj_w_in 985 (by decide +kernel) (by decide +kernel)
theorem gl_c_X11_isWorker : Cond.code yX11_isWorker cX11_isWorker 1 (some .boolean) ∈ gj_w := gj_w_in 1116 (by decide +kernel) (by decide +kernel)
theorem gl_c_X11_lays : Cond.code yX11_lays cX11_lays 3 (none) ∈ gj_w := gj_w_in 896 (by decide +kernel) (by decide +kernel)
theorem gl_c_X11_leavesState : Cond.code yX11_leavesState cX11_leavesState 2 (none) ∈ gj_w := gj_w_in 977 (by decide +kernel) (by decide +kernel)
theorem gl_c_X11_back : Cond.code yX11_back cX11_back 2 (some .int) ∈ gj_w := gj_w_in 958 (by decide +kernel) (by decide +kernel)
theorem gl_c_X11_enters : Cond.code yX11_enters cX11_enters 3 (none) ∈ gj_w := gj_w_in 1001 (by decide +kernel) (by decide +kernel)
theorem gl_c_X11_leaves : Cond.code yX11_leaves cX11_leaves 2 (none) ∈ gj_w := gj_w_in 1016 (by decide +kernel) (by decide +kernel)
theorem gl_c_X11_thrownOut : Cond.code yX11_thrownOut cX11_thrownOut 2 (none) ∈ gj_w := gj_w_in 1012 (by decide +kernel) (by decide +kernel)
theorem gl_c_X11_isKeptFor : Cond.code yX11_isKeptFor cX11_isKeptFor 3 (some .boolean) ∈ gj_w := gj_w_in 1008 (by decide +kernel) (by decide +kernel)
theorem gl_c_X11_put : Cond.code yX11_put cX11_put 5 (some .boolean) ∈ gj_w := gj_w_in 997 (by decide +kernel) (by decide +kernel)
theorem gl_c_X11_firstOf : Cond.code yX11_firstOf cX11_firstOf 5 (some .int) ∈ gj_w := gj_w_in 1024 (by decide +kernel) (by decide +kernel)
theorem gl_c_X11_take : Cond.code yX11_take cX11_take 4 (some .int) ∈ gj_w := gj_w_in 1020 (by decide +kernel) (by decide +kernel)
theorem gl_c_X11_firstAgain : Cond.code yX11_firstAgain cX11_firstAgain 5 (none) ∈ gj_w := gj_w_in 1105 (by decide +kernel) (by decide +kernel)
theorem gl_c_X11_lesser : Cond.code yX11_lesser cX11_lesser 2 (some .int) ∈ gj_w := gj_w_in 1078 (by decide +kernel) (by decide +kernel)
theorem gl_c_X11_greater : Cond.code yX11_greater cX11_greater 2 (some .int) ∈ gj_w := gj_w_in 1081 (by decide +kernel) (by decide +kernel)
theorem gl_c_X11_move : Cond.code yX11_move cX11_move 9 (some .int) ∈ gj_w := gj_w_in 1101 (by decide +kernel) (by decide +kernel)
theorem gl_c_X11_laysAside : Cond.code yX11_laysAside cX11_laysAside 4 (none) ∈ gj_w := gj_w_in 1097 (by decide +kernel) (by decide +kernel)
theorem gl_c_X11_undoes : Cond.code yX11_undoes cX11_undoes 4 (none) ∈ gj_w := gj_w_in 1109 (by decide +kernel) (by decide +kernel)
theorem gl_c_X11_goesFromLine : Cond.code yX11_goesFromLine cX11_goesFromLine 4 (none) ∈ gj_w := gj_w_in 1028 (by decide +kernel) (by decide +kernel)
theorem gl_c_X11_tries : Cond.code yX11_tries cX11_tries 6 (some .boolean) ∈ gj_w := gj_w_in 993 (by decide +kernel) (by decide +kernel)
theorem gl_c_X11_serves : Cond.code yX11_serves cX11_serves 4 (none) ∈ gj_w := gj_w_in 989 (by decide +kernel) (by decide +kernel)
theorem gl_c_X11_starts : Cond.code yX11_starts cX11_starts 3 (none) ∈ gj_w := gj_w_in 1071 (by decide +kernel) (by decide +kernel)
theorem gl_c_X11_takesBoth : Cond.code yX11_takesBoth cX11_takesBoth 10 (none) ∈ gj_w := gj_w_in 1075 (by decide +kernel) (by decide +kernel)
theorem gl_c_X11_takesOne : Cond.code yX11_takesOne cX11_takesOne 3 (none) ∈ gj_w := gj_w_in 1067 (by decide +kernel) (by decide +kernel)
theorem gl_c_X11_worksOn : Cond.code yX11_worksOn cX11_worksOn 2 (none) ∈ gj_w := gj_w_in 1063 (by decide +kernel) (by decide +kernel)
theorem gl_c_X11_madeOfAll : Cond.code yX11_madeOfAll cX11_madeOfAll 3 (some .int) ∈ gj_w := gj_w_in 1055 (by decide +kernel) (by decide +kernel)
theorem gl_c_X11_tick : Cond.code yX11_tick cX11_tick 4 (none) ∈ gj_w := gj_w_in 1059 (by decide +kernel) (by decide +kernel)
theorem gl_c_X11_begins : Cond.code yX11_begins cX11_begins 3 (some .int) ∈ gj_w := gj_w_in 966 (by decide +kernel) (by decide +kernel)
theorem gl_c_X11_rooms : Cond.code yX11_rooms cX11_rooms 4 (some .int) ∈ gj_w := gj_w_in 981 (by decide +kernel) (by decide +kernel)
theorem gl_c_X11_station : Cond.code yX11_station cX11_station 7 (some .int) ∈ gj_w := gj_w_in 1032 (by decide +kernel) (by decide +kernel)
theorem gl_c_X11_isStation : Cond.code yX11_isStation cX11_isStation 2 (some .boolean) ∈ gj_w := gj_w_in 1047 (by decide +kernel) (by decide +kernel)
theorem gl_c_X11_guards : Cond.code yX11_guards cX11_guards 4 (some .int) ∈ gj_w := gj_w_in 1043 (by decide +kernel) (by decide +kernel)
theorem gl_c_X11_ticks : Cond.code yX11_ticks cX11_ticks 4 (some .int) ∈ gj_w := gj_w_in 1051 (by decide +kernel) (by decide +kernel)
theorem gl_c_X11_puts : Cond.code yX11_puts cX11_puts 4 (some .int) ∈ gj_w := gj_w_in 1085 (by decide +kernel) (by decide +kernel)
theorem gl_c_X11_takes : Cond.code yX11_takes cX11_takes 3 (some .int) ∈ gj_w := gj_w_in 1089 (by decide +kernel) (by decide +kernel)
theorem gl_c_X11_moves : Cond.code yX11_moves cX11_moves 7 (some .int) ∈ gj_w := gj_w_in 1093 (by decide +kernel) (by decide +kernel)
theorem gl_c_X11_asks : Cond.code yX11_asks cX11_asks 7 (some .int) ∈ gj_w := gj_w_in 1113 (by decide +kernel) (by decide +kernel)
theorem gl_c_X11_cancels : Cond.code yX11_cancels cX11_cancels 3 (some .int) ∈ gj_w := gj_w_in 1120 (by decide +kernel) (by decide +kernel)
theorem gl_c_X11_queueOf : Cond.code yX11_queueOf cX11_queueOf 5 (some .int) ∈ gj_w := gj_w_in 1128 (by decide +kernel) (by decide +kernel)
theorem gl_c_X11_goesFromQueue : Cond.code yX11_goesFromQueue cX11_goesFromQueue 6 (none) ∈ gj_w := gj_w_in 1136 (by decide +kernel) (by decide +kernel)
theorem gl_c_X11_keeps : Cond.code yX11_keeps cX11_keeps 5 (some .int) ∈ gj_w := gj_w_in 1124 (by decide +kernel) (by decide +kernel)
theorem gl_c_X11_lets : Cond.code yX11_lets cX11_lets 6 (some .int) ∈ gj_w := gj_w_in 1132 (by decide +kernel) (by decide +kernel)
theorem gl_c_X11_quits : Cond.code yX11_quits cX11_quits 3 (some .int) ∈ gj_w := gj_w_in 1140 (by decide +kernel) (by decide +kernel)
theorem gl_c_X11_keeper : Cond.code yX11_keeper cX11_keeper 3 (some .int) ∈ gj_w := gj_w_in 1144 (by decide +kernel) (by decide +kernel)
theorem gl_c_X11_queue : Cond.code yX11_queue cX11_queue 3 (some .int) ∈ gj_w := gj_w_in 1148 (by decide +kernel) (by decide +kernel)
theorem gl_c_X11_isStuck : Cond.code yX11_isStuck cX11_isStuck 6 (some .boolean) ∈ gj_w := gj_w_in 1156 (by decide +kernel) (by decide +kernel)
theorem gl_c_X11_stuck : Cond.code yX11_stuck cX11_stuck 3 (some .int) ∈ gj_w := gj_w_in 1152 (by decide +kernel) (by decide +kernel)
theorem gl_c_X11_ofBuffer : Cond.code yX11_ofBuffer cX11_ofBuffer 3 (some .int) ∈ gj_w := gj_w_in 1164 (by decide +kernel) (by decide +kernel)
theorem gl_c_X11_buffer : Cond.code yX11_buffer cX11_buffer 3 (some .int) ∈ gj_w := gj_w_in 1160 (by decide +kernel) (by decide +kernel)
theorem gl_c_X11_item : Cond.code yX11_item cX11_item 3 (some .int) ∈ gj_w := gj_w_in 1168 (by decide +kernel) (by decide +kernel)
theorem gl_c_X11_ofStation : Cond.code yX11_ofStation cX11_ofStation 4 (some .int) ∈ gj_w := gj_w_in 1176 (by decide +kernel) (by decide +kernel)
theorem gl_c_X11_of : Cond.code yX11_of cX11_of 3 (some .int) ∈ gj_w := gj_w_in 1172 (by decide +kernel) (by decide +kernel)
theorem gl_c_X11_worker : Cond.code yX11_worker cX11_worker 3 (some .int) ∈ gj_w := gj_w_in 1180 (by decide +kernel) (by decide +kernel)
theorem gl_c_X11_line : Cond.code yX11_line cX11_line 2 (some .int) ∈ gj_w := gj_w_in 1184 (by decide +kernel) (by decide +kernel)
theorem gl_c_X11_itemsOfAll : Cond.code yX11_itemsOfAll cX11_itemsOfAll 3 (some .int) ∈ gj_w := gj_w_in 1196 (by decide +kernel) (by decide +kernel)
theorem gl_c_X11_entriesOfAll : Cond.code yX11_entriesOfAll cX11_entriesOfAll 3 (some .int) ∈ gj_w := gj_w_in 1200 (by decide +kernel) (by decide +kernel)
theorem gl_c_X11_worksBy : Cond.code yX11_worksBy cX11_worksBy 2 (some .int) ∈ gj_w := gj_w_in 1192 (by decide +kernel) (by decide +kernel)
theorem gl_c_X11_works : Cond.code yX11_works cX11_works 2 (some .int) ∈ gj_w := gj_w_in 1188 (by decide +kernel) (by decide +kernel)
theorem gl_c_X11_type : Cond.code yX11_type cX11_type 2 (some .int) ∈ gj_w := gj_w_in 1204 (by decide +kernel) (by decide +kernel)
theorem gl_c_X11_clear : Cond.code yX11_clear cX11_clear 2 (some .int) ∈ gj_w := gj_w_in 1208 (by decide +kernel) (by decide +kernel)
theorem gl_c_X11_here : Cond.code yX11_here cX11_here 1 (some .int) ∈ gj_w := gj_w_in 1220 (by decide +kernel) (by decide +kernel)
theorem gl_c_X11_figure : Cond.code yX11_figure cX11_figure 2 (some .int) ∈ gj_w := gj_w_in 1228 (by decide +kernel) (by decide +kernel)
theorem gl_c_X11_comes : Cond.code yX11_comes cX11_comes 2 (none) ∈ gj_w := gj_w_in 1224 (by decide +kernel) (by decide +kernel)
theorem gl_c_X11_reads : Cond.code yX11_reads cX11_reads 6 (some .boolean) ∈ gj_w := gj_w_in 1216 (by decide +kernel) (by decide +kernel)
theorem gl_c_X11_doesOne : Cond.code yX11_doesOne cX11_doesOne 4 (some .boolean) ∈ gj_w := gj_w_in 1236 (by decide +kernel) (by decide +kernel)
theorem gl_c_X11_doesAll : Cond.code yX11_doesAll cX11_doesAll 5 (some .int) ∈ gj_w := gj_w_in 1232 (by decide +kernel) (by decide +kernel)
theorem gl_c_X11_does : Cond.code yX11_does cX11_does 2 (some .int) ∈ gj_w := gj_w_in 1212 (by decide +kernel) (by decide +kernel)
theorem gl_c_X11_toldOf : Cond.code yX11_toldOf cX11_toldOf 2 (some .int) ∈ gj_w := gj_w_in 1244 (by decide +kernel) (by decide +kernel)
theorem gl_c_X11_told : Cond.code yX11_told cX11_told 2 (some .int) ∈ gj_w := gj_w_in 1240 (by decide +kernel) (by decide +kernel)
theorem gl_c_X11_digest : Cond.code yX11_digest cX11_digest 5 (some .long) ∈ gj_w := gj_w_in 1248 (by decide +kernel) (by decide +kernel)
theorem gl_i_X10 : Cond.initialized RX10 ∈ gj_w := gj_w_in 62 (by decide +kernel) (by decide +kernel)
theorem gl_i_X1 : Cond.initialized RX1 ∈ gj_w := gj_w_in 63 (by decide +kernel) (by decide +kernel)
theorem gl_i_X5 : Cond.initialized RX5 ∈ gj_w := gj_w_in 64 (by decide +kernel) (by decide +kernel)
theorem gl_i_X2 : Cond.initialized RX2 ∈ gj_w := gj_w_in 65 (by decide +kernel) (by decide +kernel)
theorem gl_i_X0 : Cond.initialized RX0 ∈ gj_w := gj_w_in 66 (by decide +kernel) (by decide +kernel)
theorem gl_i_X7 : Cond.initialized RX7 ∈ gj_w := gj_w_in 67 (by decide +kernel) (by decide +kernel)
theorem gl_i_X9 : Cond.initialized RX9 ∈ gj_w := gj_w_in 68 (by decide +kernel) (by decide +kernel)
theorem gl_i_X3 : Cond.initialized RX3 ∈ gj_w := gj_w_in 69 (by decide +kernel) (by decide +kernel)
theorem gl_i_X8 : Cond.initialized RX8 ∈ gj_w := gj_w_in 70 (by decide +kernel) (by decide +kernel)
theorem gl_i_X6 : Cond.initialized RX6 ∈ gj_w := gj_w_in 71 (by decide +kernel) (by decide +kernel)
theorem gl_i_X4 : Cond.initialized RX4 ∈ gj_w := gj_w_in 72 (by decide +kernel) (by decide +kernel)
theorem gl_i_X11 : Cond.initialized RX11 ∈ gj_w := gj_w_in 73 (by decide +kernel) (by decide +kernel)
theorem f_X10_10 : gj_Fk RX10 10 10 0 (.object "GatedWorks$Floor") true := ⟨RX10, TX10, 8, tyX10, rfl, gl_inX10, tyX10_ok, nmX10, by decide, rfl, rfl, rfl, Or.inl (gj_w_in 397 (by decide +kernel) (by decide +kernel))⟩
theorem f_X10_19 : gj_Fk RX10 19 10 1 (.object "GatedWorks$History") true := ⟨RX10, TX10, 8, tyX10, rfl, gl_inX10, tyX10_ok, nmX10, by decide, rfl, rfl, rfl, Or.inl (gj_w_in 398 (by decide +kernel) (by decide +kernel))⟩
theorem f_X10_26 : gj_Fk RX10 26 10 2 (.object "GatedWorks$Text") true := ⟨RX10, TX10, 8, tyX10, rfl, gl_inX10, tyX10_ok, nmX10, by decide, rfl, rfl, rfl, Or.inl (gj_w_in 399 (by decide +kernel) (by decide +kernel))⟩
theorem f_X10_35 : gj_Fk RX10 35 10 3 (.object "GatedWorks$Runner") true := ⟨RX10, TX10, 8, tyX10, rfl, gl_inX10, tyX10_ok, nmX10, by decide, rfl, rfl, rfl, Or.inl (gj_w_in 400 (by decide +kernel) (by decide +kernel))⟩
theorem f_X10_42 : gj_Fk RX10 42 10 4 (.object "GatedWorks$ItemsAhead") true := ⟨RX10, TX10, 8, tyX10, rfl, gl_inX10, tyX10_ok, nmX10, by decide, rfl, rfl, rfl, Or.inl (gj_w_in 401 (by decide +kernel) (by decide +kernel))⟩
theorem f_X10_58 : gj_Fk RX10 58 1 5 (.int) false := ⟨RX1, TX1, 9, tyX1, rfl, gl_inX1, tyX1_ok, nmX1, by decide, rfl, rfl, rfl, Or.inr ⟨"GatedWorks", gj_nw_in 290 (by decide +kernel) (by decide +kernel)⟩⟩
theorem f_X10_70 : gj_Fk RX10 70 1 0 (.array (.object "GatedWorks$Buffer")) true := ⟨RX1, TX1, 9, tyX1, rfl, gl_inX1, tyX1_ok, nmX1, by decide, rfl, rfl, rfl, Or.inr ⟨"GatedWorks", gj_nw_in 280 (by decide +kernel) (by decide +kernel)⟩⟩
theorem f_X10_74 : gj_Fk RX10 74 0 3 (.int) false := ⟨RX0, TX0, 9, tyX0, rfl, gl_inX0, tyX0_ok, nmX0, by decide, rfl, rfl, rfl, Or.inr ⟨"GatedWorks", gj_nw_in 157 (by decide +kernel) (by decide +kernel)⟩⟩
theorem f_X10_85 : gj_Fk RX10 85 1 6 (.int) false := ⟨RX1, TX1, 9, tyX1, rfl, gl_inX1, tyX1_ok, nmX1, by decide, rfl, rfl, rfl, Or.inr ⟨"GatedWorks", gj_nw_in 293 (by decide +kernel) (by decide +kernel)⟩⟩
theorem f_X10_91 : gj_Fk RX10 91 1 1 (.array (.object "GatedWorks$Station")) true := ⟨RX1, TX1, 9, tyX1, rfl, gl_inX1, tyX1_ok, nmX1, by decide, rfl, rfl, rfl, Or.inr ⟨"GatedWorks", gj_nw_in 283 (by decide +kernel) (by decide +kernel)⟩⟩
theorem f_X10_104 : gj_Fk RX10 104 7 5 (.int) false := ⟨RX7, TX7, 12, tyX7, rfl, gl_inX7, tyX7_ok, nmX7, by decide, rfl, rfl, rfl, Or.inr ⟨"GatedWorks", gj_nw_in 198 (by decide +kernel) (by decide +kernel)⟩⟩
theorem f_X10_114 : gj_Fk RX10 114 0 1 (.object "GatedWorks$Row") true := ⟨RX0, TX0, 9, tyX0, rfl, gl_inX0, tyX0_ok, nmX0, by decide, rfl, rfl, rfl, Or.inr ⟨"GatedWorks", gj_nw_in 152 (by decide +kernel) (by decide +kernel)⟩⟩
theorem f_X10_118 : gj_Fk RX10 118 5 1 (.int) false := ⟨RX5, TX5, 2, tyX5, rfl, gl_inX5, tyX5_ok, nmX5, by decide, rfl, rfl, rfl, Or.inr ⟨"GatedWorks", gj_nw_in 106 (by decide +kernel) (by decide +kernel)⟩⟩
theorem f_X10_138 : gj_Fk RX10 138 1 2 (.array (.object "GatedWorks$Worker")) true := ⟨RX1, TX1, 9, tyX1, rfl, gl_inX1, tyX1_ok, nmX1, by decide, rfl, rfl, rfl, Or.inr ⟨"GatedWorks", gj_nw_in 285 (by decide +kernel) (by decide +kernel)⟩⟩
theorem f_X10_158 : gj_Fk RX10 158 1 3 (.object "GatedWorks$Row") true := ⟨RX1, TX1, 9, tyX1, rfl, gl_inX1, tyX1_ok, nmX1, by decide, rfl, rfl, rfl, Or.inr ⟨"GatedWorks", gj_nw_in 287 (by decide +kernel) (by decide +kernel)⟩⟩
theorem f_X10_179 : gj_Fk RX10 179 0 7 (.int) false := ⟨RX0, TX0, 9, tyX0, rfl, gl_inX0, tyX0_ok, nmX0, by decide, rfl, rfl, rfl, Or.inr ⟨"GatedWorks", gj_nw_in 162 (by decide +kernel) (by decide +kernel)⟩⟩
theorem f_X10_185 : gj_Fk RX10 185 0 2 (.object "GatedWorks$Row") true := ⟨RX0, TX0, 9, tyX0, rfl, gl_inX0, tyX0_ok, nmX0, by decide, rfl, rfl, rfl, Or.inr ⟨"GatedWorks", gj_nw_in 154 (by decide +kernel) (by decide +kernel)⟩⟩
theorem f_X10_215 : gj_Fk RX10 215 8 1 (.int) false := ⟨RX8, TX8, 2, tyX8, rfl, gl_inX8, tyX8_ok, nmX8, by decide, rfl, rfl, rfl, Or.inr ⟨"GatedWorks", gj_nw_in 344 (by decide +kernel) (by decide +kernel)⟩⟩
theorem f_X10_224 : gj_Fk RX10 224 3 2 (.int) false := ⟨RX3, TX3, 3, tyX3, rfl, gl_inX3, tyX3_ok, nmX3, by decide, rfl, rfl, rfl, Or.inr ⟨"GatedWorks", gj_nw_in 327 (by decide +kernel) (by decide +kernel)⟩⟩
theorem f_X10_251 : gj_Fk RX10 251 10 5 (.int) false := ⟨RX10, TX10, 8, tyX10, rfl, gl_inX10, tyX10_ok, nmX10, by decide, rfl, rfl, rfl, Or.inl (gj_w_in 402 (by decide +kernel) (by decide +kernel))⟩
theorem f_X10_254 : gj_Fk RX10 254 10 6 (.int) false := ⟨RX10, TX10, 8, tyX10, rfl, gl_inX10, tyX10_ok, nmX10, by decide, rfl, rfl, rfl, Or.inl (gj_w_in 403 (by decide +kernel) (by decide +kernel))⟩
theorem f_X10_257 : gj_Fk RX10 257 10 7 (.int) false := ⟨RX10, TX10, 8, tyX10, rfl, gl_inX10, tyX10_ok, nmX10, by decide, rfl, rfl, rfl, Or.inl (gj_w_in 404 (by decide +kernel) (by decide +kernel))⟩
theorem f_X0_12 : gj_Fk RX0 12 0 0 (.object "GatedWorks$Gate") true := ⟨RX0, TX0, 9, tyX0, rfl, gl_inX0, tyX0_ok, nmX0, by decide, rfl, rfl, rfl, Or.inl (gj_w_in 147 (by decide +kernel) (by decide +kernel))⟩
theorem f_X0_21 : gj_Fk RX0 21 0 1 (.object "GatedWorks$Row") true := ⟨RX0, TX0, 9, tyX0, rfl, gl_inX0, tyX0_ok, nmX0, by decide, rfl, rfl, rfl, Or.inl (gj_w_in 149 (by decide +kernel) (by decide +kernel))⟩
theorem f_X0_25 : gj_Fk RX0 25 0 2 (.object "GatedWorks$Row") true := ⟨RX0, TX0, 9, tyX0, rfl, gl_inX0, tyX0_ok, nmX0, by decide, rfl, rfl, rfl, Or.inl (gj_w_in 153 (by decide +kernel) (by decide +kernel))⟩
theorem f_X0_31 : gj_Fk RX0 31 5 1 (.int) false := ⟨RX5, TX5, 2, tyX5, rfl, gl_inX5, tyX5_ok, nmX5, by decide, rfl, rfl, rfl, Or.inr ⟨"GatedWorks", gj_nw_in 104 (by decide +kernel) (by decide +kernel)⟩⟩
theorem f_X0_35 : gj_Fk RX0 35 0 3 (.int) false := ⟨RX0, TX0, 9, tyX0, rfl, gl_inX0, tyX0_ok, nmX0, by decide, rfl, rfl, rfl, Or.inl (gj_w_in 156 (by decide +kernel) (by decide +kernel))⟩
theorem f_X0_49 : gj_Fk RX0 49 0 4 (.int) false := ⟨RX0, TX0, 9, tyX0, rfl, gl_inX0, tyX0_ok, nmX0, by decide, rfl, rfl, rfl, Or.inl (gj_w_in 158 (by decide +kernel) (by decide +kernel))⟩
theorem f_X0_52 : gj_Fk RX0 52 0 6 (.int) false := ⟨RX0, TX0, 9, tyX0, rfl, gl_inX0, tyX0_ok, nmX0, by decide, rfl, rfl, rfl, Or.inl (gj_w_in 160 (by decide +kernel) (by decide +kernel))⟩
theorem f_X0_64 : gj_Fk RX0 64 0 5 (.int) false := ⟨RX0, TX0, 9, tyX0, rfl, gl_inX0, tyX0_ok, nmX0, by decide, rfl, rfl, rfl, Or.inl (gj_w_in 159 (by decide +kernel) (by decide +kernel))⟩
theorem f_X0_71 : gj_Fk RX0 71 0 7 (.int) false := ⟨RX0, TX0, 9, tyX0, rfl, gl_inX0, tyX0_ok, nmX0, by decide, rfl, rfl, rfl, Or.inl (gj_w_in 161 (by decide +kernel) (by decide +kernel))⟩
theorem f_X0_74 : gj_Fk RX0 74 0 8 (.int) false := ⟨RX0, TX0, 9, tyX0, rfl, gl_inX0, tyX0_ok, nmX0, by decide, rfl, rfl, rfl, Or.inl (gj_w_in 164 (by decide +kernel) (by decide +kernel))⟩
theorem f_X0_77 : gj_Fk RX0 77 2 0 (.int) false := ⟨RX2, TX2, 4, tyX2, rfl, gl_inX2, tyX2_ok, nmX2, by decide, rfl, rfl, rfl, Or.inr ⟨"GatedWorks", gj_nw_in 120 (by decide +kernel) (by decide +kernel)⟩⟩
theorem f_X0_80 : gj_Fk RX0 80 2 3 (.int) false := ⟨RX2, TX2, 4, tyX2, rfl, gl_inX2, tyX2_ok, nmX2, by decide, rfl, rfl, rfl, Or.inr ⟨"GatedWorks", gj_nw_in 127 (by decide +kernel) (by decide +kernel)⟩⟩
theorem f_X0_83 : gj_Fk RX0 83 2 2 (.int) false := ⟨RX2, TX2, 4, tyX2, rfl, gl_inX2, tyX2_ok, nmX2, by decide, rfl, rfl, rfl, Or.inr ⟨"GatedWorks", gj_nw_in 124 (by decide +kernel) (by decide +kernel)⟩⟩
theorem f_X1_11 : gj_Fk RX1 11 1 0 (.array (.object "GatedWorks$Buffer")) true := ⟨RX1, TX1, 9, tyX1, rfl, gl_inX1, tyX1_ok, nmX1, by decide, rfl, rfl, rfl, Or.inl (gj_w_in 278 (by decide +kernel) (by decide +kernel))⟩
theorem f_X1_19 : gj_Fk RX1 19 1 1 (.array (.object "GatedWorks$Station")) true := ⟨RX1, TX1, 9, tyX1, rfl, gl_inX1, tyX1_ok, nmX1, by decide, rfl, rfl, rfl, Or.inl (gj_w_in 282 (by decide +kernel) (by decide +kernel))⟩
theorem f_X1_25 : gj_Fk RX1 25 1 2 (.array (.object "GatedWorks$Worker")) true := ⟨RX1, TX1, 9, tyX1, rfl, gl_inX1, tyX1_ok, nmX1, by decide, rfl, rfl, rfl, Or.inl (gj_w_in 284 (by decide +kernel) (by decide +kernel))⟩
theorem f_X1_32 : gj_Fk RX1 32 1 3 (.object "GatedWorks$Row") true := ⟨RX1, TX1, 9, tyX1, rfl, gl_inX1, tyX1_ok, nmX1, by decide, rfl, rfl, rfl, Or.inl (gj_w_in 286 (by decide +kernel) (by decide +kernel))⟩
theorem f_X1_39 : gj_Fk RX1 39 1 4 (.object "GatedWorks$Gate") true := ⟨RX1, TX1, 9, tyX1, rfl, gl_inX1, tyX1_ok, nmX1, by decide, rfl, rfl, rfl, Or.inl (gj_w_in 288 (by decide +kernel) (by decide +kernel))⟩
theorem f_X1_53 : gj_Fk RX1 53 5 1 (.int) false := ⟨RX5, TX5, 2, tyX5, rfl, gl_inX5, tyX5_ok, nmX5, by decide, rfl, rfl, rfl, Or.inr ⟨"GatedWorks", gj_nw_in 105 (by decide +kernel) (by decide +kernel)⟩⟩
theorem f_X1_58 : gj_Fk RX1 58 1 5 (.int) false := ⟨RX1, TX1, 9, tyX1, rfl, gl_inX1, tyX1_ok, nmX1, by decide, rfl, rfl, rfl, Or.inl (gj_w_in 291 (by decide +kernel) (by decide +kernel))⟩
theorem f_X1_61 : gj_Fk RX1 61 1 6 (.int) false := ⟨RX1, TX1, 9, tyX1, rfl, gl_inX1, tyX1_ok, nmX1, by decide, rfl, rfl, rfl, Or.inl (gj_w_in 292 (by decide +kernel) (by decide +kernel))⟩
theorem f_X1_64 : gj_Fk RX1 64 1 7 (.int) false := ⟨RX1, TX1, 9, tyX1, rfl, gl_inX1, tyX1_ok, nmX1, by decide, rfl, rfl, rfl, Or.inl (gj_w_in 294 (by decide +kernel) (by decide +kernel))⟩
theorem f_X1_67 : gj_Fk RX1 67 1 8 (.int) false := ⟨RX1, TX1, 9, tyX1, rfl, gl_inX1, tyX1_ok, nmX1, by decide, rfl, rfl, rfl, Or.inl (gj_w_in 295 (by decide +kernel) (by decide +kernel))⟩
theorem f_X1_80 : gj_Fk RX1 80 0 0 (.object "GatedWorks$Gate") true := ⟨RX0, TX0, 9, tyX0, rfl, gl_inX0, tyX0_ok, nmX0, by decide, rfl, rfl, rfl, Or.inr ⟨"GatedWorks", gj_nw_in 148 (by decide +kernel) (by decide +kernel)⟩⟩
theorem f_X1_105 : gj_Fk RX1 105 0 1 (.object "GatedWorks$Row") true := ⟨RX0, TX0, 9, tyX0, rfl, gl_inX0, tyX0_ok, nmX0, by decide, rfl, rfl, rfl, Or.inr ⟨"GatedWorks", gj_nw_in 151 (by decide +kernel) (by decide +kernel)⟩⟩
theorem f_X1_121 : gj_Fk RX1 121 7 5 (.int) false := ⟨RX7, TX7, 12, tyX7, rfl, gl_inX7, tyX7_ok, nmX7, by decide, rfl, rfl, rfl, Or.inr ⟨"GatedWorks", gj_nw_in 199 (by decide +kernel) (by decide +kernel)⟩⟩
theorem f_X1_130 : gj_Fk RX1 130 7 6 (.int) false := ⟨RX7, TX7, 12, tyX7, rfl, gl_inX7, tyX7_ok, nmX7, by decide, rfl, rfl, rfl, Or.inr ⟨"GatedWorks", gj_nw_in 201 (by decide +kernel) (by decide +kernel)⟩⟩
theorem f_X1_136 : gj_Fk RX1 136 7 1 (.int) false := ⟨RX7, TX7, 12, tyX7, rfl, gl_inX7, tyX7_ok, nmX7, by decide, rfl, rfl, rfl, Or.inr ⟨"GatedWorks", gj_nw_in 192 (by decide +kernel) (by decide +kernel)⟩⟩
theorem f_X1_139 : gj_Fk RX1 139 7 0 (.int) false := ⟨RX7, TX7, 12, tyX7, rfl, gl_inX7, tyX7_ok, nmX7, by decide, rfl, rfl, rfl, Or.inr ⟨"GatedWorks", gj_nw_in 190 (by decide +kernel) (by decide +kernel)⟩⟩
theorem f_X1_148 : gj_Fk RX1 148 7 2 (.int) false := ⟨RX7, TX7, 12, tyX7, rfl, gl_inX7, tyX7_ok, nmX7, by decide, rfl, rfl, rfl, Or.inr ⟨"GatedWorks", gj_nw_in 194 (by decide +kernel) (by decide +kernel)⟩⟩
theorem f_X1_151 : gj_Fk RX1 151 7 8 (.int) false := ⟨RX7, TX7, 12, tyX7, rfl, gl_inX7, tyX7_ok, nmX7, by decide, rfl, rfl, rfl, Or.inr ⟨"GatedWorks", gj_nw_in 204 (by decide +kernel) (by decide +kernel)⟩⟩
theorem f_X1_154 : gj_Fk RX1 154 7 10 (.int) false := ⟨RX7, TX7, 12, tyX7, rfl, gl_inX7, tyX7_ok, nmX7, by decide, rfl, rfl, rfl, Or.inr ⟨"GatedWorks", gj_nw_in 208 (by decide +kernel) (by decide +kernel)⟩⟩
theorem f_X1_160 : gj_Fk RX1 160 7 9 (.int) false := ⟨RX7, TX7, 12, tyX7, rfl, gl_inX7, tyX7_ok, nmX7, by decide, rfl, rfl, rfl, Or.inr ⟨"GatedWorks", gj_nw_in 206 (by decide +kernel) (by decide +kernel)⟩⟩
theorem f_X1_170 : gj_Fk RX1 170 9 0 (.int) false := ⟨RX9, TX9, 4, tyX9, rfl, gl_inX9, tyX9_ok, nmX9, by decide, rfl, rfl, rfl, Or.inr ⟨"GatedWorks", gj_nw_in 241 (by decide +kernel) (by decide +kernel)⟩⟩
theorem f_X1_173 : gj_Fk RX1 173 9 1 (.int) false := ⟨RX9, TX9, 4, tyX9, rfl, gl_inX9, tyX9_ok, nmX9, by decide, rfl, rfl, rfl, Or.inr ⟨"GatedWorks", gj_nw_in 243 (by decide +kernel) (by decide +kernel)⟩⟩
theorem f_X1_176 : gj_Fk RX1 176 9 2 (.int) false := ⟨RX9, TX9, 4, tyX9, rfl, gl_inX9, tyX9_ok, nmX9, by decide, rfl, rfl, rfl, Or.inr ⟨"GatedWorks", gj_nw_in 245 (by decide +kernel) (by decide +kernel)⟩⟩
theorem f_X1_177 : gj_Fk RX1 177 9 3 (.int) false := ⟨RX9, TX9, 4, tyX9, rfl, gl_inX9, tyX9_ok, nmX9, by decide, rfl, rfl, rfl, Or.inr ⟨"GatedWorks", gj_nw_in 247 (by decide +kernel) (by decide +kernel)⟩⟩
theorem f_X1_196 : gj_Fk RX1 196 0 2 (.object "GatedWorks$Row") true := ⟨RX0, TX0, 9, tyX0, rfl, gl_inX0, tyX0_ok, nmX0, by decide, rfl, rfl, rfl, Or.inr ⟨"GatedWorks", gj_nw_in 155 (by decide +kernel) (by decide +kernel)⟩⟩
theorem f_X1_208 : gj_Fk RX1 208 0 7 (.int) false := ⟨RX0, TX0, 9, tyX0, rfl, gl_inX0, tyX0_ok, nmX0, by decide, rfl, rfl, rfl, Or.inr ⟨"GatedWorks", gj_nw_in 163 (by decide +kernel) (by decide +kernel)⟩⟩
theorem f_X1_211 : gj_Fk RX1 211 2 0 (.int) false := ⟨RX2, TX2, 4, tyX2, rfl, gl_inX2, tyX2_ok, nmX2, by decide, rfl, rfl, rfl, Or.inr ⟨"GatedWorks", gj_nw_in 121 (by decide +kernel) (by decide +kernel)⟩⟩
theorem f_X1_214 : gj_Fk RX1 214 2 3 (.int) false := ⟨RX2, TX2, 4, tyX2, rfl, gl_inX2, tyX2_ok, nmX2, by decide, rfl, rfl, rfl, Or.inr ⟨"GatedWorks", gj_nw_in 128 (by decide +kernel) (by decide +kernel)⟩⟩
theorem f_X1_217 : gj_Fk RX1 217 2 2 (.int) false := ⟨RX2, TX2, 4, tyX2, rfl, gl_inX2, tyX2_ok, nmX2, by decide, rfl, rfl, rfl, Or.inr ⟨"GatedWorks", gj_nw_in 125 (by decide +kernel) (by decide +kernel)⟩⟩
theorem f_X2_7 : gj_Fk RX2 7 2 0 (.int) false := ⟨RX2, TX2, 4, tyX2, rfl, gl_inX2, tyX2_ok, nmX2, by decide, rfl, rfl, rfl, Or.inl (gj_w_in 119 (by decide +kernel) (by decide +kernel))⟩
theorem f_X2_13 : gj_Fk RX2 13 2 1 (.int) false := ⟨RX2, TX2, 4, tyX2, rfl, gl_inX2, tyX2_ok, nmX2, by decide, rfl, rfl, rfl, Or.inl (gj_w_in 122 (by decide +kernel) (by decide +kernel))⟩
theorem f_X2_16 : gj_Fk RX2 16 2 2 (.int) false := ⟨RX2, TX2, 4, tyX2, rfl, gl_inX2, tyX2_ok, nmX2, by decide, rfl, rfl, rfl, Or.inl (gj_w_in 123 (by decide +kernel) (by decide +kernel))⟩
theorem f_X2_25 : gj_Fk RX2 25 2 3 (.int) false := ⟨RX2, TX2, 4, tyX2, rfl, gl_inX2, tyX2_ok, nmX2, by decide, rfl, rfl, rfl, Or.inl (gj_w_in 126 (by decide +kernel) (by decide +kernel))⟩
theorem f_X3_11 : gj_Fk RX3 11 3 0 (.array (.object "GatedWorks$Floor")) true := ⟨RX3, TX3, 3, tyX3, rfl, gl_inX3, tyX3_ok, nmX3, by decide, rfl, rfl, rfl, Or.inl (gj_w_in 324 (by decide +kernel) (by decide +kernel))⟩
theorem f_X3_18 : gj_Fk RX3 18 3 1 (.int) false := ⟨RX3, TX3, 3, tyX3, rfl, gl_inX3, tyX3_ok, nmX3, by decide, rfl, rfl, rfl, Or.inl (gj_w_in 325 (by decide +kernel) (by decide +kernel))⟩
theorem f_X3_26 : gj_Fk RX3 26 3 2 (.int) false := ⟨RX3, TX3, 3, tyX3, rfl, gl_inX3, tyX3_ok, nmX3, by decide, rfl, rfl, rfl, Or.inl (gj_w_in 326 (by decide +kernel) (by decide +kernel))⟩
theorem f_X4_11 : gj_Fk RX4 11 4 0 (.array (.object "GatedWorks$Row")) true := ⟨RX4, TX4, 1, tyX4, rfl, gl_inX4, tyX4_ok, nmX4, by decide, rfl, rfl, rfl, Or.inl (gj_w_in 366 (by decide +kernel) (by decide +kernel))⟩
theorem f_X4_18 : gj_Fk RX4 18 1 0 (.array (.object "GatedWorks$Buffer")) true := ⟨RX1, TX1, 9, tyX1, rfl, gl_inX1, tyX1_ok, nmX1, by decide, rfl, rfl, rfl, Or.inr ⟨"GatedWorks", gj_nw_in 279 (by decide +kernel) (by decide +kernel)⟩⟩
theorem f_X4_24 : gj_Fk RX4 24 0 1 (.object "GatedWorks$Row") true := ⟨RX0, TX0, 9, tyX0, rfl, gl_inX0, tyX0_ok, nmX0, by decide, rfl, rfl, rfl, Or.inr ⟨"GatedWorks", gj_nw_in 150 (by decide +kernel) (by decide +kernel)⟩⟩
theorem f_X5_9 : gj_Fk RX5 9 5 0 (.array .int) true := ⟨RX5, TX5, 2, tyX5, rfl, gl_inX5, tyX5_ok, nmX5, by decide, rfl, rfl, rfl, Or.inl (gj_w_in 102 (by decide +kernel) (by decide +kernel))⟩
theorem f_X5_15 : gj_Fk RX5 15 5 1 (.int) false := ⟨RX5, TX5, 2, tyX5, rfl, gl_inX5, tyX5_ok, nmX5, by decide, rfl, rfl, rfl, Or.inl (gj_w_in 103 (by decide +kernel) (by decide +kernel))⟩
theorem f_X6_11 : gj_Fk RX6 11 6 0 (.array (.object "GatedWorks$ItemsAhead")) true := ⟨RX6, TX6, 8, tyX6, rfl, gl_inX6, tyX6_ok, nmX6, by decide, rfl, rfl, rfl, Or.inl (gj_w_in 370 (by decide +kernel) (by decide +kernel))⟩
theorem f_X6_17 : gj_Fk RX6 17 6 1 (.array .int) true := ⟨RX6, TX6, 8, tyX6, rfl, gl_inX6, tyX6_ok, nmX6, by decide, rfl, rfl, rfl, Or.inl (gj_w_in 371 (by decide +kernel) (by decide +kernel))⟩
theorem f_X6_21 : gj_Fk RX6 21 6 2 (.object "GatedWorks$Text") true := ⟨RX6, TX6, 8, tyX6, rfl, gl_inX6, tyX6_ok, nmX6, by decide, rfl, rfl, rfl, Or.inl (gj_w_in 372 (by decide +kernel) (by decide +kernel))⟩
theorem f_X6_25 : gj_Fk RX6 25 6 3 (.object "GatedWorks$Floor") true := ⟨RX6, TX6, 8, tyX6, rfl, gl_inX6, tyX6_ok, nmX6, by decide, rfl, rfl, rfl, Or.inl (gj_w_in 373 (by decide +kernel) (by decide +kernel))⟩
theorem f_X6_30 : gj_Fk RX6 30 6 4 (.int) false := ⟨RX6, TX6, 8, tyX6, rfl, gl_inX6, tyX6_ok, nmX6, by decide, rfl, rfl, rfl, Or.inl (gj_w_in 374 (by decide +kernel) (by decide +kernel))⟩
theorem f_X6_34 : gj_Fk RX6 34 6 5 (.int) false := ⟨RX6, TX6, 8, tyX6, rfl, gl_inX6, tyX6_ok, nmX6, by decide, rfl, rfl, rfl, Or.inl (gj_w_in 375 (by decide +kernel) (by decide +kernel))⟩
theorem f_X6_37 : gj_Fk RX6 37 6 6 (.int) false := ⟨RX6, TX6, 8, tyX6, rfl, gl_inX6, tyX6_ok, nmX6, by decide, rfl, rfl, rfl, Or.inl (gj_w_in 376 (by decide +kernel) (by decide +kernel))⟩
theorem f_X6_40 : gj_Fk RX6 40 6 7 (.int) false := ⟨RX6, TX6, 8, tyX6, rfl, gl_inX6, tyX6_ok, nmX6, by decide, rfl, rfl, rfl, Or.inl (gj_w_in 377 (by decide +kernel) (by decide +kernel))⟩
theorem f_X6_46 : gj_Fk RX6 46 8 1 (.int) false := ⟨RX8, TX8, 2, tyX8, rfl, gl_inX8, tyX8_ok, nmX8, by decide, rfl, rfl, rfl, Or.inr ⟨"GatedWorks", gj_nw_in 343 (by decide +kernel) (by decide +kernel)⟩⟩
theorem f_X6_68 : gj_Fk RX6 68 1 4 (.object "GatedWorks$Gate") true := ⟨RX1, TX1, 9, tyX1, rfl, gl_inX1, tyX1_ok, nmX1, by decide, rfl, rfl, rfl, Or.inr ⟨"GatedWorks", gj_nw_in 289 (by decide +kernel) (by decide +kernel)⟩⟩
theorem f_X6_98 : gj_Fk RX6 98 1 0 (.array (.object "GatedWorks$Buffer")) true := ⟨RX1, TX1, 9, tyX1, rfl, gl_inX1, tyX1_ok, nmX1, by decide, rfl, rfl, rfl, Or.inr ⟨"GatedWorks", gj_nw_in 281 (by decide +kernel) (by decide +kernel)⟩⟩
theorem f_X7_9 : gj_Fk RX7 9 7 0 (.int) false := ⟨RX7, TX7, 12, tyX7, rfl, gl_inX7, tyX7_ok, nmX7, by decide, rfl, rfl, rfl, Or.inl (gj_w_in 189 (by decide +kernel) (by decide +kernel))⟩
theorem f_X7_15 : gj_Fk RX7 15 7 1 (.int) false := ⟨RX7, TX7, 12, tyX7, rfl, gl_inX7, tyX7_ok, nmX7, by decide, rfl, rfl, rfl, Or.inl (gj_w_in 191 (by decide +kernel) (by decide +kernel))⟩
theorem f_X7_18 : gj_Fk RX7 18 7 2 (.int) false := ⟨RX7, TX7, 12, tyX7, rfl, gl_inX7, tyX7_ok, nmX7, by decide, rfl, rfl, rfl, Or.inl (gj_w_in 193 (by decide +kernel) (by decide +kernel))⟩
theorem f_X7_21 : gj_Fk RX7 21 7 3 (.int) false := ⟨RX7, TX7, 12, tyX7, rfl, gl_inX7, tyX7_ok, nmX7, by decide, rfl, rfl, rfl, Or.inl (gj_w_in 195 (by decide +kernel) (by decide +kernel))⟩
theorem f_X7_24 : gj_Fk RX7 24 7 4 (.int) false := ⟨RX7, TX7, 12, tyX7, rfl, gl_inX7, tyX7_ok, nmX7, by decide, rfl, rfl, rfl, Or.inl (gj_w_in 196 (by decide +kernel) (by decide +kernel))⟩
theorem f_X7_27 : gj_Fk RX7 27 7 5 (.int) false := ⟨RX7, TX7, 12, tyX7, rfl, gl_inX7, tyX7_ok, nmX7, by decide, rfl, rfl, rfl, Or.inl (gj_w_in 197 (by decide +kernel) (by decide +kernel))⟩
theorem f_X7_33 : gj_Fk RX7 33 7 9 (.int) false := ⟨RX7, TX7, 12, tyX7, rfl, gl_inX7, tyX7_ok, nmX7, by decide, rfl, rfl, rfl, Or.inl (gj_w_in 205 (by decide +kernel) (by decide +kernel))⟩
theorem f_X7_36 : gj_Fk RX7 36 7 10 (.int) false := ⟨RX7, TX7, 12, tyX7, rfl, gl_inX7, tyX7_ok, nmX7, by decide, rfl, rfl, rfl, Or.inl (gj_w_in 207 (by decide +kernel) (by decide +kernel))⟩
theorem f_X7_39 : gj_Fk RX7 39 7 11 (.int) false := ⟨RX7, TX7, 12, tyX7, rfl, gl_inX7, tyX7_ok, nmX7, by decide, rfl, rfl, rfl, Or.inl (gj_w_in 209 (by decide +kernel) (by decide +kernel))⟩
theorem f_X7_42 : gj_Fk RX7 42 7 6 (.int) false := ⟨RX7, TX7, 12, tyX7, rfl, gl_inX7, tyX7_ok, nmX7, by decide, rfl, rfl, rfl, Or.inl (gj_w_in 200 (by decide +kernel) (by decide +kernel))⟩
theorem f_X7_45 : gj_Fk RX7 45 7 7 (.int) false := ⟨RX7, TX7, 12, tyX7, rfl, gl_inX7, tyX7_ok, nmX7, by decide, rfl, rfl, rfl, Or.inl (gj_w_in 202 (by decide +kernel) (by decide +kernel))⟩
theorem f_X7_48 : gj_Fk RX7 48 7 8 (.int) false := ⟨RX7, TX7, 12, tyX7, rfl, gl_inX7, tyX7_ok, nmX7, by decide, rfl, rfl, rfl, Or.inl (gj_w_in 203 (by decide +kernel) (by decide +kernel))⟩
theorem f_X8_9 : gj_Fk RX8 9 8 0 (.array .int) true := ⟨RX8, TX8, 2, tyX8, rfl, gl_inX8, tyX8_ok, nmX8, by decide, rfl, rfl, rfl, Or.inl (gj_w_in 341 (by decide +kernel) (by decide +kernel))⟩
theorem f_X8_15 : gj_Fk RX8 15 8 1 (.int) false := ⟨RX8, TX8, 2, tyX8, rfl, gl_inX8, tyX8_ok, nmX8, by decide, rfl, rfl, rfl, Or.inl (gj_w_in 342 (by decide +kernel) (by decide +kernel))⟩
theorem f_X9_9 : gj_Fk RX9 9 9 1 (.int) false := ⟨RX9, TX9, 4, tyX9, rfl, gl_inX9, tyX9_ok, nmX9, by decide, rfl, rfl, rfl, Or.inl (gj_w_in 242 (by decide +kernel) (by decide +kernel))⟩
theorem f_X9_15 : gj_Fk RX9 15 9 0 (.int) false := ⟨RX9, TX9, 4, tyX9, rfl, gl_inX9, tyX9_ok, nmX9, by decide, rfl, rfl, rfl, Or.inl (gj_w_in 240 (by decide +kernel) (by decide +kernel))⟩
theorem f_X9_18 : gj_Fk RX9 18 9 2 (.int) false := ⟨RX9, TX9, 4, tyX9, rfl, gl_inX9, tyX9_ok, nmX9, by decide, rfl, rfl, rfl, Or.inl (gj_w_in 244 (by decide +kernel) (by decide +kernel))⟩
theorem f_X9_25 : gj_Fk RX9 25 9 3 (.int) false := ⟨RX9, TX9, 4, tyX9, rfl, gl_inX9, tyX9_ok, nmX9, by decide, rfl, rfl, rfl, Or.inl (gj_w_in 246 (by decide +kernel) (by decide +kernel))⟩
theorem f_X11_7 : gj_Fk RX11 7 11 0 (.array .int) true := ⟨RX11, TX11, 17, tyX11, rfl, gl_inX11, tyX11_ok, nmX11, by decide, rfl, rfl, rfl, Or.inl (gj_w_in 903 (by decide +kernel) (by decide +kernel))⟩
theorem f_X11_13 : gj_Fk RX11 13 11 1 (.array .int) true := ⟨RX11, TX11, 17, tyX11, rfl, gl_inX11, tyX11_ok, nmX11, by decide, rfl, rfl, rfl, Or.inl (gj_w_in 904 (by decide +kernel) (by decide +kernel))⟩
theorem f_X11_16 : gj_Fk RX11 16 11 3 (.array .int) true := ⟨RX11, TX11, 17, tyX11, rfl, gl_inX11, tyX11_ok, nmX11, by decide, rfl, rfl, rfl, Or.inl (gj_w_in 906 (by decide +kernel) (by decide +kernel))⟩
theorem f_X11_19 : gj_Fk RX11 19 11 4 (.array .int) true := ⟨RX11, TX11, 17, tyX11, rfl, gl_inX11, tyX11_ok, nmX11, by decide, rfl, rfl, rfl, Or.inl (gj_w_in 907 (by decide +kernel) (by decide +kernel))⟩
theorem f_X11_22 : gj_Fk RX11 22 11 5 (.array .int) true := ⟨RX11, TX11, 17, tyX11, rfl, gl_inX11, tyX11_ok, nmX11, by decide, rfl, rfl, rfl, Or.inl (gj_w_in 908 (by decide +kernel) (by decide +kernel))⟩
theorem f_X11_25 : gj_Fk RX11 25 11 10 (.array .int) true := ⟨RX11, TX11, 17, tyX11, rfl, gl_inX11, tyX11_ok, nmX11, by decide, rfl, rfl, rfl, Or.inl (gj_w_in 913 (by decide +kernel) (by decide +kernel))⟩
theorem f_X11_28 : gj_Fk RX11 28 11 11 (.array .int) true := ⟨RX11, TX11, 17, tyX11, rfl, gl_inX11, tyX11_ok, nmX11, by decide, rfl, rfl, rfl, Or.inl (gj_w_in 914 (by decide +kernel) (by decide +kernel))⟩
theorem f_X11_31 : gj_Fk RX11 31 11 12 (.array .int) true := ⟨RX11, TX11, 17, tyX11, rfl, gl_inX11, tyX11_ok, nmX11, by decide, rfl, rfl, rfl, Or.inl (gj_w_in 915 (by decide +kernel) (by decide +kernel))⟩
theorem f_X11_34 : gj_Fk RX11 34 11 13 (.array .int) true := ⟨RX11, TX11, 17, tyX11, rfl, gl_inX11, tyX11_ok, nmX11, by decide, rfl, rfl, rfl, Or.inl (gj_w_in 916 (by decide +kernel) (by decide +kernel))⟩
theorem f_X11_37 : gj_Fk RX11 37 11 14 (.array .int) true := ⟨RX11, TX11, 17, tyX11, rfl, gl_inX11, tyX11_ok, nmX11, by decide, rfl, rfl, rfl, Or.inl (gj_w_in 917 (by decide +kernel) (by decide +kernel))⟩
theorem f_X11_40 : gj_Fk RX11 40 11 15 (.array .int) true := ⟨RX11, TX11, 17, tyX11, rfl, gl_inX11, tyX11_ok, nmX11, by decide, rfl, rfl, rfl, Or.inl (gj_w_in 918 (by decide +kernel) (by decide +kernel))⟩
theorem f_X11_43 : gj_Fk RX11 43 11 16 (.array .int) true := ⟨RX11, TX11, 17, tyX11, rfl, gl_inX11, tyX11_ok, nmX11, by decide, rfl, rfl, rfl, Or.inl (gj_w_in 919 (by decide +kernel) (by decide +kernel))⟩
theorem f_X11_61 : gj_Fk RX11 61 11 2 (.int) false := ⟨RX11, TX11, 17, tyX11, rfl, gl_inX11, tyX11_ok, nmX11, by decide, rfl, rfl, rfl, Or.inl (gj_w_in 905 (by decide +kernel) (by decide +kernel))⟩
theorem f_X11_189 : gj_Fk RX11 189 11 6 (.int) false := ⟨RX11, TX11, 17, tyX11, rfl, gl_inX11, tyX11_ok, nmX11, by decide, rfl, rfl, rfl, Or.inl (gj_w_in 909 (by decide +kernel) (by decide +kernel))⟩
theorem f_X11_192 : gj_Fk RX11 192 11 7 (.int) false := ⟨RX11, TX11, 17, tyX11, rfl, gl_inX11, tyX11_ok, nmX11, by decide, rfl, rfl, rfl, Or.inl (gj_w_in 910 (by decide +kernel) (by decide +kernel))⟩
theorem f_X11_195 : gj_Fk RX11 195 11 8 (.boolean) false := ⟨RX11, TX11, 17, tyX11, rfl, gl_inX11, tyX11_ok, nmX11, by decide, rfl, rfl, rfl, Or.inl (gj_w_in 911 (by decide +kernel) (by decide +kernel))⟩
theorem f_X11_202 : gj_Fk RX11 202 11 9 (.int) false := ⟨RX11, TX11, 17, tyX11, rfl, gl_inX11, tyX11_ok, nmX11, by decide, rfl, rfl, rfl, Or.inl (gj_w_in 912 (by decide +kernel) (by decide +kernel))⟩
theorem k_X10_1 : gj_Oi RX10 1 := ⟨gj_w_in 81 (by decide +kernel) (by decide +kernel), gj_w_in 82 (by decide +kernel) (by decide +kernel), gj_w_in 83 (by decide +kernel) (by decide +kernel)⟩
theorem k_X10_9 : gj_CkI RX10 9 m_X1_init 0 := ⟨⟨Or.inl (gj_w_in 86 (by decide +kernel) (by decide +kernel)), gl_c_X1_init, gl_i_X1, ⟨by decide +kernel, by decide +kernel⟩, by decide +kernel, by decide⟩, rfl, gj_w_in 87 (by decide +kernel) (by decide +kernel), rfl⟩
theorem k_X10_18 : gj_CkI RX10 18 m_X3_init 0 := ⟨⟨Or.inl (gj_w_in 317 (by decide +kernel) (by decide +kernel)), gl_c_X3_init, gl_i_X3, ⟨by decide +kernel, by decide +kernel⟩, by decide +kernel, by decide⟩, rfl, gj_w_in 318 (by decide +kernel) (by decide +kernel), rfl⟩
theorem k_X10_25 : gj_CkI RX10 25 m_X8_init 0 := ⟨⟨Or.inr ⟨"GatedWorks", gj_nw_in 337 (by decide +kernel) (by decide +kernel)⟩, gl_c_X8_init, gl_i_X8, ⟨by decide +kernel, by decide +kernel⟩, by decide +kernel, by decide⟩, rfl, gj_w_in 338 (by decide +kernel) (by decide +kernel), rfl⟩
theorem k_X10_32 : gj_CkI RX10 32 m_X6_init 2 := ⟨⟨Or.inl (gj_w_in 352 (by decide +kernel) (by decide +kernel)), gl_c_X6_init, gl_i_X6, ⟨by decide +kernel, by decide +kernel⟩, by decide +kernel, by decide⟩, rfl, gj_w_in 353 (by decide +kernel) (by decide +kernel), rfl⟩
theorem k_X10_41 : gj_CkI RX10 41 m_X4_init 0 := ⟨⟨Or.inl (gj_w_in 396 (by decide +kernel) (by decide +kernel)), gl_c_X4_init, gl_i_X4, ⟨by decide +kernel, by decide +kernel⟩, by decide +kernel, by decide⟩, rfl, gj_w_in 360 (by decide +kernel) (by decide +kernel), rfl⟩
theorem k_X10_46 : gj_CkS RX10 46 m_X10_within 3 := ⟨⟨Or.inl (gj_w_in 426 (by decide +kernel) (by decide +kernel)), gl_c_X10_within, gl_i_X10, ⟨by decide +kernel, by decide +kernel⟩, by decide +kernel, by decide⟩, gj_w_in 427 (by decide +kernel) (by decide +kernel)⟩
theorem k_X10_135 : gj_CkS RX10 135 m_X10_isWorker 1 := ⟨⟨Or.inl (gj_w_in 648 (by decide +kernel) (by decide +kernel)), gl_c_X10_isWorker, gl_i_X10, ⟨by decide +kernel, by decide +kernel⟩, by decide +kernel, by decide⟩, gj_w_in 649 (by decide +kernel) (by decide +kernel)⟩
theorem k_X10_231 : gj_CkS RX10 231 m_X10_mixed 2 := ⟨⟨Or.inl (gj_w_in 871 (by decide +kernel) (by decide +kernel)), gl_c_X10_mixed, gl_i_X10, ⟨by decide +kernel, by decide +kernel⟩, by decide +kernel, by decide⟩, gj_w_in 872 (by decide +kernel) (by decide +kernel)⟩
theorem k_X10_235 : gj_CkS RX10 235 m_X10_mixedBuffer 2 := ⟨⟨Or.inl (gj_w_in 875 (by decide +kernel) (by decide +kernel)), gl_c_X10_mixedBuffer, gl_i_X10, ⟨by decide +kernel, by decide +kernel⟩, by decide +kernel, by decide⟩, gj_w_in 876 (by decide +kernel) (by decide +kernel)⟩
theorem k_X10_239 : gj_CkS RX10 239 m_X10_mixedStation 2 := ⟨⟨Or.inl (gj_w_in 881 (by decide +kernel) (by decide +kernel)), gl_c_X10_mixedStation, gl_i_X10, ⟨by decide +kernel, by decide +kernel⟩, by decide +kernel, by decide⟩, gj_w_in 882 (by decide +kernel) (by decide +kernel)⟩
theorem k_X10_243 : gj_CkS RX10 243 m_X10_mixedWorker 2 := ⟨⟨Or.inl (gj_w_in 884 (by decide +kernel) (by decide +kernel)), gl_c_X10_mixedWorker, gl_i_X10, ⟨by decide +kernel, by decide +kernel⟩, by decide +kernel, by decide⟩, gj_w_in 885 (by decide +kernel) (by decide +kernel)⟩
theorem k_X10_247 : gj_CkS RX10 247 m_X10_mixedRow 2 := ⟨⟨Or.inl (gj_w_in 878 (by decide +kernel) (by decide +kernel)), gl_c_X10_mixedRow, gl_i_X10, ⟨by decide +kernel, by decide +kernel⟩, by decide +kernel, by decide⟩, gj_w_in 879 (by decide +kernel) (by decide +kernel)⟩
theorem k_X10_50 : gj_CkV RX10 50 m_X10_refuseBad 0 := ⟨⟨Or.inl (gj_w_in 429 (by decide +kernel) (by decide +kernel)), gl_c_X10_refuseBad, gl_i_X10, ⟨by decide +kernel, by decide +kernel⟩, by decide +kernel, by decide⟩, gj_w_in 431 (by decide +kernel) (by decide +kernel), gj_w_in 0 (by decide +kernel) (by decide +kernel)⟩
theorem k_X10_54 : gj_CkV RX10 54 m_X3_keep 1 := ⟨⟨Or.inl (gj_w_in 433 (by decide +kernel) (by decide +kernel)), gl_c_X3_keep, gl_i_X3, ⟨by decide +kernel, by decide +kernel⟩, by decide +kernel, by decide⟩, gj_w_in 434 (by decide +kernel) (by decide +kernel), gj_w_in 435 (by decide +kernel) (by decide +kernel)⟩
theorem k_X10_62 : gj_CkV RX10 62 m_X1_startAnew 1 := ⟨⟨Or.inl (gj_w_in 469 (by decide +kernel) (by decide +kernel)), gl_c_X1_startAnew, gl_i_X1, ⟨by decide +kernel, by decide +kernel⟩, by decide +kernel, by decide⟩, gj_w_in 258 (by decide +kernel) (by decide +kernel), gj_w_in 259 (by decide +kernel) (by decide +kernel)⟩
theorem k_X10_66 : gj_CkV RX10 66 m_X1_hasBuffer 1 := ⟨⟨Or.inl (gj_w_in 474 (by decide +kernel) (by decide +kernel)), gl_c_X1_hasBuffer, gl_i_X1, ⟨by decide +kernel, by decide +kernel⟩, by decide +kernel, by decide⟩, gj_w_in 475 (by decide +kernel) (by decide +kernel), gj_w_in 476 (by decide +kernel) (by decide +kernel)⟩
theorem k_X10_79 : gj_CkV RX10 79 m_X1_serve 0 := ⟨⟨Or.inl (gj_w_in 478 (by decide +kernel) (by decide +kernel)), gl_c_X1_serve, gl_i_X1, ⟨by decide +kernel, by decide +kernel⟩, by decide +kernel, by decide⟩, gj_w_in 479 (by decide +kernel) (by decide +kernel), gj_w_in 480 (by decide +kernel) (by decide +kernel)⟩
theorem k_X10_82 : gj_CkV RX10 82 m_X1_hasBufferOrNone 1 := ⟨⟨Or.inl (gj_w_in 536 (by decide +kernel) (by decide +kernel)), gl_c_X1_hasBufferOrNone, gl_i_X1, ⟨by decide +kernel, by decide +kernel⟩, by decide +kernel, by decide⟩, gj_w_in 537 (by decide +kernel) (by decide +kernel), gj_w_in 538 (by decide +kernel) (by decide +kernel)⟩
theorem k_X10_88 : gj_CkV RX10 88 m_X10_refuseFull 0 := ⟨⟨Or.inl (gj_w_in 541 (by decide +kernel) (by decide +kernel)), gl_c_X10_refuseFull, gl_i_X10, ⟨by decide +kernel, by decide +kernel⟩, by decide +kernel, by decide⟩, gj_w_in 543 (by decide +kernel) (by decide +kernel), gj_w_in 2 (by decide +kernel) (by decide +kernel)⟩
theorem k_X10_95 : gj_CkV RX10 95 m_X7_setUp 5 := ⟨⟨Or.inl (gj_w_in 545 (by decide +kernel) (by decide +kernel)), gl_c_X7_setUp, gl_i_X7, ⟨by decide +kernel, by decide +kernel⟩, by decide +kernel, by decide⟩, gj_w_in 546 (by decide +kernel) (by decide +kernel), gj_w_in 547 (by decide +kernel) (by decide +kernel)⟩
theorem k_X10_101 : gj_CkV RX10 101 m_X1_hasStation 1 := ⟨⟨Or.inl (gj_w_in 557 (by decide +kernel) (by decide +kernel)), gl_c_X1_hasStation, gl_i_X1, ⟨by decide +kernel, by decide +kernel⟩, by decide +kernel, by decide⟩, gj_w_in 558 (by decide +kernel) (by decide +kernel), gj_w_in 559 (by decide +kernel) (by decide +kernel)⟩
theorem k_X10_107 : gj_CkV RX10 107 m_X1_tick 0 := ⟨⟨Or.inl (gj_w_in 565 (by decide +kernel) (by decide +kernel)), gl_c_X1_tick, gl_i_X1, ⟨by decide +kernel, by decide +kernel⟩, by decide +kernel, by decide⟩, gj_w_in 566 (by decide +kernel) (by decide +kernel), gj_w_in 567 (by decide +kernel) (by decide +kernel)⟩
theorem k_X10_110 : gj_CkV RX10 110 m_X0_put 2 := ⟨⟨Or.inl (gj_w_in 614 (by decide +kernel) (by decide +kernel)), gl_c_X0_put, gl_i_X0, ⟨by decide +kernel, by decide +kernel⟩, by decide +kernel, by decide⟩, gj_w_in 495 (by decide +kernel) (by decide +kernel), gj_w_in 496 (by decide +kernel) (by decide +kernel)⟩
theorem k_X10_123 : gj_CkV RX10 123 m_X0_take 1 := ⟨⟨Or.inl (gj_w_in 619 (by decide +kernel) (by decide +kernel)), gl_c_X0_take, gl_i_X0, ⟨by decide +kernel, by decide +kernel⟩, by decide +kernel, by decide⟩, gj_w_in 523 (by decide +kernel) (by decide +kernel), gj_w_in 524 (by decide +kernel) (by decide +kernel)⟩
theorem k_X10_127 : gj_CkV RX10 127 m_X4_keep 1 := ⟨⟨Or.inl (gj_w_in 624 (by decide +kernel) (by decide +kernel)), gl_c_X4_keep, gl_i_X4, ⟨by decide +kernel, by decide +kernel⟩, by decide +kernel, by decide⟩, gj_w_in 625 (by decide +kernel) (by decide +kernel), gj_w_in 626 (by decide +kernel) (by decide +kernel)⟩
theorem k_X10_128 : gj_CkV RX10 128 m_X1_move 3 := ⟨⟨Or.inl (gj_w_in 629 (by decide +kernel) (by decide +kernel)), gl_c_X1_move, gl_i_X1, ⟨by decide +kernel, by decide +kernel⟩, by decide +kernel, by decide⟩, gj_w_in 630 (by decide +kernel) (by decide +kernel), gj_w_in 631 (by decide +kernel) (by decide +kernel)⟩
theorem k_X10_132 : gj_CkV RX10 132 m_X4_giveBack 1 := ⟨⟨Or.inl (gj_w_in 640 (by decide +kernel) (by decide +kernel)), gl_c_X4_giveBack, gl_i_X4, ⟨by decide +kernel, by decide +kernel⟩, by decide +kernel, by decide⟩, gj_w_in 641 (by decide +kernel) (by decide +kernel), gj_w_in 642 (by decide +kernel) (by decide +kernel)⟩
theorem k_X10_142 : gj_CkV RX10 142 m_X9_waits 0 := ⟨⟨Or.inl (gj_w_in 651 (by decide +kernel) (by decide +kernel)), gl_c_X9_waits, gl_i_X9, ⟨by decide +kernel, by decide +kernel⟩, by decide +kernel, by decide⟩, gj_w_in 652 (by decide +kernel) (by decide +kernel), gj_w_in 653 (by decide +kernel) (by decide +kernel)⟩
theorem k_X10_148 : gj_CkV RX10 148 m_X10_refuseNo 0 := ⟨⟨Or.inl (gj_w_in 655 (by decide +kernel) (by decide +kernel)), gl_c_X10_refuseNo, gl_i_X10, ⟨by decide +kernel, by decide +kernel⟩, by decide +kernel, by decide⟩, gj_w_in 657 (by decide +kernel) (by decide +kernel), gj_w_in 7 (by decide +kernel) (by decide +kernel)⟩
theorem k_X10_151 : gj_CkV RX10 151 m_X9_wishFor 3 := ⟨⟨Or.inl (gj_w_in 659 (by decide +kernel) (by decide +kernel)), gl_c_X9_wishFor, gl_i_X9, ⟨by decide +kernel, by decide +kernel⟩, by decide +kernel, by decide⟩, gj_w_in 660 (by decide +kernel) (by decide +kernel), gj_w_in 661 (by decide +kernel) (by decide +kernel)⟩
theorem k_X10_155 : gj_CkV RX10 155 m_X1_tryWish 1 := ⟨⟨Or.inl (gj_w_in 663 (by decide +kernel) (by decide +kernel)), gl_c_X1_tryWish, gl_i_X1, ⟨by decide +kernel, by decide +kernel⟩, by decide +kernel, by decide⟩, gj_w_in 491 (by decide +kernel) (by decide +kernel), gj_w_in 492 (by decide +kernel) (by decide +kernel)⟩
theorem k_X10_161 : gj_CkV RX10 161 m_X5_addLast 1 := ⟨⟨Or.inl (gj_w_in 664 (by decide +kernel) (by decide +kernel)), gl_c_X5_addLast, gl_i_X5, ⟨by decide +kernel, by decide +kernel⟩, by decide +kernel, by decide⟩, gj_w_in 514 (by decide +kernel) (by decide +kernel), gj_w_in 515 (by decide +kernel) (by decide +kernel)⟩
theorem k_X10_164 : gj_CkV RX10 164 m_X9_wishNoMore 0 := ⟨⟨Or.inl (gj_w_in 669 (by decide +kernel) (by decide +kernel)), gl_c_X9_wishNoMore, gl_i_X9, ⟨by decide +kernel, by decide +kernel⟩, by decide +kernel, by decide⟩, gj_w_in 274 (by decide +kernel) (by decide +kernel), gj_w_in 275 (by decide +kernel) (by decide +kernel)⟩
theorem k_X10_167 : gj_CkV RX10 167 m_X5_placeOf 1 := ⟨⟨Or.inl (gj_w_in 670 (by decide +kernel) (by decide +kernel)), gl_c_X5_placeOf, gl_i_X5, ⟨by decide +kernel, by decide +kernel⟩, by decide +kernel, by decide⟩, gj_w_in 671 (by decide +kernel) (by decide +kernel), gj_w_in 672 (by decide +kernel) (by decide +kernel)⟩
theorem k_X10_170 : gj_CkV RX10 170 m_X5_removeAt 1 := ⟨⟨Or.inl (gj_w_in 674 (by decide +kernel) (by decide +kernel)), gl_c_X5_removeAt, gl_i_X5, ⟨by decide +kernel, by decide +kernel⟩, by decide +kernel, by decide⟩, gj_w_in 527 (by decide +kernel) (by decide +kernel), gj_w_in 528 (by decide +kernel) (by decide +kernel)⟩
theorem k_X10_173 : gj_CkV RX10 173 m_X1_queuedAt 1 := ⟨⟨Or.inl (gj_w_in 679 (by decide +kernel) (by decide +kernel)), gl_c_X1_queuedAt, gl_i_X1, ⟨by decide +kernel, by decide +kernel⟩, by decide +kernel, by decide⟩, gj_w_in 680 (by decide +kernel) (by decide +kernel), gj_w_in 681 (by decide +kernel) (by decide +kernel)⟩
theorem k_X10_176 : gj_CkV RX10 176 m_X0_keepFor 1 := ⟨⟨Or.inl (gj_w_in 684 (by decide +kernel) (by decide +kernel)), gl_c_X0_keepFor, gl_i_X0, ⟨by decide +kernel, by decide +kernel⟩, by decide +kernel, by decide⟩, gj_w_in 685 (by decide +kernel) (by decide +kernel), gj_w_in 686 (by decide +kernel) (by decide +kernel)⟩
theorem k_X10_182 : gj_CkV RX10 182 m_X0_letGo 0 := ⟨⟨Or.inl (gj_w_in 692 (by decide +kernel) (by decide +kernel)), gl_c_X0_letGo, gl_i_X0, ⟨by decide +kernel, by decide +kernel⟩, by decide +kernel, by decide⟩, gj_w_in 693 (by decide +kernel) (by decide +kernel), gj_w_in 694 (by decide +kernel) (by decide +kernel)⟩
theorem k_X10_188 : gj_CkV RX10 188 m_X0_keepingTold 1 := ⟨⟨Or.inl (gj_w_in 704 (by decide +kernel) (by decide +kernel)), gl_c_X0_keepingTold, gl_i_X0, ⟨by decide +kernel, by decide +kernel⟩, by decide +kernel, by decide⟩, gj_w_in 705 (by decide +kernel) (by decide +kernel), gj_w_in 706 (by decide +kernel) (by decide +kernel)⟩
theorem k_X10_191 : gj_CkV RX10 191 m_X5_at 1 := ⟨⟨Or.inl (gj_w_in 712 (by decide +kernel) (by decide +kernel)), gl_c_X5_at, gl_i_X5, ⟨by decide +kernel, by decide +kernel⟩, by decide +kernel, by decide⟩, gj_w_in 487 (by decide +kernel) (by decide +kernel), gj_w_in 488 (by decide +kernel) (by decide +kernel)⟩
theorem k_X10_194 : gj_CkV RX10 194 m_X1_stuckBits 0 := ⟨⟨Or.inl (gj_w_in 717 (by decide +kernel) (by decide +kernel)), gl_c_X1_stuckBits, gl_i_X1, ⟨by decide +kernel, by decide +kernel⟩, by decide +kernel, by decide⟩, gj_w_in 718 (by decide +kernel) (by decide +kernel), gj_w_in 719 (by decide +kernel) (by decide +kernel)⟩
theorem k_X10_197 : gj_CkV RX10 197 m_X0_bufferTold 1 := ⟨⟨Or.inl (gj_w_in 730 (by decide +kernel) (by decide +kernel)), gl_c_X0_bufferTold, gl_i_X0, ⟨by decide +kernel, by decide +kernel⟩, by decide +kernel, by decide⟩, gj_w_in 731 (by decide +kernel) (by decide +kernel), gj_w_in 732 (by decide +kernel) (by decide +kernel)⟩
theorem k_X10_200 : gj_CkV RX10 200 m_X7_stationTold 1 := ⟨⟨Or.inl (gj_w_in 742 (by decide +kernel) (by decide +kernel)), gl_c_X7_stationTold, gl_i_X7, ⟨by decide +kernel, by decide +kernel⟩, by decide +kernel, by decide⟩, gj_w_in 743 (by decide +kernel) (by decide +kernel), gj_w_in 744 (by decide +kernel) (by decide +kernel)⟩
theorem k_X10_203 : gj_CkV RX10 203 m_X9_workerTold 1 := ⟨⟨Or.inl (gj_w_in 750 (by decide +kernel) (by decide +kernel)), gl_c_X9_workerTold, gl_i_X9, ⟨by decide +kernel, by decide +kernel⟩, by decide +kernel, by decide⟩, gj_w_in 751 (by decide +kernel) (by decide +kernel), gj_w_in 752 (by decide +kernel) (by decide +kernel)⟩
theorem k_X10_206 : gj_CkV RX10 206 m_X1_worksTold 1 := ⟨⟨Or.inl (gj_w_in 763 (by decide +kernel) (by decide +kernel)), gl_c_X1_worksTold, gl_i_X1, ⟨by decide +kernel, by decide +kernel⟩, by decide +kernel, by decide⟩, gj_w_in 764 (by decide +kernel) (by decide +kernel), gj_w_in 765 (by decide +kernel) (by decide +kernel)⟩
theorem k_X10_209 : gj_CkV RX10 209 m_X8_isFull 0 := ⟨⟨Or.inl (gj_w_in 779 (by decide +kernel) (by decide +kernel)), gl_c_X8_isFull, gl_i_X8, ⟨by decide +kernel, by decide +kernel⟩, by decide +kernel, by decide⟩, gj_w_in 780 (by decide +kernel) (by decide +kernel), gj_w_in 781 (by decide +kernel) (by decide +kernel)⟩
theorem k_X10_212 : gj_CkV RX10 212 m_X8_add 1 := ⟨⟨Or.inl (gj_w_in 783 (by decide +kernel) (by decide +kernel)), gl_c_X8_add, gl_i_X8, ⟨by decide +kernel, by decide +kernel⟩, by decide +kernel, by decide⟩, gj_w_in 784 (by decide +kernel) (by decide +kernel), gj_w_in 785 (by decide +kernel) (by decide +kernel)⟩
theorem k_X10_218 : gj_CkV RX10 218 m_X8_fault 0 := ⟨⟨Or.inl (gj_w_in 796 (by decide +kernel) (by decide +kernel)), gl_c_X8_fault, gl_i_X8, ⟨by decide +kernel, by decide +kernel⟩, by decide +kernel, by decide⟩, gj_w_in 797 (by decide +kernel) (by decide +kernel), gj_w_in 798 (by decide +kernel) (by decide +kernel)⟩
theorem k_X10_221 : gj_CkV RX10 221 m_X6_run 0 := ⟨⟨Or.inl (gj_w_in 808 (by decide +kernel) (by decide +kernel)), gl_c_X6_run, gl_i_X6, ⟨by decide +kernel, by decide +kernel⟩, by decide +kernel, by decide⟩, gj_w_in 809 (by decide +kernel) (by decide +kernel), gj_w_in 810 (by decide +kernel) (by decide +kernel)⟩
theorem k_X10_225 : gj_CkV RX10 225 m_X3_giveBack 1 := ⟨⟨Or.inl (gj_w_in 854 (by decide +kernel) (by decide +kernel)), gl_c_X3_giveBack, gl_i_X3, ⟨by decide +kernel, by decide +kernel⟩, by decide +kernel, by decide⟩, gj_w_in 855 (by decide +kernel) (by decide +kernel), gj_w_in 856 (by decide +kernel) (by decide +kernel)⟩
theorem k_X10_226 : gj_CkV RX10 226 m_X10_toldOf 1 := ⟨⟨Or.inl (gj_w_in 862 (by decide +kernel) (by decide +kernel)), gl_c_X10_toldOf, gl_i_X10, ⟨by decide +kernel, by decide +kernel⟩, by decide +kernel, by decide⟩, gj_w_in 864 (by decide +kernel) (by decide +kernel), gj_w_in 18 (by decide +kernel) (by decide +kernel)⟩
theorem k_X0_3 : gj_Oi RX0 3 := ⟨gj_w_in 142 (by decide +kernel) (by decide +kernel), gj_w_in 82 (by decide +kernel) (by decide +kernel), gj_w_in 83 (by decide +kernel) (by decide +kernel)⟩
theorem k_X0_11 : gj_CkI RX0 11 m_X2_init 0 := ⟨⟨Or.inr ⟨"GatedWorks", gj_nw_in 144 (by decide +kernel) (by decide +kernel)⟩, gl_c_X2_init, gl_i_X2, ⟨by decide +kernel, by decide +kernel⟩, by decide +kernel, by decide⟩, rfl, gj_w_in 116 (by decide +kernel) (by decide +kernel), rfl⟩
theorem k_X0_20 : gj_CkI RX0 20 m_X5_init 0 := ⟨⟨Or.inr ⟨"GatedWorks", gj_nw_in 146 (by decide +kernel) (by decide +kernel)⟩, gl_c_X5_init, gl_i_X5, ⟨by decide +kernel, by decide +kernel⟩, by decide +kernel, by decide⟩, rfl, gj_w_in 99 (by decide +kernel) (by decide +kernel), rfl⟩
theorem k_X0_55 : gj_Mx RX0 55 := ⟨gj_w_in 517 (by decide +kernel) (by decide +kernel), gj_w_in 503 (by decide +kernel) (by decide +kernel), gj_w_in 75 (by decide +kernel) (by decide +kernel), gj_w_in 504 (by decide +kernel) (by decide +kernel)⟩
theorem k_X0_28 : gj_CkV RX0 28 m_X2_enter 0 := ⟨⟨Or.inl (gj_w_in 498 (by decide +kernel) (by decide +kernel)), gl_c_X2_enter, gl_i_X2, ⟨by decide +kernel, by decide +kernel⟩, by decide +kernel, by decide⟩, gj_w_in 499 (by decide +kernel) (by decide +kernel), gj_w_in 500 (by decide +kernel) (by decide +kernel)⟩
theorem k_X0_38 : gj_CkV RX0 38 m_X0_isKeptByAnother 1 := ⟨⟨Or.inl (gj_w_in 505 (by decide +kernel) (by decide +kernel)), gl_c_X0_isKeptByAnother, gl_i_X0, ⟨by decide +kernel, by decide +kernel⟩, by decide +kernel, by decide⟩, gj_w_in 506 (by decide +kernel) (by decide +kernel), gj_w_in 507 (by decide +kernel) (by decide +kernel)⟩
theorem k_X0_42 : gj_CkV RX0 42 m_X2_leaveThrown 0 := ⟨⟨Or.inl (gj_w_in 509 (by decide +kernel) (by decide +kernel)), gl_c_X2_leaveThrown, gl_i_X2, ⟨by decide +kernel, by decide +kernel⟩, by decide +kernel, by decide⟩, gj_w_in 510 (by decide +kernel) (by decide +kernel), gj_w_in 511 (by decide +kernel) (by decide +kernel)⟩
theorem k_X0_45 : gj_CkV RX0 45 m_X5_addLast 1 := ⟨⟨Or.inl (gj_w_in 513 (by decide +kernel) (by decide +kernel)), gl_c_X5_addLast, gl_i_X5, ⟨by decide +kernel, by decide +kernel⟩, by decide +kernel, by decide⟩, gj_w_in 514 (by decide +kernel) (by decide +kernel), gj_w_in 515 (by decide +kernel) (by decide +kernel)⟩
theorem k_X0_61 : gj_CkV RX0 61 m_X2_leave 0 := ⟨⟨Or.inl (gj_w_in 518 (by decide +kernel) (by decide +kernel)), gl_c_X2_leave, gl_i_X2, ⟨by decide +kernel, by decide +kernel⟩, by decide +kernel, by decide⟩, gj_w_in 519 (by decide +kernel) (by decide +kernel), gj_w_in 520 (by decide +kernel) (by decide +kernel)⟩
theorem k_X0_67 : gj_CkV RX0 67 m_X5_removeAt 1 := ⟨⟨Or.inl (gj_w_in 526 (by decide +kernel) (by decide +kernel)), gl_c_X5_removeAt, gl_i_X5, ⟨by decide +kernel, by decide +kernel⟩, by decide +kernel, by decide⟩, gj_w_in 527 (by decide +kernel) (by decide +kernel), gj_w_in 528 (by decide +kernel) (by decide +kernel)⟩
theorem k_X0_86 : gj_CkV RX0 86 m_X2_startAnew 0 := ⟨⟨Or.inl (gj_w_in 265 (by decide +kernel) (by decide +kernel)), gl_c_X2_startAnew, gl_i_X2, ⟨by decide +kernel, by decide +kernel⟩, by decide +kernel, by decide⟩, gj_w_in 266 (by decide +kernel) (by decide +kernel), gj_w_in 267 (by decide +kernel) (by decide +kernel)⟩
theorem k_X0_89 : gj_CkV RX0 89 m_X2_copyFrom 1 := ⟨⟨Or.inl (gj_w_in 445 (by decide +kernel) (by decide +kernel)), gl_c_X2_copyFrom, gl_i_X2, ⟨by decide +kernel, by decide +kernel⟩, by decide +kernel, by decide⟩, gj_w_in 446 (by decide +kernel) (by decide +kernel), gj_w_in 447 (by decide +kernel) (by decide +kernel)⟩
theorem k_X0_93 : gj_CkV RX0 93 m_X5_copyFrom 1 := ⟨⟨Or.inl (gj_w_in 449 (by decide +kernel) (by decide +kernel)), gl_c_X5_copyFrom, gl_i_X5, ⟨by decide +kernel, by decide +kernel⟩, by decide +kernel, by decide⟩, gj_w_in 450 (by decide +kernel) (by decide +kernel), gj_w_in 451 (by decide +kernel) (by decide +kernel)⟩
theorem k_X1_3 : gj_Oi RX1 3 := ⟨gj_w_in 89 (by decide +kernel) (by decide +kernel), gj_w_in 82 (by decide +kernel) (by decide +kernel), gj_w_in 83 (by decide +kernel) (by decide +kernel)⟩
theorem k_X1_31 : gj_CkI RX1 31 m_X5_init 0 := ⟨⟨Or.inr ⟨"GatedWorks", gj_nw_in 98 (by decide +kernel) (by decide +kernel)⟩, gl_c_X5_init, gl_i_X5, ⟨by decide +kernel, by decide +kernel⟩, by decide +kernel, by decide⟩, rfl, gj_w_in 99 (by decide +kernel) (by decide +kernel), rfl⟩
theorem k_X1_38 : gj_CkI RX1 38 m_X2_init 0 := ⟨⟨Or.inr ⟨"GatedWorks", gj_nw_in 115 (by decide +kernel) (by decide +kernel)⟩, gl_c_X2_init, gl_i_X2, ⟨by decide +kernel, by decide +kernel⟩, by decide +kernel, by decide⟩, rfl, gj_w_in 116 (by decide +kernel) (by decide +kernel), rfl⟩
theorem k_X1_43 : gj_CkI RX1 43 m_X0_init 0 := ⟨⟨Or.inr ⟨"GatedWorks", gj_nw_in 139 (by decide +kernel) (by decide +kernel)⟩, gl_c_X0_init, gl_i_X0, ⟨by decide +kernel, by decide +kernel⟩, by decide +kernel, by decide⟩, rfl, gj_w_in 140 (by decide +kernel) (by decide +kernel), rfl⟩
theorem k_X1_44 : gj_CkI RX1 44 m_X7_init 0 := ⟨⟨Or.inr ⟨"GatedWorks", gj_nw_in 185 (by decide +kernel) (by decide +kernel)⟩, gl_c_X7_init, gl_i_X7, ⟨by decide +kernel, by decide +kernel⟩, by decide +kernel, by decide⟩, rfl, gj_w_in 186 (by decide +kernel) (by decide +kernel), rfl⟩
theorem k_X1_45 : gj_CkI RX1 45 m_X9_init 0 := ⟨⟨Or.inr ⟨"GatedWorks", gj_nw_in 236 (by decide +kernel) (by decide +kernel)⟩, gl_c_X9_init, gl_i_X9, ⟨by decide +kernel, by decide +kernel⟩, by decide +kernel, by decide⟩, rfl, gj_w_in 237 (by decide +kernel) (by decide +kernel), rfl⟩
theorem k_X1_74 : gj_Mn RX1 74 := ⟨gj_w_in 590 (by decide +kernel) (by decide +kernel), gj_w_in 467 (by decide +kernel) (by decide +kernel), gj_w_in 75 (by decide +kernel) (by decide +kernel), gj_w_in 468 (by decide +kernel) (by decide +kernel)⟩
theorem k_X1_83 : gj_Mx RX1 83 := ⟨gj_w_in 591 (by decide +kernel) (by decide +kernel), gj_w_in 503 (by decide +kernel) (by decide +kernel), gj_w_in 75 (by decide +kernel) (by decide +kernel), gj_w_in 504 (by decide +kernel) (by decide +kernel)⟩
theorem k_X1_89 : gj_CkS RX1 89 m_X1_moveOne 2 := ⟨⟨Or.inl (gj_w_in 633 (by decide +kernel) (by decide +kernel)), gl_c_X1_moveOne, gl_i_X1, ⟨by decide +kernel, by decide +kernel⟩, by decide +kernel, by decide⟩, gj_w_in 634 (by decide +kernel) (by decide +kernel)⟩
theorem k_X1_93 : gj_CkS RX1 93 m_X1_leaveBoth 3 := ⟨⟨Or.inl (gj_w_in 601 (by decide +kernel) (by decide +kernel)), gl_c_X1_leaveBoth, gl_i_X1, ⟨by decide +kernel, by decide +kernel⟩, by decide +kernel, by decide⟩, gj_w_in 602 (by decide +kernel) (by decide +kernel)⟩
theorem k_X1_46 : gj_CkV RX1 46 m_X1_startAnew 1 := ⟨⟨Or.inl (gj_w_in 257 (by decide +kernel) (by decide +kernel)), gl_c_X1_startAnew, gl_i_X1, ⟨by decide +kernel, by decide +kernel⟩, by decide +kernel, by decide⟩, gj_w_in 258 (by decide +kernel) (by decide +kernel), gj_w_in 259 (by decide +kernel) (by decide +kernel)⟩
theorem k_X1_50 : gj_CkV RX1 50 m_X0_startAnew 0 := ⟨⟨Or.inl (gj_w_in 261 (by decide +kernel) (by decide +kernel)), gl_c_X0_startAnew, gl_i_X0, ⟨by decide +kernel, by decide +kernel⟩, by decide +kernel, by decide⟩, gj_w_in 262 (by decide +kernel) (by decide +kernel), gj_w_in 263 (by decide +kernel) (by decide +kernel)⟩
theorem k_X1_52 : gj_CkV RX1 52 m_X9_startAnew 0 := ⟨⟨Or.inl (gj_w_in 269 (by decide +kernel) (by decide +kernel)), gl_c_X9_startAnew, gl_i_X9, ⟨by decide +kernel, by decide +kernel⟩, by decide +kernel, by decide⟩, gj_w_in 270 (by decide +kernel) (by decide +kernel), gj_w_in 271 (by decide +kernel) (by decide +kernel)⟩
theorem k_X1_57 : gj_CkV RX1 57 m_X2_startAnew 0 := ⟨⟨Or.inl (gj_w_in 277 (by decide +kernel) (by decide +kernel)), gl_c_X2_startAnew, gl_i_X2, ⟨by decide +kernel, by decide +kernel⟩, by decide +kernel, by decide⟩, gj_w_in 266 (by decide +kernel) (by decide +kernel), gj_w_in 267 (by decide +kernel) (by decide +kernel)⟩
theorem k_X1_70 : gj_CkV RX1 70 m_X1_hasBuffer 1 := ⟨⟨Or.inl (gj_w_in 540 (by decide +kernel) (by decide +kernel)), gl_c_X1_hasBuffer, gl_i_X1, ⟨by decide +kernel, by decide +kernel⟩, by decide +kernel, by decide⟩, gj_w_in 475 (by decide +kernel) (by decide +kernel), gj_w_in 476 (by decide +kernel) (by decide +kernel)⟩
theorem k_X1_86 : gj_CkV RX1 86 m_X2_enter 0 := ⟨⟨Or.inl (gj_w_in 592 (by decide +kernel) (by decide +kernel)), gl_c_X2_enter, gl_i_X2, ⟨by decide +kernel, by decide +kernel⟩, by decide +kernel, by decide⟩, gj_w_in 499 (by decide +kernel) (by decide +kernel), gj_w_in 500 (by decide +kernel) (by decide +kernel)⟩
theorem k_X1_97 : gj_CkV RX1 97 m_X0_take 1 := ⟨⟨Or.inl (gj_w_in 522 (by decide +kernel) (by decide +kernel)), gl_c_X0_take, gl_i_X0, ⟨by decide +kernel, by decide +kernel⟩, by decide +kernel, by decide⟩, gj_w_in 523 (by decide +kernel) (by decide +kernel), gj_w_in 524 (by decide +kernel) (by decide +kernel)⟩
theorem k_X1_101 : gj_CkV RX1 101 m_X0_put 2 := ⟨⟨Or.inl (gj_w_in 494 (by decide +kernel) (by decide +kernel)), gl_c_X0_put, gl_i_X0, ⟨by decide +kernel, by decide +kernel⟩, by decide +kernel, by decide⟩, gj_w_in 495 (by decide +kernel) (by decide +kernel), gj_w_in 496 (by decide +kernel) (by decide +kernel)⟩
theorem k_X1_108 : gj_CkV RX1 108 m_X5_addFirst 1 := ⟨⟨Or.inl (gj_w_in 636 (by decide +kernel) (by decide +kernel)), gl_c_X5_addFirst, gl_i_X5, ⟨by decide +kernel, by decide +kernel⟩, by decide +kernel, by decide⟩, gj_w_in 637 (by decide +kernel) (by decide +kernel), gj_w_in 638 (by decide +kernel) (by decide +kernel)⟩
theorem k_X1_111 : gj_CkV RX1 111 m_X2_leaveThrown 0 := ⟨⟨Or.inl (gj_w_in 604 (by decide +kernel) (by decide +kernel)), gl_c_X2_leaveThrown, gl_i_X2, ⟨by decide +kernel, by decide +kernel⟩, by decide +kernel, by decide⟩, gj_w_in 510 (by decide +kernel) (by decide +kernel), gj_w_in 511 (by decide +kernel) (by decide +kernel)⟩
theorem k_X1_114 : gj_CkV RX1 114 m_X2_leave 0 := ⟨⟨Or.inl (gj_w_in 605 (by decide +kernel) (by decide +kernel)), gl_c_X2_leave, gl_i_X2, ⟨by decide +kernel, by decide +kernel⟩, by decide +kernel, by decide⟩, gj_w_in 519 (by decide +kernel) (by decide +kernel), gj_w_in 520 (by decide +kernel) (by decide +kernel)⟩
theorem k_X1_117 : gj_CkV RX1 117 m_X1_tickStation 1 := ⟨⟨Or.inl (gj_w_in 569 (by decide +kernel) (by decide +kernel)), gl_c_X1_tickStation, gl_i_X1, ⟨by decide +kernel, by decide +kernel⟩, by decide +kernel, by decide⟩, gj_w_in 571 (by decide +kernel) (by decide +kernel), gj_w_in 3 (by decide +kernel) (by decide +kernel)⟩
theorem k_X1_124 : gj_CkV RX1 124 m_X1_work 1 := ⟨⟨Or.inl (gj_w_in 573 (by decide +kernel) (by decide +kernel)), gl_c_X1_work, gl_i_X1, ⟨by decide +kernel, by decide +kernel⟩, by decide +kernel, by decide⟩, gj_w_in 575 (by decide +kernel) (by decide +kernel), gj_w_in 4 (by decide +kernel) (by decide +kernel)⟩
theorem k_X1_127 : gj_CkV RX1 127 m_X7_workOn 0 := ⟨⟨Or.inl (gj_w_in 577 (by decide +kernel) (by decide +kernel)), gl_c_X7_workOn, gl_i_X7, ⟨by decide +kernel, by decide +kernel⟩, by decide +kernel, by decide⟩, gj_w_in 578 (by decide +kernel) (by decide +kernel), gj_w_in 579 (by decide +kernel) (by decide +kernel)⟩
theorem k_X1_133 : gj_CkV RX1 133 m_X1_deliver 1 := ⟨⟨Or.inl (gj_w_in 581 (by decide +kernel) (by decide +kernel)), gl_c_X1_deliver, gl_i_X1, ⟨by decide +kernel, by decide +kernel⟩, by decide +kernel, by decide⟩, gj_w_in 583 (by decide +kernel) (by decide +kernel), gj_w_in 5 (by decide +kernel) (by decide +kernel)⟩
theorem k_X1_142 : gj_CkV RX1 142 m_X1_takePair 2 := ⟨⟨Or.inl (gj_w_in 586 (by decide +kernel) (by decide +kernel)), gl_c_X1_takePair, gl_i_X1, ⟨by decide +kernel, by decide +kernel⟩, by decide +kernel, by decide⟩, gj_w_in 588 (by decide +kernel) (by decide +kernel), gj_w_in 6 (by decide +kernel) (by decide +kernel)⟩
theorem k_X1_145 : gj_CkV RX1 145 m_X7_load 1 := ⟨⟨Or.inl (gj_w_in 606 (by decide +kernel) (by decide +kernel)), gl_c_X7_load, gl_i_X7, ⟨by decide +kernel, by decide +kernel⟩, by decide +kernel, by decide⟩, gj_w_in 607 (by decide +kernel) (by decide +kernel), gj_w_in 608 (by decide +kernel) (by decide +kernel)⟩
theorem k_X1_157 : gj_CkV RX1 157 m_X7_becomeIdle 0 := ⟨⟨Or.inl (gj_w_in 585 (by decide +kernel) (by decide +kernel)), gl_c_X7_becomeIdle, gl_i_X7, ⟨by decide +kernel, by decide +kernel⟩, by decide +kernel, by decide⟩, gj_w_in 550 (by decide +kernel) (by decide +kernel), gj_w_in 551 (by decide +kernel) (by decide +kernel)⟩
theorem k_X1_163 : gj_CkV RX1 163 m_X0_canGive 1 := ⟨⟨Or.inl (gj_w_in 593 (by decide +kernel) (by decide +kernel)), gl_c_X0_canGive, gl_i_X0, ⟨by decide +kernel, by decide +kernel⟩, by decide +kernel, by decide⟩, gj_w_in 594 (by decide +kernel) (by decide +kernel), gj_w_in 595 (by decide +kernel) (by decide +kernel)⟩
theorem k_X1_166 : gj_CkV RX1 166 m_X0_giveFirst 0 := ⟨⟨Or.inl (gj_w_in 597 (by decide +kernel) (by decide +kernel)), gl_c_X0_giveFirst, gl_i_X0, ⟨by decide +kernel, by decide +kernel⟩, by decide +kernel, by decide⟩, gj_w_in 598 (by decide +kernel) (by decide +kernel), gj_w_in 599 (by decide +kernel) (by decide +kernel)⟩
theorem k_X1_180 : gj_CkV RX1 180 m_X9_wishNoMore 0 := ⟨⟨Or.inl (gj_w_in 530 (by decide +kernel) (by decide +kernel)), gl_c_X9_wishNoMore, gl_i_X9, ⟨by decide +kernel, by decide +kernel⟩, by decide +kernel, by decide⟩, gj_w_in 274 (by decide +kernel) (by decide +kernel), gj_w_in 275 (by decide +kernel) (by decide +kernel)⟩
theorem k_X1_183 : gj_CkV RX1 183 m_X1_serveFirst 0 := ⟨⟨Or.inl (gj_w_in 482 (by decide +kernel) (by decide +kernel)), gl_c_X1_serveFirst, gl_i_X1, ⟨by decide +kernel, by decide +kernel⟩, by decide +kernel, by decide⟩, gj_w_in 484 (by decide +kernel) (by decide +kernel), gj_w_in 1 (by decide +kernel) (by decide +kernel)⟩
theorem k_X1_187 : gj_CkV RX1 187 m_X5_at 1 := ⟨⟨Or.inl (gj_w_in 486 (by decide +kernel) (by decide +kernel)), gl_c_X5_at, gl_i_X5, ⟨by decide +kernel, by decide +kernel⟩, by decide +kernel, by decide⟩, gj_w_in 487 (by decide +kernel) (by decide +kernel), gj_w_in 488 (by decide +kernel) (by decide +kernel)⟩
theorem k_X1_190 : gj_CkV RX1 190 m_X1_tryWish 1 := ⟨⟨Or.inl (gj_w_in 490 (by decide +kernel) (by decide +kernel)), gl_c_X1_tryWish, gl_i_X1, ⟨by decide +kernel, by decide +kernel⟩, by decide +kernel, by decide⟩, gj_w_in 491 (by decide +kernel) (by decide +kernel), gj_w_in 492 (by decide +kernel) (by decide +kernel)⟩
theorem k_X1_193 : gj_CkV RX1 193 m_X5_removeAt 1 := ⟨⟨Or.inl (gj_w_in 531 (by decide +kernel) (by decide +kernel)), gl_c_X5_removeAt, gl_i_X5, ⟨by decide +kernel, by decide +kernel⟩, by decide +kernel, by decide⟩, gj_w_in 527 (by decide +kernel) (by decide +kernel), gj_w_in 528 (by decide +kernel) (by decide +kernel)⟩
theorem k_X1_199 : gj_CkV RX1 199 m_X5_placeOf 1 := ⟨⟨Or.inl (gj_w_in 683 (by decide +kernel) (by decide +kernel)), gl_c_X5_placeOf, gl_i_X5, ⟨by decide +kernel, by decide +kernel⟩, by decide +kernel, by decide⟩, gj_w_in 671 (by decide +kernel) (by decide +kernel), gj_w_in 672 (by decide +kernel) (by decide +kernel)⟩
theorem k_X1_202 : gj_CkV RX1 202 m_X1_isStuck 1 := ⟨⟨Or.inl (gj_w_in 721 (by decide +kernel) (by decide +kernel)), gl_c_X1_isStuck, gl_i_X1, ⟨by decide +kernel, by decide +kernel⟩, by decide +kernel, by decide⟩, gj_w_in 723 (by decide +kernel) (by decide +kernel), gj_w_in 8 (by decide +kernel) (by decide +kernel)⟩
theorem k_X1_205 : gj_CkV RX1 205 m_X1_queuedAt 1 := ⟨⟨Or.inl (gj_w_in 725 (by decide +kernel) (by decide +kernel)), gl_c_X1_queuedAt, gl_i_X1, ⟨by decide +kernel, by decide +kernel⟩, by decide +kernel, by decide⟩, gj_w_in 680 (by decide +kernel) (by decide +kernel), gj_w_in 681 (by decide +kernel) (by decide +kernel)⟩
theorem k_X1_220 : gj_CkV RX1 220 m_X1_allItems 0 := ⟨⟨Or.inl (gj_w_in 767 (by decide +kernel) (by decide +kernel)), gl_c_X1_allItems, gl_i_X1, ⟨by decide +kernel, by decide +kernel⟩, by decide +kernel, by decide⟩, gj_w_in 769 (by decide +kernel) (by decide +kernel), gj_w_in 9 (by decide +kernel) (by decide +kernel)⟩
theorem k_X1_223 : gj_CkV RX1 223 m_X1_allEntries 0 := ⟨⟨Or.inl (gj_w_in 771 (by decide +kernel) (by decide +kernel)), gl_c_X1_allEntries, gl_i_X1, ⟨by decide +kernel, by decide +kernel⟩, by decide +kernel, by decide⟩, gj_w_in 773 (by decide +kernel) (by decide +kernel), gj_w_in 10 (by decide +kernel) (by decide +kernel)⟩
theorem k_X1_226 : gj_CkV RX1 226 m_X0_copyFrom 1 := ⟨⟨Or.inl (gj_w_in 441 (by decide +kernel) (by decide +kernel)), gl_c_X0_copyFrom, gl_i_X0, ⟨by decide +kernel, by decide +kernel⟩, by decide +kernel, by decide⟩, gj_w_in 442 (by decide +kernel) (by decide +kernel), gj_w_in 443 (by decide +kernel) (by decide +kernel)⟩
theorem k_X1_230 : gj_CkV RX1 230 m_X7_copyFrom 1 := ⟨⟨Or.inl (gj_w_in 456 (by decide +kernel) (by decide +kernel)), gl_c_X7_copyFrom, gl_i_X7, ⟨by decide +kernel, by decide +kernel⟩, by decide +kernel, by decide⟩, gj_w_in 457 (by decide +kernel) (by decide +kernel), gj_w_in 458 (by decide +kernel) (by decide +kernel)⟩
theorem k_X1_233 : gj_CkV RX1 233 m_X9_copyFrom 1 := ⟨⟨Or.inl (gj_w_in 460 (by decide +kernel) (by decide +kernel)), gl_c_X9_copyFrom, gl_i_X9, ⟨by decide +kernel, by decide +kernel⟩, by decide +kernel, by decide⟩, gj_w_in 461 (by decide +kernel) (by decide +kernel), gj_w_in 462 (by decide +kernel) (by decide +kernel)⟩
theorem k_X1_236 : gj_CkV RX1 236 m_X5_copyFrom 1 := ⟨⟨Or.inl (gj_w_in 464 (by decide +kernel) (by decide +kernel)), gl_c_X5_copyFrom, gl_i_X5, ⟨by decide +kernel, by decide +kernel⟩, by decide +kernel, by decide⟩, gj_w_in 450 (by decide +kernel) (by decide +kernel), gj_w_in 451 (by decide +kernel) (by decide +kernel)⟩
theorem k_X1_239 : gj_CkV RX1 239 m_X2_copyFrom 1 := ⟨⟨Or.inl (gj_w_in 465 (by decide +kernel) (by decide +kernel)), gl_c_X2_copyFrom, gl_i_X2, ⟨by decide +kernel, by decide +kernel⟩, by decide +kernel, by decide⟩, gj_w_in 446 (by decide +kernel) (by decide +kernel), gj_w_in 447 (by decide +kernel) (by decide +kernel)⟩
theorem k_X2_1 : gj_Oi RX2 1 := ⟨gj_w_in 118 (by decide +kernel) (by decide +kernel), gj_w_in 82 (by decide +kernel) (by decide +kernel), gj_w_in 83 (by decide +kernel) (by decide +kernel)⟩
theorem k_X2_19 : gj_Mx RX2 19 := ⟨gj_w_in 502 (by decide +kernel) (by decide +kernel), gj_w_in 503 (by decide +kernel) (by decide +kernel), gj_w_in 75 (by decide +kernel) (by decide +kernel), gj_w_in 504 (by decide +kernel) (by decide +kernel)⟩
theorem k_X3_3 : gj_Oi RX3 3 := ⟨gj_w_in 320 (by decide +kernel) (by decide +kernel), gj_w_in 82 (by decide +kernel) (by decide +kernel), gj_w_in 83 (by decide +kernel) (by decide +kernel)⟩
theorem k_X3_17 : gj_CkI RX3 17 m_X1_init 0 := ⟨⟨Or.inl (gj_w_in 323 (by decide +kernel) (by decide +kernel)), gl_c_X1_init, gl_i_X1, ⟨by decide +kernel, by decide +kernel⟩, by decide +kernel, by decide⟩, rfl, gj_w_in 87 (by decide +kernel) (by decide +kernel), rfl⟩
theorem k_X3_29 : gj_Mn RX3 29 := ⟨gj_w_in 466 (by decide +kernel) (by decide +kernel), gj_w_in 467 (by decide +kernel) (by decide +kernel), gj_w_in 75 (by decide +kernel) (by decide +kernel), gj_w_in 468 (by decide +kernel) (by decide +kernel)⟩
theorem k_X3_22 : gj_CkV RX3 22 m_X1_copyFrom 1 := ⟨⟨Or.inl (gj_w_in 437 (by decide +kernel) (by decide +kernel)), gl_c_X1_copyFrom, gl_i_X1, ⟨by decide +kernel, by decide +kernel⟩, by decide +kernel, by decide⟩, gj_w_in 438 (by decide +kernel) (by decide +kernel), gj_w_in 439 (by decide +kernel) (by decide +kernel)⟩
theorem k_X4_3 : gj_Oi RX4 3 := ⟨gj_w_in 362 (by decide +kernel) (by decide +kernel), gj_w_in 82 (by decide +kernel) (by decide +kernel), gj_w_in 83 (by decide +kernel) (by decide +kernel)⟩
theorem k_X4_17 : gj_CkI RX4 17 m_X5_init 0 := ⟨⟨Or.inr ⟨"GatedWorks", gj_nw_in 365 (by decide +kernel) (by decide +kernel)⟩, gl_c_X5_init, gl_i_X5, ⟨by decide +kernel, by decide +kernel⟩, by decide +kernel, by decide⟩, rfl, gj_w_in 99 (by decide +kernel) (by decide +kernel), rfl⟩
theorem k_X4_30 : gj_CkV RX4 30 m_X5_copyFrom 1 := ⟨⟨Or.inl (gj_w_in 628 (by decide +kernel) (by decide +kernel)), gl_c_X5_copyFrom, gl_i_X5, ⟨by decide +kernel, by decide +kernel⟩, by decide +kernel, by decide⟩, gj_w_in 450 (by decide +kernel) (by decide +kernel), gj_w_in 451 (by decide +kernel) (by decide +kernel)⟩
theorem k_X5_3 : gj_Oi RX5 3 := ⟨gj_w_in 101 (by decide +kernel) (by decide +kernel), gj_w_in 82 (by decide +kernel) (by decide +kernel), gj_w_in 83 (by decide +kernel) (by decide +kernel)⟩
theorem k_X5_19 : gj_Ac RX5 19 := ⟨gj_w_in 453 (by decide +kernel) (by decide +kernel), gj_w_in 455 (by decide +kernel) (by decide +kernel), gj_w_in 454 (by decide +kernel) (by decide +kernel), gj_w_in 74 (by decide +kernel) (by decide +kernel)⟩
theorem k_X6_3 : gj_Oi RX6 3 := ⟨gj_w_in 355 (by decide +kernel) (by decide +kernel), gj_w_in 82 (by decide +kernel) (by decide +kernel), gj_w_in 83 (by decide +kernel) (by decide +kernel)⟩
theorem k_X6_29 : gj_CkI RX6 29 m_X4_init 0 := ⟨⟨Or.inl (gj_w_in 359 (by decide +kernel) (by decide +kernel)), gl_c_X4_init, gl_i_X4, ⟨by decide +kernel, by decide +kernel⟩, by decide +kernel, by decide⟩, rfl, gj_w_in 360 (by decide +kernel) (by decide +kernel), rfl⟩
theorem k_X6_43 : gj_CkV RX6 43 m_X6_enterLevel 0 := ⟨⟨Or.inl (gj_w_in 812 (by decide +kernel) (by decide +kernel)), gl_c_X6_enterLevel, gl_i_X6, ⟨by decide +kernel, by decide +kernel⟩, by decide +kernel, by decide⟩, gj_w_in 814 (by decide +kernel) (by decide +kernel), gj_w_in 11 (by decide +kernel) (by decide +kernel)⟩
theorem k_X6_51 : gj_CkV RX6 51 m_X6_nextByte 0 := ⟨⟨Or.inl (gj_w_in 818 (by decide +kernel) (by decide +kernel)), gl_c_X6_nextByte, gl_i_X6, ⟨by decide +kernel, by decide +kernel⟩, by decide +kernel, by decide⟩, gj_w_in 820 (by decide +kernel) (by decide +kernel), gj_w_in 12 (by decide +kernel) (by decide +kernel)⟩
theorem k_X6_55 : gj_CkV RX6 55 m_X6_leaveLevel 0 := ⟨⟨Or.inl (gj_w_in 823 (by decide +kernel) (by decide +kernel)), gl_c_X6_leaveLevel, gl_i_X6, ⟨by decide +kernel, by decide +kernel⟩, by decide +kernel, by decide⟩, gj_w_in 825 (by decide +kernel) (by decide +kernel), gj_w_in 13 (by decide +kernel) (by decide +kernel)⟩
theorem k_X6_58 : gj_CkV RX6 58 m_X6_orderDone 1 := ⟨⟨Or.inl (gj_w_in 828 (by decide +kernel) (by decide +kernel)), gl_c_X6_orderDone, gl_i_X6, ⟨by decide +kernel, by decide +kernel⟩, by decide +kernel, by decide⟩, gj_w_in 830 (by decide +kernel) (by decide +kernel), gj_w_in 14 (by decide +kernel) (by decide +kernel)⟩
theorem k_X6_62 : gj_CkV RX6 62 m_X6_undoLevel 0 := ⟨⟨Or.inl (gj_w_in 840 (by decide +kernel) (by decide +kernel)), gl_c_X6_undoLevel, gl_i_X6, ⟨by decide +kernel, by decide +kernel⟩, by decide +kernel, by decide⟩, gj_w_in 842 (by decide +kernel) (by decide +kernel), gj_w_in 16 (by decide +kernel) (by decide +kernel)⟩
theorem k_X6_65 : gj_CkV RX6 65 m_X6_skipGroup 0 := ⟨⟨Or.inl (gj_w_in 846 (by decide +kernel) (by decide +kernel)), gl_c_X6_skipGroup, gl_i_X6, ⟨by decide +kernel, by decide +kernel⟩, by decide +kernel, by decide⟩, gj_w_in 848 (by decide +kernel) (by decide +kernel), gj_w_in 17 (by decide +kernel) (by decide +kernel)⟩
theorem k_X6_74 : gj_CkV RX6 74 m_X2_enter 0 := ⟨⟨Or.inl (gj_w_in 816 (by decide +kernel) (by decide +kernel)), gl_c_X2_enter, gl_i_X2, ⟨by decide +kernel, by decide +kernel⟩, by decide +kernel, by decide⟩, gj_w_in 499 (by decide +kernel) (by decide +kernel), gj_w_in 500 (by decide +kernel) (by decide +kernel)⟩
theorem k_X6_79 : gj_CkV RX6 79 m_X4_keep 1 := ⟨⟨Or.inl (gj_w_in 817 (by decide +kernel) (by decide +kernel)), gl_c_X4_keep, gl_i_X4, ⟨by decide +kernel, by decide +kernel⟩, by decide +kernel, by decide⟩, gj_w_in 625 (by decide +kernel) (by decide +kernel), gj_w_in 626 (by decide +kernel) (by decide +kernel)⟩
theorem k_X6_83 : gj_CkV RX6 83 m_X2_leave 0 := ⟨⟨Or.inl (gj_w_in 827 (by decide +kernel) (by decide +kernel)), gl_c_X2_leave, gl_i_X2, ⟨by decide +kernel, by decide +kernel⟩, by decide +kernel, by decide⟩, gj_w_in 519 (by decide +kernel) (by decide +kernel), gj_w_in 520 (by decide +kernel) (by decide +kernel)⟩
theorem k_X6_86 : gj_CkV RX6 86 m_X2_leaveThrown 0 := ⟨⟨Or.inl (gj_w_in 844 (by decide +kernel) (by decide +kernel)), gl_c_X2_leaveThrown, gl_i_X2, ⟨by decide +kernel, by decide +kernel⟩, by decide +kernel, by decide⟩, gj_w_in 510 (by decide +kernel) (by decide +kernel), gj_w_in 511 (by decide +kernel) (by decide +kernel)⟩
theorem k_X6_89 : gj_CkV RX6 89 m_X4_giveBack 1 := ⟨⟨Or.inl (gj_w_in 845 (by decide +kernel) (by decide +kernel)), gl_c_X4_giveBack, gl_i_X4, ⟨by decide +kernel, by decide +kernel⟩, by decide +kernel, by decide⟩, gj_w_in 641 (by decide +kernel) (by decide +kernel), gj_w_in 642 (by decide +kernel) (by decide +kernel)⟩
theorem k_X6_92 : gj_CkV RX6 92 m_X6_nextFigure 0 := ⟨⟨Or.inl (gj_w_in 832 (by decide +kernel) (by decide +kernel)), gl_c_X6_nextFigure, gl_i_X6, ⟨by decide +kernel, by decide +kernel⟩, by decide +kernel, by decide⟩, gj_w_in 834 (by decide +kernel) (by decide +kernel), gj_w_in 15 (by decide +kernel) (by decide +kernel)⟩
theorem k_X6_95 : gj_CkV RX6 95 m_X1_hasBuffer 1 := ⟨⟨Or.inl (gj_w_in 836 (by decide +kernel) (by decide +kernel)), gl_c_X1_hasBuffer, gl_i_X1, ⟨by decide +kernel, by decide +kernel⟩, by decide +kernel, by decide⟩, gj_w_in 475 (by decide +kernel) (by decide +kernel), gj_w_in 476 (by decide +kernel) (by decide +kernel)⟩
theorem k_X6_102 : gj_CkV RX6 102 m_X0_take 1 := ⟨⟨Or.inl (gj_w_in 837 (by decide +kernel) (by decide +kernel)), gl_c_X0_take, gl_i_X0, ⟨by decide +kernel, by decide +kernel⟩, by decide +kernel, by decide⟩, gj_w_in 523 (by decide +kernel) (by decide +kernel), gj_w_in 524 (by decide +kernel) (by decide +kernel)⟩
theorem k_X6_108 : gj_CkV RX6 108 m_X0_put 2 := ⟨⟨Or.inl (gj_w_in 838 (by decide +kernel) (by decide +kernel)), gl_c_X0_put, gl_i_X0, ⟨by decide +kernel, by decide +kernel⟩, by decide +kernel, by decide⟩, gj_w_in 495 (by decide +kernel) (by decide +kernel), gj_w_in 496 (by decide +kernel) (by decide +kernel)⟩
theorem k_X6_112 : gj_CkV RX6 112 m_X1_move 3 := ⟨⟨Or.inl (gj_w_in 839 (by decide +kernel) (by decide +kernel)), gl_c_X1_move, gl_i_X1, ⟨by decide +kernel, by decide +kernel⟩, by decide +kernel, by decide⟩, gj_w_in 630 (by decide +kernel) (by decide +kernel), gj_w_in 631 (by decide +kernel) (by decide +kernel)⟩
theorem k_X6_116 : gj_CkV RX6 116 m_X8_at 1 := ⟨⟨Or.inl (gj_w_in 822 (by decide +kernel) (by decide +kernel)), gl_c_X8_at, gl_i_X8, ⟨by decide +kernel, by decide +kernel⟩, by decide +kernel, by decide⟩, gj_w_in 801 (by decide +kernel) (by decide +kernel), gj_w_in 802 (by decide +kernel) (by decide +kernel)⟩
theorem k_X7_3 : gj_Oi RX7 3 := ⟨gj_w_in 188 (by decide +kernel) (by decide +kernel), gj_w_in 82 (by decide +kernel) (by decide +kernel), gj_w_in 83 (by decide +kernel) (by decide +kernel)⟩
theorem k_X7_30 : gj_CkV RX7 30 m_X7_becomeIdle 0 := ⟨⟨Or.inl (gj_w_in 549 (by decide +kernel) (by decide +kernel)), gl_c_X7_becomeIdle, gl_i_X7, ⟨by decide +kernel, by decide +kernel⟩, by decide +kernel, by decide⟩, gj_w_in 550 (by decide +kernel) (by decide +kernel), gj_w_in 551 (by decide +kernel) (by decide +kernel)⟩
theorem k_X8_3 : gj_Oi RX8 3 := ⟨gj_w_in 340 (by decide +kernel) (by decide +kernel), gj_w_in 82 (by decide +kernel) (by decide +kernel), gj_w_in 83 (by decide +kernel) (by decide +kernel)⟩
theorem k_X8_27 : gj_CkS RX8 27 m_X10_within 3 := ⟨⟨Or.inr ⟨"GatedWorks", gj_nw_in 804 (by decide +kernel) (by decide +kernel)⟩, gl_c_X10_within, gl_i_X10, ⟨by decide +kernel, by decide +kernel⟩, by decide +kernel, by decide⟩, gj_w_in 427 (by decide +kernel) (by decide +kernel)⟩
theorem k_X8_31 : gj_CkS RX8 31 m_X8_figuresOf 1 := ⟨⟨Or.inl (gj_w_in 805 (by decide +kernel) (by decide +kernel)), gl_c_X8_figuresOf, gl_i_X8, ⟨by decide +kernel, by decide +kernel⟩, by decide +kernel, by decide⟩, gj_w_in 806 (by decide +kernel) (by decide +kernel)⟩
theorem k_X8_19 : gj_CkV RX8 19 m_X8_isFull 0 := ⟨⟨Or.inl (gj_w_in 787 (by decide +kernel) (by decide +kernel)), gl_c_X8_isFull, gl_i_X8, ⟨by decide +kernel, by decide +kernel⟩, by decide +kernel, by decide⟩, gj_w_in 780 (by decide +kernel) (by decide +kernel), gj_w_in 781 (by decide +kernel) (by decide +kernel)⟩
theorem k_X8_23 : gj_CkV RX8 23 m_X8_at 1 := ⟨⟨Or.inl (gj_w_in 800 (by decide +kernel) (by decide +kernel)), gl_c_X8_at, gl_i_X8, ⟨by decide +kernel, by decide +kernel⟩, by decide +kernel, by decide⟩, gj_w_in 801 (by decide +kernel) (by decide +kernel), gj_w_in 802 (by decide +kernel) (by decide +kernel)⟩
theorem k_X9_3 : gj_Oi RX9 3 := ⟨gj_w_in 239 (by decide +kernel) (by decide +kernel), gj_w_in 82 (by decide +kernel) (by decide +kernel), gj_w_in 83 (by decide +kernel) (by decide +kernel)⟩
theorem k_X9_21 : gj_CkV RX9 21 m_X9_waits 0 := ⟨⟨Or.inl (gj_w_in 754 (by decide +kernel) (by decide +kernel)), gl_c_X9_waits, gl_i_X9, ⟨by decide +kernel, by decide +kernel⟩, by decide +kernel, by decide⟩, gj_w_in 652 (by decide +kernel) (by decide +kernel), gj_w_in 653 (by decide +kernel) (by decide +kernel)⟩
theorem k_X9_28 : gj_CkV RX9 28 m_X9_wishNoMore 0 := ⟨⟨Or.inl (gj_w_in 273 (by decide +kernel) (by decide +kernel)), gl_c_X9_wishNoMore, gl_i_X9, ⟨by decide +kernel, by decide +kernel⟩, by decide +kernel, by decide⟩, gj_w_in 274 (by decide +kernel) (by decide +kernel), gj_w_in 275 (by decide +kernel) (by decide +kernel)⟩
theorem k_L_9 : gj_CkI RL 9 m_X10_init 0 := ⟨⟨Or.inl (gj_w_in 78 (by decide +kernel) (by decide +kernel)), gl_c_X10_init, gl_i_X10, ⟨by decide +kernel, by decide +kernel⟩, by decide +kernel, by decide⟩, rfl, gj_w_in 79 (by decide +kernel) (by decide +kernel), rfl⟩
theorem k_L_12 : gj_CkI RL 12 m_X11_init 0 := ⟨⟨Or.inl (gj_w_in 889 (by decide +kernel) (by decide +kernel)), gl_c_X11_init, gl_i_X11, ⟨by decide +kernel, by decide +kernel⟩, by decide +kernel, by decide⟩, rfl, gj_w_in 890 (by decide +kernel) (by decide +kernel), rfl⟩
theorem k_L_13 : gj_CkV RL 13 m_X10_begins 1 := ⟨⟨Or.inl (gj_w_in 422 (by decide +kernel) (by decide +kernel)), gl_c_X10_begins, gl_i_X10, ⟨by decide +kernel, by decide +kernel⟩, by decide +kernel, by decide⟩, gj_w_in 423 (by decide +kernel) (by decide +kernel), gj_w_in 424 (by decide +kernel) (by decide +kernel)⟩
theorem k_L_17 : gj_CkV RL 17 m_X11_begins 1 := ⟨⟨Or.inl (gj_w_in 963 (by decide +kernel) (by decide +kernel)), gl_c_X11_begins, gl_i_X11, ⟨by decide +kernel, by decide +kernel⟩, by decide +kernel, by decide⟩, gj_w_in 964 (by decide +kernel) (by decide +kernel), gj_w_in 965 (by decide +kernel) (by decide +kernel)⟩
theorem k_L_18 : gj_CkV RL 18 m_X10_rooms 2 := ⟨⟨Or.inl (gj_w_in 470 (by decide +kernel) (by decide +kernel)), gl_c_X10_rooms, gl_i_X10, ⟨by decide +kernel, by decide +kernel⟩, by decide +kernel, by decide⟩, gj_w_in 471 (by decide +kernel) (by decide +kernel), gj_w_in 472 (by decide +kernel) (by decide +kernel)⟩
theorem k_L_22 : gj_CkV RL 22 m_X11_rooms 2 := ⟨⟨Or.inl (gj_w_in 978 (by decide +kernel) (by decide +kernel)), gl_c_X11_rooms, gl_i_X11, ⟨by decide +kernel, by decide +kernel⟩, by decide +kernel, by decide⟩, gj_w_in 979 (by decide +kernel) (by decide +kernel), gj_w_in 980 (by decide +kernel) (by decide +kernel)⟩
theorem k_L_23 : gj_CkV RL 23 m_X10_station 5 := ⟨⟨Or.inl (gj_w_in 532 (by decide +kernel) (by decide +kernel)), gl_c_X10_station, gl_i_X10, ⟨by decide +kernel, by decide +kernel⟩, by decide +kernel, by decide⟩, gj_w_in 533 (by decide +kernel) (by decide +kernel), gj_w_in 534 (by decide +kernel) (by decide +kernel)⟩
theorem k_L_27 : gj_CkV RL 27 m_X11_station 5 := ⟨⟨Or.inl (gj_w_in 1029 (by decide +kernel) (by decide +kernel)), gl_c_X11_station, gl_i_X11, ⟨by decide +kernel, by decide +kernel⟩, by decide +kernel, by decide⟩, gj_w_in 1030 (by decide +kernel) (by decide +kernel), gj_w_in 1031 (by decide +kernel) (by decide +kernel)⟩
theorem k_L_28 : gj_CkV RL 28 m_X10_guards 2 := ⟨⟨Or.inl (gj_w_in 553 (by decide +kernel) (by decide +kernel)), gl_c_X10_guards, gl_i_X10, ⟨by decide +kernel, by decide +kernel⟩, by decide +kernel, by decide⟩, gj_w_in 554 (by decide +kernel) (by decide +kernel), gj_w_in 555 (by decide +kernel) (by decide +kernel)⟩
theorem k_L_31 : gj_CkV RL 31 m_X11_guards 2 := ⟨⟨Or.inl (gj_w_in 1040 (by decide +kernel) (by decide +kernel)), gl_c_X11_guards, gl_i_X11, ⟨by decide +kernel, by decide +kernel⟩, by decide +kernel, by decide⟩, gj_w_in 1041 (by decide +kernel) (by decide +kernel), gj_w_in 1042 (by decide +kernel) (by decide +kernel)⟩
theorem k_L_32 : gj_CkV RL 32 m_X10_ticks 1 := ⟨⟨Or.inl (gj_w_in 561 (by decide +kernel) (by decide +kernel)), gl_c_X10_ticks, gl_i_X10, ⟨by decide +kernel, by decide +kernel⟩, by decide +kernel, by decide⟩, gj_w_in 562 (by decide +kernel) (by decide +kernel), gj_w_in 563 (by decide +kernel) (by decide +kernel)⟩
theorem k_L_35 : gj_CkV RL 35 m_X11_ticks 1 := ⟨⟨Or.inl (gj_w_in 1048 (by decide +kernel) (by decide +kernel)), gl_c_X11_ticks, gl_i_X11, ⟨by decide +kernel, by decide +kernel⟩, by decide +kernel, by decide⟩, gj_w_in 1049 (by decide +kernel) (by decide +kernel), gj_w_in 1050 (by decide +kernel) (by decide +kernel)⟩
theorem k_L_36 : gj_CkV RL 36 m_X10_puts 2 := ⟨⟨Or.inl (gj_w_in 610 (by decide +kernel) (by decide +kernel)), gl_c_X10_puts, gl_i_X10, ⟨by decide +kernel, by decide +kernel⟩, by decide +kernel, by decide⟩, gj_w_in 611 (by decide +kernel) (by decide +kernel), gj_w_in 612 (by decide +kernel) (by decide +kernel)⟩
theorem k_L_39 : gj_CkV RL 39 m_X11_puts 2 := ⟨⟨Or.inl (gj_w_in 1082 (by decide +kernel) (by decide +kernel)), gl_c_X11_puts, gl_i_X11, ⟨by decide +kernel, by decide +kernel⟩, by decide +kernel, by decide⟩, gj_w_in 1083 (by decide +kernel) (by decide +kernel), gj_w_in 1084 (by decide +kernel) (by decide +kernel)⟩
theorem k_L_40 : gj_CkV RL 40 m_X10_takes 1 := ⟨⟨Or.inl (gj_w_in 615 (by decide +kernel) (by decide +kernel)), gl_c_X10_takes, gl_i_X10, ⟨by decide +kernel, by decide +kernel⟩, by decide +kernel, by decide⟩, gj_w_in 616 (by decide +kernel) (by decide +kernel), gj_w_in 617 (by decide +kernel) (by decide +kernel)⟩
theorem k_L_43 : gj_CkV RL 43 m_X11_takes 1 := ⟨⟨Or.inl (gj_w_in 1086 (by decide +kernel) (by decide +kernel)), gl_c_X11_takes, gl_i_X11, ⟨by decide +kernel, by decide +kernel⟩, by decide +kernel, by decide⟩, gj_w_in 1087 (by decide +kernel) (by decide +kernel), gj_w_in 1088 (by decide +kernel) (by decide +kernel)⟩
theorem k_L_44 : gj_CkV RL 44 m_X10_moves 4 := ⟨⟨Or.inl (gj_w_in 620 (by decide +kernel) (by decide +kernel)), gl_c_X10_moves, gl_i_X10, ⟨by decide +kernel, by decide +kernel⟩, by decide +kernel, by decide⟩, gj_w_in 621 (by decide +kernel) (by decide +kernel), gj_w_in 622 (by decide +kernel) (by decide +kernel)⟩
theorem k_L_48 : gj_CkV RL 48 m_X11_moves 4 := ⟨⟨Or.inl (gj_w_in 1090 (by decide +kernel) (by decide +kernel)), gl_c_X11_moves, gl_i_X11, ⟨by decide +kernel, by decide +kernel⟩, by decide +kernel, by decide⟩, gj_w_in 1091 (by decide +kernel) (by decide +kernel), gj_w_in 1092 (by decide +kernel) (by decide +kernel)⟩
theorem k_L_49 : gj_CkV RL 49 m_X10_asks 4 := ⟨⟨Or.inl (gj_w_in 644 (by decide +kernel) (by decide +kernel)), gl_c_X10_asks, gl_i_X10, ⟨by decide +kernel, by decide +kernel⟩, by decide +kernel, by decide⟩, gj_w_in 645 (by decide +kernel) (by decide +kernel), gj_w_in 646 (by decide +kernel) (by decide +kernel)⟩
theorem k_L_52 : gj_CkV RL 52 m_X11_asks 4 := ⟨⟨Or.inl (gj_w_in 1110 (by decide +kernel) (by decide +kernel)), gl_c_X11_asks, gl_i_X11, ⟨by decide +kernel, by decide +kernel⟩, by decide +kernel, by decide⟩, gj_w_in 1111 (by decide +kernel) (by decide +kernel), gj_w_in 1112 (by decide +kernel) (by decide +kernel)⟩
theorem k_L_53 : gj_CkV RL 53 m_X10_cancels 1 := ⟨⟨Or.inl (gj_w_in 665 (by decide +kernel) (by decide +kernel)), gl_c_X10_cancels, gl_i_X10, ⟨by decide +kernel, by decide +kernel⟩, by decide +kernel, by decide⟩, gj_w_in 666 (by decide +kernel) (by decide +kernel), gj_w_in 667 (by decide +kernel) (by decide +kernel)⟩
theorem k_L_56 : gj_CkV RL 56 m_X11_cancels 1 := ⟨⟨Or.inl (gj_w_in 1117 (by decide +kernel) (by decide +kernel)), gl_c_X11_cancels, gl_i_X11, ⟨by decide +kernel, by decide +kernel⟩, by decide +kernel, by decide⟩, gj_w_in 1118 (by decide +kernel) (by decide +kernel), gj_w_in 1119 (by decide +kernel) (by decide +kernel)⟩
theorem k_L_57 : gj_CkV RL 57 m_X10_keeps 2 := ⟨⟨Or.inl (gj_w_in 675 (by decide +kernel) (by decide +kernel)), gl_c_X10_keeps, gl_i_X10, ⟨by decide +kernel, by decide +kernel⟩, by decide +kernel, by decide⟩, gj_w_in 676 (by decide +kernel) (by decide +kernel), gj_w_in 677 (by decide +kernel) (by decide +kernel)⟩
theorem k_L_60 : gj_CkV RL 60 m_X11_keeps 2 := ⟨⟨Or.inl (gj_w_in 1121 (by decide +kernel) (by decide +kernel)), gl_c_X11_keeps, gl_i_X11, ⟨by decide +kernel, by decide +kernel⟩, by decide +kernel, by decide⟩, gj_w_in 1122 (by decide +kernel) (by decide +kernel), gj_w_in 1123 (by decide +kernel) (by decide +kernel)⟩
theorem k_L_61 : gj_CkV RL 61 m_X10_lets 2 := ⟨⟨Or.inl (gj_w_in 688 (by decide +kernel) (by decide +kernel)), gl_c_X10_lets, gl_i_X10, ⟨by decide +kernel, by decide +kernel⟩, by decide +kernel, by decide⟩, gj_w_in 689 (by decide +kernel) (by decide +kernel), gj_w_in 690 (by decide +kernel) (by decide +kernel)⟩
theorem k_L_64 : gj_CkV RL 64 m_X11_lets 2 := ⟨⟨Or.inl (gj_w_in 1129 (by decide +kernel) (by decide +kernel)), gl_c_X11_lets, gl_i_X11, ⟨by decide +kernel, by decide +kernel⟩, by decide +kernel, by decide⟩, gj_w_in 1130 (by decide +kernel) (by decide +kernel), gj_w_in 1131 (by decide +kernel) (by decide +kernel)⟩
theorem k_L_65 : gj_CkV RL 65 m_X10_quits 1 := ⟨⟨Or.inl (gj_w_in 696 (by decide +kernel) (by decide +kernel)), gl_c_X10_quits, gl_i_X10, ⟨by decide +kernel, by decide +kernel⟩, by decide +kernel, by decide⟩, gj_w_in 697 (by decide +kernel) (by decide +kernel), gj_w_in 698 (by decide +kernel) (by decide +kernel)⟩
theorem k_L_68 : gj_CkV RL 68 m_X11_quits 1 := ⟨⟨Or.inl (gj_w_in 1137 (by decide +kernel) (by decide +kernel)), gl_c_X11_quits, gl_i_X11, ⟨by decide +kernel, by decide +kernel⟩, by decide +kernel, by decide⟩, gj_w_in 1138 (by decide +kernel) (by decide +kernel), gj_w_in 1139 (by decide +kernel) (by decide +kernel)⟩
theorem k_L_69 : gj_CkV RL 69 m_X10_keeper 2 := ⟨⟨Or.inl (gj_w_in 700 (by decide +kernel) (by decide +kernel)), gl_c_X10_keeper, gl_i_X10, ⟨by decide +kernel, by decide +kernel⟩, by decide +kernel, by decide⟩, gj_w_in 701 (by decide +kernel) (by decide +kernel), gj_w_in 702 (by decide +kernel) (by decide +kernel)⟩
theorem k_L_72 : gj_CkV RL 72 m_X11_keeper 2 := ⟨⟨Or.inl (gj_w_in 1141 (by decide +kernel) (by decide +kernel)), gl_c_X11_keeper, gl_i_X11, ⟨by decide +kernel, by decide +kernel⟩, by decide +kernel, by decide⟩, gj_w_in 1142 (by decide +kernel) (by decide +kernel), gj_w_in 1143 (by decide +kernel) (by decide +kernel)⟩
theorem k_L_73 : gj_CkV RL 73 m_X10_queue 2 := ⟨⟨Or.inl (gj_w_in 708 (by decide +kernel) (by decide +kernel)), gl_c_X10_queue, gl_i_X10, ⟨by decide +kernel, by decide +kernel⟩, by decide +kernel, by decide⟩, gj_w_in 709 (by decide +kernel) (by decide +kernel), gj_w_in 710 (by decide +kernel) (by decide +kernel)⟩
theorem k_L_76 : gj_CkV RL 76 m_X11_queue 2 := ⟨⟨Or.inl (gj_w_in 1145 (by decide +kernel) (by decide +kernel)), gl_c_X11_queue, gl_i_X11, ⟨by decide +kernel, by decide +kernel⟩, by decide +kernel, by decide⟩, gj_w_in 1146 (by decide +kernel) (by decide +kernel), gj_w_in 1147 (by decide +kernel) (by decide +kernel)⟩
theorem k_L_77 : gj_CkV RL 77 m_X10_stuck 0 := ⟨⟨Or.inl (gj_w_in 713 (by decide +kernel) (by decide +kernel)), gl_c_X10_stuck, gl_i_X10, ⟨by decide +kernel, by decide +kernel⟩, by decide +kernel, by decide⟩, gj_w_in 714 (by decide +kernel) (by decide +kernel), gj_w_in 715 (by decide +kernel) (by decide +kernel)⟩
theorem k_L_81 : gj_CkV RL 81 m_X11_stuck 0 := ⟨⟨Or.inl (gj_w_in 1149 (by decide +kernel) (by decide +kernel)), gl_c_X11_stuck, gl_i_X11, ⟨by decide +kernel, by decide +kernel⟩, by decide +kernel, by decide⟩, gj_w_in 1150 (by decide +kernel) (by decide +kernel), gj_w_in 1151 (by decide +kernel) (by decide +kernel)⟩
theorem k_L_82 : gj_CkV RL 82 m_X10_buffer 2 := ⟨⟨Or.inl (gj_w_in 726 (by decide +kernel) (by decide +kernel)), gl_c_X10_buffer, gl_i_X10, ⟨by decide +kernel, by decide +kernel⟩, by decide +kernel, by decide⟩, gj_w_in 727 (by decide +kernel) (by decide +kernel), gj_w_in 728 (by decide +kernel) (by decide +kernel)⟩
theorem k_L_85 : gj_CkV RL 85 m_X11_buffer 2 := ⟨⟨Or.inl (gj_w_in 1157 (by decide +kernel) (by decide +kernel)), gl_c_X11_buffer, gl_i_X11, ⟨by decide +kernel, by decide +kernel⟩, by decide +kernel, by decide⟩, gj_w_in 1158 (by decide +kernel) (by decide +kernel), gj_w_in 1159 (by decide +kernel) (by decide +kernel)⟩
theorem k_L_86 : gj_CkV RL 86 m_X10_item 2 := ⟨⟨Or.inl (gj_w_in 734 (by decide +kernel) (by decide +kernel)), gl_c_X10_item, gl_i_X10, ⟨by decide +kernel, by decide +kernel⟩, by decide +kernel, by decide⟩, gj_w_in 735 (by decide +kernel) (by decide +kernel), gj_w_in 736 (by decide +kernel) (by decide +kernel)⟩
theorem k_L_89 : gj_CkV RL 89 m_X11_item 2 := ⟨⟨Or.inl (gj_w_in 1165 (by decide +kernel) (by decide +kernel)), gl_c_X11_item, gl_i_X11, ⟨by decide +kernel, by decide +kernel⟩, by decide +kernel, by decide⟩, gj_w_in 1166 (by decide +kernel) (by decide +kernel), gj_w_in 1167 (by decide +kernel) (by decide +kernel)⟩
theorem k_L_90 : gj_CkV RL 90 m_X10_of 2 := ⟨⟨Or.inl (gj_w_in 738 (by decide +kernel) (by decide +kernel)), gl_c_X10_of, gl_i_X10, ⟨by decide +kernel, by decide +kernel⟩, by decide +kernel, by decide⟩, gj_w_in 739 (by decide +kernel) (by decide +kernel), gj_w_in 740 (by decide +kernel) (by decide +kernel)⟩
theorem k_L_93 : gj_CkV RL 93 m_X11_of 2 := ⟨⟨Or.inl (gj_w_in 1169 (by decide +kernel) (by decide +kernel)), gl_c_X11_of, gl_i_X11, ⟨by decide +kernel, by decide +kernel⟩, by decide +kernel, by decide⟩, gj_w_in 1170 (by decide +kernel) (by decide +kernel), gj_w_in 1171 (by decide +kernel) (by decide +kernel)⟩
theorem k_L_94 : gj_CkV RL 94 m_X10_worker 2 := ⟨⟨Or.inl (gj_w_in 746 (by decide +kernel) (by decide +kernel)), gl_c_X10_worker, gl_i_X10, ⟨by decide +kernel, by decide +kernel⟩, by decide +kernel, by decide⟩, gj_w_in 747 (by decide +kernel) (by decide +kernel), gj_w_in 748 (by decide +kernel) (by decide +kernel)⟩
theorem k_L_97 : gj_CkV RL 97 m_X11_worker 2 := ⟨⟨Or.inl (gj_w_in 1177 (by decide +kernel) (by decide +kernel)), gl_c_X11_worker, gl_i_X11, ⟨by decide +kernel, by decide +kernel⟩, by decide +kernel, by decide⟩, gj_w_in 1178 (by decide +kernel) (by decide +kernel), gj_w_in 1179 (by decide +kernel) (by decide +kernel)⟩
theorem k_L_98 : gj_CkV RL 98 m_X10_line 1 := ⟨⟨Or.inl (gj_w_in 755 (by decide +kernel) (by decide +kernel)), gl_c_X10_line, gl_i_X10, ⟨by decide +kernel, by decide +kernel⟩, by decide +kernel, by decide⟩, gj_w_in 756 (by decide +kernel) (by decide +kernel), gj_w_in 757 (by decide +kernel) (by decide +kernel)⟩
theorem k_L_101 : gj_CkV RL 101 m_X11_line 1 := ⟨⟨Or.inl (gj_w_in 1181 (by decide +kernel) (by decide +kernel)), gl_c_X11_line, gl_i_X11, ⟨by decide +kernel, by decide +kernel⟩, by decide +kernel, by decide⟩, gj_w_in 1182 (by decide +kernel) (by decide +kernel), gj_w_in 1183 (by decide +kernel) (by decide +kernel)⟩
theorem k_L_102 : gj_CkV RL 102 m_X10_works 1 := ⟨⟨Or.inl (gj_w_in 759 (by decide +kernel) (by decide +kernel)), gl_c_X10_works, gl_i_X10, ⟨by decide +kernel, by decide +kernel⟩, by decide +kernel, by decide⟩, gj_w_in 760 (by decide +kernel) (by decide +kernel), gj_w_in 761 (by decide +kernel) (by decide +kernel)⟩
theorem k_L_105 : gj_CkV RL 105 m_X11_works 1 := ⟨⟨Or.inl (gj_w_in 1185 (by decide +kernel) (by decide +kernel)), gl_c_X11_works, gl_i_X11, ⟨by decide +kernel, by decide +kernel⟩, by decide +kernel, by decide⟩, gj_w_in 1186 (by decide +kernel) (by decide +kernel), gj_w_in 1187 (by decide +kernel) (by decide +kernel)⟩
theorem k_L_106 : gj_CkV RL 106 m_X10_type 1 := ⟨⟨Or.inl (gj_w_in 775 (by decide +kernel) (by decide +kernel)), gl_c_X10_type, gl_i_X10, ⟨by decide +kernel, by decide +kernel⟩, by decide +kernel, by decide⟩, gj_w_in 776 (by decide +kernel) (by decide +kernel), gj_w_in 777 (by decide +kernel) (by decide +kernel)⟩
theorem k_L_109 : gj_CkV RL 109 m_X11_type 1 := ⟨⟨Or.inl (gj_w_in 1201 (by decide +kernel) (by decide +kernel)), gl_c_X11_type, gl_i_X11, ⟨by decide +kernel, by decide +kernel⟩, by decide +kernel, by decide⟩, gj_w_in 1202 (by decide +kernel) (by decide +kernel), gj_w_in 1203 (by decide +kernel) (by decide +kernel)⟩
theorem k_L_110 : gj_CkV RL 110 m_X10_clear 0 := ⟨⟨Or.inl (gj_w_in 788 (by decide +kernel) (by decide +kernel)), gl_c_X10_clear, gl_i_X10, ⟨by decide +kernel, by decide +kernel⟩, by decide +kernel, by decide⟩, gj_w_in 789 (by decide +kernel) (by decide +kernel), gj_w_in 790 (by decide +kernel) (by decide +kernel)⟩
theorem k_L_113 : gj_CkV RL 113 m_X11_clear 0 := ⟨⟨Or.inl (gj_w_in 1205 (by decide +kernel) (by decide +kernel)), gl_c_X11_clear, gl_i_X11, ⟨by decide +kernel, by decide +kernel⟩, by decide +kernel, by decide⟩, gj_w_in 1206 (by decide +kernel) (by decide +kernel), gj_w_in 1207 (by decide +kernel) (by decide +kernel)⟩
theorem k_L_114 : gj_CkV RL 114 m_X10_does 0 := ⟨⟨Or.inl (gj_w_in 792 (by decide +kernel) (by decide +kernel)), gl_c_X10_does, gl_i_X10, ⟨by decide +kernel, by decide +kernel⟩, by decide +kernel, by decide⟩, gj_w_in 793 (by decide +kernel) (by decide +kernel), gj_w_in 794 (by decide +kernel) (by decide +kernel)⟩
theorem k_L_117 : gj_CkV RL 117 m_X11_does 0 := ⟨⟨Or.inl (gj_w_in 1209 (by decide +kernel) (by decide +kernel)), gl_c_X11_does, gl_i_X11, ⟨by decide +kernel, by decide +kernel⟩, by decide +kernel, by decide⟩, gj_w_in 1210 (by decide +kernel) (by decide +kernel), gj_w_in 1211 (by decide +kernel) (by decide +kernel)⟩
theorem k_L_118 : gj_CkV RL 118 m_X10_back 0 := ⟨⟨Or.inl (gj_w_in 850 (by decide +kernel) (by decide +kernel)), gl_c_X10_back, gl_i_X10, ⟨by decide +kernel, by decide +kernel⟩, by decide +kernel, by decide⟩, gj_w_in 851 (by decide +kernel) (by decide +kernel), gj_w_in 852 (by decide +kernel) (by decide +kernel)⟩
theorem k_L_121 : gj_CkV RL 121 m_X11_back 0 := ⟨⟨Or.inl (gj_w_in 955 (by decide +kernel) (by decide +kernel)), gl_c_X11_back, gl_i_X11, ⟨by decide +kernel, by decide +kernel⟩, by decide +kernel, by decide⟩, gj_w_in 956 (by decide +kernel) (by decide +kernel), gj_w_in 957 (by decide +kernel) (by decide +kernel)⟩
theorem k_L_122 : gj_CkV RL 122 m_X10_told 1 := ⟨⟨Or.inl (gj_w_in 858 (by decide +kernel) (by decide +kernel)), gl_c_X10_told, gl_i_X10, ⟨by decide +kernel, by decide +kernel⟩, by decide +kernel, by decide⟩, gj_w_in 859 (by decide +kernel) (by decide +kernel), gj_w_in 860 (by decide +kernel) (by decide +kernel)⟩
theorem k_L_125 : gj_CkV RL 125 m_X11_told 1 := ⟨⟨Or.inl (gj_w_in 1237 (by decide +kernel) (by decide +kernel)), gl_c_X11_told, gl_i_X11, ⟨by decide +kernel, by decide +kernel⟩, by decide +kernel, by decide⟩, gj_w_in 1238 (by decide +kernel) (by decide +kernel), gj_w_in 1239 (by decide +kernel) (by decide +kernel)⟩
theorem k_L_126 : gj_CkV RL 126 m_X10_digest 0 := ⟨⟨Or.inl (gj_w_in 866 (by decide +kernel) (by decide +kernel)), gl_c_X10_digest, gl_i_X10, ⟨by decide +kernel, by decide +kernel⟩, by decide +kernel, by decide⟩, gj_w_in 867 (by decide +kernel) (by decide +kernel), gj_w_in 868 (by decide +kernel) (by decide +kernel)⟩
theorem k_L_130 : gj_CkV RL 130 m_X11_digest 0 := ⟨⟨Or.inl (gj_w_in 1245 (by decide +kernel) (by decide +kernel)), gl_c_X11_digest, gl_i_X11, ⟨by decide +kernel, by decide +kernel⟩, by decide +kernel, by decide⟩, gj_w_in 1246 (by decide +kernel) (by decide +kernel), gj_w_in 1247 (by decide +kernel) (by decide +kernel)⟩
theorem k_X11_1 : gj_Oi RX11 1 := ⟨gj_w_in 892 (by decide +kernel) (by decide +kernel), gj_w_in 82 (by decide +kernel) (by decide +kernel), gj_w_in 83 (by decide +kernel) (by decide +kernel)⟩
theorem k_X11_50 : gj_CkS RX11 50 m_X11_in 3 := ⟨⟨Or.inl (gj_w_in 967 (by decide +kernel) (by decide +kernel)), gl_c_X11_in, gl_i_X11, ⟨by decide +kernel, by decide +kernel⟩, by decide +kernel, by decide⟩, gj_w_in 968 (by decide +kernel) (by decide +kernel)⟩
theorem k_X11_54 : gj_CkS RX11 54 m_X11_atBuffer 1 := ⟨⟨Or.inl (gj_w_in 897 (by decide +kernel) (by decide +kernel)), gl_c_X11_atBuffer, gl_i_X11, ⟨by decide +kernel, by decide +kernel⟩, by decide +kernel, by decide⟩, gj_w_in 898 (by decide +kernel) (by decide +kernel)⟩
theorem k_X11_58 : gj_CkS RX11 58 m_X11_workerAt 1 := ⟨⟨Or.inl (gj_w_in 900 (by decide +kernel) (by decide +kernel)), gl_c_X11_workerAt, gl_i_X11, ⟨by decide +kernel, by decide +kernel⟩, by decide +kernel, by decide⟩, gj_w_in 901 (by decide +kernel) (by decide +kernel)⟩
theorem k_X11_69 : gj_CkS RX11 69 m_X11_gate 1 := ⟨⟨Or.inl (gj_w_in 1002 (by decide +kernel) (by decide +kernel)), gl_c_X11_gate, gl_i_X11, ⟨by decide +kernel, by decide +kernel⟩, by decide +kernel, by decide⟩, gj_w_in 1003 (by decide +kernel) (by decide +kernel)⟩
theorem k_X11_88 : gj_CkS RX11 88 m_X11_lesser 2 := ⟨⟨Or.inl (gj_w_in 1076 (by decide +kernel) (by decide +kernel)), gl_c_X11_lesser, gl_i_X11, ⟨by decide +kernel, by decide +kernel⟩, by decide +kernel, by decide⟩, gj_w_in 1077 (by decide +kernel) (by decide +kernel)⟩
theorem k_X11_92 : gj_CkS RX11 92 m_X11_greater 2 := ⟨⟨Or.inl (gj_w_in 1079 (by decide +kernel) (by decide +kernel)), gl_c_X11_greater, gl_i_X11, ⟨by decide +kernel, by decide +kernel⟩, by decide +kernel, by decide⟩, gj_w_in 1080 (by decide +kernel) (by decide +kernel)⟩
theorem k_X11_121 : gj_CkS RX11 121 m_X11_stationAt 1 := ⟨⟨Or.inl (gj_w_in 1037 (by decide +kernel) (by decide +kernel)), gl_c_X11_stationAt, gl_i_X11, ⟨by decide +kernel, by decide +kernel⟩, by decide +kernel, by decide⟩, gj_w_in 1038 (by decide +kernel) (by decide +kernel)⟩
theorem k_X11_162 : gj_CkS RX11 162 m_X11_isWorker 1 := ⟨⟨Or.inl (gj_w_in 1114 (by decide +kernel) (by decide +kernel)), gl_c_X11_isWorker, gl_i_X11, ⟨by decide +kernel, by decide +kernel⟩, by decide +kernel, by decide⟩, gj_w_in 1115 (by decide +kernel) (by decide +kernel)⟩
theorem k_X11_46 : gj_CkV RX11 46 m_X11_lays 1 := ⟨⟨Or.inl (gj_w_in 893 (by decide +kernel) (by decide +kernel)), gl_c_X11_lays, gl_i_X11, ⟨by decide +kernel, by decide +kernel⟩, by decide +kernel, by decide⟩, gj_w_in 895 (by decide +kernel) (by decide +kernel), gj_w_in 19 (by decide +kernel) (by decide +kernel)⟩
theorem k_X11_65 : gj_CkV RX11 65 m_X11_no 0 := ⟨⟨Or.inl (gj_w_in 959 (by decide +kernel) (by decide +kernel)), gl_c_X11_no, gl_i_X11, ⟨by decide +kernel, by decide +kernel⟩, by decide +kernel, by decide⟩, gj_w_in 961 (by decide +kernel) (by decide +kernel), gj_w_in 20 (by decide +kernel) (by decide +kernel)⟩
theorem k_X11_72 : gj_CkV RX11 72 m_X11_enters 1 := ⟨⟨Or.inl (gj_w_in 998 (by decide +kernel) (by decide +kernel)), gl_c_X11_enters, gl_i_X11, ⟨by decide +kernel, by decide +kernel⟩, by decide +kernel, by decide⟩, gj_w_in 1000 (by decide +kernel) (by decide +kernel), gj_w_in 27 (by decide +kernel) (by decide +kernel)⟩
theorem k_X11_75 : gj_CkV RX11 75 m_X11_isKeptFor 2 := ⟨⟨Or.inl (gj_w_in 1005 (by decide +kernel) (by decide +kernel)), gl_c_X11_isKeptFor, gl_i_X11, ⟨by decide +kernel, by decide +kernel⟩, by decide +kernel, by decide⟩, gj_w_in 1007 (by decide +kernel) (by decide +kernel), gj_w_in 28 (by decide +kernel) (by decide +kernel)⟩
theorem k_X11_79 : gj_CkV RX11 79 m_X11_thrownOut 1 := ⟨⟨Or.inl (gj_w_in 1009 (by decide +kernel) (by decide +kernel)), gl_c_X11_thrownOut, gl_i_X11, ⟨by decide +kernel, by decide +kernel⟩, by decide +kernel, by decide⟩, gj_w_in 1011 (by decide +kernel) (by decide +kernel), gj_w_in 29 (by decide +kernel) (by decide +kernel)⟩
theorem k_X11_82 : gj_CkV RX11 82 m_X11_leaves 1 := ⟨⟨Or.inl (gj_w_in 1013 (by decide +kernel) (by decide +kernel)), gl_c_X11_leaves, gl_i_X11, ⟨by decide +kernel, by decide +kernel⟩, by decide +kernel, by decide⟩, gj_w_in 1015 (by decide +kernel) (by decide +kernel), gj_w_in 30 (by decide +kernel) (by decide +kernel)⟩
theorem k_X11_85 : gj_CkV RX11 85 m_X11_firstOf 1 := ⟨⟨Or.inl (gj_w_in 1021 (by decide +kernel) (by decide +kernel)), gl_c_X11_firstOf, gl_i_X11, ⟨by decide +kernel, by decide +kernel⟩, by decide +kernel, by decide⟩, gj_w_in 1023 (by decide +kernel) (by decide +kernel), gj_w_in 32 (by decide +kernel) (by decide +kernel)⟩
theorem k_X11_95 : gj_CkV RX11 95 m_X11_take 2 := ⟨⟨Or.inl (gj_w_in 1017 (by decide +kernel) (by decide +kernel)), gl_c_X11_take, gl_i_X11, ⟨by decide +kernel, by decide +kernel⟩, by decide +kernel, by decide⟩, gj_w_in 1019 (by decide +kernel) (by decide +kernel), gj_w_in 31 (by decide +kernel) (by decide +kernel)⟩
theorem k_X11_98 : gj_CkV RX11 98 m_X11_put 3 := ⟨⟨Or.inl (gj_w_in 994 (by decide +kernel) (by decide +kernel)), gl_c_X11_put, gl_i_X11, ⟨by decide +kernel, by decide +kernel⟩, by decide +kernel, by decide⟩, gj_w_in 996 (by decide +kernel) (by decide +kernel), gj_w_in 26 (by decide +kernel) (by decide +kernel)⟩
theorem k_X11_101 : gj_CkV RX11 101 m_X11_firstAgain 2 := ⟨⟨Or.inl (gj_w_in 1102 (by decide +kernel) (by decide +kernel)), gl_c_X11_firstAgain, gl_i_X11, ⟨by decide +kernel, by decide +kernel⟩, by decide +kernel, by decide⟩, gj_w_in 1104 (by decide +kernel) (by decide +kernel), gj_w_in 44 (by decide +kernel) (by decide +kernel)⟩
theorem k_X11_105 : gj_CkV RX11 105 m_X11_tries 4 := ⟨⟨Or.inl (gj_w_in 990 (by decide +kernel) (by decide +kernel)), gl_c_X11_tries, gl_i_X11, ⟨by decide +kernel, by decide +kernel⟩, by decide +kernel, by decide⟩, gj_w_in 992 (by decide +kernel) (by decide +kernel), gj_w_in 25 (by decide +kernel) (by decide +kernel)⟩
theorem k_X11_109 : gj_CkV RX11 109 m_X11_goesFromLine 1 := ⟨⟨Or.inl (gj_w_in 1025 (by decide +kernel) (by decide +kernel)), gl_c_X11_goesFromLine, gl_i_X11, ⟨by decide +kernel, by decide +kernel⟩, by decide +kernel, by decide⟩, gj_w_in 1027 (by decide +kernel) (by decide +kernel), gj_w_in 33 (by decide +kernel) (by decide +kernel)⟩
theorem k_X11_112 : gj_CkV RX11 112 m_X11_starts 2 := ⟨⟨Or.inl (gj_w_in 1068 (by decide +kernel) (by decide +kernel)), gl_c_X11_starts, gl_i_X11, ⟨by decide +kernel, by decide +kernel⟩, by decide +kernel, by decide⟩, gj_w_in 1070 (by decide +kernel) (by decide +kernel), gj_w_in 40 (by decide +kernel) (by decide +kernel)⟩
theorem k_X11_115 : gj_CkV RX11 115 m_X11_takesOne 1 := ⟨⟨Or.inl (gj_w_in 1064 (by decide +kernel) (by decide +kernel)), gl_c_X11_takesOne, gl_i_X11, ⟨by decide +kernel, by decide +kernel⟩, by decide +kernel, by decide⟩, gj_w_in 1066 (by decide +kernel) (by decide +kernel), gj_w_in 39 (by decide +kernel) (by decide +kernel)⟩
theorem k_X11_118 : gj_CkV RX11 118 m_X11_takesBoth 1 := ⟨⟨Or.inl (gj_w_in 1072 (by decide +kernel) (by decide +kernel)), gl_c_X11_takesBoth, gl_i_X11, ⟨by decide +kernel, by decide +kernel⟩, by decide +kernel, by decide⟩, gj_w_in 1074 (by decide +kernel) (by decide +kernel), gj_w_in 41 (by decide +kernel) (by decide +kernel)⟩
theorem k_X11_124 : gj_CkV RX11 124 m_X11_worksOn 1 := ⟨⟨Or.inl (gj_w_in 1060 (by decide +kernel) (by decide +kernel)), gl_c_X11_worksOn, gl_i_X11, ⟨by decide +kernel, by decide +kernel⟩, by decide +kernel, by decide⟩, gj_w_in 1062 (by decide +kernel) (by decide +kernel), gj_w_in 38 (by decide +kernel) (by decide +kernel)⟩
theorem k_X11_127 : gj_CkV RX11 127 m_X11_serves 0 := ⟨⟨Or.inl (gj_w_in 986 (by decide +kernel) (by decide +kernel)), gl_c_X11_serves, gl_i_X11, ⟨by decide +kernel, by decide +kernel⟩, by decide +kernel, by decide⟩, gj_w_in 988 (by decide +kernel) (by decide +kernel), gj_w_in 24 (by decide +kernel) (by decide +kernel)⟩
theorem k_X11_130 : gj_CkV RX11 130 m_X11_bad 0 := ⟨⟨Or.inl (gj_w_in 970 (by decide +kernel) (by decide +kernel)), gl_c_X11_bad, gl_i_X11, ⟨by decide +kernel, by decide +kernel⟩, by decide +kernel, by decide⟩, gj_w_in 972 (by decide +kernel) (by decide +kernel), gj_w_in 21 (by decide +kernel) (by decide +kernel)⟩
theorem k_X11_133 : gj_CkV RX11 133 m_X11_leavesState 0 := ⟨⟨Or.inl (gj_w_in 974 (by decide +kernel) (by decide +kernel)), gl_c_X11_leavesState, gl_i_X11, ⟨by decide +kernel, by decide +kernel⟩, by decide +kernel, by decide⟩, gj_w_in 976 (by decide +kernel) (by decide +kernel), gj_w_in 22 (by decide +kernel) (by decide +kernel)⟩
theorem k_X11_136 : gj_CkV RX11 136 m_X11_isBuffer 1 := ⟨⟨Or.inl (gj_w_in 982 (by decide +kernel) (by decide +kernel)), gl_c_X11_isBuffer, gl_i_X11, ⟨by decide +kernel, by decide +kernel⟩, by decide +kernel, by decide⟩, gj_w_in 984 (by decide +kernel) (by decide +kernel), gj_w_in 23 (by decide +kernel) (by decide +kernel)⟩
theorem k_X11_140 : gj_CkV RX11 140 m_X11_full 0 := ⟨⟨Or.inl (gj_w_in 1033 (by decide +kernel) (by decide +kernel)), gl_c_X11_full, gl_i_X11, ⟨by decide +kernel, by decide +kernel⟩, by decide +kernel, by decide⟩, gj_w_in 1035 (by decide +kernel) (by decide +kernel), gj_w_in 34 (by decide +kernel) (by decide +kernel)⟩
theorem k_X11_143 : gj_CkV RX11 143 m_X11_isStation 1 := ⟨⟨Or.inl (gj_w_in 1044 (by decide +kernel) (by decide +kernel)), gl_c_X11_isStation, gl_i_X11, ⟨by decide +kernel, by decide +kernel⟩, by decide +kernel, by decide⟩, gj_w_in 1046 (by decide +kernel) (by decide +kernel), gj_w_in 35 (by decide +kernel) (by decide +kernel)⟩
theorem k_X11_146 : gj_CkV RX11 146 m_X11_madeOfAll 0 := ⟨⟨Or.inl (gj_w_in 1052 (by decide +kernel) (by decide +kernel)), gl_c_X11_madeOfAll, gl_i_X11, ⟨by decide +kernel, by decide +kernel⟩, by decide +kernel, by decide⟩, gj_w_in 1054 (by decide +kernel) (by decide +kernel), gj_w_in 36 (by decide +kernel) (by decide +kernel)⟩
theorem k_X11_149 : gj_CkV RX11 149 m_X11_tick 0 := ⟨⟨Or.inl (gj_w_in 1056 (by decide +kernel) (by decide +kernel)), gl_c_X11_tick, gl_i_X11, ⟨by decide +kernel, by decide +kernel⟩, by decide +kernel, by decide⟩, gj_w_in 1058 (by decide +kernel) (by decide +kernel), gj_w_in 37 (by decide +kernel) (by decide +kernel)⟩
theorem k_X11_152 : gj_CkV RX11 152 m_X11_laysAside 1 := ⟨⟨Or.inl (gj_w_in 1094 (by decide +kernel) (by decide +kernel)), gl_c_X11_laysAside, gl_i_X11, ⟨by decide +kernel, by decide +kernel⟩, by decide +kernel, by decide⟩, gj_w_in 1096 (by decide +kernel) (by decide +kernel), gj_w_in 42 (by decide +kernel) (by decide +kernel)⟩
theorem k_X11_155 : gj_CkV RX11 155 m_X11_move 3 := ⟨⟨Or.inl (gj_w_in 1098 (by decide +kernel) (by decide +kernel)), gl_c_X11_move, gl_i_X11, ⟨by decide +kernel, by decide +kernel⟩, by decide +kernel, by decide⟩, gj_w_in 1100 (by decide +kernel) (by decide +kernel), gj_w_in 43 (by decide +kernel) (by decide +kernel)⟩
theorem k_X11_159 : gj_CkV RX11 159 m_X11_undoes 1 := ⟨⟨Or.inl (gj_w_in 1106 (by decide +kernel) (by decide +kernel)), gl_c_X11_undoes, gl_i_X11, ⟨by decide +kernel, by decide +kernel⟩, by decide +kernel, by decide⟩, gj_w_in 1108 (by decide +kernel) (by decide +kernel), gj_w_in 45 (by decide +kernel) (by decide +kernel)⟩
theorem k_X11_165 : gj_CkV RX11 165 m_X11_queueOf 1 := ⟨⟨Or.inl (gj_w_in 1125 (by decide +kernel) (by decide +kernel)), gl_c_X11_queueOf, gl_i_X11, ⟨by decide +kernel, by decide +kernel⟩, by decide +kernel, by decide⟩, gj_w_in 1127 (by decide +kernel) (by decide +kernel), gj_w_in 46 (by decide +kernel) (by decide +kernel)⟩
theorem k_X11_168 : gj_CkV RX11 168 m_X11_goesFromQueue 2 := ⟨⟨Or.inl (gj_w_in 1133 (by decide +kernel) (by decide +kernel)), gl_c_X11_goesFromQueue, gl_i_X11, ⟨by decide +kernel, by decide +kernel⟩, by decide +kernel, by decide⟩, gj_w_in 1135 (by decide +kernel) (by decide +kernel), gj_w_in 47 (by decide +kernel) (by decide +kernel)⟩
theorem k_X11_171 : gj_CkV RX11 171 m_X11_isStuck 1 := ⟨⟨Or.inl (gj_w_in 1153 (by decide +kernel) (by decide +kernel)), gl_c_X11_isStuck, gl_i_X11, ⟨by decide +kernel, by decide +kernel⟩, by decide +kernel, by decide⟩, gj_w_in 1155 (by decide +kernel) (by decide +kernel), gj_w_in 48 (by decide +kernel) (by decide +kernel)⟩
theorem k_X11_174 : gj_CkV RX11 174 m_X11_ofBuffer 2 := ⟨⟨Or.inl (gj_w_in 1161 (by decide +kernel) (by decide +kernel)), gl_c_X11_ofBuffer, gl_i_X11, ⟨by decide +kernel, by decide +kernel⟩, by decide +kernel, by decide⟩, gj_w_in 1163 (by decide +kernel) (by decide +kernel), gj_w_in 49 (by decide +kernel) (by decide +kernel)⟩
theorem k_X11_177 : gj_CkV RX11 177 m_X11_ofStation 2 := ⟨⟨Or.inl (gj_w_in 1173 (by decide +kernel) (by decide +kernel)), gl_c_X11_ofStation, gl_i_X11, ⟨by decide +kernel, by decide +kernel⟩, by decide +kernel, by decide⟩, gj_w_in 1175 (by decide +kernel) (by decide +kernel), gj_w_in 50 (by decide +kernel) (by decide +kernel)⟩
theorem k_X11_180 : gj_CkV RX11 180 m_X11_itemsOfAll 0 := ⟨⟨Or.inl (gj_w_in 1193 (by decide +kernel) (by decide +kernel)), gl_c_X11_itemsOfAll, gl_i_X11, ⟨by decide +kernel, by decide +kernel⟩, by decide +kernel, by decide⟩, gj_w_in 1195 (by decide +kernel) (by decide +kernel), gj_w_in 52 (by decide +kernel) (by decide +kernel)⟩
theorem k_X11_183 : gj_CkV RX11 183 m_X11_entriesOfAll 0 := ⟨⟨Or.inl (gj_w_in 1197 (by decide +kernel) (by decide +kernel)), gl_c_X11_entriesOfAll, gl_i_X11, ⟨by decide +kernel, by decide +kernel⟩, by decide +kernel, by decide⟩, gj_w_in 1199 (by decide +kernel) (by decide +kernel), gj_w_in 53 (by decide +kernel) (by decide +kernel)⟩
theorem k_X11_186 : gj_CkV RX11 186 m_X11_worksBy 1 := ⟨⟨Or.inl (gj_w_in 1189 (by decide +kernel) (by decide +kernel)), gl_c_X11_worksBy, gl_i_X11, ⟨by decide +kernel, by decide +kernel⟩, by decide +kernel, by decide⟩, gj_w_in 1191 (by decide +kernel) (by decide +kernel), gj_w_in 51 (by decide +kernel) (by decide +kernel)⟩
theorem k_X11_199 : gj_CkV RX11 199 m_X11_here 0 := ⟨⟨Or.inl (gj_w_in 1217 (by decide +kernel) (by decide +kernel)), gl_c_X11_here, gl_i_X11, ⟨by decide +kernel, by decide +kernel⟩, by decide +kernel, by decide⟩, gj_w_in 1219 (by decide +kernel) (by decide +kernel), gj_w_in 55 (by decide +kernel) (by decide +kernel)⟩
theorem k_X11_205 : gj_CkV RX11 205 m_X11_figure 0 := ⟨⟨Or.inl (gj_w_in 1225 (by decide +kernel) (by decide +kernel)), gl_c_X11_figure, gl_i_X11, ⟨by decide +kernel, by decide +kernel⟩, by decide +kernel, by decide⟩, gj_w_in 1227 (by decide +kernel) (by decide +kernel), gj_w_in 57 (by decide +kernel) (by decide +kernel)⟩
theorem k_X11_208 : gj_CkV RX11 208 m_X11_comes 1 := ⟨⟨Or.inl (gj_w_in 1221 (by decide +kernel) (by decide +kernel)), gl_c_X11_comes, gl_i_X11, ⟨by decide +kernel, by decide +kernel⟩, by decide +kernel, by decide⟩, gj_w_in 1223 (by decide +kernel) (by decide +kernel), gj_w_in 56 (by decide +kernel) (by decide +kernel)⟩
theorem k_X11_211 : gj_CkV RX11 211 m_X11_doesOne 1 := ⟨⟨Or.inl (gj_w_in 1233 (by decide +kernel) (by decide +kernel)), gl_c_X11_doesOne, gl_i_X11, ⟨by decide +kernel, by decide +kernel⟩, by decide +kernel, by decide⟩, gj_w_in 1235 (by decide +kernel) (by decide +kernel), gj_w_in 59 (by decide +kernel) (by decide +kernel)⟩
theorem k_X11_214 : gj_CkV RX11 214 m_X11_reads 0 := ⟨⟨Or.inl (gj_w_in 1213 (by decide +kernel) (by decide +kernel)), gl_c_X11_reads, gl_i_X11, ⟨by decide +kernel, by decide +kernel⟩, by decide +kernel, by decide⟩, gj_w_in 1215 (by decide +kernel) (by decide +kernel), gj_w_in 54 (by decide +kernel) (by decide +kernel)⟩
theorem k_X11_218 : gj_CkV RX11 218 m_X11_doesAll 0 := ⟨⟨Or.inl (gj_w_in 1229 (by decide +kernel) (by decide +kernel)), gl_c_X11_doesAll, gl_i_X11, ⟨by decide +kernel, by decide +kernel⟩, by decide +kernel, by decide⟩, gj_w_in 1231 (by decide +kernel) (by decide +kernel), gj_w_in 58 (by decide +kernel) (by decide +kernel)⟩
theorem k_X11_221 : gj_CkV RX11 221 m_X11_toldOf 1 := ⟨⟨Or.inl (gj_w_in 1241 (by decide +kernel) (by decide +kernel)), gl_c_X11_toldOf, gl_i_X11, ⟨by decide +kernel, by decide +kernel⟩, by decide +kernel, by decide⟩, gj_w_in 1243 (by decide +kernel) (by decide +kernel), gj_w_in 60 (by decide +kernel) (by decide +kernel)⟩
theorem k_X11_228 : gj_CkV RX11 228 m_X11_stuck 0 := ⟨⟨Or.inl (gj_w_in 1251 (by decide +kernel) (by decide +kernel)), gl_c_X11_stuck, gl_i_X11, ⟨by decide +kernel, by decide +kernel⟩, by decide +kernel, by decide⟩, gj_w_in 1150 (by decide +kernel) (by decide +kernel), gj_w_in 1151 (by decide +kernel) (by decide +kernel)⟩
theorem l_X10_229 : Cond.constantLong RX10 229 1932 ∈ gj_w := gj_w_in 870 (by decide +kernel) (by decide +kernel)
theorem l_X10_260 : Cond.constantLong RX10 260 31 ∈ gj_w := gj_w_in 874 (by decide +kernel) (by decide +kernel)
theorem n_X10_7 : gj_Nk RX10 7 1 9 [some none, some none, some none, some none, some none, none, none, none, none] := ⟨RX1, TX1, tyX1, rfl, gl_inX1, tyX1_ok, gj_w_in 84 (by decide +kernel) (by decide +kernel), gj_w_in 85 (by decide +kernel) (by decide +kernel), gl_i_X1, by decide +kernel⟩
theorem n_X10_16 : gj_Nk RX10 16 3 3 [some none, none, none] := ⟨RX3, TX3, tyX3, rfl, gl_inX3, tyX3_ok, gj_w_in 315 (by decide +kernel) (by decide +kernel), gj_w_in 316 (by decide +kernel) (by decide +kernel), gl_i_X3, by decide +kernel⟩
theorem n_X10_23 : gj_Nk RX10 23 8 2 [some none, none] := ⟨RX8, TX8, tyX8, rfl, gl_inX8, tyX8_ok, gj_w_in 335 (by decide +kernel) (by decide +kernel), gj_w_in 336 (by decide +kernel) (by decide +kernel), gl_i_X8, by decide +kernel⟩
theorem n_X10_30 : gj_Nk RX10 30 6 8 [some none, some none, some none, some none, none, none, none, none] := ⟨RX6, TX6, tyX6, rfl, gl_inX6, tyX6_ok, gj_w_in 350 (by decide +kernel) (by decide +kernel), gj_w_in 351 (by decide +kernel) (by decide +kernel), gl_i_X6, by decide +kernel⟩
theorem n_X10_39 : gj_Nk RX10 39 4 1 [some none] := ⟨RX4, TX4, tyX4, rfl, gl_inX4, tyX4_ok, gj_w_in 395 (by decide +kernel) (by decide +kernel), gj_w_in 358 (by decide +kernel) (by decide +kernel), gl_i_X4, by decide +kernel⟩
theorem n_X0_9 : gj_Nk RX0 9 2 4 [none, none, none, none] := ⟨RX2, TX2, tyX2, rfl, gl_inX2, tyX2_ok, gj_w_in 143 (by decide +kernel) (by decide +kernel), gj_w_in 114 (by decide +kernel) (by decide +kernel), gl_i_X2, by decide +kernel⟩
theorem n_X0_18 : gj_Nk RX0 18 5 2 [some none, none] := ⟨RX5, TX5, tyX5, rfl, gl_inX5, tyX5_ok, gj_w_in 145 (by decide +kernel) (by decide +kernel), gj_w_in 97 (by decide +kernel) (by decide +kernel), gl_i_X5, by decide +kernel⟩
theorem na_X1_9 : Cond.classLink RX1 9 RX0 ∈ gj_w := gj_w_in 90 (by decide +kernel) (by decide +kernel)
theorem na_X1_17 : Cond.classLink RX1 17 RX7 ∈ gj_w := gj_w_in 92 (by decide +kernel) (by decide +kernel)
theorem na_X1_23 : Cond.classLink RX1 23 RX9 ∈ gj_w := gj_w_in 94 (by decide +kernel) (by decide +kernel)
theorem n_X1_9 : gj_Nk RX1 9 0 9 [some none, some none, some none, none, none, none, none, none, none] := ⟨RX0, TX0, tyX0, rfl, gl_inX0, tyX0_ok, gj_w_in 90 (by decide +kernel) (by decide +kernel), gj_w_in 138 (by decide +kernel) (by decide +kernel), gl_i_X0, by decide +kernel⟩
theorem n_X1_17 : gj_Nk RX1 17 7 12 [none, none, none, none, none, none, none, none, none, none, none, none] := ⟨RX7, TX7, tyX7, rfl, gl_inX7, tyX7_ok, gj_w_in 92 (by decide +kernel) (by decide +kernel), gj_w_in 184 (by decide +kernel) (by decide +kernel), gl_i_X7, by decide +kernel⟩
theorem n_X1_23 : gj_Nk RX1 23 9 4 [none, none, none, none] := ⟨RX9, TX9, tyX9, rfl, gl_inX9, tyX9_ok, gj_w_in 94 (by decide +kernel) (by decide +kernel), gj_w_in 235 (by decide +kernel) (by decide +kernel), gl_i_X9, by decide +kernel⟩
theorem n_X1_29 : gj_Nk RX1 29 5 2 [some none, none] := ⟨RX5, TX5, tyX5, rfl, gl_inX5, tyX5_ok, gj_w_in 96 (by decide +kernel) (by decide +kernel), gj_w_in 97 (by decide +kernel) (by decide +kernel), gl_i_X5, by decide +kernel⟩
theorem n_X1_36 : gj_Nk RX1 36 2 4 [none, none, none, none] := ⟨RX2, TX2, tyX2, rfl, gl_inX2, tyX2_ok, gj_w_in 113 (by decide +kernel) (by decide +kernel), gj_w_in 114 (by decide +kernel) (by decide +kernel), gl_i_X2, by decide +kernel⟩
theorem na_X3_9 : Cond.classLink RX3 9 RX1 ∈ gj_w := gj_w_in 321 (by decide +kernel) (by decide +kernel)
theorem n_X3_9 : gj_Nk RX3 9 1 9 [some none, some none, some none, some none, some none, none, none, none, none] := ⟨RX1, TX1, tyX1, rfl, gl_inX1, tyX1_ok, gj_w_in 321 (by decide +kernel) (by decide +kernel), gj_w_in 85 (by decide +kernel) (by decide +kernel), gl_i_X1, by decide +kernel⟩
theorem na_X4_9 : Cond.classLink RX4 9 RX5 ∈ gj_w := gj_w_in 363 (by decide +kernel) (by decide +kernel)
theorem n_X4_9 : gj_Nk RX4 9 5 2 [some none, none] := ⟨RX5, TX5, tyX5, rfl, gl_inX5, tyX5_ok, gj_w_in 363 (by decide +kernel) (by decide +kernel), gj_w_in 97 (by decide +kernel) (by decide +kernel), gl_i_X5, by decide +kernel⟩
theorem na_X6_9 : Cond.classLink RX6 9 RX4 ∈ gj_w := gj_w_in 356 (by decide +kernel) (by decide +kernel)
theorem n_X6_9 : gj_Nk RX6 9 4 1 [some none] := ⟨RX4, TX4, tyX4, rfl, gl_inX4, tyX4_ok, gj_w_in 356 (by decide +kernel) (by decide +kernel), gj_w_in 358 (by decide +kernel) (by decide +kernel), gl_i_X4, by decide +kernel⟩
theorem n_L_7 : gj_Nk RL 7 10 8 [some none, some none, some none, some none, some none, none, none, none] := ⟨RX10, TX10, tyX10, rfl, gl_inX10, tyX10_ok, gj_w_in 76 (by decide +kernel) (by decide +kernel), gj_w_in 77 (by decide +kernel) (by decide +kernel), gl_i_X10, by decide +kernel⟩
theorem n_L_10 : gj_Nk RL 10 11 17 [some none, some none, none, some none, some none, some none, none, none, none, none, some none, some none, some none, some none, some none, some none, some none] := ⟨RX11, TX11, tyX11, rfl, gl_inX11, tyX11_ok, gj_w_in 887 (by decide +kernel) (by decide +kernel), gj_w_in 888 (by decide +kernel) (by decide +kernel), gl_i_X11, by decide +kernel⟩
theorem l_X11_224 : Cond.constantLong RX11 224 1932 ∈ gj_w := gj_w_in 1249 (by decide +kernel) (by decide +kernel)
theorem l_X11_226 : Cond.constantLong RX11 226 31 ∈ gj_w := gj_w_in 1250 (by decide +kernel) (by decide +kernel)
theorem gl_arr : Cond.arrayClass .int ∈ gj_w := gj_w_in 112 (by decide +kernel) (by decide +kernel)
end
section
theorem dX0_init_0 : decode cX0_init 0 = .ok (.aload_n 0, 1) := by decide +kernel
theorem dX0_init_1 : decode cX0_init 1 = .ok (.invokespecial 3, 3) := by decide +kernel
theorem dX0_init_4 : decode cX0_init 4 = .ok (.aload_n 0, 1) := by decide +kernel
theorem dX0_init_5 : decode cX0_init 5 = .ok (.new 9, 3) := by decide +kernel
theorem dX0_init_8 : decode cX0_init 8 = .ok (.dup, 1) := by decide +kernel
theorem dX0_init_9 : decode cX0_init 9 = .ok (.invokespecial 11, 3) := by decide +kernel
theorem dX0_init_12 : decode cX0_init 12 = .ok (.putfield 12, 3) := by decide +kernel
theorem dX0_init_15 : decode cX0_init 15 = .ok (.aload_n 0, 1) := by decide +kernel
theorem dX0_init_16 : decode cX0_init 16 = .ok (.new 18, 3) := by decide +kernel
theorem dX0_init_19 : decode cX0_init 19 = .ok (.dup, 1) := by decide +kernel
theorem dX0_init_20 : decode cX0_init 20 = .ok (.invokespecial 20, 3) := by decide +kernel
theorem dX0_init_23 : decode cX0_init 23 = .ok (.putfield 21, 3) := by decide +kernel
theorem dX0_init_26 : decode cX0_init 26 = .ok (.aload_n 0, 1) := by decide +kernel
theorem dX0_init_27 : decode cX0_init 27 = .ok (.new 18, 3) := by decide +kernel
theorem dX0_init_30 : decode cX0_init 30 = .ok (.dup, 1) := by decide +kernel
theorem dX0_init_31 : decode cX0_init 31 = .ok (.invokespecial 20, 3) := by decide +kernel
theorem dX0_init_34 : decode cX0_init 34 = .ok (.putfield 25, 3) := by decide +kernel
theorem dX0_init_37 : decode cX0_init 37 = .ok (.return_, 1) := by decide +kernel
theorem dX0_put_0 : decode cX0_put 0 = .ok (.aload_n 0, 1) := by decide +kernel
theorem dX0_put_1 : decode cX0_put 1 = .ok (.getfield 12, 3) := by decide +kernel
theorem dX0_put_4 : decode cX0_put 4 = .ok (.invokevirtual 28, 3) := by decide +kernel
theorem dX0_put_7 : decode cX0_put 7 = .ok (.aload_n 0, 1) := by decide +kernel
theorem dX0_put_8 : decode cX0_put 8 = .ok (.getfield 21, 3) := by decide +kernel
theorem dX0_put_11 : decode cX0_put 11 = .ok (.getfield 31, 3) := by decide +kernel
theorem dX0_put_14 : decode cX0_put 14 = .ok (.aload_n 0, 1) := by decide +kernel
theorem dX0_put_15 : decode cX0_put 15 = .ok (.getfield 35, 3) := by decide +kernel
theorem dX0_put_18 : decode cX0_put 18 = .ok (.if_icmp .ge 11, 3) := by decide +kernel
theorem dX0_put_21 : decode cX0_put 21 = .ok (.aload_n 0, 1) := by decide +kernel
theorem dX0_put_22 : decode cX0_put 22 = .ok (.iload_n 2, 1) := by decide +kernel
theorem dX0_put_23 : decode cX0_put 23 = .ok (.invokevirtual 38, 3) := by decide +kernel
theorem dX0_put_26 : decode cX0_put 26 = .ok (.ifCond .eq 12, 3) := by decide +kernel
theorem dX0_put_29 : decode cX0_put 29 = .ok (.aload_n 0, 1) := by decide +kernel
theorem dX0_put_30 : decode cX0_put 30 = .ok (.getfield 12, 3) := by decide +kernel
theorem dX0_put_33 : decode cX0_put 33 = .ok (.invokevirtual 42, 3) := by decide +kernel
theorem dX0_put_36 : decode cX0_put 36 = .ok (.iconst 0, 1) := by decide +kernel
theorem dX0_put_37 : decode cX0_put 37 = .ok (.ireturn, 1) := by decide +kernel
theorem dX0_put_38 : decode cX0_put 38 = .ok (.aload_n 0, 1) := by decide +kernel
theorem dX0_put_39 : decode cX0_put 39 = .ok (.getfield 21, 3) := by decide +kernel
theorem dX0_put_42 : decode cX0_put 42 = .ok (.iload_n 1, 1) := by decide +kernel
theorem dX0_put_43 : decode cX0_put 43 = .ok (.invokevirtual 45, 3) := by decide +kernel
theorem dX0_put_46 : decode cX0_put 46 = .ok (.aload_n 0, 1) := by decide +kernel
theorem dX0_put_47 : decode cX0_put 47 = .ok (.dup, 1) := by decide +kernel
theorem dX0_put_48 : decode cX0_put 48 = .ok (.getfield 49, 3) := by decide +kernel
theorem dX0_put_51 : decode cX0_put 51 = .ok (.iconst 1, 1) := by decide +kernel
theorem dX0_put_52 : decode cX0_put 52 = .ok (.iadd, 1) := by decide +kernel
theorem dX0_put_53 : decode cX0_put 53 = .ok (.putfield 49, 3) := by decide +kernel
theorem dX0_put_56 : decode cX0_put 56 = .ok (.aload_n 0, 1) := by decide +kernel
theorem dX0_put_57 : decode cX0_put 57 = .ok (.aload_n 0, 1) := by decide +kernel
theorem dX0_put_58 : decode cX0_put 58 = .ok (.getfield 52, 3) := by decide +kernel
theorem dX0_put_61 : decode cX0_put 61 = .ok (.aload_n 0, 1) := by decide +kernel
theorem dX0_put_62 : decode cX0_put 62 = .ok (.getfield 21, 3) := by decide +kernel
theorem dX0_put_65 : decode cX0_put 65 = .ok (.getfield 31, 3) := by decide +kernel
theorem dX0_put_68 : decode cX0_put 68 = .ok (.invokestatic 55, 3) := by decide +kernel
theorem dX0_put_71 : decode cX0_put 71 = .ok (.putfield 52, 3) := by decide +kernel
theorem dX0_put_74 : decode cX0_put 74 = .ok (.aload_n 0, 1) := by decide +kernel
theorem dX0_put_75 : decode cX0_put 75 = .ok (.getfield 12, 3) := by decide +kernel
theorem dX0_put_78 : decode cX0_put 78 = .ok (.invokevirtual 61, 3) := by decide +kernel
theorem dX0_put_81 : decode cX0_put 81 = .ok (.iconst 1, 1) := by decide +kernel
theorem dX0_put_82 : decode cX0_put 82 = .ok (.ireturn, 1) := by decide +kernel
theorem dX0_take_0 : decode cX0_take 0 = .ok (.aload_n 0, 1) := by decide +kernel
theorem dX0_take_1 : decode cX0_take 1 = .ok (.getfield 12, 3) := by decide +kernel
theorem dX0_take_4 : decode cX0_take 4 = .ok (.invokevirtual 28, 3) := by decide +kernel
theorem dX0_take_7 : decode cX0_take 7 = .ok (.aload_n 0, 1) := by decide +kernel
theorem dX0_take_8 : decode cX0_take 8 = .ok (.getfield 21, 3) := by decide +kernel
theorem dX0_take_11 : decode cX0_take 11 = .ok (.getfield 31, 3) := by decide +kernel
theorem dX0_take_14 : decode cX0_take 14 = .ok (.ifCond .eq 11, 3) := by decide +kernel
theorem dX0_take_17 : decode cX0_take 17 = .ok (.aload_n 0, 1) := by decide +kernel
theorem dX0_take_18 : decode cX0_take 18 = .ok (.iload_n 1, 1) := by decide +kernel
theorem dX0_take_19 : decode cX0_take 19 = .ok (.invokevirtual 38, 3) := by decide +kernel
theorem dX0_take_22 : decode cX0_take 22 = .ok (.ifCond .eq 13, 3) := by decide +kernel
theorem dX0_take_25 : decode cX0_take 25 = .ok (.aload_n 0, 1) := by decide +kernel
theorem dX0_take_26 : decode cX0_take 26 = .ok (.getfield 12, 3) := by decide +kernel
theorem dX0_take_29 : decode cX0_take 29 = .ok (.invokevirtual 42, 3) := by decide +kernel
theorem dX0_take_32 : decode cX0_take 32 = .ok (.bipush (-5), 2) := by decide +kernel
theorem dX0_take_34 : decode cX0_take 34 = .ok (.ireturn, 1) := by decide +kernel
theorem dX0_take_35 : decode cX0_take 35 = .ok (.aload_n 0, 1) := by decide +kernel
theorem dX0_take_36 : decode cX0_take 36 = .ok (.dup, 1) := by decide +kernel
theorem dX0_take_37 : decode cX0_take 37 = .ok (.getfield 64, 3) := by decide +kernel
theorem dX0_take_40 : decode cX0_take 40 = .ok (.iconst 1, 1) := by decide +kernel
theorem dX0_take_41 : decode cX0_take 41 = .ok (.iadd, 1) := by decide +kernel
theorem dX0_take_42 : decode cX0_take 42 = .ok (.putfield 64, 3) := by decide +kernel
theorem dX0_take_45 : decode cX0_take 45 = .ok (.aload_n 0, 1) := by decide +kernel
theorem dX0_take_46 : decode cX0_take 46 = .ok (.getfield 21, 3) := by decide +kernel
theorem dX0_take_49 : decode cX0_take 49 = .ok (.iconst 0, 1) := by decide +kernel
theorem dX0_take_50 : decode cX0_take 50 = .ok (.invokevirtual 67, 3) := by decide +kernel
theorem dX0_take_53 : decode cX0_take 53 = .ok (.istore_n 2, 1) := by decide +kernel
theorem dX0_take_54 : decode cX0_take 54 = .ok (.aload_n 0, 1) := by decide +kernel
theorem dX0_take_55 : decode cX0_take 55 = .ok (.getfield 12, 3) := by decide +kernel
theorem dX0_take_58 : decode cX0_take 58 = .ok (.invokevirtual 61, 3) := by decide +kernel
theorem dX0_take_61 : decode cX0_take 61 = .ok (.iload_n 2, 1) := by decide +kernel
theorem dX0_take_62 : decode cX0_take 62 = .ok (.ireturn, 1) := by decide +kernel
theorem dX0_canGive_0 : decode cX0_canGive 0 = .ok (.aload_n 0, 1) := by decide +kernel
theorem dX0_canGive_1 : decode cX0_canGive 1 = .ok (.getfield 21, 3) := by decide +kernel
theorem dX0_canGive_4 : decode cX0_canGive 4 = .ok (.getfield 31, 3) := by decide +kernel
theorem dX0_canGive_7 : decode cX0_canGive 7 = .ok (.iload_n 1, 1) := by decide +kernel
theorem dX0_canGive_8 : decode cX0_canGive 8 = .ok (.if_icmp .lt 15, 3) := by decide +kernel
theorem dX0_canGive_11 : decode cX0_canGive 11 = .ok (.aload_n 0, 1) := by decide +kernel
theorem dX0_canGive_12 : decode cX0_canGive 12 = .ok (.getfield 71, 3) := by decide +kernel
theorem dX0_canGive_15 : decode cX0_canGive 15 = .ok (.iconst (-1), 1) := by decide +kernel
theorem dX0_canGive_16 : decode cX0_canGive 16 = .ok (.if_icmp .ne 7, 3) := by decide +kernel
theorem dX0_canGive_19 : decode cX0_canGive 19 = .ok (.iconst 1, 1) := by decide +kernel
theorem dX0_canGive_20 : decode cX0_canGive 20 = .ok (.goto 4, 3) := by decide +kernel
theorem dX0_canGive_23 : decode cX0_canGive 23 = .ok (.iconst 0, 1) := by decide +kernel
theorem dX0_canGive_24 : decode cX0_canGive 24 = .ok (.ireturn, 1) := by decide +kernel
theorem dX0_giveFirst_0 : decode cX0_giveFirst 0 = .ok (.aload_n 0, 1) := by decide +kernel
theorem dX0_giveFirst_1 : decode cX0_giveFirst 1 = .ok (.dup, 1) := by decide +kernel
theorem dX0_giveFirst_2 : decode cX0_giveFirst 2 = .ok (.getfield 64, 3) := by decide +kernel
theorem dX0_giveFirst_5 : decode cX0_giveFirst 5 = .ok (.iconst 1, 1) := by decide +kernel
theorem dX0_giveFirst_6 : decode cX0_giveFirst 6 = .ok (.iadd, 1) := by decide +kernel
theorem dX0_giveFirst_7 : decode cX0_giveFirst 7 = .ok (.putfield 64, 3) := by decide +kernel
theorem dX0_giveFirst_10 : decode cX0_giveFirst 10 = .ok (.aload_n 0, 1) := by decide +kernel
theorem dX0_giveFirst_11 : decode cX0_giveFirst 11 = .ok (.getfield 21, 3) := by decide +kernel
theorem dX0_giveFirst_14 : decode cX0_giveFirst 14 = .ok (.iconst 0, 1) := by decide +kernel
theorem dX0_giveFirst_15 : decode cX0_giveFirst 15 = .ok (.invokevirtual 67, 3) := by decide +kernel
theorem dX0_giveFirst_18 : decode cX0_giveFirst 18 = .ok (.ireturn, 1) := by decide +kernel
theorem dX0_isKeptByAnother_0 : decode cX0_isKeptByAnother 0 = .ok (.aload_n 0, 1) := by decide +kernel
theorem dX0_isKeptByAnother_1 : decode cX0_isKeptByAnother 1 = .ok (.getfield 71, 3) := by decide +kernel
theorem dX0_isKeptByAnother_4 : decode cX0_isKeptByAnother 4 = .ok (.iconst (-1), 1) := by decide +kernel
theorem dX0_isKeptByAnother_5 : decode cX0_isKeptByAnother 5 = .ok (.if_icmp .eq 15, 3) := by decide +kernel
theorem dX0_isKeptByAnother_8 : decode cX0_isKeptByAnother 8 = .ok (.aload_n 0, 1) := by decide +kernel
theorem dX0_isKeptByAnother_9 : decode cX0_isKeptByAnother 9 = .ok (.getfield 71, 3) := by decide +kernel
theorem dX0_isKeptByAnother_12 : decode cX0_isKeptByAnother 12 = .ok (.iload_n 1, 1) := by decide +kernel
theorem dX0_isKeptByAnother_13 : decode cX0_isKeptByAnother 13 = .ok (.if_icmp .eq 7, 3) := by decide +kernel
theorem dX0_isKeptByAnother_16 : decode cX0_isKeptByAnother 16 = .ok (.iconst 1, 1) := by decide +kernel
theorem dX0_isKeptByAnother_17 : decode cX0_isKeptByAnother 17 = .ok (.goto 4, 3) := by decide +kernel
theorem dX0_isKeptByAnother_20 : decode cX0_isKeptByAnother 20 = .ok (.iconst 0, 1) := by decide +kernel
theorem dX0_isKeptByAnother_21 : decode cX0_isKeptByAnother 21 = .ok (.ireturn, 1) := by decide +kernel
theorem dX0_keepFor_0 : decode cX0_keepFor 0 = .ok (.aload_n 0, 1) := by decide +kernel
theorem dX0_keepFor_1 : decode cX0_keepFor 1 = .ok (.getfield 12, 3) := by decide +kernel
theorem dX0_keepFor_4 : decode cX0_keepFor 4 = .ok (.invokevirtual 28, 3) := by decide +kernel
theorem dX0_keepFor_7 : decode cX0_keepFor 7 = .ok (.bipush (-5), 2) := by decide +kernel
theorem dX0_keepFor_9 : decode cX0_keepFor 9 = .ok (.istore_n 2, 1) := by decide +kernel
theorem dX0_keepFor_10 : decode cX0_keepFor 10 = .ok (.aload_n 0, 1) := by decide +kernel
theorem dX0_keepFor_11 : decode cX0_keepFor 11 = .ok (.iload_n 1, 1) := by decide +kernel
theorem dX0_keepFor_12 : decode cX0_keepFor 12 = .ok (.invokevirtual 38, 3) := by decide +kernel
theorem dX0_keepFor_15 : decode cX0_keepFor 15 = .ok (.ifCond .eq 14, 3) := by decide +kernel
theorem dX0_keepFor_18 : decode cX0_keepFor 18 = .ok (.aload_n 0, 1) := by decide +kernel
theorem dX0_keepFor_19 : decode cX0_keepFor 19 = .ok (.getfield 25, 3) := by decide +kernel
theorem dX0_keepFor_22 : decode cX0_keepFor 22 = .ok (.iload_n 1, 1) := by decide +kernel
theorem dX0_keepFor_23 : decode cX0_keepFor 23 = .ok (.invokevirtual 45, 3) := by decide +kernel
theorem dX0_keepFor_26 : decode cX0_keepFor 26 = .ok (.goto 23, 3) := by decide +kernel
theorem dX0_keepFor_29 : decode cX0_keepFor 29 = .ok (.aload_n 0, 1) := by decide +kernel
theorem dX0_keepFor_30 : decode cX0_keepFor 30 = .ok (.iload_n 1, 1) := by decide +kernel
theorem dX0_keepFor_31 : decode cX0_keepFor 31 = .ok (.putfield 71, 3) := by decide +kernel
theorem dX0_keepFor_34 : decode cX0_keepFor 34 = .ok (.aload_n 0, 1) := by decide +kernel
theorem dX0_keepFor_35 : decode cX0_keepFor 35 = .ok (.dup, 1) := by decide +kernel
theorem dX0_keepFor_36 : decode cX0_keepFor 36 = .ok (.getfield 74, 3) := by decide +kernel
theorem dX0_keepFor_39 : decode cX0_keepFor 39 = .ok (.iconst 1, 1) := by decide +kernel
theorem dX0_keepFor_40 : decode cX0_keepFor 40 = .ok (.iadd, 1) := by decide +kernel
theorem dX0_keepFor_41 : decode cX0_keepFor 41 = .ok (.putfield 74, 3) := by decide +kernel
theorem dX0_keepFor_44 : decode cX0_keepFor 44 = .ok (.aload_n 0, 1) := by decide +kernel
theorem dX0_keepFor_45 : decode cX0_keepFor 45 = .ok (.getfield 74, 3) := by decide +kernel
theorem dX0_keepFor_48 : decode cX0_keepFor 48 = .ok (.istore_n 2, 1) := by decide +kernel
theorem dX0_keepFor_49 : decode cX0_keepFor 49 = .ok (.aload_n 0, 1) := by decide +kernel
theorem dX0_keepFor_50 : decode cX0_keepFor 50 = .ok (.getfield 12, 3) := by decide +kernel
theorem dX0_keepFor_53 : decode cX0_keepFor 53 = .ok (.invokevirtual 61, 3) := by decide +kernel
theorem dX0_keepFor_56 : decode cX0_keepFor 56 = .ok (.iload_n 2, 1) := by decide +kernel
theorem dX0_keepFor_57 : decode cX0_keepFor 57 = .ok (.ireturn, 1) := by decide +kernel
theorem dX0_letGo_0 : decode cX0_letGo 0 = .ok (.aload_n 0, 1) := by decide +kernel
theorem dX0_letGo_1 : decode cX0_letGo 1 = .ok (.getfield 12, 3) := by decide +kernel
theorem dX0_letGo_4 : decode cX0_letGo 4 = .ok (.invokevirtual 28, 3) := by decide +kernel
theorem dX0_letGo_7 : decode cX0_letGo 7 = .ok (.aload_n 0, 1) := by decide +kernel
theorem dX0_letGo_8 : decode cX0_letGo 8 = .ok (.dup, 1) := by decide +kernel
theorem dX0_letGo_9 : decode cX0_letGo 9 = .ok (.getfield 74, 3) := by decide +kernel
theorem dX0_letGo_12 : decode cX0_letGo 12 = .ok (.iconst 1, 1) := by decide +kernel
theorem dX0_letGo_13 : decode cX0_letGo 13 = .ok (.isub, 1) := by decide +kernel
theorem dX0_letGo_14 : decode cX0_letGo 14 = .ok (.putfield 74, 3) := by decide +kernel
theorem dX0_letGo_17 : decode cX0_letGo 17 = .ok (.aload_n 0, 1) := by decide +kernel
theorem dX0_letGo_18 : decode cX0_letGo 18 = .ok (.getfield 74, 3) := by decide +kernel
theorem dX0_letGo_21 : decode cX0_letGo 21 = .ok (.istore_n 1, 1) := by decide +kernel
theorem dX0_letGo_22 : decode cX0_letGo 22 = .ok (.aload_n 0, 1) := by decide +kernel
theorem dX0_letGo_23 : decode cX0_letGo 23 = .ok (.getfield 74, 3) := by decide +kernel
theorem dX0_letGo_26 : decode cX0_letGo 26 = .ok (.ifCond .ne 32, 3) := by decide +kernel
theorem dX0_letGo_29 : decode cX0_letGo 29 = .ok (.aload_n 0, 1) := by decide +kernel
theorem dX0_letGo_30 : decode cX0_letGo 30 = .ok (.aload_n 0, 1) := by decide +kernel
theorem dX0_letGo_31 : decode cX0_letGo 31 = .ok (.getfield 25, 3) := by decide +kernel
theorem dX0_letGo_34 : decode cX0_letGo 34 = .ok (.iconst 0, 1) := by decide +kernel
theorem dX0_letGo_35 : decode cX0_letGo 35 = .ok (.invokevirtual 67, 3) := by decide +kernel
theorem dX0_letGo_38 : decode cX0_letGo 38 = .ok (.putfield 71, 3) := by decide +kernel
theorem dX0_letGo_41 : decode cX0_letGo 41 = .ok (.aload_n 0, 1) := by decide +kernel
theorem dX0_letGo_42 : decode cX0_letGo 42 = .ok (.aload_n 0, 1) := by decide +kernel
theorem dX0_letGo_43 : decode cX0_letGo 43 = .ok (.getfield 71, 3) := by decide +kernel
theorem dX0_letGo_46 : decode cX0_letGo 46 = .ok (.iconst (-1), 1) := by decide +kernel
theorem dX0_letGo_47 : decode cX0_letGo 47 = .ok (.if_icmp .ne 7, 3) := by decide +kernel
theorem dX0_letGo_50 : decode cX0_letGo 50 = .ok (.iconst 0, 1) := by decide +kernel
theorem dX0_letGo_51 : decode cX0_letGo 51 = .ok (.goto 4, 3) := by decide +kernel
theorem dX0_letGo_54 : decode cX0_letGo 54 = .ok (.iconst 1, 1) := by decide +kernel
theorem dX0_letGo_55 : decode cX0_letGo 55 = .ok (.putfield 74, 3) := by decide +kernel
theorem dX0_letGo_58 : decode cX0_letGo 58 = .ok (.aload_n 0, 1) := by decide +kernel
theorem dX0_letGo_59 : decode cX0_letGo 59 = .ok (.getfield 12, 3) := by decide +kernel
theorem dX0_letGo_62 : decode cX0_letGo 62 = .ok (.invokevirtual 61, 3) := by decide +kernel
theorem dX0_letGo_65 : decode cX0_letGo 65 = .ok (.iload_n 1, 1) := by decide +kernel
theorem dX0_letGo_66 : decode cX0_letGo 66 = .ok (.ireturn, 1) := by decide +kernel
theorem dX0_bufferTold_0 : decode cX0_bufferTold 0 = .ok (.iload_n 1, 1) := by decide +kernel
theorem dX0_bufferTold_1 : decode cX0_bufferTold 1 = .ok (.tableswitch 87 0 6 #[43, 51, 56, 61, 66, 71, 79], 43) := by decide +kernel
theorem dX0_bufferTold_44 : decode cX0_bufferTold 44 = .ok (.aload_n 0, 1) := by decide +kernel
theorem dX0_bufferTold_45 : decode cX0_bufferTold 45 = .ok (.getfield 21, 3) := by decide +kernel
theorem dX0_bufferTold_48 : decode cX0_bufferTold 48 = .ok (.getfield 31, 3) := by decide +kernel
theorem dX0_bufferTold_51 : decode cX0_bufferTold 51 = .ok (.ireturn, 1) := by decide +kernel
theorem dX0_bufferTold_52 : decode cX0_bufferTold 52 = .ok (.aload_n 0, 1) := by decide +kernel
theorem dX0_bufferTold_53 : decode cX0_bufferTold 53 = .ok (.getfield 35, 3) := by decide +kernel
theorem dX0_bufferTold_56 : decode cX0_bufferTold 56 = .ok (.ireturn, 1) := by decide +kernel
theorem dX0_bufferTold_57 : decode cX0_bufferTold 57 = .ok (.aload_n 0, 1) := by decide +kernel
theorem dX0_bufferTold_58 : decode cX0_bufferTold 58 = .ok (.getfield 49, 3) := by decide +kernel
theorem dX0_bufferTold_61 : decode cX0_bufferTold 61 = .ok (.ireturn, 1) := by decide +kernel
theorem dX0_bufferTold_62 : decode cX0_bufferTold 62 = .ok (.aload_n 0, 1) := by decide +kernel
theorem dX0_bufferTold_63 : decode cX0_bufferTold 63 = .ok (.getfield 64, 3) := by decide +kernel
theorem dX0_bufferTold_66 : decode cX0_bufferTold 66 = .ok (.ireturn, 1) := by decide +kernel
theorem dX0_bufferTold_67 : decode cX0_bufferTold 67 = .ok (.aload_n 0, 1) := by decide +kernel
theorem dX0_bufferTold_68 : decode cX0_bufferTold 68 = .ok (.getfield 52, 3) := by decide +kernel
theorem dX0_bufferTold_71 : decode cX0_bufferTold 71 = .ok (.ireturn, 1) := by decide +kernel
theorem dX0_bufferTold_72 : decode cX0_bufferTold 72 = .ok (.aload_n 0, 1) := by decide +kernel
theorem dX0_bufferTold_73 : decode cX0_bufferTold 73 = .ok (.getfield 12, 3) := by decide +kernel
theorem dX0_bufferTold_76 : decode cX0_bufferTold 76 = .ok (.getfield 77, 3) := by decide +kernel
theorem dX0_bufferTold_79 : decode cX0_bufferTold 79 = .ok (.ireturn, 1) := by decide +kernel
theorem dX0_bufferTold_80 : decode cX0_bufferTold 80 = .ok (.aload_n 0, 1) := by decide +kernel
theorem dX0_bufferTold_81 : decode cX0_bufferTold 81 = .ok (.getfield 12, 3) := by decide +kernel
theorem dX0_bufferTold_84 : decode cX0_bufferTold 84 = .ok (.getfield 80, 3) := by decide +kernel
theorem dX0_bufferTold_87 : decode cX0_bufferTold 87 = .ok (.ireturn, 1) := by decide +kernel
theorem dX0_bufferTold_88 : decode cX0_bufferTold 88 = .ok (.aload_n 0, 1) := by decide +kernel
theorem dX0_bufferTold_89 : decode cX0_bufferTold 89 = .ok (.getfield 12, 3) := by decide +kernel
theorem dX0_bufferTold_92 : decode cX0_bufferTold 92 = .ok (.getfield 83, 3) := by decide +kernel
theorem dX0_bufferTold_95 : decode cX0_bufferTold 95 = .ok (.ireturn, 1) := by decide +kernel
theorem dX0_keepingTold_0 : decode cX0_keepingTold 0 = .ok (.iload_n 1, 1) := by decide +kernel
theorem dX0_keepingTold_1 : decode cX0_keepingTold 1 = .ok (.lookupswitch 37 #[(0, 27), (1, 32)], 27) := by decide +kernel
theorem dX0_keepingTold_28 : decode cX0_keepingTold 28 = .ok (.aload_n 0, 1) := by decide +kernel
theorem dX0_keepingTold_29 : decode cX0_keepingTold 29 = .ok (.getfield 71, 3) := by decide +kernel
theorem dX0_keepingTold_32 : decode cX0_keepingTold 32 = .ok (.ireturn, 1) := by decide +kernel
theorem dX0_keepingTold_33 : decode cX0_keepingTold 33 = .ok (.aload_n 0, 1) := by decide +kernel
theorem dX0_keepingTold_34 : decode cX0_keepingTold 34 = .ok (.getfield 74, 3) := by decide +kernel
theorem dX0_keepingTold_37 : decode cX0_keepingTold 37 = .ok (.ireturn, 1) := by decide +kernel
theorem dX0_keepingTold_38 : decode cX0_keepingTold 38 = .ok (.aload_n 0, 1) := by decide +kernel
theorem dX0_keepingTold_39 : decode cX0_keepingTold 39 = .ok (.getfield 25, 3) := by decide +kernel
theorem dX0_keepingTold_42 : decode cX0_keepingTold 42 = .ok (.getfield 31, 3) := by decide +kernel
theorem dX0_keepingTold_45 : decode cX0_keepingTold 45 = .ok (.ireturn, 1) := by decide +kernel
theorem dX0_startAnew_0 : decode cX0_startAnew 0 = .ok (.aload_n 0, 1) := by decide +kernel
theorem dX0_startAnew_1 : decode cX0_startAnew 1 = .ok (.getfield 12, 3) := by decide +kernel
theorem dX0_startAnew_4 : decode cX0_startAnew 4 = .ok (.invokevirtual 86, 3) := by decide +kernel
theorem dX0_startAnew_7 : decode cX0_startAnew 7 = .ok (.aload_n 0, 1) := by decide +kernel
theorem dX0_startAnew_8 : decode cX0_startAnew 8 = .ok (.getfield 21, 3) := by decide +kernel
theorem dX0_startAnew_11 : decode cX0_startAnew 11 = .ok (.iconst 0, 1) := by decide +kernel
theorem dX0_startAnew_12 : decode cX0_startAnew 12 = .ok (.putfield 31, 3) := by decide +kernel
theorem dX0_startAnew_15 : decode cX0_startAnew 15 = .ok (.aload_n 0, 1) := by decide +kernel
theorem dX0_startAnew_16 : decode cX0_startAnew 16 = .ok (.getfield 25, 3) := by decide +kernel
theorem dX0_startAnew_19 : decode cX0_startAnew 19 = .ok (.iconst 0, 1) := by decide +kernel
theorem dX0_startAnew_20 : decode cX0_startAnew 20 = .ok (.putfield 31, 3) := by decide +kernel
theorem dX0_startAnew_23 : decode cX0_startAnew 23 = .ok (.aload_n 0, 1) := by decide +kernel
theorem dX0_startAnew_24 : decode cX0_startAnew 24 = .ok (.iconst 2, 1) := by decide +kernel
theorem dX0_startAnew_25 : decode cX0_startAnew 25 = .ok (.putfield 35, 3) := by decide +kernel
theorem dX0_startAnew_28 : decode cX0_startAnew 28 = .ok (.aload_n 0, 1) := by decide +kernel
theorem dX0_startAnew_29 : decode cX0_startAnew 29 = .ok (.iconst 0, 1) := by decide +kernel
theorem dX0_startAnew_30 : decode cX0_startAnew 30 = .ok (.putfield 49, 3) := by decide +kernel
theorem dX0_startAnew_33 : decode cX0_startAnew 33 = .ok (.aload_n 0, 1) := by decide +kernel
theorem dX0_startAnew_34 : decode cX0_startAnew 34 = .ok (.iconst 0, 1) := by decide +kernel
theorem dX0_startAnew_35 : decode cX0_startAnew 35 = .ok (.putfield 64, 3) := by decide +kernel
theorem dX0_startAnew_38 : decode cX0_startAnew 38 = .ok (.aload_n 0, 1) := by decide +kernel
theorem dX0_startAnew_39 : decode cX0_startAnew 39 = .ok (.iconst 0, 1) := by decide +kernel
theorem dX0_startAnew_40 : decode cX0_startAnew 40 = .ok (.putfield 52, 3) := by decide +kernel
theorem dX0_startAnew_43 : decode cX0_startAnew 43 = .ok (.aload_n 0, 1) := by decide +kernel
theorem dX0_startAnew_44 : decode cX0_startAnew 44 = .ok (.iconst (-1), 1) := by decide +kernel
theorem dX0_startAnew_45 : decode cX0_startAnew 45 = .ok (.putfield 71, 3) := by decide +kernel
theorem dX0_startAnew_48 : decode cX0_startAnew 48 = .ok (.aload_n 0, 1) := by decide +kernel
theorem dX0_startAnew_49 : decode cX0_startAnew 49 = .ok (.iconst 0, 1) := by decide +kernel
theorem dX0_startAnew_50 : decode cX0_startAnew 50 = .ok (.putfield 74, 3) := by decide +kernel
theorem dX0_startAnew_53 : decode cX0_startAnew 53 = .ok (.return_, 1) := by decide +kernel
theorem dX0_copyFrom_0 : decode cX0_copyFrom 0 = .ok (.aload_n 0, 1) := by decide +kernel
theorem dX0_copyFrom_1 : decode cX0_copyFrom 1 = .ok (.getfield 12, 3) := by decide +kernel
theorem dX0_copyFrom_4 : decode cX0_copyFrom 4 = .ok (.aload_n 1, 1) := by decide +kernel
theorem dX0_copyFrom_5 : decode cX0_copyFrom 5 = .ok (.getfield 12, 3) := by decide +kernel
theorem dX0_copyFrom_8 : decode cX0_copyFrom 8 = .ok (.invokevirtual 89, 3) := by decide +kernel
theorem dX0_copyFrom_11 : decode cX0_copyFrom 11 = .ok (.aload_n 0, 1) := by decide +kernel
theorem dX0_copyFrom_12 : decode cX0_copyFrom 12 = .ok (.getfield 21, 3) := by decide +kernel
theorem dX0_copyFrom_15 : decode cX0_copyFrom 15 = .ok (.aload_n 1, 1) := by decide +kernel
theorem dX0_copyFrom_16 : decode cX0_copyFrom 16 = .ok (.getfield 21, 3) := by decide +kernel
theorem dX0_copyFrom_19 : decode cX0_copyFrom 19 = .ok (.invokevirtual 93, 3) := by decide +kernel
theorem dX0_copyFrom_22 : decode cX0_copyFrom 22 = .ok (.aload_n 0, 1) := by decide +kernel
theorem dX0_copyFrom_23 : decode cX0_copyFrom 23 = .ok (.getfield 25, 3) := by decide +kernel
theorem dX0_copyFrom_26 : decode cX0_copyFrom 26 = .ok (.aload_n 1, 1) := by decide +kernel
theorem dX0_copyFrom_27 : decode cX0_copyFrom 27 = .ok (.getfield 25, 3) := by decide +kernel
theorem dX0_copyFrom_30 : decode cX0_copyFrom 30 = .ok (.invokevirtual 93, 3) := by decide +kernel
theorem dX0_copyFrom_33 : decode cX0_copyFrom 33 = .ok (.aload_n 0, 1) := by decide +kernel
theorem dX0_copyFrom_34 : decode cX0_copyFrom 34 = .ok (.aload_n 1, 1) := by decide +kernel
theorem dX0_copyFrom_35 : decode cX0_copyFrom 35 = .ok (.getfield 35, 3) := by decide +kernel
theorem dX0_copyFrom_38 : decode cX0_copyFrom 38 = .ok (.putfield 35, 3) := by decide +kernel
theorem dX0_copyFrom_41 : decode cX0_copyFrom 41 = .ok (.aload_n 0, 1) := by decide +kernel
theorem dX0_copyFrom_42 : decode cX0_copyFrom 42 = .ok (.aload_n 1, 1) := by decide +kernel
theorem dX0_copyFrom_43 : decode cX0_copyFrom 43 = .ok (.getfield 49, 3) := by decide +kernel
theorem dX0_copyFrom_46 : decode cX0_copyFrom 46 = .ok (.putfield 49, 3) := by decide +kernel
theorem dX0_copyFrom_49 : decode cX0_copyFrom 49 = .ok (.aload_n 0, 1) := by decide +kernel
theorem dX0_copyFrom_50 : decode cX0_copyFrom 50 = .ok (.aload_n 1, 1) := by decide +kernel
theorem dX0_copyFrom_51 : decode cX0_copyFrom 51 = .ok (.getfield 64, 3) := by decide +kernel
theorem dX0_copyFrom_54 : decode cX0_copyFrom 54 = .ok (.putfield 64, 3) := by decide +kernel
theorem dX0_copyFrom_57 : decode cX0_copyFrom 57 = .ok (.aload_n 0, 1) := by decide +kernel
theorem dX0_copyFrom_58 : decode cX0_copyFrom 58 = .ok (.aload_n 1, 1) := by decide +kernel
theorem dX0_copyFrom_59 : decode cX0_copyFrom 59 = .ok (.getfield 52, 3) := by decide +kernel
theorem dX0_copyFrom_62 : decode cX0_copyFrom 62 = .ok (.putfield 52, 3) := by decide +kernel
theorem dX0_copyFrom_65 : decode cX0_copyFrom 65 = .ok (.aload_n 0, 1) := by decide +kernel
theorem dX0_copyFrom_66 : decode cX0_copyFrom 66 = .ok (.aload_n 1, 1) := by decide +kernel
theorem dX0_copyFrom_67 : decode cX0_copyFrom 67 = .ok (.getfield 71, 3) := by decide +kernel
theorem dX0_copyFrom_70 : decode cX0_copyFrom 70 = .ok (.putfield 71, 3) := by decide +kernel
theorem dX0_copyFrom_73 : decode cX0_copyFrom 73 = .ok (.aload_n 0, 1) := by decide +kernel
theorem dX0_copyFrom_74 : decode cX0_copyFrom 74 = .ok (.aload_n 1, 1) := by decide +kernel
theorem dX0_copyFrom_75 : decode cX0_copyFrom 75 = .ok (.getfield 74, 3) := by decide +kernel
theorem dX0_copyFrom_78 : decode cX0_copyFrom 78 = .ok (.putfield 74, 3) := by decide +kernel
theorem dX0_copyFrom_81 : decode cX0_copyFrom 81 = .ok (.return_, 1) := by decide +kernel
theorem dX1_init_0 : decode cX1_init 0 = .ok (.aload_n 0, 1) := by decide +kernel
theorem dX1_init_1 : decode cX1_init 1 = .ok (.invokespecial 3, 3) := by decide +kernel
theorem dX1_init_4 : decode cX1_init 4 = .ok (.aload_n 0, 1) := by decide +kernel
theorem dX1_init_5 : decode cX1_init 5 = .ok (.bipush 6, 2) := by decide +kernel
theorem dX1_init_7 : decode cX1_init 7 = .ok (.anewarray 9, 3) := by decide +kernel
theorem dX1_init_10 : decode cX1_init 10 = .ok (.putfield 11, 3) := by decide +kernel
theorem dX1_init_13 : decode cX1_init 13 = .ok (.aload_n 0, 1) := by decide +kernel
theorem dX1_init_14 : decode cX1_init 14 = .ok (.bipush 6, 2) := by decide +kernel
theorem dX1_init_16 : decode cX1_init 16 = .ok (.anewarray 17, 3) := by decide +kernel
theorem dX1_init_19 : decode cX1_init 19 = .ok (.putfield 19, 3) := by decide +kernel
theorem dX1_init_22 : decode cX1_init 22 = .ok (.aload_n 0, 1) := by decide +kernel
theorem dX1_init_23 : decode cX1_init 23 = .ok (.bipush 6, 2) := by decide +kernel
theorem dX1_init_25 : decode cX1_init 25 = .ok (.anewarray 23, 3) := by decide +kernel
theorem dX1_init_28 : decode cX1_init 28 = .ok (.putfield 25, 3) := by decide +kernel
theorem dX1_init_31 : decode cX1_init 31 = .ok (.aload_n 0, 1) := by decide +kernel
theorem dX1_init_32 : decode cX1_init 32 = .ok (.new 29, 3) := by decide +kernel
theorem dX1_init_35 : decode cX1_init 35 = .ok (.dup, 1) := by decide +kernel
theorem dX1_init_36 : decode cX1_init 36 = .ok (.invokespecial 31, 3) := by decide +kernel
theorem dX1_init_39 : decode cX1_init 39 = .ok (.putfield 32, 3) := by decide +kernel
theorem dX1_init_42 : decode cX1_init 42 = .ok (.aload_n 0, 1) := by decide +kernel
theorem dX1_init_43 : decode cX1_init 43 = .ok (.new 36, 3) := by decide +kernel
theorem dX1_init_46 : decode cX1_init 46 = .ok (.dup, 1) := by decide +kernel
theorem dX1_init_47 : decode cX1_init 47 = .ok (.invokespecial 38, 3) := by decide +kernel
theorem dX1_init_50 : decode cX1_init 50 = .ok (.putfield 39, 3) := by decide +kernel
theorem dX1_init_53 : decode cX1_init 53 = .ok (.iconst 0, 1) := by decide +kernel
theorem dX1_init_54 : decode cX1_init 54 = .ok (.istore_n 1, 1) := by decide +kernel
theorem dX1_init_55 : decode cX1_init 55 = .ok (.iload_n 1, 1) := by decide +kernel
theorem dX1_init_56 : decode cX1_init 56 = .ok (.bipush 6, 2) := by decide +kernel
theorem dX1_init_58 : decode cX1_init 58 = .ok (.if_icmp .ge 22, 3) := by decide +kernel
theorem dX1_init_61 : decode cX1_init 61 = .ok (.aload_n 0, 1) := by decide +kernel
theorem dX1_init_62 : decode cX1_init 62 = .ok (.getfield 11, 3) := by decide +kernel
theorem dX1_init_65 : decode cX1_init 65 = .ok (.iload_n 1, 1) := by decide +kernel
theorem dX1_init_66 : decode cX1_init 66 = .ok (.new 9, 3) := by decide +kernel
theorem dX1_init_69 : decode cX1_init 69 = .ok (.dup, 1) := by decide +kernel
theorem dX1_init_70 : decode cX1_init 70 = .ok (.invokespecial 43, 3) := by decide +kernel
theorem dX1_init_73 : decode cX1_init 73 = .ok (.aastore, 1) := by decide +kernel
theorem dX1_init_74 : decode cX1_init 74 = .ok (.iinc 1 1, 3) := by decide +kernel
theorem dX1_init_77 : decode cX1_init 77 = .ok (.goto (-22), 3) := by decide +kernel
theorem dX1_init_80 : decode cX1_init 80 = .ok (.iconst 0, 1) := by decide +kernel
theorem dX1_init_81 : decode cX1_init 81 = .ok (.istore_n 1, 1) := by decide +kernel
theorem dX1_init_82 : decode cX1_init 82 = .ok (.iload_n 1, 1) := by decide +kernel
theorem dX1_init_83 : decode cX1_init 83 = .ok (.bipush 6, 2) := by decide +kernel
theorem dX1_init_85 : decode cX1_init 85 = .ok (.if_icmp .ge 22, 3) := by decide +kernel
theorem dX1_init_88 : decode cX1_init 88 = .ok (.aload_n 0, 1) := by decide +kernel
theorem dX1_init_89 : decode cX1_init 89 = .ok (.getfield 19, 3) := by decide +kernel
theorem dX1_init_92 : decode cX1_init 92 = .ok (.iload_n 1, 1) := by decide +kernel
theorem dX1_init_93 : decode cX1_init 93 = .ok (.new 17, 3) := by decide +kernel
theorem dX1_init_96 : decode cX1_init 96 = .ok (.dup, 1) := by decide +kernel
theorem dX1_init_97 : decode cX1_init 97 = .ok (.invokespecial 44, 3) := by decide +kernel
theorem dX1_init_100 : decode cX1_init 100 = .ok (.aastore, 1) := by decide +kernel
theorem dX1_init_101 : decode cX1_init 101 = .ok (.iinc 1 1, 3) := by decide +kernel
theorem dX1_init_104 : decode cX1_init 104 = .ok (.goto (-22), 3) := by decide +kernel
theorem dX1_init_107 : decode cX1_init 107 = .ok (.iconst 0, 1) := by decide +kernel
theorem dX1_init_108 : decode cX1_init 108 = .ok (.istore_n 1, 1) := by decide +kernel
theorem dX1_init_109 : decode cX1_init 109 = .ok (.iload_n 1, 1) := by decide +kernel
theorem dX1_init_110 : decode cX1_init 110 = .ok (.bipush 6, 2) := by decide +kernel
theorem dX1_init_112 : decode cX1_init 112 = .ok (.if_icmp .ge 22, 3) := by decide +kernel
theorem dX1_init_115 : decode cX1_init 115 = .ok (.aload_n 0, 1) := by decide +kernel
theorem dX1_init_116 : decode cX1_init 116 = .ok (.getfield 25, 3) := by decide +kernel
theorem dX1_init_119 : decode cX1_init 119 = .ok (.iload_n 1, 1) := by decide +kernel
theorem dX1_init_120 : decode cX1_init 120 = .ok (.new 23, 3) := by decide +kernel
theorem dX1_init_123 : decode cX1_init 123 = .ok (.dup, 1) := by decide +kernel
theorem dX1_init_124 : decode cX1_init 124 = .ok (.invokespecial 45, 3) := by decide +kernel
theorem dX1_init_127 : decode cX1_init 127 = .ok (.aastore, 1) := by decide +kernel
theorem dX1_init_128 : decode cX1_init 128 = .ok (.iinc 1 1, 3) := by decide +kernel
theorem dX1_init_131 : decode cX1_init 131 = .ok (.goto (-22), 3) := by decide +kernel
theorem dX1_init_134 : decode cX1_init 134 = .ok (.aload_n 0, 1) := by decide +kernel
theorem dX1_init_135 : decode cX1_init 135 = .ok (.iconst 3, 1) := by decide +kernel
theorem dX1_init_136 : decode cX1_init 136 = .ok (.invokevirtual 46, 3) := by decide +kernel
theorem dX1_init_139 : decode cX1_init 139 = .ok (.return_, 1) := by decide +kernel
theorem dX1_startAnew_0 : decode cX1_startAnew 0 = .ok (.iconst 0, 1) := by decide +kernel
theorem dX1_startAnew_1 : decode cX1_startAnew 1 = .ok (.istore_n 2, 1) := by decide +kernel
theorem dX1_startAnew_2 : decode cX1_startAnew 2 = .ok (.iload_n 2, 1) := by decide +kernel
theorem dX1_startAnew_3 : decode cX1_startAnew 3 = .ok (.bipush 6, 2) := by decide +kernel
theorem dX1_startAnew_5 : decode cX1_startAnew 5 = .ok (.if_icmp .ge 18, 3) := by decide +kernel
theorem dX1_startAnew_8 : decode cX1_startAnew 8 = .ok (.aload_n 0, 1) := by decide +kernel
theorem dX1_startAnew_9 : decode cX1_startAnew 9 = .ok (.getfield 11, 3) := by decide +kernel
theorem dX1_startAnew_12 : decode cX1_startAnew 12 = .ok (.iload_n 2, 1) := by decide +kernel
theorem dX1_startAnew_13 : decode cX1_startAnew 13 = .ok (.aaload, 1) := by decide +kernel
theorem dX1_startAnew_14 : decode cX1_startAnew 14 = .ok (.invokevirtual 50, 3) := by decide +kernel
theorem dX1_startAnew_17 : decode cX1_startAnew 17 = .ok (.iinc 2 1, 3) := by decide +kernel
theorem dX1_startAnew_20 : decode cX1_startAnew 20 = .ok (.goto (-18), 3) := by decide +kernel
theorem dX1_startAnew_23 : decode cX1_startAnew 23 = .ok (.iconst 0, 1) := by decide +kernel
theorem dX1_startAnew_24 : decode cX1_startAnew 24 = .ok (.istore_n 2, 1) := by decide +kernel
theorem dX1_startAnew_25 : decode cX1_startAnew 25 = .ok (.iload_n 2, 1) := by decide +kernel
theorem dX1_startAnew_26 : decode cX1_startAnew 26 = .ok (.bipush 6, 2) := by decide +kernel
theorem dX1_startAnew_28 : decode cX1_startAnew 28 = .ok (.if_icmp .ge 18, 3) := by decide +kernel
theorem dX1_startAnew_31 : decode cX1_startAnew 31 = .ok (.aload_n 0, 1) := by decide +kernel
theorem dX1_startAnew_32 : decode cX1_startAnew 32 = .ok (.getfield 25, 3) := by decide +kernel
theorem dX1_startAnew_35 : decode cX1_startAnew 35 = .ok (.iload_n 2, 1) := by decide +kernel
theorem dX1_startAnew_36 : decode cX1_startAnew 36 = .ok (.aaload, 1) := by decide +kernel
theorem dX1_startAnew_37 : decode cX1_startAnew 37 = .ok (.invokevirtual 52, 3) := by decide +kernel
theorem dX1_startAnew_40 : decode cX1_startAnew 40 = .ok (.iinc 2 1, 3) := by decide +kernel
theorem dX1_startAnew_43 : decode cX1_startAnew 43 = .ok (.goto (-18), 3) := by decide +kernel
theorem dX1_startAnew_46 : decode cX1_startAnew 46 = .ok (.aload_n 0, 1) := by decide +kernel
theorem dX1_startAnew_47 : decode cX1_startAnew 47 = .ok (.getfield 32, 3) := by decide +kernel
theorem dX1_startAnew_50 : decode cX1_startAnew 50 = .ok (.iconst 0, 1) := by decide +kernel
theorem dX1_startAnew_51 : decode cX1_startAnew 51 = .ok (.putfield 53, 3) := by decide +kernel
theorem dX1_startAnew_54 : decode cX1_startAnew 54 = .ok (.aload_n 0, 1) := by decide +kernel
theorem dX1_startAnew_55 : decode cX1_startAnew 55 = .ok (.getfield 39, 3) := by decide +kernel
theorem dX1_startAnew_58 : decode cX1_startAnew 58 = .ok (.invokevirtual 57, 3) := by decide +kernel
theorem dX1_startAnew_61 : decode cX1_startAnew 61 = .ok (.aload_n 0, 1) := by decide +kernel
theorem dX1_startAnew_62 : decode cX1_startAnew 62 = .ok (.iload_n 1, 1) := by decide +kernel
theorem dX1_startAnew_63 : decode cX1_startAnew 63 = .ok (.putfield 58, 3) := by decide +kernel
theorem dX1_startAnew_66 : decode cX1_startAnew 66 = .ok (.aload_n 0, 1) := by decide +kernel
theorem dX1_startAnew_67 : decode cX1_startAnew 67 = .ok (.iconst 0, 1) := by decide +kernel
theorem dX1_startAnew_68 : decode cX1_startAnew 68 = .ok (.putfield 61, 3) := by decide +kernel
theorem dX1_startAnew_71 : decode cX1_startAnew 71 = .ok (.aload_n 0, 1) := by decide +kernel
theorem dX1_startAnew_72 : decode cX1_startAnew 72 = .ok (.iconst 0, 1) := by decide +kernel
theorem dX1_startAnew_73 : decode cX1_startAnew 73 = .ok (.putfield 64, 3) := by decide +kernel
theorem dX1_startAnew_76 : decode cX1_startAnew 76 = .ok (.aload_n 0, 1) := by decide +kernel
theorem dX1_startAnew_77 : decode cX1_startAnew 77 = .ok (.iconst 0, 1) := by decide +kernel
theorem dX1_startAnew_78 : decode cX1_startAnew 78 = .ok (.putfield 67, 3) := by decide +kernel
theorem dX1_startAnew_81 : decode cX1_startAnew 81 = .ok (.return_, 1) := by decide +kernel
theorem dX1_hasBuffer_0 : decode cX1_hasBuffer 0 = .ok (.iload_n 1, 1) := by decide +kernel
theorem dX1_hasBuffer_1 : decode cX1_hasBuffer 1 = .ok (.ifCond .lt 15, 3) := by decide +kernel
theorem dX1_hasBuffer_4 : decode cX1_hasBuffer 4 = .ok (.iload_n 1, 1) := by decide +kernel
theorem dX1_hasBuffer_5 : decode cX1_hasBuffer 5 = .ok (.aload_n 0, 1) := by decide +kernel
theorem dX1_hasBuffer_6 : decode cX1_hasBuffer 6 = .ok (.getfield 58, 3) := by decide +kernel
theorem dX1_hasBuffer_9 : decode cX1_hasBuffer 9 = .ok (.if_icmp .ge 7, 3) := by decide +kernel
theorem dX1_hasBuffer_12 : decode cX1_hasBuffer 12 = .ok (.iconst 1, 1) := by decide +kernel
theorem dX1_hasBuffer_13 : decode cX1_hasBuffer 13 = .ok (.goto 4, 3) := by decide +kernel
theorem dX1_hasBuffer_16 : decode cX1_hasBuffer 16 = .ok (.iconst 0, 1) := by decide +kernel
theorem dX1_hasBuffer_17 : decode cX1_hasBuffer 17 = .ok (.ireturn, 1) := by decide +kernel
theorem dX1_hasBufferOrNone_0 : decode cX1_hasBufferOrNone 0 = .ok (.iload_n 1, 1) := by decide +kernel
theorem dX1_hasBufferOrNone_1 : decode cX1_hasBufferOrNone 1 = .ok (.iconst (-1), 1) := by decide +kernel
theorem dX1_hasBufferOrNone_2 : decode cX1_hasBufferOrNone 2 = .ok (.if_icmp .eq 11, 3) := by decide +kernel
theorem dX1_hasBufferOrNone_5 : decode cX1_hasBufferOrNone 5 = .ok (.aload_n 0, 1) := by decide +kernel
theorem dX1_hasBufferOrNone_6 : decode cX1_hasBufferOrNone 6 = .ok (.iload_n 1, 1) := by decide +kernel
theorem dX1_hasBufferOrNone_7 : decode cX1_hasBufferOrNone 7 = .ok (.invokevirtual 70, 3) := by decide +kernel
theorem dX1_hasBufferOrNone_10 : decode cX1_hasBufferOrNone 10 = .ok (.ifCond .eq 7, 3) := by decide +kernel
theorem dX1_hasBufferOrNone_13 : decode cX1_hasBufferOrNone 13 = .ok (.iconst 1, 1) := by decide +kernel
theorem dX1_hasBufferOrNone_14 : decode cX1_hasBufferOrNone 14 = .ok (.goto 4, 3) := by decide +kernel
theorem dX1_hasBufferOrNone_17 : decode cX1_hasBufferOrNone 17 = .ok (.iconst 0, 1) := by decide +kernel
theorem dX1_hasBufferOrNone_18 : decode cX1_hasBufferOrNone 18 = .ok (.ireturn, 1) := by decide +kernel
theorem dX1_hasStation_0 : decode cX1_hasStation 0 = .ok (.iload_n 1, 1) := by decide +kernel
theorem dX1_hasStation_1 : decode cX1_hasStation 1 = .ok (.ifCond .lt 15, 3) := by decide +kernel
theorem dX1_hasStation_4 : decode cX1_hasStation 4 = .ok (.iload_n 1, 1) := by decide +kernel
theorem dX1_hasStation_5 : decode cX1_hasStation 5 = .ok (.aload_n 0, 1) := by decide +kernel
theorem dX1_hasStation_6 : decode cX1_hasStation 6 = .ok (.getfield 61, 3) := by decide +kernel
theorem dX1_hasStation_9 : decode cX1_hasStation 9 = .ok (.if_icmp .ge 7, 3) := by decide +kernel
theorem dX1_hasStation_12 : decode cX1_hasStation 12 = .ok (.iconst 1, 1) := by decide +kernel
theorem dX1_hasStation_13 : decode cX1_hasStation 13 = .ok (.goto 4, 3) := by decide +kernel
theorem dX1_hasStation_16 : decode cX1_hasStation 16 = .ok (.iconst 0, 1) := by decide +kernel
theorem dX1_hasStation_17 : decode cX1_hasStation 17 = .ok (.ireturn, 1) := by decide +kernel
theorem dX1_move_0 : decode cX1_move 0 = .ok (.aload_n 0, 1) := by decide +kernel
theorem dX1_move_1 : decode cX1_move 1 = .ok (.getfield 11, 3) := by decide +kernel
theorem dX1_move_4 : decode cX1_move 4 = .ok (.iload_n 1, 1) := by decide +kernel
theorem dX1_move_5 : decode cX1_move 5 = .ok (.iload_n 2, 1) := by decide +kernel
theorem dX1_move_6 : decode cX1_move 6 = .ok (.invokestatic 74, 3) := by decide +kernel
theorem dX1_move_9 : decode cX1_move 9 = .ok (.aaload, 1) := by decide +kernel
theorem dX1_move_10 : decode cX1_move 10 = .ok (.getfield 80, 3) := by decide +kernel
theorem dX1_move_13 : decode cX1_move 13 = .ok (.astore 4, 2) := by decide +kernel
theorem dX1_move_15 : decode cX1_move 15 = .ok (.aload_n 0, 1) := by decide +kernel
theorem dX1_move_16 : decode cX1_move 16 = .ok (.getfield 11, 3) := by decide +kernel
theorem dX1_move_19 : decode cX1_move 19 = .ok (.iload_n 1, 1) := by decide +kernel
theorem dX1_move_20 : decode cX1_move 20 = .ok (.iload_n 2, 1) := by decide +kernel
theorem dX1_move_21 : decode cX1_move 21 = .ok (.invokestatic 83, 3) := by decide +kernel
theorem dX1_move_24 : decode cX1_move 24 = .ok (.aaload, 1) := by decide +kernel
theorem dX1_move_25 : decode cX1_move 25 = .ok (.getfield 80, 3) := by decide +kernel
theorem dX1_move_28 : decode cX1_move 28 = .ok (.astore 5, 2) := by decide +kernel
theorem dX1_move_30 : decode cX1_move 30 = .ok (.aload 4, 2) := by decide +kernel
theorem dX1_move_32 : decode cX1_move 32 = .ok (.invokevirtual 86, 3) := by decide +kernel
theorem dX1_move_35 : decode cX1_move 35 = .ok (.aload 5, 2) := by decide +kernel
theorem dX1_move_37 : decode cX1_move 37 = .ok (.invokevirtual 86, 3) := by decide +kernel
theorem dX1_move_40 : decode cX1_move 40 = .ok (.iconst 0, 1) := by decide +kernel
theorem dX1_move_41 : decode cX1_move 41 = .ok (.istore 6, 2) := by decide +kernel
theorem dX1_move_43 : decode cX1_move 43 = .ok (.iload 6, 2) := by decide +kernel
theorem dX1_move_45 : decode cX1_move 45 = .ok (.iload_n 3, 1) := by decide +kernel
theorem dX1_move_46 : decode cX1_move 46 = .ok (.if_icmp .ge 27, 3) := by decide +kernel
theorem dX1_move_49 : decode cX1_move 49 = .ok (.aload_n 0, 1) := by decide +kernel
theorem dX1_move_50 : decode cX1_move 50 = .ok (.getfield 11, 3) := by decide +kernel
theorem dX1_move_53 : decode cX1_move 53 = .ok (.iload_n 1, 1) := by decide +kernel
theorem dX1_move_54 : decode cX1_move 54 = .ok (.aaload, 1) := by decide +kernel
theorem dX1_move_55 : decode cX1_move 55 = .ok (.aload_n 0, 1) := by decide +kernel
theorem dX1_move_56 : decode cX1_move 56 = .ok (.getfield 11, 3) := by decide +kernel
theorem dX1_move_59 : decode cX1_move 59 = .ok (.iload_n 2, 1) := by decide +kernel
theorem dX1_move_60 : decode cX1_move 60 = .ok (.aaload, 1) := by decide +kernel
theorem dX1_move_61 : decode cX1_move 61 = .ok (.invokestatic 89, 3) := by decide +kernel
theorem dX1_move_64 : decode cX1_move 64 = .ok (.ifCond .eq 9, 3) := by decide +kernel
theorem dX1_move_67 : decode cX1_move 67 = .ok (.iinc 6 1, 3) := by decide +kernel
theorem dX1_move_70 : decode cX1_move 70 = .ok (.goto (-27), 3) := by decide +kernel
theorem dX1_move_73 : decode cX1_move 73 = .ok (.aload 4, 2) := by decide +kernel
theorem dX1_move_75 : decode cX1_move 75 = .ok (.aload 5, 2) := by decide +kernel
theorem dX1_move_77 : decode cX1_move 77 = .ok (.iload 6, 2) := by decide +kernel
theorem dX1_move_79 : decode cX1_move 79 = .ok (.iload_n 3, 1) := by decide +kernel
theorem dX1_move_80 : decode cX1_move 80 = .ok (.if_icmp .ge 7, 3) := by decide +kernel
theorem dX1_move_83 : decode cX1_move 83 = .ok (.iconst 1, 1) := by decide +kernel
theorem dX1_move_84 : decode cX1_move 84 = .ok (.goto 4, 3) := by decide +kernel
theorem dX1_move_87 : decode cX1_move 87 = .ok (.iconst 0, 1) := by decide +kernel
theorem dX1_move_88 : decode cX1_move 88 = .ok (.invokestatic 93, 3) := by decide +kernel
theorem dX1_move_91 : decode cX1_move 91 = .ok (.iload 6, 2) := by decide +kernel
theorem dX1_move_93 : decode cX1_move 93 = .ok (.ireturn, 1) := by decide +kernel
theorem dX1_moveOne_0 : decode cX1_moveOne 0 = .ok (.aload_n 0, 1) := by decide +kernel
theorem dX1_moveOne_1 : decode cX1_moveOne 1 = .ok (.iconst (-1), 1) := by decide +kernel
theorem dX1_moveOne_2 : decode cX1_moveOne 2 = .ok (.invokevirtual 97, 3) := by decide +kernel
theorem dX1_moveOne_5 : decode cX1_moveOne 5 = .ok (.istore_n 2, 1) := by decide +kernel
theorem dX1_moveOne_6 : decode cX1_moveOne 6 = .ok (.iload_n 2, 1) := by decide +kernel
theorem dX1_moveOne_7 : decode cX1_moveOne 7 = .ok (.bipush (-5), 2) := by decide +kernel
theorem dX1_moveOne_9 : decode cX1_moveOne 9 = .ok (.if_icmp .ne 5, 3) := by decide +kernel
theorem dX1_moveOne_12 : decode cX1_moveOne 12 = .ok (.iconst 0, 1) := by decide +kernel
theorem dX1_moveOne_13 : decode cX1_moveOne 13 = .ok (.ireturn, 1) := by decide +kernel
theorem dX1_moveOne_14 : decode cX1_moveOne 14 = .ok (.aload_n 1, 1) := by decide +kernel
theorem dX1_moveOne_15 : decode cX1_moveOne 15 = .ok (.iload_n 2, 1) := by decide +kernel
theorem dX1_moveOne_16 : decode cX1_moveOne 16 = .ok (.iconst (-1), 1) := by decide +kernel
theorem dX1_moveOne_17 : decode cX1_moveOne 17 = .ok (.invokevirtual 101, 3) := by decide +kernel
theorem dX1_moveOne_20 : decode cX1_moveOne 20 = .ok (.ifCond .ne 13, 3) := by decide +kernel
theorem dX1_moveOne_23 : decode cX1_moveOne 23 = .ok (.aload_n 0, 1) := by decide +kernel
theorem dX1_moveOne_24 : decode cX1_moveOne 24 = .ok (.getfield 105, 3) := by decide +kernel
theorem dX1_moveOne_27 : decode cX1_moveOne 27 = .ok (.iload_n 2, 1) := by decide +kernel
theorem dX1_moveOne_28 : decode cX1_moveOne 28 = .ok (.invokevirtual 108, 3) := by decide +kernel
theorem dX1_moveOne_31 : decode cX1_moveOne 31 = .ok (.iconst 0, 1) := by decide +kernel
theorem dX1_moveOne_32 : decode cX1_moveOne 32 = .ok (.ireturn, 1) := by decide +kernel
theorem dX1_moveOne_33 : decode cX1_moveOne 33 = .ok (.iconst 1, 1) := by decide +kernel
theorem dX1_moveOne_34 : decode cX1_moveOne 34 = .ok (.ireturn, 1) := by decide +kernel
theorem dX1_leaveBoth_0 : decode cX1_leaveBoth 0 = .ok (.iload_n 2, 1) := by decide +kernel
theorem dX1_leaveBoth_1 : decode cX1_leaveBoth 1 = .ok (.ifCond .eq 14, 3) := by decide +kernel
theorem dX1_leaveBoth_4 : decode cX1_leaveBoth 4 = .ok (.aload_n 1, 1) := by decide +kernel
theorem dX1_leaveBoth_5 : decode cX1_leaveBoth 5 = .ok (.invokevirtual 111, 3) := by decide +kernel
theorem dX1_leaveBoth_8 : decode cX1_leaveBoth 8 = .ok (.aload_n 0, 1) := by decide +kernel
theorem dX1_leaveBoth_9 : decode cX1_leaveBoth 9 = .ok (.invokevirtual 111, 3) := by decide +kernel
theorem dX1_leaveBoth_12 : decode cX1_leaveBoth 12 = .ok (.goto 11, 3) := by decide +kernel
theorem dX1_leaveBoth_15 : decode cX1_leaveBoth 15 = .ok (.aload_n 1, 1) := by decide +kernel
theorem dX1_leaveBoth_16 : decode cX1_leaveBoth 16 = .ok (.invokevirtual 114, 3) := by decide +kernel
theorem dX1_leaveBoth_19 : decode cX1_leaveBoth 19 = .ok (.aload_n 0, 1) := by decide +kernel
theorem dX1_leaveBoth_20 : decode cX1_leaveBoth 20 = .ok (.invokevirtual 114, 3) := by decide +kernel
theorem dX1_leaveBoth_23 : decode cX1_leaveBoth 23 = .ok (.return_, 1) := by decide +kernel
theorem dX1_tick_0 : decode cX1_tick 0 = .ok (.aload_n 0, 1) := by decide +kernel
theorem dX1_tick_1 : decode cX1_tick 1 = .ok (.dup, 1) := by decide +kernel
theorem dX1_tick_2 : decode cX1_tick 2 = .ok (.getfield 64, 3) := by decide +kernel
theorem dX1_tick_5 : decode cX1_tick 5 = .ok (.iconst 1, 1) := by decide +kernel
theorem dX1_tick_6 : decode cX1_tick 6 = .ok (.iadd, 1) := by decide +kernel
theorem dX1_tick_7 : decode cX1_tick 7 = .ok (.putfield 64, 3) := by decide +kernel
theorem dX1_tick_10 : decode cX1_tick 10 = .ok (.iconst 0, 1) := by decide +kernel
theorem dX1_tick_11 : decode cX1_tick 11 = .ok (.istore_n 1, 1) := by decide +kernel
theorem dX1_tick_12 : decode cX1_tick 12 = .ok (.iconst 0, 1) := by decide +kernel
theorem dX1_tick_13 : decode cX1_tick 13 = .ok (.istore_n 2, 1) := by decide +kernel
theorem dX1_tick_14 : decode cX1_tick 14 = .ok (.iload_n 2, 1) := by decide +kernel
theorem dX1_tick_15 : decode cX1_tick 15 = .ok (.aload_n 0, 1) := by decide +kernel
theorem dX1_tick_16 : decode cX1_tick 16 = .ok (.getfield 61, 3) := by decide +kernel
theorem dX1_tick_19 : decode cX1_tick 19 = .ok (.if_icmp .ge 22, 3) := by decide +kernel
theorem dX1_tick_22 : decode cX1_tick 22 = .ok (.iload_n 1, 1) := by decide +kernel
theorem dX1_tick_23 : decode cX1_tick 23 = .ok (.aload_n 0, 1) := by decide +kernel
theorem dX1_tick_24 : decode cX1_tick 24 = .ok (.aload_n 0, 1) := by decide +kernel
theorem dX1_tick_25 : decode cX1_tick 25 = .ok (.getfield 19, 3) := by decide +kernel
theorem dX1_tick_28 : decode cX1_tick 28 = .ok (.iload_n 2, 1) := by decide +kernel
theorem dX1_tick_29 : decode cX1_tick 29 = .ok (.aaload, 1) := by decide +kernel
theorem dX1_tick_30 : decode cX1_tick 30 = .ok (.invokevirtual 117, 3) := by decide +kernel
theorem dX1_tick_33 : decode cX1_tick 33 = .ok (.iadd, 1) := by decide +kernel
theorem dX1_tick_34 : decode cX1_tick 34 = .ok (.istore_n 1, 1) := by decide +kernel
theorem dX1_tick_35 : decode cX1_tick 35 = .ok (.iinc 2 1, 3) := by decide +kernel
theorem dX1_tick_38 : decode cX1_tick 38 = .ok (.goto (-24), 3) := by decide +kernel
theorem dX1_tick_41 : decode cX1_tick 41 = .ok (.iload_n 1, 1) := by decide +kernel
theorem dX1_tick_42 : decode cX1_tick 42 = .ok (.ireturn, 1) := by decide +kernel
theorem dX1_tickStation_0 : decode cX1_tickStation 0 = .ok (.aload_n 0, 1) := by decide +kernel
theorem dX1_tickStation_1 : decode cX1_tickStation 1 = .ok (.aload_n 1, 1) := by decide +kernel
theorem dX1_tickStation_2 : decode cX1_tickStation 2 = .ok (.getfield 121, 3) := by decide +kernel
theorem dX1_tickStation_5 : decode cX1_tickStation 5 = .ok (.invokevirtual 70, 3) := by decide +kernel
theorem dX1_tickStation_8 : decode cX1_tickStation 8 = .ok (.ifCond .ne 19, 3) := by decide +kernel
theorem dX1_tickStation_11 : decode cX1_tickStation 11 = .ok (.aload_n 0, 1) := by decide +kernel
theorem dX1_tickStation_12 : decode cX1_tickStation 12 = .ok (.dup, 1) := by decide +kernel
theorem dX1_tickStation_13 : decode cX1_tickStation 13 = .ok (.getfield 67, 3) := by decide +kernel
theorem dX1_tickStation_16 : decode cX1_tickStation 16 = .ok (.iconst 1, 1) := by decide +kernel
theorem dX1_tickStation_17 : decode cX1_tickStation 17 = .ok (.iadd, 1) := by decide +kernel
theorem dX1_tickStation_18 : decode cX1_tickStation 18 = .ok (.putfield 67, 3) := by decide +kernel
theorem dX1_tickStation_21 : decode cX1_tickStation 21 = .ok (.aload_n 0, 1) := by decide +kernel
theorem dX1_tickStation_22 : decode cX1_tickStation 22 = .ok (.aload_n 1, 1) := by decide +kernel
theorem dX1_tickStation_23 : decode cX1_tickStation 23 = .ok (.invokevirtual 124, 3) := by decide +kernel
theorem dX1_tickStation_26 : decode cX1_tickStation 26 = .ok (.ireturn, 1) := by decide +kernel
theorem dX1_tickStation_27 : decode cX1_tickStation 27 = .ok (.aload_n 0, 1) := by decide +kernel
theorem dX1_tickStation_28 : decode cX1_tickStation 28 = .ok (.getfield 11, 3) := by decide +kernel
theorem dX1_tickStation_31 : decode cX1_tickStation 31 = .ok (.aload_n 1, 1) := by decide +kernel
theorem dX1_tickStation_32 : decode cX1_tickStation 32 = .ok (.getfield 121, 3) := by decide +kernel
theorem dX1_tickStation_35 : decode cX1_tickStation 35 = .ok (.aaload, 1) := by decide +kernel
theorem dX1_tickStation_36 : decode cX1_tickStation 36 = .ok (.getfield 80, 3) := by decide +kernel
theorem dX1_tickStation_39 : decode cX1_tickStation 39 = .ok (.astore_n 2, 1) := by decide +kernel
theorem dX1_tickStation_40 : decode cX1_tickStation 40 = .ok (.aload_n 2, 1) := by decide +kernel
theorem dX1_tickStation_41 : decode cX1_tickStation 41 = .ok (.invokevirtual 86, 3) := by decide +kernel
theorem dX1_tickStation_44 : decode cX1_tickStation 44 = .ok (.aload_n 0, 1) := by decide +kernel
theorem dX1_tickStation_45 : decode cX1_tickStation 45 = .ok (.aload_n 1, 1) := by decide +kernel
theorem dX1_tickStation_46 : decode cX1_tickStation 46 = .ok (.invokevirtual 124, 3) := by decide +kernel
theorem dX1_tickStation_49 : decode cX1_tickStation 49 = .ok (.istore_n 3, 1) := by decide +kernel
theorem dX1_tickStation_50 : decode cX1_tickStation 50 = .ok (.aload_n 2, 1) := by decide +kernel
theorem dX1_tickStation_51 : decode cX1_tickStation 51 = .ok (.invokevirtual 114, 3) := by decide +kernel
theorem dX1_tickStation_54 : decode cX1_tickStation 54 = .ok (.iload_n 3, 1) := by decide +kernel
theorem dX1_tickStation_55 : decode cX1_tickStation 55 = .ok (.ireturn, 1) := by decide +kernel
theorem dX1_work_0 : decode cX1_work 0 = .ok (.aload_n 1, 1) := by decide +kernel
theorem dX1_work_1 : decode cX1_work 1 = .ok (.invokevirtual 127, 3) := by decide +kernel
theorem dX1_work_4 : decode cX1_work 4 = .ok (.aload_n 1, 1) := by decide +kernel
theorem dX1_work_5 : decode cX1_work 5 = .ok (.getfield 130, 3) := by decide +kernel
theorem dX1_work_8 : decode cX1_work 8 = .ok (.iconst 2, 1) := by decide +kernel
theorem dX1_work_9 : decode cX1_work 9 = .ok (.if_icmp .ne 11, 3) := by decide +kernel
theorem dX1_work_12 : decode cX1_work 12 = .ok (.aload_n 0, 1) := by decide +kernel
theorem dX1_work_13 : decode cX1_work 13 = .ok (.aload_n 1, 1) := by decide +kernel
theorem dX1_work_14 : decode cX1_work 14 = .ok (.invokevirtual 133, 3) := by decide +kernel
theorem dX1_work_17 : decode cX1_work 17 = .ok (.goto 4, 3) := by decide +kernel
theorem dX1_work_20 : decode cX1_work 20 = .ok (.iconst 0, 1) := by decide +kernel
theorem dX1_work_21 : decode cX1_work 21 = .ok (.istore_n 2, 1) := by decide +kernel
theorem dX1_work_22 : decode cX1_work 22 = .ok (.aload_n 1, 1) := by decide +kernel
theorem dX1_work_23 : decode cX1_work 23 = .ok (.getfield 130, 3) := by decide +kernel
theorem dX1_work_26 : decode cX1_work 26 = .ok (.ifCond .ne 46, 3) := by decide +kernel
theorem dX1_work_29 : decode cX1_work 29 = .ok (.aload_n 1, 1) := by decide +kernel
theorem dX1_work_30 : decode cX1_work 30 = .ok (.aload_n 0, 1) := by decide +kernel
theorem dX1_work_31 : decode cX1_work 31 = .ok (.aload_n 1, 1) := by decide +kernel
theorem dX1_work_32 : decode cX1_work 32 = .ok (.getfield 136, 3) := by decide +kernel
theorem dX1_work_35 : decode cX1_work 35 = .ok (.invokevirtual 70, 3) := by decide +kernel
theorem dX1_work_38 : decode cX1_work 38 = .ok (.ifCond .eq 18, 3) := by decide +kernel
theorem dX1_work_41 : decode cX1_work 41 = .ok (.aload_n 0, 1) := by decide +kernel
theorem dX1_work_42 : decode cX1_work 42 = .ok (.aload_n 1, 1) := by decide +kernel
theorem dX1_work_43 : decode cX1_work 43 = .ok (.getfield 139, 3) := by decide +kernel
theorem dX1_work_46 : decode cX1_work 46 = .ok (.aload_n 1, 1) := by decide +kernel
theorem dX1_work_47 : decode cX1_work 47 = .ok (.getfield 136, 3) := by decide +kernel
theorem dX1_work_50 : decode cX1_work 50 = .ok (.invokevirtual 142, 3) := by decide +kernel
theorem dX1_work_53 : decode cX1_work 53 = .ok (.goto 16, 3) := by decide +kernel
theorem dX1_work_56 : decode cX1_work 56 = .ok (.aload_n 0, 1) := by decide +kernel
theorem dX1_work_57 : decode cX1_work 57 = .ok (.getfield 11, 3) := by decide +kernel
theorem dX1_work_60 : decode cX1_work 60 = .ok (.aload_n 1, 1) := by decide +kernel
theorem dX1_work_61 : decode cX1_work 61 = .ok (.getfield 139, 3) := by decide +kernel
theorem dX1_work_64 : decode cX1_work 64 = .ok (.aaload, 1) := by decide +kernel
theorem dX1_work_65 : decode cX1_work 65 = .ok (.iconst (-1), 1) := by decide +kernel
theorem dX1_work_66 : decode cX1_work 66 = .ok (.invokevirtual 97, 3) := by decide +kernel
theorem dX1_work_69 : decode cX1_work 69 = .ok (.invokevirtual 145, 3) := by decide +kernel
theorem dX1_work_72 : decode cX1_work 72 = .ok (.iload_n 2, 1) := by decide +kernel
theorem dX1_work_73 : decode cX1_work 73 = .ok (.ireturn, 1) := by decide +kernel
theorem dX1_deliver_0 : decode cX1_deliver 0 = .ok (.aload_n 0, 1) := by decide +kernel
theorem dX1_deliver_1 : decode cX1_deliver 1 = .ok (.getfield 11, 3) := by decide +kernel
theorem dX1_deliver_4 : decode cX1_deliver 4 = .ok (.aload_n 1, 1) := by decide +kernel
theorem dX1_deliver_5 : decode cX1_deliver 5 = .ok (.getfield 148, 3) := by decide +kernel
theorem dX1_deliver_8 : decode cX1_deliver 8 = .ok (.aaload, 1) := by decide +kernel
theorem dX1_deliver_9 : decode cX1_deliver 9 = .ok (.aload_n 1, 1) := by decide +kernel
theorem dX1_deliver_10 : decode cX1_deliver 10 = .ok (.getfield 151, 3) := by decide +kernel
theorem dX1_deliver_13 : decode cX1_deliver 13 = .ok (.iconst (-1), 1) := by decide +kernel
theorem dX1_deliver_14 : decode cX1_deliver 14 = .ok (.invokevirtual 101, 3) := by decide +kernel
theorem dX1_deliver_17 : decode cX1_deliver 17 = .ok (.ifCond .ne 15, 3) := by decide +kernel
theorem dX1_deliver_20 : decode cX1_deliver 20 = .ok (.aload_n 1, 1) := by decide +kernel
theorem dX1_deliver_21 : decode cX1_deliver 21 = .ok (.dup, 1) := by decide +kernel
theorem dX1_deliver_22 : decode cX1_deliver 22 = .ok (.getfield 154, 3) := by decide +kernel
theorem dX1_deliver_25 : decode cX1_deliver 25 = .ok (.iconst 1, 1) := by decide +kernel
theorem dX1_deliver_26 : decode cX1_deliver 26 = .ok (.iadd, 1) := by decide +kernel
theorem dX1_deliver_27 : decode cX1_deliver 27 = .ok (.putfield 154, 3) := by decide +kernel
theorem dX1_deliver_30 : decode cX1_deliver 30 = .ok (.iconst 0, 1) := by decide +kernel
theorem dX1_deliver_31 : decode cX1_deliver 31 = .ok (.ireturn, 1) := by decide +kernel
theorem dX1_deliver_32 : decode cX1_deliver 32 = .ok (.aload_n 1, 1) := by decide +kernel
theorem dX1_deliver_33 : decode cX1_deliver 33 = .ok (.invokevirtual 157, 3) := by decide +kernel
theorem dX1_deliver_36 : decode cX1_deliver 36 = .ok (.aload_n 1, 1) := by decide +kernel
theorem dX1_deliver_37 : decode cX1_deliver 37 = .ok (.dup, 1) := by decide +kernel
theorem dX1_deliver_38 : decode cX1_deliver 38 = .ok (.getfield 160, 3) := by decide +kernel
theorem dX1_deliver_41 : decode cX1_deliver 41 = .ok (.iconst 1, 1) := by decide +kernel
theorem dX1_deliver_42 : decode cX1_deliver 42 = .ok (.iadd, 1) := by decide +kernel
theorem dX1_deliver_43 : decode cX1_deliver 43 = .ok (.putfield 160, 3) := by decide +kernel
theorem dX1_deliver_46 : decode cX1_deliver 46 = .ok (.iconst 1, 1) := by decide +kernel
theorem dX1_deliver_47 : decode cX1_deliver 47 = .ok (.ireturn, 1) := by decide +kernel
theorem dX1_takePair_0 : decode cX1_takePair 0 = .ok (.aload_n 0, 1) := by decide +kernel
theorem dX1_takePair_1 : decode cX1_takePair 1 = .ok (.getfield 11, 3) := by decide +kernel
theorem dX1_takePair_4 : decode cX1_takePair 4 = .ok (.iload_n 1, 1) := by decide +kernel
theorem dX1_takePair_5 : decode cX1_takePair 5 = .ok (.iload_n 2, 1) := by decide +kernel
theorem dX1_takePair_6 : decode cX1_takePair 6 = .ok (.invokestatic 74, 3) := by decide +kernel
theorem dX1_takePair_9 : decode cX1_takePair 9 = .ok (.aaload, 1) := by decide +kernel
theorem dX1_takePair_10 : decode cX1_takePair 10 = .ok (.astore_n 3, 1) := by decide +kernel
theorem dX1_takePair_11 : decode cX1_takePair 11 = .ok (.aload_n 0, 1) := by decide +kernel
theorem dX1_takePair_12 : decode cX1_takePair 12 = .ok (.getfield 11, 3) := by decide +kernel
theorem dX1_takePair_15 : decode cX1_takePair 15 = .ok (.iload_n 1, 1) := by decide +kernel
theorem dX1_takePair_16 : decode cX1_takePair 16 = .ok (.iload_n 2, 1) := by decide +kernel
theorem dX1_takePair_17 : decode cX1_takePair 17 = .ok (.invokestatic 83, 3) := by decide +kernel
theorem dX1_takePair_20 : decode cX1_takePair 20 = .ok (.aaload, 1) := by decide +kernel
theorem dX1_takePair_21 : decode cX1_takePair 21 = .ok (.astore 4, 2) := by decide +kernel
theorem dX1_takePair_23 : decode cX1_takePair 23 = .ok (.aload_n 3, 1) := by decide +kernel
theorem dX1_takePair_24 : decode cX1_takePair 24 = .ok (.getfield 80, 3) := by decide +kernel
theorem dX1_takePair_27 : decode cX1_takePair 27 = .ok (.invokevirtual 86, 3) := by decide +kernel
theorem dX1_takePair_30 : decode cX1_takePair 30 = .ok (.aload 4, 2) := by decide +kernel
theorem dX1_takePair_32 : decode cX1_takePair 32 = .ok (.getfield 80, 3) := by decide +kernel
theorem dX1_takePair_35 : decode cX1_takePair 35 = .ok (.invokevirtual 86, 3) := by decide +kernel
theorem dX1_takePair_38 : decode cX1_takePair 38 = .ok (.iload_n 1, 1) := by decide +kernel
theorem dX1_takePair_39 : decode cX1_takePair 39 = .ok (.iload_n 2, 1) := by decide +kernel
theorem dX1_takePair_40 : decode cX1_takePair 40 = .ok (.if_icmp .ne 7, 3) := by decide +kernel
theorem dX1_takePair_43 : decode cX1_takePair 43 = .ok (.iconst 2, 1) := by decide +kernel
theorem dX1_takePair_44 : decode cX1_takePair 44 = .ok (.goto 4, 3) := by decide +kernel
theorem dX1_takePair_47 : decode cX1_takePair 47 = .ok (.iconst 1, 1) := by decide +kernel
theorem dX1_takePair_48 : decode cX1_takePair 48 = .ok (.istore 5, 2) := by decide +kernel
theorem dX1_takePair_50 : decode cX1_takePair 50 = .ok (.bipush (-5), 2) := by decide +kernel
theorem dX1_takePair_52 : decode cX1_takePair 52 = .ok (.istore 6, 2) := by decide +kernel
theorem dX1_takePair_54 : decode cX1_takePair 54 = .ok (.aload_n 3, 1) := by decide +kernel
theorem dX1_takePair_55 : decode cX1_takePair 55 = .ok (.iload 5, 2) := by decide +kernel
theorem dX1_takePair_57 : decode cX1_takePair 57 = .ok (.invokevirtual 163, 3) := by decide +kernel
theorem dX1_takePair_60 : decode cX1_takePair 60 = .ok (.ifCond .eq 25, 3) := by decide +kernel
theorem dX1_takePair_63 : decode cX1_takePair 63 = .ok (.aload 4, 2) := by decide +kernel
theorem dX1_takePair_65 : decode cX1_takePair 65 = .ok (.iload 5, 2) := by decide +kernel
theorem dX1_takePair_67 : decode cX1_takePair 67 = .ok (.invokevirtual 163, 3) := by decide +kernel
theorem dX1_takePair_70 : decode cX1_takePair 70 = .ok (.ifCond .eq 15, 3) := by decide +kernel
theorem dX1_takePair_73 : decode cX1_takePair 73 = .ok (.aload_n 3, 1) := by decide +kernel
theorem dX1_takePair_74 : decode cX1_takePair 74 = .ok (.invokevirtual 166, 3) := by decide +kernel
theorem dX1_takePair_77 : decode cX1_takePair 77 = .ok (.aload 4, 2) := by decide +kernel
theorem dX1_takePair_79 : decode cX1_takePair 79 = .ok (.invokevirtual 166, 3) := by decide +kernel
theorem dX1_takePair_82 : decode cX1_takePair 82 = .ok (.iadd, 1) := by decide +kernel
theorem dX1_takePair_83 : decode cX1_takePair 83 = .ok (.istore 6, 2) := by decide +kernel
theorem dX1_takePair_85 : decode cX1_takePair 85 = .ok (.aload_n 3, 1) := by decide +kernel
theorem dX1_takePair_86 : decode cX1_takePair 86 = .ok (.getfield 80, 3) := by decide +kernel
theorem dX1_takePair_89 : decode cX1_takePair 89 = .ok (.aload 4, 2) := by decide +kernel
theorem dX1_takePair_91 : decode cX1_takePair 91 = .ok (.getfield 80, 3) := by decide +kernel
theorem dX1_takePair_94 : decode cX1_takePair 94 = .ok (.iload 6, 2) := by decide +kernel
theorem dX1_takePair_96 : decode cX1_takePair 96 = .ok (.bipush (-5), 2) := by decide +kernel
theorem dX1_takePair_98 : decode cX1_takePair 98 = .ok (.if_icmp .ne 7, 3) := by decide +kernel
theorem dX1_takePair_101 : decode cX1_takePair 101 = .ok (.iconst 1, 1) := by decide +kernel
theorem dX1_takePair_102 : decode cX1_takePair 102 = .ok (.goto 4, 3) := by decide +kernel
theorem dX1_takePair_105 : decode cX1_takePair 105 = .ok (.iconst 0, 1) := by decide +kernel
theorem dX1_takePair_106 : decode cX1_takePair 106 = .ok (.invokestatic 93, 3) := by decide +kernel
theorem dX1_takePair_109 : decode cX1_takePair 109 = .ok (.iload 6, 2) := by decide +kernel
theorem dX1_takePair_111 : decode cX1_takePair 111 = .ok (.ireturn, 1) := by decide +kernel
theorem dX1_tryWish_0 : decode cX1_tryWish 0 = .ok (.aload_n 0, 1) := by decide +kernel
theorem dX1_tryWish_1 : decode cX1_tryWish 1 = .ok (.getfield 25, 3) := by decide +kernel
theorem dX1_tryWish_4 : decode cX1_tryWish 4 = .ok (.iload_n 1, 1) := by decide +kernel
theorem dX1_tryWish_5 : decode cX1_tryWish 5 = .ok (.aaload, 1) := by decide +kernel
theorem dX1_tryWish_6 : decode cX1_tryWish 6 = .ok (.astore_n 2, 1) := by decide +kernel
theorem dX1_tryWish_7 : decode cX1_tryWish 7 = .ok (.aload_n 0, 1) := by decide +kernel
theorem dX1_tryWish_8 : decode cX1_tryWish 8 = .ok (.getfield 11, 3) := by decide +kernel
theorem dX1_tryWish_11 : decode cX1_tryWish 11 = .ok (.aload_n 2, 1) := by decide +kernel
theorem dX1_tryWish_12 : decode cX1_tryWish 12 = .ok (.getfield 170, 3) := by decide +kernel
theorem dX1_tryWish_15 : decode cX1_tryWish 15 = .ok (.aaload, 1) := by decide +kernel
theorem dX1_tryWish_16 : decode cX1_tryWish 16 = .ok (.astore_n 3, 1) := by decide +kernel
theorem dX1_tryWish_17 : decode cX1_tryWish 17 = .ok (.aload_n 2, 1) := by decide +kernel
theorem dX1_tryWish_18 : decode cX1_tryWish 18 = .ok (.getfield 173, 3) := by decide +kernel
theorem dX1_tryWish_21 : decode cX1_tryWish 21 = .ok (.ifCond .ne 17, 3) := by decide +kernel
theorem dX1_tryWish_24 : decode cX1_tryWish 24 = .ok (.aload_n 3, 1) := by decide +kernel
theorem dX1_tryWish_25 : decode cX1_tryWish 25 = .ok (.aload_n 2, 1) := by decide +kernel
theorem dX1_tryWish_26 : decode cX1_tryWish 26 = .ok (.getfield 176, 3) := by decide +kernel
theorem dX1_tryWish_29 : decode cX1_tryWish 29 = .ok (.iload_n 1, 1) := by decide +kernel
theorem dX1_tryWish_30 : decode cX1_tryWish 30 = .ok (.invokevirtual 101, 3) := by decide +kernel
theorem dX1_tryWish_33 : decode cX1_tryWish 33 = .ok (.ifCond .ne 27, 3) := by decide +kernel
theorem dX1_tryWish_36 : decode cX1_tryWish 36 = .ok (.iconst 0, 1) := by decide +kernel
theorem dX1_tryWish_37 : decode cX1_tryWish 37 = .ok (.ireturn, 1) := by decide +kernel
theorem dX1_tryWish_38 : decode cX1_tryWish 38 = .ok (.aload_n 3, 1) := by decide +kernel
theorem dX1_tryWish_39 : decode cX1_tryWish 39 = .ok (.iload_n 1, 1) := by decide +kernel
theorem dX1_tryWish_40 : decode cX1_tryWish 40 = .ok (.invokevirtual 97, 3) := by decide +kernel
theorem dX1_tryWish_43 : decode cX1_tryWish 43 = .ok (.istore 4, 2) := by decide +kernel
theorem dX1_tryWish_45 : decode cX1_tryWish 45 = .ok (.iload 4, 2) := by decide +kernel
theorem dX1_tryWish_47 : decode cX1_tryWish 47 = .ok (.bipush (-5), 2) := by decide +kernel
theorem dX1_tryWish_49 : decode cX1_tryWish 49 = .ok (.if_icmp .ne 5, 3) := by decide +kernel
theorem dX1_tryWish_52 : decode cX1_tryWish 52 = .ok (.iconst 0, 1) := by decide +kernel
theorem dX1_tryWish_53 : decode cX1_tryWish 53 = .ok (.ireturn, 1) := by decide +kernel
theorem dX1_tryWish_54 : decode cX1_tryWish 54 = .ok (.aload_n 2, 1) := by decide +kernel
theorem dX1_tryWish_55 : decode cX1_tryWish 55 = .ok (.iload 4, 2) := by decide +kernel
theorem dX1_tryWish_57 : decode cX1_tryWish 57 = .ok (.putfield 177, 3) := by decide +kernel
theorem dX1_tryWish_60 : decode cX1_tryWish 60 = .ok (.aload_n 2, 1) := by decide +kernel
theorem dX1_tryWish_61 : decode cX1_tryWish 61 = .ok (.invokevirtual 180, 3) := by decide +kernel
theorem dX1_tryWish_64 : decode cX1_tryWish 64 = .ok (.iconst 1, 1) := by decide +kernel
theorem dX1_tryWish_65 : decode cX1_tryWish 65 = .ok (.ireturn, 1) := by decide +kernel
theorem dX1_serve_0 : decode cX1_serve 0 = .ok (.iconst 1, 1) := by decide +kernel
theorem dX1_serve_1 : decode cX1_serve 1 = .ok (.istore_n 1, 1) := by decide +kernel
theorem dX1_serve_2 : decode cX1_serve 2 = .ok (.iconst 0, 1) := by decide +kernel
theorem dX1_serve_3 : decode cX1_serve 3 = .ok (.istore_n 2, 1) := by decide +kernel
theorem dX1_serve_4 : decode cX1_serve 4 = .ok (.iload_n 2, 1) := by decide +kernel
theorem dX1_serve_5 : decode cX1_serve 5 = .ok (.bipush 6, 2) := by decide +kernel
theorem dX1_serve_7 : decode cX1_serve 7 = .ok (.if_icmp .gt 18, 3) := by decide +kernel
theorem dX1_serve_10 : decode cX1_serve 10 = .ok (.iload_n 1, 1) := by decide +kernel
theorem dX1_serve_11 : decode cX1_serve 11 = .ok (.ifCond .eq 14, 3) := by decide +kernel
theorem dX1_serve_14 : decode cX1_serve 14 = .ok (.aload_n 0, 1) := by decide +kernel
theorem dX1_serve_15 : decode cX1_serve 15 = .ok (.invokevirtual 183, 3) := by decide +kernel
theorem dX1_serve_18 : decode cX1_serve 18 = .ok (.istore_n 1, 1) := by decide +kernel
theorem dX1_serve_19 : decode cX1_serve 19 = .ok (.iinc 2 1, 3) := by decide +kernel
theorem dX1_serve_22 : decode cX1_serve 22 = .ok (.goto (-18), 3) := by decide +kernel
theorem dX1_serve_25 : decode cX1_serve 25 = .ok (.return_, 1) := by decide +kernel
theorem dX1_serveFirst_0 : decode cX1_serveFirst 0 = .ok (.iconst 0, 1) := by decide +kernel
theorem dX1_serveFirst_1 : decode cX1_serveFirst 1 = .ok (.istore_n 1, 1) := by decide +kernel
theorem dX1_serveFirst_2 : decode cX1_serveFirst 2 = .ok (.iload_n 1, 1) := by decide +kernel
theorem dX1_serveFirst_3 : decode cX1_serveFirst 3 = .ok (.aload_n 0, 1) := by decide +kernel
theorem dX1_serveFirst_4 : decode cX1_serveFirst 4 = .ok (.getfield 32, 3) := by decide +kernel
theorem dX1_serveFirst_7 : decode cX1_serveFirst 7 = .ok (.getfield 53, 3) := by decide +kernel
theorem dX1_serveFirst_10 : decode cX1_serveFirst 10 = .ok (.if_icmp .ge 35, 3) := by decide +kernel
theorem dX1_serveFirst_13 : decode cX1_serveFirst 13 = .ok (.aload_n 0, 1) := by decide +kernel
theorem dX1_serveFirst_14 : decode cX1_serveFirst 14 = .ok (.aload_n 0, 1) := by decide +kernel
theorem dX1_serveFirst_15 : decode cX1_serveFirst 15 = .ok (.getfield 32, 3) := by decide +kernel
theorem dX1_serveFirst_18 : decode cX1_serveFirst 18 = .ok (.iload_n 1, 1) := by decide +kernel
theorem dX1_serveFirst_19 : decode cX1_serveFirst 19 = .ok (.invokevirtual 187, 3) := by decide +kernel
theorem dX1_serveFirst_22 : decode cX1_serveFirst 22 = .ok (.invokevirtual 190, 3) := by decide +kernel
theorem dX1_serveFirst_25 : decode cX1_serveFirst 25 = .ok (.ifCond .eq 14, 3) := by decide +kernel
theorem dX1_serveFirst_28 : decode cX1_serveFirst 28 = .ok (.aload_n 0, 1) := by decide +kernel
theorem dX1_serveFirst_29 : decode cX1_serveFirst 29 = .ok (.getfield 32, 3) := by decide +kernel
theorem dX1_serveFirst_32 : decode cX1_serveFirst 32 = .ok (.iload_n 1, 1) := by decide +kernel
theorem dX1_serveFirst_33 : decode cX1_serveFirst 33 = .ok (.invokevirtual 193, 3) := by decide +kernel
theorem dX1_serveFirst_36 : decode cX1_serveFirst 36 = .ok (.pop, 1) := by decide +kernel
theorem dX1_serveFirst_37 : decode cX1_serveFirst 37 = .ok (.iconst 1, 1) := by decide +kernel
theorem dX1_serveFirst_38 : decode cX1_serveFirst 38 = .ok (.ireturn, 1) := by decide +kernel
theorem dX1_serveFirst_39 : decode cX1_serveFirst 39 = .ok (.iinc 1 1, 3) := by decide +kernel
theorem dX1_serveFirst_42 : decode cX1_serveFirst 42 = .ok (.goto (-40), 3) := by decide +kernel
theorem dX1_serveFirst_45 : decode cX1_serveFirst 45 = .ok (.iconst 0, 1) := by decide +kernel
theorem dX1_serveFirst_46 : decode cX1_serveFirst 46 = .ok (.ireturn, 1) := by decide +kernel
theorem dX1_queuedAt_0 : decode cX1_queuedAt 0 = .ok (.iconst 0, 1) := by decide +kernel
theorem dX1_queuedAt_1 : decode cX1_queuedAt 1 = .ok (.istore_n 2, 1) := by decide +kernel
theorem dX1_queuedAt_2 : decode cX1_queuedAt 2 = .ok (.iload_n 2, 1) := by decide +kernel
theorem dX1_queuedAt_3 : decode cX1_queuedAt 3 = .ok (.aload_n 0, 1) := by decide +kernel
theorem dX1_queuedAt_4 : decode cX1_queuedAt 4 = .ok (.getfield 58, 3) := by decide +kernel
theorem dX1_queuedAt_7 : decode cX1_queuedAt 7 = .ok (.if_icmp .ge 28, 3) := by decide +kernel
theorem dX1_queuedAt_10 : decode cX1_queuedAt 10 = .ok (.aload_n 0, 1) := by decide +kernel
theorem dX1_queuedAt_11 : decode cX1_queuedAt 11 = .ok (.getfield 11, 3) := by decide +kernel
theorem dX1_queuedAt_14 : decode cX1_queuedAt 14 = .ok (.iload_n 2, 1) := by decide +kernel
theorem dX1_queuedAt_15 : decode cX1_queuedAt 15 = .ok (.aaload, 1) := by decide +kernel
theorem dX1_queuedAt_16 : decode cX1_queuedAt 16 = .ok (.getfield 196, 3) := by decide +kernel
theorem dX1_queuedAt_19 : decode cX1_queuedAt 19 = .ok (.iload_n 1, 1) := by decide +kernel
theorem dX1_queuedAt_20 : decode cX1_queuedAt 20 = .ok (.invokevirtual 199, 3) := by decide +kernel
theorem dX1_queuedAt_23 : decode cX1_queuedAt 23 = .ok (.iconst (-1), 1) := by decide +kernel
theorem dX1_queuedAt_24 : decode cX1_queuedAt 24 = .ok (.if_icmp .eq 5, 3) := by decide +kernel
theorem dX1_queuedAt_27 : decode cX1_queuedAt 27 = .ok (.iload_n 2, 1) := by decide +kernel
theorem dX1_queuedAt_28 : decode cX1_queuedAt 28 = .ok (.ireturn, 1) := by decide +kernel
theorem dX1_queuedAt_29 : decode cX1_queuedAt 29 = .ok (.iinc 2 1, 3) := by decide +kernel
theorem dX1_queuedAt_32 : decode cX1_queuedAt 32 = .ok (.goto (-30), 3) := by decide +kernel
theorem dX1_queuedAt_35 : decode cX1_queuedAt 35 = .ok (.iconst (-1), 1) := by decide +kernel
theorem dX1_queuedAt_36 : decode cX1_queuedAt 36 = .ok (.ireturn, 1) := by decide +kernel
theorem dX1_stuckBits_0 : decode cX1_stuckBits 0 = .ok (.iconst 0, 1) := by decide +kernel
theorem dX1_stuckBits_1 : decode cX1_stuckBits 1 = .ok (.istore_n 1, 1) := by decide +kernel
theorem dX1_stuckBits_2 : decode cX1_stuckBits 2 = .ok (.iconst 0, 1) := by decide +kernel
theorem dX1_stuckBits_3 : decode cX1_stuckBits 3 = .ok (.istore_n 2, 1) := by decide +kernel
theorem dX1_stuckBits_4 : decode cX1_stuckBits 4 = .ok (.iload_n 2, 1) := by decide +kernel
theorem dX1_stuckBits_5 : decode cX1_stuckBits 5 = .ok (.bipush 6, 2) := by decide +kernel
theorem dX1_stuckBits_7 : decode cX1_stuckBits 7 = .ok (.if_icmp .ge 23, 3) := by decide +kernel
theorem dX1_stuckBits_10 : decode cX1_stuckBits 10 = .ok (.aload_n 0, 1) := by decide +kernel
theorem dX1_stuckBits_11 : decode cX1_stuckBits 11 = .ok (.iload_n 2, 1) := by decide +kernel
theorem dX1_stuckBits_12 : decode cX1_stuckBits 12 = .ok (.invokevirtual 202, 3) := by decide +kernel
theorem dX1_stuckBits_15 : decode cX1_stuckBits 15 = .ok (.ifCond .eq 9, 3) := by decide +kernel
theorem dX1_stuckBits_18 : decode cX1_stuckBits 18 = .ok (.iload_n 1, 1) := by decide +kernel
theorem dX1_stuckBits_19 : decode cX1_stuckBits 19 = .ok (.iconst 1, 1) := by decide +kernel
theorem dX1_stuckBits_20 : decode cX1_stuckBits 20 = .ok (.iload_n 2, 1) := by decide +kernel
theorem dX1_stuckBits_21 : decode cX1_stuckBits 21 = .ok (.ishl, 1) := by decide +kernel
theorem dX1_stuckBits_22 : decode cX1_stuckBits 22 = .ok (.ior, 1) := by decide +kernel
theorem dX1_stuckBits_23 : decode cX1_stuckBits 23 = .ok (.istore_n 1, 1) := by decide +kernel
theorem dX1_stuckBits_24 : decode cX1_stuckBits 24 = .ok (.iinc 2 1, 3) := by decide +kernel
theorem dX1_stuckBits_27 : decode cX1_stuckBits 27 = .ok (.goto (-23), 3) := by decide +kernel
theorem dX1_stuckBits_30 : decode cX1_stuckBits 30 = .ok (.iload_n 1, 1) := by decide +kernel
theorem dX1_stuckBits_31 : decode cX1_stuckBits 31 = .ok (.ireturn, 1) := by decide +kernel
theorem dX1_isStuck_0 : decode cX1_isStuck 0 = .ok (.iload_n 1, 1) := by decide +kernel
theorem dX1_isStuck_1 : decode cX1_isStuck 1 = .ok (.istore_n 2, 1) := by decide +kernel
theorem dX1_isStuck_2 : decode cX1_isStuck 2 = .ok (.iconst 0, 1) := by decide +kernel
theorem dX1_isStuck_3 : decode cX1_isStuck 3 = .ok (.istore_n 3, 1) := by decide +kernel
theorem dX1_isStuck_4 : decode cX1_isStuck 4 = .ok (.iload_n 3, 1) := by decide +kernel
theorem dX1_isStuck_5 : decode cX1_isStuck 5 = .ok (.bipush 6, 2) := by decide +kernel
theorem dX1_isStuck_7 : decode cX1_isStuck 7 = .ok (.if_icmp .ge 42, 3) := by decide +kernel
theorem dX1_isStuck_10 : decode cX1_isStuck 10 = .ok (.aload_n 0, 1) := by decide +kernel
theorem dX1_isStuck_11 : decode cX1_isStuck 11 = .ok (.iload_n 2, 1) := by decide +kernel
theorem dX1_isStuck_12 : decode cX1_isStuck 12 = .ok (.invokevirtual 205, 3) := by decide +kernel
theorem dX1_isStuck_15 : decode cX1_isStuck 15 = .ok (.istore 4, 2) := by decide +kernel
theorem dX1_isStuck_17 : decode cX1_isStuck 17 = .ok (.iload 4, 2) := by decide +kernel
theorem dX1_isStuck_19 : decode cX1_isStuck 19 = .ok (.iconst (-1), 1) := by decide +kernel
theorem dX1_isStuck_20 : decode cX1_isStuck 20 = .ok (.if_icmp .ne 5, 3) := by decide +kernel
theorem dX1_isStuck_23 : decode cX1_isStuck 23 = .ok (.iconst 0, 1) := by decide +kernel
theorem dX1_isStuck_24 : decode cX1_isStuck 24 = .ok (.ireturn, 1) := by decide +kernel
theorem dX1_isStuck_25 : decode cX1_isStuck 25 = .ok (.aload_n 0, 1) := by decide +kernel
theorem dX1_isStuck_26 : decode cX1_isStuck 26 = .ok (.getfield 11, 3) := by decide +kernel
theorem dX1_isStuck_29 : decode cX1_isStuck 29 = .ok (.iload 4, 2) := by decide +kernel
theorem dX1_isStuck_31 : decode cX1_isStuck 31 = .ok (.aaload, 1) := by decide +kernel
theorem dX1_isStuck_32 : decode cX1_isStuck 32 = .ok (.getfield 208, 3) := by decide +kernel
theorem dX1_isStuck_35 : decode cX1_isStuck 35 = .ok (.istore_n 2, 1) := by decide +kernel
theorem dX1_isStuck_36 : decode cX1_isStuck 36 = .ok (.iload_n 2, 1) := by decide +kernel
theorem dX1_isStuck_37 : decode cX1_isStuck 37 = .ok (.iload_n 1, 1) := by decide +kernel
theorem dX1_isStuck_38 : decode cX1_isStuck 38 = .ok (.if_icmp .ne 5, 3) := by decide +kernel
theorem dX1_isStuck_41 : decode cX1_isStuck 41 = .ok (.iconst 1, 1) := by decide +kernel
theorem dX1_isStuck_42 : decode cX1_isStuck 42 = .ok (.ireturn, 1) := by decide +kernel
theorem dX1_isStuck_43 : decode cX1_isStuck 43 = .ok (.iinc 3 1, 3) := by decide +kernel
theorem dX1_isStuck_46 : decode cX1_isStuck 46 = .ok (.goto (-42), 3) := by decide +kernel
theorem dX1_isStuck_49 : decode cX1_isStuck 49 = .ok (.iconst 0, 1) := by decide +kernel
theorem dX1_isStuck_50 : decode cX1_isStuck 50 = .ok (.ireturn, 1) := by decide +kernel
theorem dX1_worksTold_0 : decode cX1_worksTold 0 = .ok (.iload_n 1, 1) := by decide +kernel
theorem dX1_worksTold_1 : decode cX1_worksTold 1 = .ok (.tableswitch 105 0 8 #[51, 56, 61, 66, 71, 79, 87, 95, 100], 51) := by decide +kernel
theorem dX1_worksTold_52 : decode cX1_worksTold 52 = .ok (.aload_n 0, 1) := by decide +kernel
theorem dX1_worksTold_53 : decode cX1_worksTold 53 = .ok (.getfield 58, 3) := by decide +kernel
theorem dX1_worksTold_56 : decode cX1_worksTold 56 = .ok (.ireturn, 1) := by decide +kernel
theorem dX1_worksTold_57 : decode cX1_worksTold 57 = .ok (.aload_n 0, 1) := by decide +kernel
theorem dX1_worksTold_58 : decode cX1_worksTold 58 = .ok (.getfield 61, 3) := by decide +kernel
theorem dX1_worksTold_61 : decode cX1_worksTold 61 = .ok (.ireturn, 1) := by decide +kernel
theorem dX1_worksTold_62 : decode cX1_worksTold 62 = .ok (.aload_n 0, 1) := by decide +kernel
theorem dX1_worksTold_63 : decode cX1_worksTold 63 = .ok (.getfield 64, 3) := by decide +kernel
theorem dX1_worksTold_66 : decode cX1_worksTold 66 = .ok (.ireturn, 1) := by decide +kernel
theorem dX1_worksTold_67 : decode cX1_worksTold 67 = .ok (.aload_n 0, 1) := by decide +kernel
theorem dX1_worksTold_68 : decode cX1_worksTold 68 = .ok (.getfield 67, 3) := by decide +kernel
theorem dX1_worksTold_71 : decode cX1_worksTold 71 = .ok (.ireturn, 1) := by decide +kernel
theorem dX1_worksTold_72 : decode cX1_worksTold 72 = .ok (.aload_n 0, 1) := by decide +kernel
theorem dX1_worksTold_73 : decode cX1_worksTold 73 = .ok (.getfield 39, 3) := by decide +kernel
theorem dX1_worksTold_76 : decode cX1_worksTold 76 = .ok (.getfield 211, 3) := by decide +kernel
theorem dX1_worksTold_79 : decode cX1_worksTold 79 = .ok (.ireturn, 1) := by decide +kernel
theorem dX1_worksTold_80 : decode cX1_worksTold 80 = .ok (.aload_n 0, 1) := by decide +kernel
theorem dX1_worksTold_81 : decode cX1_worksTold 81 = .ok (.getfield 39, 3) := by decide +kernel
theorem dX1_worksTold_84 : decode cX1_worksTold 84 = .ok (.getfield 214, 3) := by decide +kernel
theorem dX1_worksTold_87 : decode cX1_worksTold 87 = .ok (.ireturn, 1) := by decide +kernel
theorem dX1_worksTold_88 : decode cX1_worksTold 88 = .ok (.aload_n 0, 1) := by decide +kernel
theorem dX1_worksTold_89 : decode cX1_worksTold 89 = .ok (.getfield 39, 3) := by decide +kernel
theorem dX1_worksTold_92 : decode cX1_worksTold 92 = .ok (.getfield 217, 3) := by decide +kernel
theorem dX1_worksTold_95 : decode cX1_worksTold 95 = .ok (.ireturn, 1) := by decide +kernel
theorem dX1_worksTold_96 : decode cX1_worksTold 96 = .ok (.aload_n 0, 1) := by decide +kernel
theorem dX1_worksTold_97 : decode cX1_worksTold 97 = .ok (.invokevirtual 220, 3) := by decide +kernel
theorem dX1_worksTold_100 : decode cX1_worksTold 100 = .ok (.ireturn, 1) := by decide +kernel
theorem dX1_worksTold_101 : decode cX1_worksTold 101 = .ok (.aload_n 0, 1) := by decide +kernel
theorem dX1_worksTold_102 : decode cX1_worksTold 102 = .ok (.invokevirtual 223, 3) := by decide +kernel
theorem dX1_worksTold_105 : decode cX1_worksTold 105 = .ok (.ireturn, 1) := by decide +kernel
theorem dX1_worksTold_106 : decode cX1_worksTold 106 = .ok (.aload_n 0, 1) := by decide +kernel
theorem dX1_worksTold_107 : decode cX1_worksTold 107 = .ok (.getfield 32, 3) := by decide +kernel
theorem dX1_worksTold_110 : decode cX1_worksTold 110 = .ok (.getfield 53, 3) := by decide +kernel
theorem dX1_worksTold_113 : decode cX1_worksTold 113 = .ok (.ireturn, 1) := by decide +kernel
theorem dX1_allItems_0 : decode cX1_allItems 0 = .ok (.iconst 0, 1) := by decide +kernel
theorem dX1_allItems_1 : decode cX1_allItems 1 = .ok (.istore_n 1, 1) := by decide +kernel
theorem dX1_allItems_2 : decode cX1_allItems 2 = .ok (.iconst 0, 1) := by decide +kernel
theorem dX1_allItems_3 : decode cX1_allItems 3 = .ok (.istore_n 2, 1) := by decide +kernel
theorem dX1_allItems_4 : decode cX1_allItems 4 = .ok (.iload_n 2, 1) := by decide +kernel
theorem dX1_allItems_5 : decode cX1_allItems 5 = .ok (.aload_n 0, 1) := by decide +kernel
theorem dX1_allItems_6 : decode cX1_allItems 6 = .ok (.getfield 58, 3) := by decide +kernel
theorem dX1_allItems_9 : decode cX1_allItems 9 = .ok (.if_icmp .ge 24, 3) := by decide +kernel
theorem dX1_allItems_12 : decode cX1_allItems 12 = .ok (.iload_n 1, 1) := by decide +kernel
theorem dX1_allItems_13 : decode cX1_allItems 13 = .ok (.aload_n 0, 1) := by decide +kernel
theorem dX1_allItems_14 : decode cX1_allItems 14 = .ok (.getfield 11, 3) := by decide +kernel
theorem dX1_allItems_17 : decode cX1_allItems 17 = .ok (.iload_n 2, 1) := by decide +kernel
theorem dX1_allItems_18 : decode cX1_allItems 18 = .ok (.aaload, 1) := by decide +kernel
theorem dX1_allItems_19 : decode cX1_allItems 19 = .ok (.getfield 105, 3) := by decide +kernel
theorem dX1_allItems_22 : decode cX1_allItems 22 = .ok (.getfield 53, 3) := by decide +kernel
theorem dX1_allItems_25 : decode cX1_allItems 25 = .ok (.iadd, 1) := by decide +kernel
theorem dX1_allItems_26 : decode cX1_allItems 26 = .ok (.istore_n 1, 1) := by decide +kernel
theorem dX1_allItems_27 : decode cX1_allItems 27 = .ok (.iinc 2 1, 3) := by decide +kernel
theorem dX1_allItems_30 : decode cX1_allItems 30 = .ok (.goto (-26), 3) := by decide +kernel
theorem dX1_allItems_33 : decode cX1_allItems 33 = .ok (.iload_n 1, 1) := by decide +kernel
theorem dX1_allItems_34 : decode cX1_allItems 34 = .ok (.ireturn, 1) := by decide +kernel
theorem dX1_allEntries_0 : decode cX1_allEntries 0 = .ok (.aload_n 0, 1) := by decide +kernel
theorem dX1_allEntries_1 : decode cX1_allEntries 1 = .ok (.getfield 39, 3) := by decide +kernel
theorem dX1_allEntries_4 : decode cX1_allEntries 4 = .ok (.getfield 211, 3) := by decide +kernel
theorem dX1_allEntries_7 : decode cX1_allEntries 7 = .ok (.istore_n 1, 1) := by decide +kernel
theorem dX1_allEntries_8 : decode cX1_allEntries 8 = .ok (.iconst 0, 1) := by decide +kernel
theorem dX1_allEntries_9 : decode cX1_allEntries 9 = .ok (.istore_n 2, 1) := by decide +kernel
theorem dX1_allEntries_10 : decode cX1_allEntries 10 = .ok (.iload_n 2, 1) := by decide +kernel
theorem dX1_allEntries_11 : decode cX1_allEntries 11 = .ok (.aload_n 0, 1) := by decide +kernel
theorem dX1_allEntries_12 : decode cX1_allEntries 12 = .ok (.getfield 58, 3) := by decide +kernel
theorem dX1_allEntries_15 : decode cX1_allEntries 15 = .ok (.if_icmp .ge 24, 3) := by decide +kernel
theorem dX1_allEntries_18 : decode cX1_allEntries 18 = .ok (.iload_n 1, 1) := by decide +kernel
theorem dX1_allEntries_19 : decode cX1_allEntries 19 = .ok (.aload_n 0, 1) := by decide +kernel
theorem dX1_allEntries_20 : decode cX1_allEntries 20 = .ok (.getfield 11, 3) := by decide +kernel
theorem dX1_allEntries_23 : decode cX1_allEntries 23 = .ok (.iload_n 2, 1) := by decide +kernel
theorem dX1_allEntries_24 : decode cX1_allEntries 24 = .ok (.aaload, 1) := by decide +kernel
theorem dX1_allEntries_25 : decode cX1_allEntries 25 = .ok (.getfield 80, 3) := by decide +kernel
theorem dX1_allEntries_28 : decode cX1_allEntries 28 = .ok (.getfield 211, 3) := by decide +kernel
theorem dX1_allEntries_31 : decode cX1_allEntries 31 = .ok (.iadd, 1) := by decide +kernel
theorem dX1_allEntries_32 : decode cX1_allEntries 32 = .ok (.istore_n 1, 1) := by decide +kernel
theorem dX1_allEntries_33 : decode cX1_allEntries 33 = .ok (.iinc 2 1, 3) := by decide +kernel
theorem dX1_allEntries_36 : decode cX1_allEntries 36 = .ok (.goto (-26), 3) := by decide +kernel
theorem dX1_allEntries_39 : decode cX1_allEntries 39 = .ok (.iload_n 1, 1) := by decide +kernel
theorem dX1_allEntries_40 : decode cX1_allEntries 40 = .ok (.ireturn, 1) := by decide +kernel
theorem dX1_copyFrom_0 : decode cX1_copyFrom 0 = .ok (.iconst 0, 1) := by decide +kernel
theorem dX1_copyFrom_1 : decode cX1_copyFrom 1 = .ok (.istore_n 2, 1) := by decide +kernel
theorem dX1_copyFrom_2 : decode cX1_copyFrom 2 = .ok (.iload_n 2, 1) := by decide +kernel
theorem dX1_copyFrom_3 : decode cX1_copyFrom 3 = .ok (.bipush 6, 2) := by decide +kernel
theorem dX1_copyFrom_5 : decode cX1_copyFrom 5 = .ok (.if_icmp .ge 24, 3) := by decide +kernel
theorem dX1_copyFrom_8 : decode cX1_copyFrom 8 = .ok (.aload_n 0, 1) := by decide +kernel
theorem dX1_copyFrom_9 : decode cX1_copyFrom 9 = .ok (.getfield 11, 3) := by decide +kernel
theorem dX1_copyFrom_12 : decode cX1_copyFrom 12 = .ok (.iload_n 2, 1) := by decide +kernel
theorem dX1_copyFrom_13 : decode cX1_copyFrom 13 = .ok (.aaload, 1) := by decide +kernel
theorem dX1_copyFrom_14 : decode cX1_copyFrom 14 = .ok (.aload_n 1, 1) := by decide +kernel
theorem dX1_copyFrom_15 : decode cX1_copyFrom 15 = .ok (.getfield 11, 3) := by decide +kernel
theorem dX1_copyFrom_18 : decode cX1_copyFrom 18 = .ok (.iload_n 2, 1) := by decide +kernel
theorem dX1_copyFrom_19 : decode cX1_copyFrom 19 = .ok (.aaload, 1) := by decide +kernel
theorem dX1_copyFrom_20 : decode cX1_copyFrom 20 = .ok (.invokevirtual 226, 3) := by decide +kernel
theorem dX1_copyFrom_23 : decode cX1_copyFrom 23 = .ok (.iinc 2 1, 3) := by decide +kernel
theorem dX1_copyFrom_26 : decode cX1_copyFrom 26 = .ok (.goto (-24), 3) := by decide +kernel
theorem dX1_copyFrom_29 : decode cX1_copyFrom 29 = .ok (.iconst 0, 1) := by decide +kernel
theorem dX1_copyFrom_30 : decode cX1_copyFrom 30 = .ok (.istore_n 2, 1) := by decide +kernel
theorem dX1_copyFrom_31 : decode cX1_copyFrom 31 = .ok (.iload_n 2, 1) := by decide +kernel
theorem dX1_copyFrom_32 : decode cX1_copyFrom 32 = .ok (.bipush 6, 2) := by decide +kernel
theorem dX1_copyFrom_34 : decode cX1_copyFrom 34 = .ok (.if_icmp .ge 24, 3) := by decide +kernel
theorem dX1_copyFrom_37 : decode cX1_copyFrom 37 = .ok (.aload_n 0, 1) := by decide +kernel
theorem dX1_copyFrom_38 : decode cX1_copyFrom 38 = .ok (.getfield 19, 3) := by decide +kernel
theorem dX1_copyFrom_41 : decode cX1_copyFrom 41 = .ok (.iload_n 2, 1) := by decide +kernel
theorem dX1_copyFrom_42 : decode cX1_copyFrom 42 = .ok (.aaload, 1) := by decide +kernel
theorem dX1_copyFrom_43 : decode cX1_copyFrom 43 = .ok (.aload_n 1, 1) := by decide +kernel
theorem dX1_copyFrom_44 : decode cX1_copyFrom 44 = .ok (.getfield 19, 3) := by decide +kernel
theorem dX1_copyFrom_47 : decode cX1_copyFrom 47 = .ok (.iload_n 2, 1) := by decide +kernel
theorem dX1_copyFrom_48 : decode cX1_copyFrom 48 = .ok (.aaload, 1) := by decide +kernel
theorem dX1_copyFrom_49 : decode cX1_copyFrom 49 = .ok (.invokevirtual 230, 3) := by decide +kernel
theorem dX1_copyFrom_52 : decode cX1_copyFrom 52 = .ok (.iinc 2 1, 3) := by decide +kernel
theorem dX1_copyFrom_55 : decode cX1_copyFrom 55 = .ok (.goto (-24), 3) := by decide +kernel
theorem dX1_copyFrom_58 : decode cX1_copyFrom 58 = .ok (.iconst 0, 1) := by decide +kernel
theorem dX1_copyFrom_59 : decode cX1_copyFrom 59 = .ok (.istore_n 2, 1) := by decide +kernel
theorem dX1_copyFrom_60 : decode cX1_copyFrom 60 = .ok (.iload_n 2, 1) := by decide +kernel
theorem dX1_copyFrom_61 : decode cX1_copyFrom 61 = .ok (.bipush 6, 2) := by decide +kernel
theorem dX1_copyFrom_63 : decode cX1_copyFrom 63 = .ok (.if_icmp .ge 24, 3) := by decide +kernel
theorem dX1_copyFrom_66 : decode cX1_copyFrom 66 = .ok (.aload_n 0, 1) := by decide +kernel
theorem dX1_copyFrom_67 : decode cX1_copyFrom 67 = .ok (.getfield 25, 3) := by decide +kernel
theorem dX1_copyFrom_70 : decode cX1_copyFrom 70 = .ok (.iload_n 2, 1) := by decide +kernel
theorem dX1_copyFrom_71 : decode cX1_copyFrom 71 = .ok (.aaload, 1) := by decide +kernel
theorem dX1_copyFrom_72 : decode cX1_copyFrom 72 = .ok (.aload_n 1, 1) := by decide +kernel
theorem dX1_copyFrom_73 : decode cX1_copyFrom 73 = .ok (.getfield 25, 3) := by decide +kernel
theorem dX1_copyFrom_76 : decode cX1_copyFrom 76 = .ok (.iload_n 2, 1) := by decide +kernel
theorem dX1_copyFrom_77 : decode cX1_copyFrom 77 = .ok (.aaload, 1) := by decide +kernel
theorem dX1_copyFrom_78 : decode cX1_copyFrom 78 = .ok (.invokevirtual 233, 3) := by decide +kernel
theorem dX1_copyFrom_81 : decode cX1_copyFrom 81 = .ok (.iinc 2 1, 3) := by decide +kernel
theorem dX1_copyFrom_84 : decode cX1_copyFrom 84 = .ok (.goto (-24), 3) := by decide +kernel
theorem dX1_copyFrom_87 : decode cX1_copyFrom 87 = .ok (.aload_n 0, 1) := by decide +kernel
theorem dX1_copyFrom_88 : decode cX1_copyFrom 88 = .ok (.getfield 32, 3) := by decide +kernel
theorem dX1_copyFrom_91 : decode cX1_copyFrom 91 = .ok (.aload_n 1, 1) := by decide +kernel
theorem dX1_copyFrom_92 : decode cX1_copyFrom 92 = .ok (.getfield 32, 3) := by decide +kernel
theorem dX1_copyFrom_95 : decode cX1_copyFrom 95 = .ok (.invokevirtual 236, 3) := by decide +kernel
theorem dX1_copyFrom_98 : decode cX1_copyFrom 98 = .ok (.aload_n 0, 1) := by decide +kernel
theorem dX1_copyFrom_99 : decode cX1_copyFrom 99 = .ok (.getfield 39, 3) := by decide +kernel
theorem dX1_copyFrom_102 : decode cX1_copyFrom 102 = .ok (.aload_n 1, 1) := by decide +kernel
theorem dX1_copyFrom_103 : decode cX1_copyFrom 103 = .ok (.getfield 39, 3) := by decide +kernel
theorem dX1_copyFrom_106 : decode cX1_copyFrom 106 = .ok (.invokevirtual 239, 3) := by decide +kernel
theorem dX1_copyFrom_109 : decode cX1_copyFrom 109 = .ok (.aload_n 0, 1) := by decide +kernel
theorem dX1_copyFrom_110 : decode cX1_copyFrom 110 = .ok (.aload_n 1, 1) := by decide +kernel
theorem dX1_copyFrom_111 : decode cX1_copyFrom 111 = .ok (.getfield 58, 3) := by decide +kernel
theorem dX1_copyFrom_114 : decode cX1_copyFrom 114 = .ok (.putfield 58, 3) := by decide +kernel
theorem dX1_copyFrom_117 : decode cX1_copyFrom 117 = .ok (.aload_n 0, 1) := by decide +kernel
theorem dX1_copyFrom_118 : decode cX1_copyFrom 118 = .ok (.aload_n 1, 1) := by decide +kernel
theorem dX1_copyFrom_119 : decode cX1_copyFrom 119 = .ok (.getfield 61, 3) := by decide +kernel
theorem dX1_copyFrom_122 : decode cX1_copyFrom 122 = .ok (.putfield 61, 3) := by decide +kernel
theorem dX1_copyFrom_125 : decode cX1_copyFrom 125 = .ok (.aload_n 0, 1) := by decide +kernel
theorem dX1_copyFrom_126 : decode cX1_copyFrom 126 = .ok (.aload_n 1, 1) := by decide +kernel
theorem dX1_copyFrom_127 : decode cX1_copyFrom 127 = .ok (.getfield 64, 3) := by decide +kernel
theorem dX1_copyFrom_130 : decode cX1_copyFrom 130 = .ok (.putfield 64, 3) := by decide +kernel
theorem dX1_copyFrom_133 : decode cX1_copyFrom 133 = .ok (.aload_n 0, 1) := by decide +kernel
theorem dX1_copyFrom_134 : decode cX1_copyFrom 134 = .ok (.aload_n 1, 1) := by decide +kernel
theorem dX1_copyFrom_135 : decode cX1_copyFrom 135 = .ok (.getfield 67, 3) := by decide +kernel
theorem dX1_copyFrom_138 : decode cX1_copyFrom 138 = .ok (.putfield 67, 3) := by decide +kernel
theorem dX1_copyFrom_141 : decode cX1_copyFrom 141 = .ok (.return_, 1) := by decide +kernel
theorem dX2_init_0 : decode cX2_init 0 = .ok (.aload_n 0, 1) := by decide +kernel
theorem dX2_init_1 : decode cX2_init 1 = .ok (.invokespecial 1, 3) := by decide +kernel
theorem dX2_init_4 : decode cX2_init 4 = .ok (.return_, 1) := by decide +kernel
theorem dX2_enter_0 : decode cX2_enter 0 = .ok (.aload_n 0, 1) := by decide +kernel
theorem dX2_enter_1 : decode cX2_enter 1 = .ok (.dup, 1) := by decide +kernel
theorem dX2_enter_2 : decode cX2_enter 2 = .ok (.getfield 7, 3) := by decide +kernel
theorem dX2_enter_5 : decode cX2_enter 5 = .ok (.iconst 1, 1) := by decide +kernel
theorem dX2_enter_6 : decode cX2_enter 6 = .ok (.iadd, 1) := by decide +kernel
theorem dX2_enter_7 : decode cX2_enter 7 = .ok (.putfield 7, 3) := by decide +kernel
theorem dX2_enter_10 : decode cX2_enter 10 = .ok (.aload_n 0, 1) := by decide +kernel
theorem dX2_enter_11 : decode cX2_enter 11 = .ok (.dup, 1) := by decide +kernel
theorem dX2_enter_12 : decode cX2_enter 12 = .ok (.getfield 13, 3) := by decide +kernel
theorem dX2_enter_15 : decode cX2_enter 15 = .ok (.iconst 1, 1) := by decide +kernel
theorem dX2_enter_16 : decode cX2_enter 16 = .ok (.iadd, 1) := by decide +kernel
theorem dX2_enter_17 : decode cX2_enter 17 = .ok (.putfield 13, 3) := by decide +kernel
theorem dX2_enter_20 : decode cX2_enter 20 = .ok (.aload_n 0, 1) := by decide +kernel
theorem dX2_enter_21 : decode cX2_enter 21 = .ok (.aload_n 0, 1) := by decide +kernel
theorem dX2_enter_22 : decode cX2_enter 22 = .ok (.getfield 16, 3) := by decide +kernel
theorem dX2_enter_25 : decode cX2_enter 25 = .ok (.aload_n 0, 1) := by decide +kernel
theorem dX2_enter_26 : decode cX2_enter 26 = .ok (.getfield 13, 3) := by decide +kernel
theorem dX2_enter_29 : decode cX2_enter 29 = .ok (.invokestatic 19, 3) := by decide +kernel
theorem dX2_enter_32 : decode cX2_enter 32 = .ok (.putfield 16, 3) := by decide +kernel
theorem dX2_enter_35 : decode cX2_enter 35 = .ok (.return_, 1) := by decide +kernel
theorem dX2_leave_0 : decode cX2_leave 0 = .ok (.aload_n 0, 1) := by decide +kernel
theorem dX2_leave_1 : decode cX2_leave 1 = .ok (.dup, 1) := by decide +kernel
theorem dX2_leave_2 : decode cX2_leave 2 = .ok (.getfield 13, 3) := by decide +kernel
theorem dX2_leave_5 : decode cX2_leave 5 = .ok (.iconst 1, 1) := by decide +kernel
theorem dX2_leave_6 : decode cX2_leave 6 = .ok (.isub, 1) := by decide +kernel
theorem dX2_leave_7 : decode cX2_leave 7 = .ok (.putfield 13, 3) := by decide +kernel
theorem dX2_leave_10 : decode cX2_leave 10 = .ok (.return_, 1) := by decide +kernel
theorem dX2_leaveThrown_0 : decode cX2_leaveThrown 0 = .ok (.aload_n 0, 1) := by decide +kernel
theorem dX2_leaveThrown_1 : decode cX2_leaveThrown 1 = .ok (.dup, 1) := by decide +kernel
theorem dX2_leaveThrown_2 : decode cX2_leaveThrown 2 = .ok (.getfield 13, 3) := by decide +kernel
theorem dX2_leaveThrown_5 : decode cX2_leaveThrown 5 = .ok (.iconst 1, 1) := by decide +kernel
theorem dX2_leaveThrown_6 : decode cX2_leaveThrown 6 = .ok (.isub, 1) := by decide +kernel
theorem dX2_leaveThrown_7 : decode cX2_leaveThrown 7 = .ok (.putfield 13, 3) := by decide +kernel
theorem dX2_leaveThrown_10 : decode cX2_leaveThrown 10 = .ok (.aload_n 0, 1) := by decide +kernel
theorem dX2_leaveThrown_11 : decode cX2_leaveThrown 11 = .ok (.dup, 1) := by decide +kernel
theorem dX2_leaveThrown_12 : decode cX2_leaveThrown 12 = .ok (.getfield 25, 3) := by decide +kernel
theorem dX2_leaveThrown_15 : decode cX2_leaveThrown 15 = .ok (.iconst 1, 1) := by decide +kernel
theorem dX2_leaveThrown_16 : decode cX2_leaveThrown 16 = .ok (.iadd, 1) := by decide +kernel
theorem dX2_leaveThrown_17 : decode cX2_leaveThrown 17 = .ok (.putfield 25, 3) := by decide +kernel
theorem dX2_leaveThrown_20 : decode cX2_leaveThrown 20 = .ok (.return_, 1) := by decide +kernel
theorem dX2_startAnew_0 : decode cX2_startAnew 0 = .ok (.aload_n 0, 1) := by decide +kernel
theorem dX2_startAnew_1 : decode cX2_startAnew 1 = .ok (.iconst 0, 1) := by decide +kernel
theorem dX2_startAnew_2 : decode cX2_startAnew 2 = .ok (.putfield 7, 3) := by decide +kernel
theorem dX2_startAnew_5 : decode cX2_startAnew 5 = .ok (.aload_n 0, 1) := by decide +kernel
theorem dX2_startAnew_6 : decode cX2_startAnew 6 = .ok (.iconst 0, 1) := by decide +kernel
theorem dX2_startAnew_7 : decode cX2_startAnew 7 = .ok (.putfield 13, 3) := by decide +kernel
theorem dX2_startAnew_10 : decode cX2_startAnew 10 = .ok (.aload_n 0, 1) := by decide +kernel
theorem dX2_startAnew_11 : decode cX2_startAnew 11 = .ok (.iconst 0, 1) := by decide +kernel
theorem dX2_startAnew_12 : decode cX2_startAnew 12 = .ok (.putfield 16, 3) := by decide +kernel
theorem dX2_startAnew_15 : decode cX2_startAnew 15 = .ok (.aload_n 0, 1) := by decide +kernel
theorem dX2_startAnew_16 : decode cX2_startAnew 16 = .ok (.iconst 0, 1) := by decide +kernel
theorem dX2_startAnew_17 : decode cX2_startAnew 17 = .ok (.putfield 25, 3) := by decide +kernel
theorem dX2_startAnew_20 : decode cX2_startAnew 20 = .ok (.return_, 1) := by decide +kernel
theorem dX2_copyFrom_0 : decode cX2_copyFrom 0 = .ok (.aload_n 0, 1) := by decide +kernel
theorem dX2_copyFrom_1 : decode cX2_copyFrom 1 = .ok (.aload_n 1, 1) := by decide +kernel
theorem dX2_copyFrom_2 : decode cX2_copyFrom 2 = .ok (.getfield 7, 3) := by decide +kernel
theorem dX2_copyFrom_5 : decode cX2_copyFrom 5 = .ok (.putfield 7, 3) := by decide +kernel
theorem dX2_copyFrom_8 : decode cX2_copyFrom 8 = .ok (.aload_n 0, 1) := by decide +kernel
theorem dX2_copyFrom_9 : decode cX2_copyFrom 9 = .ok (.aload_n 1, 1) := by decide +kernel
theorem dX2_copyFrom_10 : decode cX2_copyFrom 10 = .ok (.getfield 13, 3) := by decide +kernel
theorem dX2_copyFrom_13 : decode cX2_copyFrom 13 = .ok (.putfield 13, 3) := by decide +kernel
theorem dX2_copyFrom_16 : decode cX2_copyFrom 16 = .ok (.aload_n 0, 1) := by decide +kernel
theorem dX2_copyFrom_17 : decode cX2_copyFrom 17 = .ok (.aload_n 1, 1) := by decide +kernel
theorem dX2_copyFrom_18 : decode cX2_copyFrom 18 = .ok (.getfield 16, 3) := by decide +kernel
theorem dX2_copyFrom_21 : decode cX2_copyFrom 21 = .ok (.putfield 16, 3) := by decide +kernel
theorem dX2_copyFrom_24 : decode cX2_copyFrom 24 = .ok (.aload_n 0, 1) := by decide +kernel
theorem dX2_copyFrom_25 : decode cX2_copyFrom 25 = .ok (.aload_n 1, 1) := by decide +kernel
theorem dX2_copyFrom_26 : decode cX2_copyFrom 26 = .ok (.getfield 25, 3) := by decide +kernel
theorem dX2_copyFrom_29 : decode cX2_copyFrom 29 = .ok (.putfield 25, 3) := by decide +kernel
theorem dX2_copyFrom_32 : decode cX2_copyFrom 32 = .ok (.return_, 1) := by decide +kernel
theorem dX3_init_0 : decode cX3_init 0 = .ok (.aload_n 0, 1) := by decide +kernel
theorem dX3_init_1 : decode cX3_init 1 = .ok (.invokespecial 3, 3) := by decide +kernel
theorem dX3_init_4 : decode cX3_init 4 = .ok (.aload_n 0, 1) := by decide +kernel
theorem dX3_init_5 : decode cX3_init 5 = .ok (.bipush 6, 2) := by decide +kernel
theorem dX3_init_7 : decode cX3_init 7 = .ok (.anewarray 9, 3) := by decide +kernel
theorem dX3_init_10 : decode cX3_init 10 = .ok (.putfield 11, 3) := by decide +kernel
theorem dX3_init_13 : decode cX3_init 13 = .ok (.iconst 0, 1) := by decide +kernel
theorem dX3_init_14 : decode cX3_init 14 = .ok (.istore_n 1, 1) := by decide +kernel
theorem dX3_init_15 : decode cX3_init 15 = .ok (.iload_n 1, 1) := by decide +kernel
theorem dX3_init_16 : decode cX3_init 16 = .ok (.bipush 6, 2) := by decide +kernel
theorem dX3_init_18 : decode cX3_init 18 = .ok (.if_icmp .ge 22, 3) := by decide +kernel
theorem dX3_init_21 : decode cX3_init 21 = .ok (.aload_n 0, 1) := by decide +kernel
theorem dX3_init_22 : decode cX3_init 22 = .ok (.getfield 11, 3) := by decide +kernel
theorem dX3_init_25 : decode cX3_init 25 = .ok (.iload_n 1, 1) := by decide +kernel
theorem dX3_init_26 : decode cX3_init 26 = .ok (.new 9, 3) := by decide +kernel
theorem dX3_init_29 : decode cX3_init 29 = .ok (.dup, 1) := by decide +kernel
theorem dX3_init_30 : decode cX3_init 30 = .ok (.invokespecial 17, 3) := by decide +kernel
theorem dX3_init_33 : decode cX3_init 33 = .ok (.aastore, 1) := by decide +kernel
theorem dX3_init_34 : decode cX3_init 34 = .ok (.iinc 1 1, 3) := by decide +kernel
theorem dX3_init_37 : decode cX3_init 37 = .ok (.goto (-22), 3) := by decide +kernel
theorem dX3_init_40 : decode cX3_init 40 = .ok (.return_, 1) := by decide +kernel
theorem dX3_keep_0 : decode cX3_keep 0 = .ok (.aload_n 0, 1) := by decide +kernel
theorem dX3_keep_1 : decode cX3_keep 1 = .ok (.getfield 11, 3) := by decide +kernel
theorem dX3_keep_4 : decode cX3_keep 4 = .ok (.aload_n 0, 1) := by decide +kernel
theorem dX3_keep_5 : decode cX3_keep 5 = .ok (.getfield 18, 3) := by decide +kernel
theorem dX3_keep_8 : decode cX3_keep 8 = .ok (.aaload, 1) := by decide +kernel
theorem dX3_keep_9 : decode cX3_keep 9 = .ok (.aload_n 1, 1) := by decide +kernel
theorem dX3_keep_10 : decode cX3_keep 10 = .ok (.invokevirtual 22, 3) := by decide +kernel
theorem dX3_keep_13 : decode cX3_keep 13 = .ok (.aload_n 0, 1) := by decide +kernel
theorem dX3_keep_14 : decode cX3_keep 14 = .ok (.aload_n 0, 1) := by decide +kernel
theorem dX3_keep_15 : decode cX3_keep 15 = .ok (.getfield 18, 3) := by decide +kernel
theorem dX3_keep_18 : decode cX3_keep 18 = .ok (.iconst 1, 1) := by decide +kernel
theorem dX3_keep_19 : decode cX3_keep 19 = .ok (.iadd, 1) := by decide +kernel
theorem dX3_keep_20 : decode cX3_keep 20 = .ok (.bipush 6, 2) := by decide +kernel
theorem dX3_keep_22 : decode cX3_keep 22 = .ok (.irem, 1) := by decide +kernel
theorem dX3_keep_23 : decode cX3_keep 23 = .ok (.putfield 18, 3) := by decide +kernel
theorem dX3_keep_26 : decode cX3_keep 26 = .ok (.aload_n 0, 1) := by decide +kernel
theorem dX3_keep_27 : decode cX3_keep 27 = .ok (.aload_n 0, 1) := by decide +kernel
theorem dX3_keep_28 : decode cX3_keep 28 = .ok (.getfield 26, 3) := by decide +kernel
theorem dX3_keep_31 : decode cX3_keep 31 = .ok (.iconst 1, 1) := by decide +kernel
theorem dX3_keep_32 : decode cX3_keep 32 = .ok (.iadd, 1) := by decide +kernel
theorem dX3_keep_33 : decode cX3_keep 33 = .ok (.bipush 6, 2) := by decide +kernel
theorem dX3_keep_35 : decode cX3_keep 35 = .ok (.invokestatic 29, 3) := by decide +kernel
theorem dX3_keep_38 : decode cX3_keep 38 = .ok (.putfield 26, 3) := by decide +kernel
theorem dX3_keep_41 : decode cX3_keep 41 = .ok (.return_, 1) := by decide +kernel
theorem dX3_giveBack_0 : decode cX3_giveBack 0 = .ok (.aload_n 0, 1) := by decide +kernel
theorem dX3_giveBack_1 : decode cX3_giveBack 1 = .ok (.getfield 26, 3) := by decide +kernel
theorem dX3_giveBack_4 : decode cX3_giveBack 4 = .ok (.ifCond .le 42, 3) := by decide +kernel
theorem dX3_giveBack_7 : decode cX3_giveBack 7 = .ok (.aload_n 0, 1) := by decide +kernel
theorem dX3_giveBack_8 : decode cX3_giveBack 8 = .ok (.aload_n 0, 1) := by decide +kernel
theorem dX3_giveBack_9 : decode cX3_giveBack 9 = .ok (.getfield 18, 3) := by decide +kernel
theorem dX3_giveBack_12 : decode cX3_giveBack 12 = .ok (.bipush 6, 2) := by decide +kernel
theorem dX3_giveBack_14 : decode cX3_giveBack 14 = .ok (.iadd, 1) := by decide +kernel
theorem dX3_giveBack_15 : decode cX3_giveBack 15 = .ok (.iconst 1, 1) := by decide +kernel
theorem dX3_giveBack_16 : decode cX3_giveBack 16 = .ok (.isub, 1) := by decide +kernel
theorem dX3_giveBack_17 : decode cX3_giveBack 17 = .ok (.bipush 6, 2) := by decide +kernel
theorem dX3_giveBack_19 : decode cX3_giveBack 19 = .ok (.irem, 1) := by decide +kernel
theorem dX3_giveBack_20 : decode cX3_giveBack 20 = .ok (.putfield 18, 3) := by decide +kernel
theorem dX3_giveBack_23 : decode cX3_giveBack 23 = .ok (.aload_n 0, 1) := by decide +kernel
theorem dX3_giveBack_24 : decode cX3_giveBack 24 = .ok (.dup, 1) := by decide +kernel
theorem dX3_giveBack_25 : decode cX3_giveBack 25 = .ok (.getfield 26, 3) := by decide +kernel
theorem dX3_giveBack_28 : decode cX3_giveBack 28 = .ok (.iconst 1, 1) := by decide +kernel
theorem dX3_giveBack_29 : decode cX3_giveBack 29 = .ok (.isub, 1) := by decide +kernel
theorem dX3_giveBack_30 : decode cX3_giveBack 30 = .ok (.putfield 26, 3) := by decide +kernel
theorem dX3_giveBack_33 : decode cX3_giveBack 33 = .ok (.aload_n 1, 1) := by decide +kernel
theorem dX3_giveBack_34 : decode cX3_giveBack 34 = .ok (.aload_n 0, 1) := by decide +kernel
theorem dX3_giveBack_35 : decode cX3_giveBack 35 = .ok (.getfield 11, 3) := by decide +kernel
theorem dX3_giveBack_38 : decode cX3_giveBack 38 = .ok (.aload_n 0, 1) := by decide +kernel
theorem dX3_giveBack_39 : decode cX3_giveBack 39 = .ok (.getfield 18, 3) := by decide +kernel
theorem dX3_giveBack_42 : decode cX3_giveBack 42 = .ok (.aaload, 1) := by decide +kernel
theorem dX3_giveBack_43 : decode cX3_giveBack 43 = .ok (.invokevirtual 22, 3) := by decide +kernel
theorem dX3_giveBack_46 : decode cX3_giveBack 46 = .ok (.return_, 1) := by decide +kernel
theorem dX4_init_0 : decode cX4_init 0 = .ok (.aload_n 0, 1) := by decide +kernel
theorem dX4_init_1 : decode cX4_init 1 = .ok (.invokespecial 3, 3) := by decide +kernel
theorem dX4_init_4 : decode cX4_init 4 = .ok (.aload_n 0, 1) := by decide +kernel
theorem dX4_init_5 : decode cX4_init 5 = .ok (.bipush 6, 2) := by decide +kernel
theorem dX4_init_7 : decode cX4_init 7 = .ok (.anewarray 9, 3) := by decide +kernel
theorem dX4_init_10 : decode cX4_init 10 = .ok (.putfield 11, 3) := by decide +kernel
theorem dX4_init_13 : decode cX4_init 13 = .ok (.iconst 0, 1) := by decide +kernel
theorem dX4_init_14 : decode cX4_init 14 = .ok (.istore_n 1, 1) := by decide +kernel
theorem dX4_init_15 : decode cX4_init 15 = .ok (.iload_n 1, 1) := by decide +kernel
theorem dX4_init_16 : decode cX4_init 16 = .ok (.bipush 6, 2) := by decide +kernel
theorem dX4_init_18 : decode cX4_init 18 = .ok (.if_icmp .ge 22, 3) := by decide +kernel
theorem dX4_init_21 : decode cX4_init 21 = .ok (.aload_n 0, 1) := by decide +kernel
theorem dX4_init_22 : decode cX4_init 22 = .ok (.getfield 11, 3) := by decide +kernel
theorem dX4_init_25 : decode cX4_init 25 = .ok (.iload_n 1, 1) := by decide +kernel
theorem dX4_init_26 : decode cX4_init 26 = .ok (.new 9, 3) := by decide +kernel
theorem dX4_init_29 : decode cX4_init 29 = .ok (.dup, 1) := by decide +kernel
theorem dX4_init_30 : decode cX4_init 30 = .ok (.invokespecial 17, 3) := by decide +kernel
theorem dX4_init_33 : decode cX4_init 33 = .ok (.aastore, 1) := by decide +kernel
theorem dX4_init_34 : decode cX4_init 34 = .ok (.iinc 1 1, 3) := by decide +kernel
theorem dX4_init_37 : decode cX4_init 37 = .ok (.goto (-22), 3) := by decide +kernel
theorem dX4_init_40 : decode cX4_init 40 = .ok (.return_, 1) := by decide +kernel
theorem dX4_keep_0 : decode cX4_keep 0 = .ok (.iconst 0, 1) := by decide +kernel
theorem dX4_keep_1 : decode cX4_keep 1 = .ok (.istore_n 2, 1) := by decide +kernel
theorem dX4_keep_2 : decode cX4_keep 2 = .ok (.iload_n 2, 1) := by decide +kernel
theorem dX4_keep_3 : decode cX4_keep 3 = .ok (.bipush 6, 2) := by decide +kernel
theorem dX4_keep_5 : decode cX4_keep 5 = .ok (.if_icmp .ge 27, 3) := by decide +kernel
theorem dX4_keep_8 : decode cX4_keep 8 = .ok (.aload_n 0, 1) := by decide +kernel
theorem dX4_keep_9 : decode cX4_keep 9 = .ok (.getfield 11, 3) := by decide +kernel
theorem dX4_keep_12 : decode cX4_keep 12 = .ok (.iload_n 2, 1) := by decide +kernel
theorem dX4_keep_13 : decode cX4_keep 13 = .ok (.aaload, 1) := by decide +kernel
theorem dX4_keep_14 : decode cX4_keep 14 = .ok (.aload_n 1, 1) := by decide +kernel
theorem dX4_keep_15 : decode cX4_keep 15 = .ok (.getfield 18, 3) := by decide +kernel
theorem dX4_keep_18 : decode cX4_keep 18 = .ok (.iload_n 2, 1) := by decide +kernel
theorem dX4_keep_19 : decode cX4_keep 19 = .ok (.aaload, 1) := by decide +kernel
theorem dX4_keep_20 : decode cX4_keep 20 = .ok (.getfield 24, 3) := by decide +kernel
theorem dX4_keep_23 : decode cX4_keep 23 = .ok (.invokevirtual 30, 3) := by decide +kernel
end
section
theorem dX4_keep_26 : decode cX4_keep 26 = .ok (.iinc 2 1, 3) := by decide +kernel
theorem dX4_keep_29 : decode cX4_keep 29 = .ok (.goto (-27), 3) := by decide +kernel
theorem dX4_keep_32 : decode cX4_keep 32 = .ok (.return_, 1) := by decide +kernel
theorem dX4_giveBack_0 : decode cX4_giveBack 0 = .ok (.iconst 0, 1) := by decide +kernel
theorem dX4_giveBack_1 : decode cX4_giveBack 1 = .ok (.istore_n 2, 1) := by decide +kernel
theorem dX4_giveBack_2 : decode cX4_giveBack 2 = .ok (.iload_n 2, 1) := by decide +kernel
theorem dX4_giveBack_3 : decode cX4_giveBack 3 = .ok (.bipush 6, 2) := by decide +kernel
theorem dX4_giveBack_5 : decode cX4_giveBack 5 = .ok (.if_icmp .ge 27, 3) := by decide +kernel
theorem dX4_giveBack_8 : decode cX4_giveBack 8 = .ok (.aload_n 1, 1) := by decide +kernel
theorem dX4_giveBack_9 : decode cX4_giveBack 9 = .ok (.getfield 18, 3) := by decide +kernel
theorem dX4_giveBack_12 : decode cX4_giveBack 12 = .ok (.iload_n 2, 1) := by decide +kernel
theorem dX4_giveBack_13 : decode cX4_giveBack 13 = .ok (.aaload, 1) := by decide +kernel
theorem dX4_giveBack_14 : decode cX4_giveBack 14 = .ok (.getfield 24, 3) := by decide +kernel
theorem dX4_giveBack_17 : decode cX4_giveBack 17 = .ok (.aload_n 0, 1) := by decide +kernel
theorem dX4_giveBack_18 : decode cX4_giveBack 18 = .ok (.getfield 11, 3) := by decide +kernel
theorem dX4_giveBack_21 : decode cX4_giveBack 21 = .ok (.iload_n 2, 1) := by decide +kernel
theorem dX4_giveBack_22 : decode cX4_giveBack 22 = .ok (.aaload, 1) := by decide +kernel
theorem dX4_giveBack_23 : decode cX4_giveBack 23 = .ok (.invokevirtual 30, 3) := by decide +kernel
theorem dX4_giveBack_26 : decode cX4_giveBack 26 = .ok (.iinc 2 1, 3) := by decide +kernel
theorem dX4_giveBack_29 : decode cX4_giveBack 29 = .ok (.goto (-27), 3) := by decide +kernel
theorem dX4_giveBack_32 : decode cX4_giveBack 32 = .ok (.return_, 1) := by decide +kernel
theorem dX5_init_0 : decode cX5_init 0 = .ok (.aload_n 0, 1) := by decide +kernel
theorem dX5_init_1 : decode cX5_init 1 = .ok (.invokespecial 3, 3) := by decide +kernel
theorem dX5_init_4 : decode cX5_init 4 = .ok (.aload_n 0, 1) := by decide +kernel
theorem dX5_init_5 : decode cX5_init 5 = .ok (.bipush 6, 2) := by decide +kernel
theorem dX5_init_7 : decode cX5_init 7 = .ok (.newarray .int, 2) := by decide +kernel
theorem dX5_init_9 : decode cX5_init 9 = .ok (.putfield 9, 3) := by decide +kernel
theorem dX5_init_12 : decode cX5_init 12 = .ok (.return_, 1) := by decide +kernel
theorem dX5_at_0 : decode cX5_at 0 = .ok (.iload_n 1, 1) := by decide +kernel
theorem dX5_at_1 : decode cX5_at 1 = .ok (.ifCond .lt 20, 3) := by decide +kernel
theorem dX5_at_4 : decode cX5_at 4 = .ok (.iload_n 1, 1) := by decide +kernel
theorem dX5_at_5 : decode cX5_at 5 = .ok (.aload_n 0, 1) := by decide +kernel
theorem dX5_at_6 : decode cX5_at 6 = .ok (.getfield 15, 3) := by decide +kernel
theorem dX5_at_9 : decode cX5_at 9 = .ok (.if_icmp .ge 12, 3) := by decide +kernel
theorem dX5_at_12 : decode cX5_at 12 = .ok (.aload_n 0, 1) := by decide +kernel
theorem dX5_at_13 : decode cX5_at 13 = .ok (.getfield 9, 3) := by decide +kernel
theorem dX5_at_16 : decode cX5_at 16 = .ok (.iload_n 1, 1) := by decide +kernel
theorem dX5_at_17 : decode cX5_at 17 = .ok (.iaload, 1) := by decide +kernel
theorem dX5_at_18 : decode cX5_at 18 = .ok (.goto 4, 3) := by decide +kernel
theorem dX5_at_21 : decode cX5_at 21 = .ok (.iconst (-1), 1) := by decide +kernel
theorem dX5_at_22 : decode cX5_at 22 = .ok (.ireturn, 1) := by decide +kernel
theorem dX5_placeOf_0 : decode cX5_placeOf 0 = .ok (.iconst 0, 1) := by decide +kernel
theorem dX5_placeOf_1 : decode cX5_placeOf 1 = .ok (.istore_n 2, 1) := by decide +kernel
theorem dX5_placeOf_2 : decode cX5_placeOf 2 = .ok (.iload_n 2, 1) := by decide +kernel
theorem dX5_placeOf_3 : decode cX5_placeOf 3 = .ok (.aload_n 0, 1) := by decide +kernel
theorem dX5_placeOf_4 : decode cX5_placeOf 4 = .ok (.getfield 15, 3) := by decide +kernel
theorem dX5_placeOf_7 : decode cX5_placeOf 7 = .ok (.if_icmp .ge 21, 3) := by decide +kernel
theorem dX5_placeOf_10 : decode cX5_placeOf 10 = .ok (.aload_n 0, 1) := by decide +kernel
theorem dX5_placeOf_11 : decode cX5_placeOf 11 = .ok (.getfield 9, 3) := by decide +kernel
theorem dX5_placeOf_14 : decode cX5_placeOf 14 = .ok (.iload_n 2, 1) := by decide +kernel
theorem dX5_placeOf_15 : decode cX5_placeOf 15 = .ok (.iaload, 1) := by decide +kernel
theorem dX5_placeOf_16 : decode cX5_placeOf 16 = .ok (.iload_n 1, 1) := by decide +kernel
theorem dX5_placeOf_17 : decode cX5_placeOf 17 = .ok (.if_icmp .ne 5, 3) := by decide +kernel
theorem dX5_placeOf_20 : decode cX5_placeOf 20 = .ok (.iload_n 2, 1) := by decide +kernel
theorem dX5_placeOf_21 : decode cX5_placeOf 21 = .ok (.ireturn, 1) := by decide +kernel
theorem dX5_placeOf_22 : decode cX5_placeOf 22 = .ok (.iinc 2 1, 3) := by decide +kernel
theorem dX5_placeOf_25 : decode cX5_placeOf 25 = .ok (.goto (-23), 3) := by decide +kernel
theorem dX5_placeOf_28 : decode cX5_placeOf 28 = .ok (.iconst (-1), 1) := by decide +kernel
theorem dX5_placeOf_29 : decode cX5_placeOf 29 = .ok (.ireturn, 1) := by decide +kernel
theorem dX5_addLast_0 : decode cX5_addLast 0 = .ok (.aload_n 0, 1) := by decide +kernel
theorem dX5_addLast_1 : decode cX5_addLast 1 = .ok (.getfield 15, 3) := by decide +kernel
theorem dX5_addLast_4 : decode cX5_addLast 4 = .ok (.bipush 6, 2) := by decide +kernel
theorem dX5_addLast_6 : decode cX5_addLast 6 = .ok (.if_icmp .ge 23, 3) := by decide +kernel
theorem dX5_addLast_9 : decode cX5_addLast 9 = .ok (.aload_n 0, 1) := by decide +kernel
theorem dX5_addLast_10 : decode cX5_addLast 10 = .ok (.getfield 9, 3) := by decide +kernel
theorem dX5_addLast_13 : decode cX5_addLast 13 = .ok (.aload_n 0, 1) := by decide +kernel
theorem dX5_addLast_14 : decode cX5_addLast 14 = .ok (.getfield 15, 3) := by decide +kernel
theorem dX5_addLast_17 : decode cX5_addLast 17 = .ok (.iload_n 1, 1) := by decide +kernel
theorem dX5_addLast_18 : decode cX5_addLast 18 = .ok (.iastore, 1) := by decide +kernel
theorem dX5_addLast_19 : decode cX5_addLast 19 = .ok (.aload_n 0, 1) := by decide +kernel
theorem dX5_addLast_20 : decode cX5_addLast 20 = .ok (.dup, 1) := by decide +kernel
theorem dX5_addLast_21 : decode cX5_addLast 21 = .ok (.getfield 15, 3) := by decide +kernel
theorem dX5_addLast_24 : decode cX5_addLast 24 = .ok (.iconst 1, 1) := by decide +kernel
theorem dX5_addLast_25 : decode cX5_addLast 25 = .ok (.iadd, 1) := by decide +kernel
theorem dX5_addLast_26 : decode cX5_addLast 26 = .ok (.putfield 15, 3) := by decide +kernel
theorem dX5_addLast_29 : decode cX5_addLast 29 = .ok (.return_, 1) := by decide +kernel
theorem dX5_addFirst_0 : decode cX5_addFirst 0 = .ok (.aload_n 0, 1) := by decide +kernel
theorem dX5_addFirst_1 : decode cX5_addFirst 1 = .ok (.getfield 15, 3) := by decide +kernel
theorem dX5_addFirst_4 : decode cX5_addFirst 4 = .ok (.bipush 6, 2) := by decide +kernel
theorem dX5_addFirst_6 : decode cX5_addFirst 6 = .ok (.if_icmp .ge 37, 3) := by decide +kernel
theorem dX5_addFirst_9 : decode cX5_addFirst 9 = .ok (.aload_n 0, 1) := by decide +kernel
theorem dX5_addFirst_10 : decode cX5_addFirst 10 = .ok (.getfield 9, 3) := by decide +kernel
theorem dX5_addFirst_13 : decode cX5_addFirst 13 = .ok (.iconst 0, 1) := by decide +kernel
theorem dX5_addFirst_14 : decode cX5_addFirst 14 = .ok (.aload_n 0, 1) := by decide +kernel
theorem dX5_addFirst_15 : decode cX5_addFirst 15 = .ok (.getfield 9, 3) := by decide +kernel
theorem dX5_addFirst_18 : decode cX5_addFirst 18 = .ok (.iconst 1, 1) := by decide +kernel
theorem dX5_addFirst_19 : decode cX5_addFirst 19 = .ok (.aload_n 0, 1) := by decide +kernel
theorem dX5_addFirst_20 : decode cX5_addFirst 20 = .ok (.getfield 15, 3) := by decide +kernel
theorem dX5_addFirst_23 : decode cX5_addFirst 23 = .ok (.invokestatic 19, 3) := by decide +kernel
theorem dX5_addFirst_26 : decode cX5_addFirst 26 = .ok (.aload_n 0, 1) := by decide +kernel
theorem dX5_addFirst_27 : decode cX5_addFirst 27 = .ok (.getfield 9, 3) := by decide +kernel
theorem dX5_addFirst_30 : decode cX5_addFirst 30 = .ok (.iconst 0, 1) := by decide +kernel
theorem dX5_addFirst_31 : decode cX5_addFirst 31 = .ok (.iload_n 1, 1) := by decide +kernel
theorem dX5_addFirst_32 : decode cX5_addFirst 32 = .ok (.iastore, 1) := by decide +kernel
theorem dX5_addFirst_33 : decode cX5_addFirst 33 = .ok (.aload_n 0, 1) := by decide +kernel
theorem dX5_addFirst_34 : decode cX5_addFirst 34 = .ok (.dup, 1) := by decide +kernel
theorem dX5_addFirst_35 : decode cX5_addFirst 35 = .ok (.getfield 15, 3) := by decide +kernel
theorem dX5_addFirst_38 : decode cX5_addFirst 38 = .ok (.iconst 1, 1) := by decide +kernel
theorem dX5_addFirst_39 : decode cX5_addFirst 39 = .ok (.iadd, 1) := by decide +kernel
theorem dX5_addFirst_40 : decode cX5_addFirst 40 = .ok (.putfield 15, 3) := by decide +kernel
theorem dX5_addFirst_43 : decode cX5_addFirst 43 = .ok (.return_, 1) := by decide +kernel
theorem dX5_removeAt_0 : decode cX5_removeAt 0 = .ok (.iload_n 1, 1) := by decide +kernel
theorem dX5_removeAt_1 : decode cX5_removeAt 1 = .ok (.ifCond .lt 11, 3) := by decide +kernel
theorem dX5_removeAt_4 : decode cX5_removeAt 4 = .ok (.iload_n 1, 1) := by decide +kernel
theorem dX5_removeAt_5 : decode cX5_removeAt 5 = .ok (.aload_n 0, 1) := by decide +kernel
theorem dX5_removeAt_6 : decode cX5_removeAt 6 = .ok (.getfield 15, 3) := by decide +kernel
theorem dX5_removeAt_9 : decode cX5_removeAt 9 = .ok (.if_icmp .lt 5, 3) := by decide +kernel
theorem dX5_removeAt_12 : decode cX5_removeAt 12 = .ok (.iconst (-1), 1) := by decide +kernel
theorem dX5_removeAt_13 : decode cX5_removeAt 13 = .ok (.ireturn, 1) := by decide +kernel
theorem dX5_removeAt_14 : decode cX5_removeAt 14 = .ok (.aload_n 0, 1) := by decide +kernel
theorem dX5_removeAt_15 : decode cX5_removeAt 15 = .ok (.getfield 9, 3) := by decide +kernel
theorem dX5_removeAt_18 : decode cX5_removeAt 18 = .ok (.iload_n 1, 1) := by decide +kernel
theorem dX5_removeAt_19 : decode cX5_removeAt 19 = .ok (.iaload, 1) := by decide +kernel
theorem dX5_removeAt_20 : decode cX5_removeAt 20 = .ok (.istore_n 2, 1) := by decide +kernel
theorem dX5_removeAt_21 : decode cX5_removeAt 21 = .ok (.aload_n 0, 1) := by decide +kernel
theorem dX5_removeAt_22 : decode cX5_removeAt 22 = .ok (.dup, 1) := by decide +kernel
theorem dX5_removeAt_23 : decode cX5_removeAt 23 = .ok (.getfield 15, 3) := by decide +kernel
theorem dX5_removeAt_26 : decode cX5_removeAt 26 = .ok (.iconst 1, 1) := by decide +kernel
theorem dX5_removeAt_27 : decode cX5_removeAt 27 = .ok (.isub, 1) := by decide +kernel
theorem dX5_removeAt_28 : decode cX5_removeAt 28 = .ok (.putfield 15, 3) := by decide +kernel
theorem dX5_removeAt_31 : decode cX5_removeAt 31 = .ok (.aload_n 0, 1) := by decide +kernel
theorem dX5_removeAt_32 : decode cX5_removeAt 32 = .ok (.getfield 9, 3) := by decide +kernel
theorem dX5_removeAt_35 : decode cX5_removeAt 35 = .ok (.iload_n 1, 1) := by decide +kernel
theorem dX5_removeAt_36 : decode cX5_removeAt 36 = .ok (.iconst 1, 1) := by decide +kernel
theorem dX5_removeAt_37 : decode cX5_removeAt 37 = .ok (.iadd, 1) := by decide +kernel
theorem dX5_removeAt_38 : decode cX5_removeAt 38 = .ok (.aload_n 0, 1) := by decide +kernel
theorem dX5_removeAt_39 : decode cX5_removeAt 39 = .ok (.getfield 9, 3) := by decide +kernel
theorem dX5_removeAt_42 : decode cX5_removeAt 42 = .ok (.iload_n 1, 1) := by decide +kernel
theorem dX5_removeAt_43 : decode cX5_removeAt 43 = .ok (.aload_n 0, 1) := by decide +kernel
theorem dX5_removeAt_44 : decode cX5_removeAt 44 = .ok (.getfield 15, 3) := by decide +kernel
theorem dX5_removeAt_47 : decode cX5_removeAt 47 = .ok (.iload_n 1, 1) := by decide +kernel
theorem dX5_removeAt_48 : decode cX5_removeAt 48 = .ok (.isub, 1) := by decide +kernel
theorem dX5_removeAt_49 : decode cX5_removeAt 49 = .ok (.invokestatic 19, 3) := by decide +kernel
theorem dX5_removeAt_52 : decode cX5_removeAt 52 = .ok (.iload_n 2, 1) := by decide +kernel
theorem dX5_removeAt_53 : decode cX5_removeAt 53 = .ok (.ireturn, 1) := by decide +kernel
theorem dX5_copyFrom_0 : decode cX5_copyFrom 0 = .ok (.aload_n 1, 1) := by decide +kernel
theorem dX5_copyFrom_1 : decode cX5_copyFrom 1 = .ok (.getfield 9, 3) := by decide +kernel
theorem dX5_copyFrom_4 : decode cX5_copyFrom 4 = .ok (.iconst 0, 1) := by decide +kernel
theorem dX5_copyFrom_5 : decode cX5_copyFrom 5 = .ok (.aload_n 0, 1) := by decide +kernel
theorem dX5_copyFrom_6 : decode cX5_copyFrom 6 = .ok (.getfield 9, 3) := by decide +kernel
theorem dX5_copyFrom_9 : decode cX5_copyFrom 9 = .ok (.iconst 0, 1) := by decide +kernel
theorem dX5_copyFrom_10 : decode cX5_copyFrom 10 = .ok (.bipush 6, 2) := by decide +kernel
theorem dX5_copyFrom_12 : decode cX5_copyFrom 12 = .ok (.invokestatic 19, 3) := by decide +kernel
theorem dX5_copyFrom_15 : decode cX5_copyFrom 15 = .ok (.aload_n 0, 1) := by decide +kernel
theorem dX5_copyFrom_16 : decode cX5_copyFrom 16 = .ok (.aload_n 1, 1) := by decide +kernel
theorem dX5_copyFrom_17 : decode cX5_copyFrom 17 = .ok (.getfield 15, 3) := by decide +kernel
theorem dX5_copyFrom_20 : decode cX5_copyFrom 20 = .ok (.putfield 15, 3) := by decide +kernel
theorem dX5_copyFrom_23 : decode cX5_copyFrom 23 = .ok (.return_, 1) := by decide +kernel
theorem dX6_init_0 : decode cX6_init 0 = .ok (.aload_n 0, 1) := by decide +kernel
theorem dX6_init_1 : decode cX6_init 1 = .ok (.invokespecial 3, 3) := by decide +kernel
theorem dX6_init_4 : decode cX6_init 4 = .ok (.aload_n 0, 1) := by decide +kernel
theorem dX6_init_5 : decode cX6_init 5 = .ok (.iconst 5, 1) := by decide +kernel
theorem dX6_init_6 : decode cX6_init 6 = .ok (.anewarray 9, 3) := by decide +kernel
theorem dX6_init_9 : decode cX6_init 9 = .ok (.putfield 11, 3) := by decide +kernel
theorem dX6_init_12 : decode cX6_init 12 = .ok (.aload_n 0, 1) := by decide +kernel
theorem dX6_init_13 : decode cX6_init 13 = .ok (.iconst 5, 1) := by decide +kernel
theorem dX6_init_14 : decode cX6_init 14 = .ok (.newarray .int, 2) := by decide +kernel
theorem dX6_init_16 : decode cX6_init 16 = .ok (.putfield 17, 3) := by decide +kernel
theorem dX6_init_19 : decode cX6_init 19 = .ok (.aload_n 0, 1) := by decide +kernel
theorem dX6_init_20 : decode cX6_init 20 = .ok (.aload_n 1, 1) := by decide +kernel
theorem dX6_init_21 : decode cX6_init 21 = .ok (.putfield 21, 3) := by decide +kernel
theorem dX6_init_24 : decode cX6_init 24 = .ok (.aload_n 0, 1) := by decide +kernel
theorem dX6_init_25 : decode cX6_init 25 = .ok (.aload_n 2, 1) := by decide +kernel
theorem dX6_init_26 : decode cX6_init 26 = .ok (.putfield 25, 3) := by decide +kernel
theorem dX6_init_29 : decode cX6_init 29 = .ok (.iconst 0, 1) := by decide +kernel
theorem dX6_init_30 : decode cX6_init 30 = .ok (.istore_n 3, 1) := by decide +kernel
theorem dX6_init_31 : decode cX6_init 31 = .ok (.iload_n 3, 1) := by decide +kernel
theorem dX6_init_32 : decode cX6_init 32 = .ok (.iconst 4, 1) := by decide +kernel
theorem dX6_init_33 : decode cX6_init 33 = .ok (.if_icmp .gt 22, 3) := by decide +kernel
theorem dX6_init_36 : decode cX6_init 36 = .ok (.aload_n 0, 1) := by decide +kernel
theorem dX6_init_37 : decode cX6_init 37 = .ok (.getfield 11, 3) := by decide +kernel
theorem dX6_init_40 : decode cX6_init 40 = .ok (.iload_n 3, 1) := by decide +kernel
theorem dX6_init_41 : decode cX6_init 41 = .ok (.new 9, 3) := by decide +kernel
theorem dX6_init_44 : decode cX6_init 44 = .ok (.dup, 1) := by decide +kernel
theorem dX6_init_45 : decode cX6_init 45 = .ok (.invokespecial 29, 3) := by decide +kernel
theorem dX6_init_48 : decode cX6_init 48 = .ok (.aastore, 1) := by decide +kernel
theorem dX6_init_49 : decode cX6_init 49 = .ok (.iinc 3 1, 3) := by decide +kernel
theorem dX6_init_52 : decode cX6_init 52 = .ok (.goto (-21), 3) := by decide +kernel
theorem dX6_init_55 : decode cX6_init 55 = .ok (.return_, 1) := by decide +kernel
theorem dX6_run_0 : decode cX6_run 0 = .ok (.aload_n 0, 1) := by decide +kernel
theorem dX6_run_1 : decode cX6_run 1 = .ok (.iconst 0, 1) := by decide +kernel
theorem dX6_run_2 : decode cX6_run 2 = .ok (.putfield 30, 3) := by decide +kernel
theorem dX6_run_5 : decode cX6_run 5 = .ok (.aload_n 0, 1) := by decide +kernel
theorem dX6_run_6 : decode cX6_run 6 = .ok (.iconst (-1), 1) := by decide +kernel
theorem dX6_run_7 : decode cX6_run 7 = .ok (.putfield 34, 3) := by decide +kernel
theorem dX6_run_10 : decode cX6_run 10 = .ok (.aload_n 0, 1) := by decide +kernel
theorem dX6_run_11 : decode cX6_run 11 = .ok (.iconst 0, 1) := by decide +kernel
theorem dX6_run_12 : decode cX6_run 12 = .ok (.putfield 37, 3) := by decide +kernel
theorem dX6_run_15 : decode cX6_run 15 = .ok (.aload_n 0, 1) := by decide +kernel
theorem dX6_run_16 : decode cX6_run 16 = .ok (.iconst 0, 1) := by decide +kernel
theorem dX6_run_17 : decode cX6_run 17 = .ok (.putfield 40, 3) := by decide +kernel
theorem dX6_run_20 : decode cX6_run 20 = .ok (.aload_n 0, 1) := by decide +kernel
theorem dX6_run_21 : decode cX6_run 21 = .ok (.invokevirtual 43, 3) := by decide +kernel
theorem dX6_run_24 : decode cX6_run 24 = .ok (.aload_n 0, 1) := by decide +kernel
theorem dX6_run_25 : decode cX6_run 25 = .ok (.getfield 30, 3) := by decide +kernel
theorem dX6_run_28 : decode cX6_run 28 = .ok (.aload_n 0, 1) := by decide +kernel
theorem dX6_run_29 : decode cX6_run 29 = .ok (.getfield 21, 3) := by decide +kernel
theorem dX6_run_32 : decode cX6_run 32 = .ok (.getfield 46, 3) := by decide +kernel
theorem dX6_run_35 : decode cX6_run 35 = .ok (.if_icmp .ge 86, 3) := by decide +kernel
theorem dX6_run_38 : decode cX6_run 38 = .ok (.aload_n 0, 1) := by decide +kernel
theorem dX6_run_39 : decode cX6_run 39 = .ok (.invokevirtual 51, 3) := by decide +kernel
theorem dX6_run_42 : decode cX6_run 42 = .ok (.istore_n 1, 1) := by decide +kernel
theorem dX6_run_43 : decode cX6_run 43 = .ok (.iload_n 1, 1) := by decide +kernel
theorem dX6_run_44 : decode cX6_run 44 = .ok (.bipush 40, 2) := by decide +kernel
theorem dX6_run_46 : decode cX6_run 46 = .ok (.if_icmp .ne 10, 3) := by decide +kernel
theorem dX6_run_49 : decode cX6_run 49 = .ok (.aload_n 0, 1) := by decide +kernel
theorem dX6_run_50 : decode cX6_run 50 = .ok (.invokevirtual 43, 3) := by decide +kernel
theorem dX6_run_53 : decode cX6_run 53 = .ok (.goto 65, 3) := by decide +kernel
theorem dX6_run_56 : decode cX6_run 56 = .ok (.iload_n 1, 1) := by decide +kernel
theorem dX6_run_57 : decode cX6_run 57 = .ok (.bipush 41, 2) := by decide +kernel
theorem dX6_run_59 : decode cX6_run 59 = .ok (.if_icmp .ne 10, 3) := by decide +kernel
theorem dX6_run_62 : decode cX6_run 62 = .ok (.aload_n 0, 1) := by decide +kernel
theorem dX6_run_63 : decode cX6_run 63 = .ok (.invokevirtual 55, 3) := by decide +kernel
theorem dX6_run_66 : decode cX6_run 66 = .ok (.goto 52, 3) := by decide +kernel
theorem dX6_run_69 : decode cX6_run 69 = .ok (.iload_n 1, 1) := by decide +kernel
theorem dX6_run_70 : decode cX6_run 70 = .ok (.bipush 32, 2) := by decide +kernel
theorem dX6_run_72 : decode cX6_run 72 = .ok (.if_icmp .eq 46, 3) := by decide +kernel
theorem dX6_run_75 : decode cX6_run 75 = .ok (.aload_n 0, 1) := by decide +kernel
theorem dX6_run_76 : decode cX6_run 76 = .ok (.iload_n 1, 1) := by decide +kernel
theorem dX6_run_77 : decode cX6_run 77 = .ok (.invokevirtual 58, 3) := by decide +kernel
theorem dX6_run_80 : decode cX6_run 80 = .ok (.ifCond .ne 38, 3) := by decide +kernel
theorem dX6_run_83 : decode cX6_run 83 = .ok (.aload_n 0, 1) := by decide +kernel
theorem dX6_run_84 : decode cX6_run 84 = .ok (.invokevirtual 62, 3) := by decide +kernel
theorem dX6_run_87 : decode cX6_run 87 = .ok (.aload_n 0, 1) := by decide +kernel
theorem dX6_run_88 : decode cX6_run 88 = .ok (.getfield 34, 3) := by decide +kernel
theorem dX6_run_91 : decode cX6_run 91 = .ok (.iconst (-1), 1) := by decide +kernel
theorem dX6_run_92 : decode cX6_run 92 = .ok (.if_icmp .ne 12, 3) := by decide +kernel
theorem dX6_run_95 : decode cX6_run 95 = .ok (.sipush (-1000), 3) := by decide +kernel
theorem dX6_run_98 : decode cX6_run 98 = .ok (.aload_n 0, 1) := by decide +kernel
theorem dX6_run_99 : decode cX6_run 99 = .ok (.getfield 40, 3) := by decide +kernel
theorem dX6_run_102 : decode cX6_run 102 = .ok (.isub, 1) := by decide +kernel
theorem dX6_run_103 : decode cX6_run 103 = .ok (.ireturn, 1) := by decide +kernel
theorem dX6_run_104 : decode cX6_run 104 = .ok (.aload_n 0, 1) := by decide +kernel
theorem dX6_run_105 : decode cX6_run 105 = .ok (.dup, 1) := by decide +kernel
theorem dX6_run_106 : decode cX6_run 106 = .ok (.getfield 40, 3) := by decide +kernel
theorem dX6_run_109 : decode cX6_run 109 = .ok (.iconst 1, 1) := by decide +kernel
theorem dX6_run_110 : decode cX6_run 110 = .ok (.iadd, 1) := by decide +kernel
theorem dX6_run_111 : decode cX6_run 111 = .ok (.putfield 40, 3) := by decide +kernel
theorem dX6_run_114 : decode cX6_run 114 = .ok (.aload_n 0, 1) := by decide +kernel
theorem dX6_run_115 : decode cX6_run 115 = .ok (.invokevirtual 65, 3) := by decide +kernel
theorem dX6_run_118 : decode cX6_run 118 = .ok (.goto (-94), 3) := by decide +kernel
theorem dX6_run_121 : decode cX6_run 121 = .ok (.aload_n 0, 1) := by decide +kernel
theorem dX6_run_122 : decode cX6_run 122 = .ok (.invokevirtual 55, 3) := by decide +kernel
theorem dX6_run_125 : decode cX6_run 125 = .ok (.aload_n 0, 1) := by decide +kernel
theorem dX6_run_126 : decode cX6_run 126 = .ok (.getfield 37, 3) := by decide +kernel
theorem dX6_run_129 : decode cX6_run 129 = .ok (.ireturn, 1) := by decide +kernel
theorem dX6_enterLevel_0 : decode cX6_enterLevel 0 = .ok (.aload_n 0, 1) := by decide +kernel
theorem dX6_enterLevel_1 : decode cX6_enterLevel 1 = .ok (.getfield 34, 3) := by decide +kernel
theorem dX6_enterLevel_4 : decode cX6_enterLevel 4 = .ok (.iconst 4, 1) := by decide +kernel
theorem dX6_enterLevel_5 : decode cX6_enterLevel 5 = .ok (.if_icmp .ge 52, 3) := by decide +kernel
theorem dX6_enterLevel_8 : decode cX6_enterLevel 8 = .ok (.aload_n 0, 1) := by decide +kernel
theorem dX6_enterLevel_9 : decode cX6_enterLevel 9 = .ok (.dup, 1) := by decide +kernel
theorem dX6_enterLevel_10 : decode cX6_enterLevel 10 = .ok (.getfield 34, 3) := by decide +kernel
theorem dX6_enterLevel_13 : decode cX6_enterLevel 13 = .ok (.iconst 1, 1) := by decide +kernel
theorem dX6_enterLevel_14 : decode cX6_enterLevel 14 = .ok (.iadd, 1) := by decide +kernel
theorem dX6_enterLevel_15 : decode cX6_enterLevel 15 = .ok (.putfield 34, 3) := by decide +kernel
theorem dX6_enterLevel_18 : decode cX6_enterLevel 18 = .ok (.aload_n 0, 1) := by decide +kernel
theorem dX6_enterLevel_19 : decode cX6_enterLevel 19 = .ok (.getfield 25, 3) := by decide +kernel
theorem dX6_enterLevel_22 : decode cX6_enterLevel 22 = .ok (.getfield 68, 3) := by decide +kernel
theorem dX6_enterLevel_25 : decode cX6_enterLevel 25 = .ok (.invokevirtual 74, 3) := by decide +kernel
theorem dX6_enterLevel_28 : decode cX6_enterLevel 28 = .ok (.aload_n 0, 1) := by decide +kernel
theorem dX6_enterLevel_29 : decode cX6_enterLevel 29 = .ok (.getfield 11, 3) := by decide +kernel
theorem dX6_enterLevel_32 : decode cX6_enterLevel 32 = .ok (.aload_n 0, 1) := by decide +kernel
theorem dX6_enterLevel_33 : decode cX6_enterLevel 33 = .ok (.getfield 34, 3) := by decide +kernel
theorem dX6_enterLevel_36 : decode cX6_enterLevel 36 = .ok (.aaload, 1) := by decide +kernel
theorem dX6_enterLevel_37 : decode cX6_enterLevel 37 = .ok (.aload_n 0, 1) := by decide +kernel
theorem dX6_enterLevel_38 : decode cX6_enterLevel 38 = .ok (.getfield 25, 3) := by decide +kernel
theorem dX6_enterLevel_41 : decode cX6_enterLevel 41 = .ok (.invokevirtual 79, 3) := by decide +kernel
theorem dX6_enterLevel_44 : decode cX6_enterLevel 44 = .ok (.aload_n 0, 1) := by decide +kernel
theorem dX6_enterLevel_45 : decode cX6_enterLevel 45 = .ok (.getfield 17, 3) := by decide +kernel
theorem dX6_enterLevel_48 : decode cX6_enterLevel 48 = .ok (.aload_n 0, 1) := by decide +kernel
theorem dX6_enterLevel_49 : decode cX6_enterLevel 49 = .ok (.getfield 34, 3) := by decide +kernel
theorem dX6_enterLevel_52 : decode cX6_enterLevel 52 = .ok (.aload_n 0, 1) := by decide +kernel
theorem dX6_enterLevel_53 : decode cX6_enterLevel 53 = .ok (.getfield 37, 3) := by decide +kernel
theorem dX6_enterLevel_56 : decode cX6_enterLevel 56 = .ok (.iastore, 1) := by decide +kernel
theorem dX6_enterLevel_57 : decode cX6_enterLevel 57 = .ok (.return_, 1) := by decide +kernel
theorem dX6_leaveLevel_0 : decode cX6_leaveLevel 0 = .ok (.aload_n 0, 1) := by decide +kernel
theorem dX6_leaveLevel_1 : decode cX6_leaveLevel 1 = .ok (.getfield 34, 3) := by decide +kernel
theorem dX6_leaveLevel_4 : decode cX6_leaveLevel 4 = .ok (.ifCond .lt 23, 3) := by decide +kernel
theorem dX6_leaveLevel_7 : decode cX6_leaveLevel 7 = .ok (.aload_n 0, 1) := by decide +kernel
theorem dX6_leaveLevel_8 : decode cX6_leaveLevel 8 = .ok (.getfield 25, 3) := by decide +kernel
theorem dX6_leaveLevel_11 : decode cX6_leaveLevel 11 = .ok (.getfield 68, 3) := by decide +kernel
theorem dX6_leaveLevel_14 : decode cX6_leaveLevel 14 = .ok (.invokevirtual 83, 3) := by decide +kernel
theorem dX6_leaveLevel_17 : decode cX6_leaveLevel 17 = .ok (.aload_n 0, 1) := by decide +kernel
theorem dX6_leaveLevel_18 : decode cX6_leaveLevel 18 = .ok (.dup, 1) := by decide +kernel
theorem dX6_leaveLevel_19 : decode cX6_leaveLevel 19 = .ok (.getfield 34, 3) := by decide +kernel
theorem dX6_leaveLevel_22 : decode cX6_leaveLevel 22 = .ok (.iconst 1, 1) := by decide +kernel
theorem dX6_leaveLevel_23 : decode cX6_leaveLevel 23 = .ok (.isub, 1) := by decide +kernel
theorem dX6_leaveLevel_24 : decode cX6_leaveLevel 24 = .ok (.putfield 34, 3) := by decide +kernel
theorem dX6_leaveLevel_27 : decode cX6_leaveLevel 27 = .ok (.return_, 1) := by decide +kernel
theorem dX6_undoLevel_0 : decode cX6_undoLevel 0 = .ok (.aload_n 0, 1) := by decide +kernel
theorem dX6_undoLevel_1 : decode cX6_undoLevel 1 = .ok (.getfield 34, 3) := by decide +kernel
theorem dX6_undoLevel_4 : decode cX6_undoLevel 4 = .ok (.ifCond .lt 52, 3) := by decide +kernel
theorem dX6_undoLevel_7 : decode cX6_undoLevel 7 = .ok (.aload_n 0, 1) := by decide +kernel
theorem dX6_undoLevel_8 : decode cX6_undoLevel 8 = .ok (.getfield 25, 3) := by decide +kernel
theorem dX6_undoLevel_11 : decode cX6_undoLevel 11 = .ok (.getfield 68, 3) := by decide +kernel
theorem dX6_undoLevel_14 : decode cX6_undoLevel 14 = .ok (.invokevirtual 86, 3) := by decide +kernel
theorem dX6_undoLevel_17 : decode cX6_undoLevel 17 = .ok (.aload_n 0, 1) := by decide +kernel
theorem dX6_undoLevel_18 : decode cX6_undoLevel 18 = .ok (.getfield 11, 3) := by decide +kernel
theorem dX6_undoLevel_21 : decode cX6_undoLevel 21 = .ok (.aload_n 0, 1) := by decide +kernel
theorem dX6_undoLevel_22 : decode cX6_undoLevel 22 = .ok (.getfield 34, 3) := by decide +kernel
theorem dX6_undoLevel_25 : decode cX6_undoLevel 25 = .ok (.aaload, 1) := by decide +kernel
theorem dX6_undoLevel_26 : decode cX6_undoLevel 26 = .ok (.aload_n 0, 1) := by decide +kernel
theorem dX6_undoLevel_27 : decode cX6_undoLevel 27 = .ok (.getfield 25, 3) := by decide +kernel
theorem dX6_undoLevel_30 : decode cX6_undoLevel 30 = .ok (.invokevirtual 89, 3) := by decide +kernel
theorem dX6_undoLevel_33 : decode cX6_undoLevel 33 = .ok (.aload_n 0, 1) := by decide +kernel
theorem dX6_undoLevel_34 : decode cX6_undoLevel 34 = .ok (.aload_n 0, 1) := by decide +kernel
theorem dX6_undoLevel_35 : decode cX6_undoLevel 35 = .ok (.getfield 17, 3) := by decide +kernel
theorem dX6_undoLevel_38 : decode cX6_undoLevel 38 = .ok (.aload_n 0, 1) := by decide +kernel
theorem dX6_undoLevel_39 : decode cX6_undoLevel 39 = .ok (.getfield 34, 3) := by decide +kernel
theorem dX6_undoLevel_42 : decode cX6_undoLevel 42 = .ok (.iaload, 1) := by decide +kernel
theorem dX6_undoLevel_43 : decode cX6_undoLevel 43 = .ok (.putfield 37, 3) := by decide +kernel
theorem dX6_undoLevel_46 : decode cX6_undoLevel 46 = .ok (.aload_n 0, 1) := by decide +kernel
theorem dX6_undoLevel_47 : decode cX6_undoLevel 47 = .ok (.dup, 1) := by decide +kernel
theorem dX6_undoLevel_48 : decode cX6_undoLevel 48 = .ok (.getfield 34, 3) := by decide +kernel
theorem dX6_undoLevel_51 : decode cX6_undoLevel 51 = .ok (.iconst 1, 1) := by decide +kernel
theorem dX6_undoLevel_52 : decode cX6_undoLevel 52 = .ok (.isub, 1) := by decide +kernel
theorem dX6_undoLevel_53 : decode cX6_undoLevel 53 = .ok (.putfield 34, 3) := by decide +kernel
theorem dX6_undoLevel_56 : decode cX6_undoLevel 56 = .ok (.return_, 1) := by decide +kernel
theorem dX6_skipGroup_0 : decode cX6_skipGroup 0 = .ok (.iconst 1, 1) := by decide +kernel
theorem dX6_skipGroup_1 : decode cX6_skipGroup 1 = .ok (.istore_n 1, 1) := by decide +kernel
theorem dX6_skipGroup_2 : decode cX6_skipGroup 2 = .ok (.aload_n 0, 1) := by decide +kernel
theorem dX6_skipGroup_3 : decode cX6_skipGroup 3 = .ok (.getfield 30, 3) := by decide +kernel
theorem dX6_skipGroup_6 : decode cX6_skipGroup 6 = .ok (.aload_n 0, 1) := by decide +kernel
theorem dX6_skipGroup_7 : decode cX6_skipGroup 7 = .ok (.getfield 21, 3) := by decide +kernel
theorem dX6_skipGroup_10 : decode cX6_skipGroup 10 = .ok (.getfield 46, 3) := by decide +kernel
theorem dX6_skipGroup_13 : decode cX6_skipGroup 13 = .ok (.if_icmp .ge 36, 3) := by decide +kernel
theorem dX6_skipGroup_16 : decode cX6_skipGroup 16 = .ok (.iload_n 1, 1) := by decide +kernel
theorem dX6_skipGroup_17 : decode cX6_skipGroup 17 = .ok (.ifCond .le 32, 3) := by decide +kernel
theorem dX6_skipGroup_20 : decode cX6_skipGroup 20 = .ok (.aload_n 0, 1) := by decide +kernel
theorem dX6_skipGroup_21 : decode cX6_skipGroup 21 = .ok (.invokevirtual 51, 3) := by decide +kernel
theorem dX6_skipGroup_24 : decode cX6_skipGroup 24 = .ok (.istore_n 2, 1) := by decide +kernel
theorem dX6_skipGroup_25 : decode cX6_skipGroup 25 = .ok (.iload_n 2, 1) := by decide +kernel
theorem dX6_skipGroup_26 : decode cX6_skipGroup 26 = .ok (.bipush 40, 2) := by decide +kernel
theorem dX6_skipGroup_28 : decode cX6_skipGroup 28 = .ok (.if_icmp .ne 9, 3) := by decide +kernel
theorem dX6_skipGroup_31 : decode cX6_skipGroup 31 = .ok (.iinc 1 1, 3) := by decide +kernel
theorem dX6_skipGroup_34 : decode cX6_skipGroup 34 = .ok (.goto 12, 3) := by decide +kernel
theorem dX6_skipGroup_37 : decode cX6_skipGroup 37 = .ok (.iload_n 2, 1) := by decide +kernel
theorem dX6_skipGroup_38 : decode cX6_skipGroup 38 = .ok (.bipush 41, 2) := by decide +kernel
theorem dX6_skipGroup_40 : decode cX6_skipGroup 40 = .ok (.if_icmp .ne 6, 3) := by decide +kernel
theorem dX6_skipGroup_43 : decode cX6_skipGroup 43 = .ok (.iinc 1 (-1), 3) := by decide +kernel
theorem dX6_skipGroup_46 : decode cX6_skipGroup 46 = .ok (.goto (-44), 3) := by decide +kernel
theorem dX6_skipGroup_49 : decode cX6_skipGroup 49 = .ok (.return_, 1) := by decide +kernel
theorem dX6_orderDone_0 : decode cX6_orderDone 0 = .ok (.aload_n 0, 1) := by decide +kernel
theorem dX6_orderDone_1 : decode cX6_orderDone 1 = .ok (.invokevirtual 92, 3) := by decide +kernel
theorem dX6_orderDone_4 : decode cX6_orderDone 4 = .ok (.istore_n 2, 1) := by decide +kernel
theorem dX6_orderDone_5 : decode cX6_orderDone 5 = .ok (.iload_n 1, 1) := by decide +kernel
theorem dX6_orderDone_6 : decode cX6_orderDone 6 = .ok (.bipush 116, 2) := by decide +kernel
theorem dX6_orderDone_8 : decode cX6_orderDone 8 = .ok (.if_icmp .ne 41, 3) := by decide +kernel
theorem dX6_orderDone_11 : decode cX6_orderDone 11 = .ok (.aload_n 0, 1) := by decide +kernel
theorem dX6_orderDone_12 : decode cX6_orderDone 12 = .ok (.getfield 25, 3) := by decide +kernel
theorem dX6_orderDone_15 : decode cX6_orderDone 15 = .ok (.iload_n 2, 1) := by decide +kernel
theorem dX6_orderDone_16 : decode cX6_orderDone 16 = .ok (.invokevirtual 95, 3) := by decide +kernel
theorem dX6_orderDone_19 : decode cX6_orderDone 19 = .ok (.ifCond .eq 25, 3) := by decide +kernel
theorem dX6_orderDone_22 : decode cX6_orderDone 22 = .ok (.aload_n 0, 1) := by decide +kernel
theorem dX6_orderDone_23 : decode cX6_orderDone 23 = .ok (.getfield 25, 3) := by decide +kernel
theorem dX6_orderDone_26 : decode cX6_orderDone 26 = .ok (.getfield 98, 3) := by decide +kernel
theorem dX6_orderDone_29 : decode cX6_orderDone 29 = .ok (.iload_n 2, 1) := by decide +kernel
theorem dX6_orderDone_30 : decode cX6_orderDone 30 = .ok (.aaload, 1) := by decide +kernel
theorem dX6_orderDone_31 : decode cX6_orderDone 31 = .ok (.iconst (-1), 1) := by decide +kernel
theorem dX6_orderDone_32 : decode cX6_orderDone 32 = .ok (.invokevirtual 102, 3) := by decide +kernel
theorem dX6_orderDone_35 : decode cX6_orderDone 35 = .ok (.bipush (-5), 2) := by decide +kernel
theorem dX6_orderDone_37 : decode cX6_orderDone 37 = .ok (.if_icmp .eq 7, 3) := by decide +kernel
theorem dX6_orderDone_40 : decode cX6_orderDone 40 = .ok (.iconst 1, 1) := by decide +kernel
theorem dX6_orderDone_41 : decode cX6_orderDone 41 = .ok (.goto 4, 3) := by decide +kernel
theorem dX6_orderDone_44 : decode cX6_orderDone 44 = .ok (.iconst 0, 1) := by decide +kernel
theorem dX6_orderDone_45 : decode cX6_orderDone 45 = .ok (.istore_n 3, 1) := by decide +kernel
theorem dX6_orderDone_46 : decode cX6_orderDone 46 = .ok (.goto 117, 3) := by decide +kernel
theorem dX6_orderDone_49 : decode cX6_orderDone 49 = .ok (.iload_n 1, 1) := by decide +kernel
theorem dX6_orderDone_50 : decode cX6_orderDone 50 = .ok (.bipush 112, 2) := by decide +kernel
theorem dX6_orderDone_52 : decode cX6_orderDone 52 = .ok (.if_icmp .ne 47, 3) := by decide +kernel
theorem dX6_orderDone_55 : decode cX6_orderDone 55 = .ok (.aload_n 0, 1) := by decide +kernel
theorem dX6_orderDone_56 : decode cX6_orderDone 56 = .ok (.invokevirtual 92, 3) := by decide +kernel
theorem dX6_orderDone_59 : decode cX6_orderDone 59 = .ok (.istore 4, 2) := by decide +kernel
theorem dX6_orderDone_61 : decode cX6_orderDone 61 = .ok (.aload_n 0, 1) := by decide +kernel
theorem dX6_orderDone_62 : decode cX6_orderDone 62 = .ok (.getfield 25, 3) := by decide +kernel
theorem dX6_orderDone_65 : decode cX6_orderDone 65 = .ok (.iload_n 2, 1) := by decide +kernel
theorem dX6_orderDone_66 : decode cX6_orderDone 66 = .ok (.invokevirtual 95, 3) := by decide +kernel
theorem dX6_orderDone_69 : decode cX6_orderDone 69 = .ok (.ifCond .eq 25, 3) := by decide +kernel
theorem dX6_orderDone_72 : decode cX6_orderDone 72 = .ok (.aload_n 0, 1) := by decide +kernel
theorem dX6_orderDone_73 : decode cX6_orderDone 73 = .ok (.getfield 25, 3) := by decide +kernel
theorem dX6_orderDone_76 : decode cX6_orderDone 76 = .ok (.getfield 98, 3) := by decide +kernel
theorem dX6_orderDone_79 : decode cX6_orderDone 79 = .ok (.iload_n 2, 1) := by decide +kernel
theorem dX6_orderDone_80 : decode cX6_orderDone 80 = .ok (.aaload, 1) := by decide +kernel
theorem dX6_orderDone_81 : decode cX6_orderDone 81 = .ok (.iload 4, 2) := by decide +kernel
theorem dX6_orderDone_83 : decode cX6_orderDone 83 = .ok (.iconst (-1), 1) := by decide +kernel
theorem dX6_orderDone_84 : decode cX6_orderDone 84 = .ok (.invokevirtual 108, 3) := by decide +kernel
theorem dX6_orderDone_87 : decode cX6_orderDone 87 = .ok (.ifCond .eq 7, 3) := by decide +kernel
theorem dX6_orderDone_90 : decode cX6_orderDone 90 = .ok (.iconst 1, 1) := by decide +kernel
theorem dX6_orderDone_91 : decode cX6_orderDone 91 = .ok (.goto 4, 3) := by decide +kernel
theorem dX6_orderDone_94 : decode cX6_orderDone 94 = .ok (.iconst 0, 1) := by decide +kernel
theorem dX6_orderDone_95 : decode cX6_orderDone 95 = .ok (.istore_n 3, 1) := by decide +kernel
theorem dX6_orderDone_96 : decode cX6_orderDone 96 = .ok (.goto 67, 3) := by decide +kernel
theorem dX6_orderDone_99 : decode cX6_orderDone 99 = .ok (.aload_n 0, 1) := by decide +kernel
theorem dX6_orderDone_100 : decode cX6_orderDone 100 = .ok (.invokevirtual 92, 3) := by decide +kernel
theorem dX6_orderDone_103 : decode cX6_orderDone 103 = .ok (.istore 4, 2) := by decide +kernel
theorem dX6_orderDone_105 : decode cX6_orderDone 105 = .ok (.aload_n 0, 1) := by decide +kernel
theorem dX6_orderDone_106 : decode cX6_orderDone 106 = .ok (.invokevirtual 92, 3) := by decide +kernel
theorem dX6_orderDone_109 : decode cX6_orderDone 109 = .ok (.istore 5, 2) := by decide +kernel
theorem dX6_orderDone_111 : decode cX6_orderDone 111 = .ok (.aload_n 0, 1) := by decide +kernel
theorem dX6_orderDone_112 : decode cX6_orderDone 112 = .ok (.getfield 25, 3) := by decide +kernel
theorem dX6_orderDone_115 : decode cX6_orderDone 115 = .ok (.iload_n 2, 1) := by decide +kernel
theorem dX6_orderDone_116 : decode cX6_orderDone 116 = .ok (.invokevirtual 95, 3) := by decide +kernel
theorem dX6_orderDone_119 : decode cX6_orderDone 119 = .ok (.ifCond .eq 42, 3) := by decide +kernel
theorem dX6_orderDone_122 : decode cX6_orderDone 122 = .ok (.aload_n 0, 1) := by decide +kernel
theorem dX6_orderDone_123 : decode cX6_orderDone 123 = .ok (.getfield 25, 3) := by decide +kernel
theorem dX6_orderDone_126 : decode cX6_orderDone 126 = .ok (.iload 4, 2) := by decide +kernel
theorem dX6_orderDone_128 : decode cX6_orderDone 128 = .ok (.invokevirtual 95, 3) := by decide +kernel
theorem dX6_orderDone_131 : decode cX6_orderDone 131 = .ok (.ifCond .eq 30, 3) := by decide +kernel
theorem dX6_orderDone_134 : decode cX6_orderDone 134 = .ok (.iload_n 2, 1) := by decide +kernel
theorem dX6_orderDone_135 : decode cX6_orderDone 135 = .ok (.iload 4, 2) := by decide +kernel
theorem dX6_orderDone_137 : decode cX6_orderDone 137 = .ok (.if_icmp .eq 24, 3) := by decide +kernel
theorem dX6_orderDone_140 : decode cX6_orderDone 140 = .ok (.aload_n 0, 1) := by decide +kernel
theorem dX6_orderDone_141 : decode cX6_orderDone 141 = .ok (.getfield 25, 3) := by decide +kernel
theorem dX6_orderDone_144 : decode cX6_orderDone 144 = .ok (.iload_n 2, 1) := by decide +kernel
theorem dX6_orderDone_145 : decode cX6_orderDone 145 = .ok (.iload 4, 2) := by decide +kernel
theorem dX6_orderDone_147 : decode cX6_orderDone 147 = .ok (.iload 5, 2) := by decide +kernel
theorem dX6_orderDone_149 : decode cX6_orderDone 149 = .ok (.invokevirtual 112, 3) := by decide +kernel
theorem dX6_orderDone_152 : decode cX6_orderDone 152 = .ok (.iload 5, 2) := by decide +kernel
theorem dX6_orderDone_154 : decode cX6_orderDone 154 = .ok (.if_icmp .ne 7, 3) := by decide +kernel
theorem dX6_orderDone_157 : decode cX6_orderDone 157 = .ok (.iconst 1, 1) := by decide +kernel
theorem dX6_orderDone_158 : decode cX6_orderDone 158 = .ok (.goto 4, 3) := by decide +kernel
theorem dX6_orderDone_161 : decode cX6_orderDone 161 = .ok (.iconst 0, 1) := by decide +kernel
theorem dX6_orderDone_162 : decode cX6_orderDone 162 = .ok (.istore_n 3, 1) := by decide +kernel
theorem dX6_orderDone_163 : decode cX6_orderDone 163 = .ok (.iload_n 3, 1) := by decide +kernel
theorem dX6_orderDone_164 : decode cX6_orderDone 164 = .ok (.ifCond .eq 23, 3) := by decide +kernel
theorem dX6_orderDone_167 : decode cX6_orderDone 167 = .ok (.aload_n 0, 1) := by decide +kernel
theorem dX6_orderDone_168 : decode cX6_orderDone 168 = .ok (.dup, 1) := by decide +kernel
theorem dX6_orderDone_169 : decode cX6_orderDone 169 = .ok (.getfield 40, 3) := by decide +kernel
theorem dX6_orderDone_172 : decode cX6_orderDone 172 = .ok (.iconst 1, 1) := by decide +kernel
theorem dX6_orderDone_173 : decode cX6_orderDone 173 = .ok (.iadd, 1) := by decide +kernel
theorem dX6_orderDone_174 : decode cX6_orderDone 174 = .ok (.putfield 40, 3) := by decide +kernel
theorem dX6_orderDone_177 : decode cX6_orderDone 177 = .ok (.aload_n 0, 1) := by decide +kernel
theorem dX6_orderDone_178 : decode cX6_orderDone 178 = .ok (.dup, 1) := by decide +kernel
theorem dX6_orderDone_179 : decode cX6_orderDone 179 = .ok (.getfield 37, 3) := by decide +kernel
theorem dX6_orderDone_182 : decode cX6_orderDone 182 = .ok (.iconst 1, 1) := by decide +kernel
theorem dX6_orderDone_183 : decode cX6_orderDone 183 = .ok (.iadd, 1) := by decide +kernel
theorem dX6_orderDone_184 : decode cX6_orderDone 184 = .ok (.putfield 37, 3) := by decide +kernel
theorem dX6_orderDone_187 : decode cX6_orderDone 187 = .ok (.iload_n 3, 1) := by decide +kernel
theorem dX6_orderDone_188 : decode cX6_orderDone 188 = .ok (.ireturn, 1) := by decide +kernel
theorem dX6_nextFigure_0 : decode cX6_nextFigure 0 = .ok (.aload_n 0, 1) := by decide +kernel
theorem dX6_nextFigure_1 : decode cX6_nextFigure 1 = .ok (.getfield 30, 3) := by decide +kernel
theorem dX6_nextFigure_4 : decode cX6_nextFigure 4 = .ok (.aload_n 0, 1) := by decide +kernel
theorem dX6_nextFigure_5 : decode cX6_nextFigure 5 = .ok (.getfield 21, 3) := by decide +kernel
theorem dX6_nextFigure_8 : decode cX6_nextFigure 8 = .ok (.getfield 46, 3) := by decide +kernel
theorem dX6_nextFigure_11 : decode cX6_nextFigure 11 = .ok (.if_icmp .ge 32, 3) := by decide +kernel
theorem dX6_nextFigure_14 : decode cX6_nextFigure 14 = .ok (.aload_n 0, 1) := by decide +kernel
theorem dX6_nextFigure_15 : decode cX6_nextFigure 15 = .ok (.getfield 21, 3) := by decide +kernel
theorem dX6_nextFigure_18 : decode cX6_nextFigure 18 = .ok (.aload_n 0, 1) := by decide +kernel
theorem dX6_nextFigure_19 : decode cX6_nextFigure 19 = .ok (.getfield 30, 3) := by decide +kernel
theorem dX6_nextFigure_22 : decode cX6_nextFigure 22 = .ok (.invokevirtual 116, 3) := by decide +kernel
theorem dX6_nextFigure_25 : decode cX6_nextFigure 25 = .ok (.bipush 32, 2) := by decide +kernel
theorem dX6_nextFigure_27 : decode cX6_nextFigure 27 = .ok (.if_icmp .ne 16, 3) := by decide +kernel
theorem dX6_nextFigure_30 : decode cX6_nextFigure 30 = .ok (.aload_n 0, 1) := by decide +kernel
theorem dX6_nextFigure_31 : decode cX6_nextFigure 31 = .ok (.dup, 1) := by decide +kernel
theorem dX6_nextFigure_32 : decode cX6_nextFigure 32 = .ok (.getfield 30, 3) := by decide +kernel
theorem dX6_nextFigure_35 : decode cX6_nextFigure 35 = .ok (.iconst 1, 1) := by decide +kernel
theorem dX6_nextFigure_36 : decode cX6_nextFigure 36 = .ok (.iadd, 1) := by decide +kernel
theorem dX6_nextFigure_37 : decode cX6_nextFigure 37 = .ok (.putfield 30, 3) := by decide +kernel
theorem dX6_nextFigure_40 : decode cX6_nextFigure 40 = .ok (.goto (-40), 3) := by decide +kernel
theorem dX6_nextFigure_43 : decode cX6_nextFigure 43 = .ok (.aload_n 0, 1) := by decide +kernel
theorem dX6_nextFigure_44 : decode cX6_nextFigure 44 = .ok (.invokevirtual 51, 3) := by decide +kernel
theorem dX6_nextFigure_47 : decode cX6_nextFigure 47 = .ok (.bipush 48, 2) := by decide +kernel
theorem dX6_nextFigure_49 : decode cX6_nextFigure 49 = .ok (.isub, 1) := by decide +kernel
theorem dX6_nextFigure_50 : decode cX6_nextFigure 50 = .ok (.ireturn, 1) := by decide +kernel
theorem dX6_nextByte_0 : decode cX6_nextByte 0 = .ok (.aload_n 0, 1) := by decide +kernel
theorem dX6_nextByte_1 : decode cX6_nextByte 1 = .ok (.getfield 21, 3) := by decide +kernel
theorem dX6_nextByte_4 : decode cX6_nextByte 4 = .ok (.aload_n 0, 1) := by decide +kernel
theorem dX6_nextByte_5 : decode cX6_nextByte 5 = .ok (.getfield 30, 3) := by decide +kernel
theorem dX6_nextByte_8 : decode cX6_nextByte 8 = .ok (.invokevirtual 116, 3) := by decide +kernel
theorem dX6_nextByte_11 : decode cX6_nextByte 11 = .ok (.istore_n 1, 1) := by decide +kernel
theorem dX6_nextByte_12 : decode cX6_nextByte 12 = .ok (.aload_n 0, 1) := by decide +kernel
theorem dX6_nextByte_13 : decode cX6_nextByte 13 = .ok (.dup, 1) := by decide +kernel
theorem dX6_nextByte_14 : decode cX6_nextByte 14 = .ok (.getfield 30, 3) := by decide +kernel
theorem dX6_nextByte_17 : decode cX6_nextByte 17 = .ok (.iconst 1, 1) := by decide +kernel
theorem dX6_nextByte_18 : decode cX6_nextByte 18 = .ok (.iadd, 1) := by decide +kernel
theorem dX6_nextByte_19 : decode cX6_nextByte 19 = .ok (.putfield 30, 3) := by decide +kernel
theorem dX6_nextByte_22 : decode cX6_nextByte 22 = .ok (.iload_n 1, 1) := by decide +kernel
theorem dX6_nextByte_23 : decode cX6_nextByte 23 = .ok (.ireturn, 1) := by decide +kernel
theorem dX7_init_0 : decode cX7_init 0 = .ok (.aload_n 0, 1) := by decide +kernel
theorem dX7_init_1 : decode cX7_init 1 = .ok (.invokespecial 3, 3) := by decide +kernel
theorem dX7_init_4 : decode cX7_init 4 = .ok (.return_, 1) := by decide +kernel
theorem dX7_setUp_0 : decode cX7_setUp 0 = .ok (.aload_n 0, 1) := by decide +kernel
theorem dX7_setUp_1 : decode cX7_setUp 1 = .ok (.iload_n 1, 1) := by decide +kernel
theorem dX7_setUp_2 : decode cX7_setUp 2 = .ok (.putfield 9, 3) := by decide +kernel
theorem dX7_setUp_5 : decode cX7_setUp 5 = .ok (.aload_n 0, 1) := by decide +kernel
theorem dX7_setUp_6 : decode cX7_setUp 6 = .ok (.iload_n 2, 1) := by decide +kernel
theorem dX7_setUp_7 : decode cX7_setUp 7 = .ok (.putfield 15, 3) := by decide +kernel
theorem dX7_setUp_10 : decode cX7_setUp 10 = .ok (.aload_n 0, 1) := by decide +kernel
theorem dX7_setUp_11 : decode cX7_setUp 11 = .ok (.iload_n 3, 1) := by decide +kernel
theorem dX7_setUp_12 : decode cX7_setUp 12 = .ok (.putfield 18, 3) := by decide +kernel
theorem dX7_setUp_15 : decode cX7_setUp 15 = .ok (.aload_n 0, 1) := by decide +kernel
theorem dX7_setUp_16 : decode cX7_setUp 16 = .ok (.iload 4, 2) := by decide +kernel
theorem dX7_setUp_18 : decode cX7_setUp 18 = .ok (.putfield 21, 3) := by decide +kernel
theorem dX7_setUp_21 : decode cX7_setUp 21 = .ok (.aload_n 0, 1) := by decide +kernel
theorem dX7_setUp_22 : decode cX7_setUp 22 = .ok (.iload 5, 2) := by decide +kernel
theorem dX7_setUp_24 : decode cX7_setUp 24 = .ok (.putfield 24, 3) := by decide +kernel
theorem dX7_setUp_27 : decode cX7_setUp 27 = .ok (.aload_n 0, 1) := by decide +kernel
theorem dX7_setUp_28 : decode cX7_setUp 28 = .ok (.iconst (-1), 1) := by decide +kernel
theorem dX7_setUp_29 : decode cX7_setUp 29 = .ok (.putfield 27, 3) := by decide +kernel
theorem dX7_setUp_32 : decode cX7_setUp 32 = .ok (.aload_n 0, 1) := by decide +kernel
theorem dX7_setUp_33 : decode cX7_setUp 33 = .ok (.invokevirtual 30, 3) := by decide +kernel
theorem dX7_setUp_36 : decode cX7_setUp 36 = .ok (.aload_n 0, 1) := by decide +kernel
theorem dX7_setUp_37 : decode cX7_setUp 37 = .ok (.iconst 0, 1) := by decide +kernel
theorem dX7_setUp_38 : decode cX7_setUp 38 = .ok (.putfield 33, 3) := by decide +kernel
theorem dX7_setUp_41 : decode cX7_setUp 41 = .ok (.aload_n 0, 1) := by decide +kernel
theorem dX7_setUp_42 : decode cX7_setUp 42 = .ok (.iconst 0, 1) := by decide +kernel
theorem dX7_setUp_43 : decode cX7_setUp 43 = .ok (.putfield 36, 3) := by decide +kernel
theorem dX7_setUp_46 : decode cX7_setUp 46 = .ok (.aload_n 0, 1) := by decide +kernel
theorem dX7_setUp_47 : decode cX7_setUp 47 = .ok (.iconst 0, 1) := by decide +kernel
theorem dX7_setUp_48 : decode cX7_setUp 48 = .ok (.putfield 39, 3) := by decide +kernel
theorem dX7_setUp_51 : decode cX7_setUp 51 = .ok (.return_, 1) := by decide +kernel
theorem dX7_becomeIdle_0 : decode cX7_becomeIdle 0 = .ok (.aload_n 0, 1) := by decide +kernel
theorem dX7_becomeIdle_1 : decode cX7_becomeIdle 1 = .ok (.iconst 0, 1) := by decide +kernel
theorem dX7_becomeIdle_2 : decode cX7_becomeIdle 2 = .ok (.putfield 42, 3) := by decide +kernel
theorem dX7_becomeIdle_5 : decode cX7_becomeIdle 5 = .ok (.aload_n 0, 1) := by decide +kernel
theorem dX7_becomeIdle_6 : decode cX7_becomeIdle 6 = .ok (.iconst 0, 1) := by decide +kernel
theorem dX7_becomeIdle_7 : decode cX7_becomeIdle 7 = .ok (.putfield 45, 3) := by decide +kernel
theorem dX7_becomeIdle_10 : decode cX7_becomeIdle 10 = .ok (.aload_n 0, 1) := by decide +kernel
theorem dX7_becomeIdle_11 : decode cX7_becomeIdle 11 = .ok (.iconst (-1), 1) := by decide +kernel
theorem dX7_becomeIdle_12 : decode cX7_becomeIdle 12 = .ok (.putfield 48, 3) := by decide +kernel
theorem dX7_becomeIdle_15 : decode cX7_becomeIdle 15 = .ok (.return_, 1) := by decide +kernel
theorem dX7_load_0 : decode cX7_load 0 = .ok (.iload_n 1, 1) := by decide +kernel
theorem dX7_load_1 : decode cX7_load 1 = .ok (.bipush (-5), 2) := by decide +kernel
theorem dX7_load_3 : decode cX7_load 3 = .ok (.if_icmp .ne 14, 3) := by decide +kernel
theorem dX7_load_6 : decode cX7_load 6 = .ok (.aload_n 0, 1) := by decide +kernel
theorem dX7_load_7 : decode cX7_load 7 = .ok (.dup, 1) := by decide +kernel
theorem dX7_load_8 : decode cX7_load 8 = .ok (.getfield 39, 3) := by decide +kernel
theorem dX7_load_11 : decode cX7_load 11 = .ok (.iconst 1, 1) := by decide +kernel
theorem dX7_load_12 : decode cX7_load 12 = .ok (.iadd, 1) := by decide +kernel
theorem dX7_load_13 : decode cX7_load 13 = .ok (.putfield 39, 3) := by decide +kernel
theorem dX7_load_16 : decode cX7_load 16 = .ok (.return_, 1) := by decide +kernel
theorem dX7_load_17 : decode cX7_load 17 = .ok (.aload_n 0, 1) := by decide +kernel
theorem dX7_load_18 : decode cX7_load 18 = .ok (.iconst 1, 1) := by decide +kernel
theorem dX7_load_19 : decode cX7_load 19 = .ok (.putfield 42, 3) := by decide +kernel
theorem dX7_load_22 : decode cX7_load 22 = .ok (.aload_n 0, 1) := by decide +kernel
theorem dX7_load_23 : decode cX7_load 23 = .ok (.aload_n 0, 1) := by decide +kernel
theorem dX7_load_24 : decode cX7_load 24 = .ok (.getfield 21, 3) := by decide +kernel
theorem dX7_load_27 : decode cX7_load 27 = .ok (.putfield 45, 3) := by decide +kernel
theorem dX7_load_30 : decode cX7_load 30 = .ok (.aload_n 0, 1) := by decide +kernel
theorem dX7_load_31 : decode cX7_load 31 = .ok (.iload_n 1, 1) := by decide +kernel
theorem dX7_load_32 : decode cX7_load 32 = .ok (.aload_n 0, 1) := by decide +kernel
theorem dX7_load_33 : decode cX7_load 33 = .ok (.getfield 24, 3) := by decide +kernel
theorem dX7_load_36 : decode cX7_load 36 = .ok (.iadd, 1) := by decide +kernel
theorem dX7_load_37 : decode cX7_load 37 = .ok (.bipush 10, 2) := by decide +kernel
theorem dX7_load_39 : decode cX7_load 39 = .ok (.irem, 1) := by decide +kernel
theorem dX7_load_40 : decode cX7_load 40 = .ok (.putfield 48, 3) := by decide +kernel
theorem dX7_load_43 : decode cX7_load 43 = .ok (.return_, 1) := by decide +kernel
theorem dX7_workOn_0 : decode cX7_workOn 0 = .ok (.aload_n 0, 1) := by decide +kernel
theorem dX7_workOn_1 : decode cX7_workOn 1 = .ok (.getfield 42, 3) := by decide +kernel
theorem dX7_workOn_4 : decode cX7_workOn 4 = .ok (.iconst 1, 1) := by decide +kernel
theorem dX7_workOn_5 : decode cX7_workOn 5 = .ok (.if_icmp .ne 25, 3) := by decide +kernel
theorem dX7_workOn_8 : decode cX7_workOn 8 = .ok (.aload_n 0, 1) := by decide +kernel
theorem dX7_workOn_9 : decode cX7_workOn 9 = .ok (.dup, 1) := by decide +kernel
theorem dX7_workOn_10 : decode cX7_workOn 10 = .ok (.getfield 45, 3) := by decide +kernel
theorem dX7_workOn_13 : decode cX7_workOn 13 = .ok (.iconst 1, 1) := by decide +kernel
theorem dX7_workOn_14 : decode cX7_workOn 14 = .ok (.isub, 1) := by decide +kernel
theorem dX7_workOn_15 : decode cX7_workOn 15 = .ok (.putfield 45, 3) := by decide +kernel
theorem dX7_workOn_18 : decode cX7_workOn 18 = .ok (.aload_n 0, 1) := by decide +kernel
theorem dX7_workOn_19 : decode cX7_workOn 19 = .ok (.getfield 45, 3) := by decide +kernel
theorem dX7_workOn_22 : decode cX7_workOn 22 = .ok (.ifCond .ne 8, 3) := by decide +kernel
theorem dX7_workOn_25 : decode cX7_workOn 25 = .ok (.aload_n 0, 1) := by decide +kernel
theorem dX7_workOn_26 : decode cX7_workOn 26 = .ok (.iconst 2, 1) := by decide +kernel
theorem dX7_workOn_27 : decode cX7_workOn 27 = .ok (.putfield 42, 3) := by decide +kernel
theorem dX7_workOn_30 : decode cX7_workOn 30 = .ok (.return_, 1) := by decide +kernel
theorem dX7_stationTold_0 : decode cX7_stationTold 0 = .ok (.iload_n 1, 1) := by decide +kernel
theorem dX7_stationTold_1 : decode cX7_stationTold 1 = .ok (.tableswitch 69 0 5 #[39, 44, 49, 54, 59, 64], 39) := by decide +kernel
theorem dX7_stationTold_40 : decode cX7_stationTold 40 = .ok (.aload_n 0, 1) := by decide +kernel
theorem dX7_stationTold_41 : decode cX7_stationTold 41 = .ok (.getfield 42, 3) := by decide +kernel
theorem dX7_stationTold_44 : decode cX7_stationTold 44 = .ok (.ireturn, 1) := by decide +kernel
theorem dX7_stationTold_45 : decode cX7_stationTold 45 = .ok (.aload_n 0, 1) := by decide +kernel
theorem dX7_stationTold_46 : decode cX7_stationTold 46 = .ok (.getfield 45, 3) := by decide +kernel
theorem dX7_stationTold_49 : decode cX7_stationTold 49 = .ok (.ireturn, 1) := by decide +kernel
theorem dX7_stationTold_50 : decode cX7_stationTold 50 = .ok (.aload_n 0, 1) := by decide +kernel
theorem dX7_stationTold_51 : decode cX7_stationTold 51 = .ok (.getfield 48, 3) := by decide +kernel
theorem dX7_stationTold_54 : decode cX7_stationTold 54 = .ok (.ireturn, 1) := by decide +kernel
theorem dX7_stationTold_55 : decode cX7_stationTold 55 = .ok (.aload_n 0, 1) := by decide +kernel
theorem dX7_stationTold_56 : decode cX7_stationTold 56 = .ok (.getfield 33, 3) := by decide +kernel
theorem dX7_stationTold_59 : decode cX7_stationTold 59 = .ok (.ireturn, 1) := by decide +kernel
theorem dX7_stationTold_60 : decode cX7_stationTold 60 = .ok (.aload_n 0, 1) := by decide +kernel
theorem dX7_stationTold_61 : decode cX7_stationTold 61 = .ok (.getfield 36, 3) := by decide +kernel
theorem dX7_stationTold_64 : decode cX7_stationTold 64 = .ok (.ireturn, 1) := by decide +kernel
theorem dX7_stationTold_65 : decode cX7_stationTold 65 = .ok (.aload_n 0, 1) := by decide +kernel
theorem dX7_stationTold_66 : decode cX7_stationTold 66 = .ok (.getfield 39, 3) := by decide +kernel
theorem dX7_stationTold_69 : decode cX7_stationTold 69 = .ok (.ireturn, 1) := by decide +kernel
theorem dX7_stationTold_70 : decode cX7_stationTold 70 = .ok (.aload_n 0, 1) := by decide +kernel
theorem dX7_stationTold_71 : decode cX7_stationTold 71 = .ok (.getfield 27, 3) := by decide +kernel
theorem dX7_stationTold_74 : decode cX7_stationTold 74 = .ok (.ireturn, 1) := by decide +kernel
theorem dX7_copyFrom_0 : decode cX7_copyFrom 0 = .ok (.aload_n 0, 1) := by decide +kernel
theorem dX7_copyFrom_1 : decode cX7_copyFrom 1 = .ok (.aload_n 1, 1) := by decide +kernel
theorem dX7_copyFrom_2 : decode cX7_copyFrom 2 = .ok (.getfield 9, 3) := by decide +kernel
theorem dX7_copyFrom_5 : decode cX7_copyFrom 5 = .ok (.putfield 9, 3) := by decide +kernel
theorem dX7_copyFrom_8 : decode cX7_copyFrom 8 = .ok (.aload_n 0, 1) := by decide +kernel
theorem dX7_copyFrom_9 : decode cX7_copyFrom 9 = .ok (.aload_n 1, 1) := by decide +kernel
theorem dX7_copyFrom_10 : decode cX7_copyFrom 10 = .ok (.getfield 15, 3) := by decide +kernel
theorem dX7_copyFrom_13 : decode cX7_copyFrom 13 = .ok (.putfield 15, 3) := by decide +kernel
theorem dX7_copyFrom_16 : decode cX7_copyFrom 16 = .ok (.aload_n 0, 1) := by decide +kernel
theorem dX7_copyFrom_17 : decode cX7_copyFrom 17 = .ok (.aload_n 1, 1) := by decide +kernel
theorem dX7_copyFrom_18 : decode cX7_copyFrom 18 = .ok (.getfield 18, 3) := by decide +kernel
theorem dX7_copyFrom_21 : decode cX7_copyFrom 21 = .ok (.putfield 18, 3) := by decide +kernel
theorem dX7_copyFrom_24 : decode cX7_copyFrom 24 = .ok (.aload_n 0, 1) := by decide +kernel
theorem dX7_copyFrom_25 : decode cX7_copyFrom 25 = .ok (.aload_n 1, 1) := by decide +kernel
theorem dX7_copyFrom_26 : decode cX7_copyFrom 26 = .ok (.getfield 21, 3) := by decide +kernel
theorem dX7_copyFrom_29 : decode cX7_copyFrom 29 = .ok (.putfield 21, 3) := by decide +kernel
theorem dX7_copyFrom_32 : decode cX7_copyFrom 32 = .ok (.aload_n 0, 1) := by decide +kernel
theorem dX7_copyFrom_33 : decode cX7_copyFrom 33 = .ok (.aload_n 1, 1) := by decide +kernel
theorem dX7_copyFrom_34 : decode cX7_copyFrom 34 = .ok (.getfield 24, 3) := by decide +kernel
theorem dX7_copyFrom_37 : decode cX7_copyFrom 37 = .ok (.putfield 24, 3) := by decide +kernel
theorem dX7_copyFrom_40 : decode cX7_copyFrom 40 = .ok (.aload_n 0, 1) := by decide +kernel
theorem dX7_copyFrom_41 : decode cX7_copyFrom 41 = .ok (.aload_n 1, 1) := by decide +kernel
theorem dX7_copyFrom_42 : decode cX7_copyFrom 42 = .ok (.getfield 27, 3) := by decide +kernel
theorem dX7_copyFrom_45 : decode cX7_copyFrom 45 = .ok (.putfield 27, 3) := by decide +kernel
theorem dX7_copyFrom_48 : decode cX7_copyFrom 48 = .ok (.aload_n 0, 1) := by decide +kernel
theorem dX7_copyFrom_49 : decode cX7_copyFrom 49 = .ok (.aload_n 1, 1) := by decide +kernel
theorem dX7_copyFrom_50 : decode cX7_copyFrom 50 = .ok (.getfield 42, 3) := by decide +kernel
theorem dX7_copyFrom_53 : decode cX7_copyFrom 53 = .ok (.putfield 42, 3) := by decide +kernel
theorem dX7_copyFrom_56 : decode cX7_copyFrom 56 = .ok (.aload_n 0, 1) := by decide +kernel
theorem dX7_copyFrom_57 : decode cX7_copyFrom 57 = .ok (.aload_n 1, 1) := by decide +kernel
theorem dX7_copyFrom_58 : decode cX7_copyFrom 58 = .ok (.getfield 45, 3) := by decide +kernel
theorem dX7_copyFrom_61 : decode cX7_copyFrom 61 = .ok (.putfield 45, 3) := by decide +kernel
theorem dX7_copyFrom_64 : decode cX7_copyFrom 64 = .ok (.aload_n 0, 1) := by decide +kernel
theorem dX7_copyFrom_65 : decode cX7_copyFrom 65 = .ok (.aload_n 1, 1) := by decide +kernel
theorem dX7_copyFrom_66 : decode cX7_copyFrom 66 = .ok (.getfield 48, 3) := by decide +kernel
theorem dX7_copyFrom_69 : decode cX7_copyFrom 69 = .ok (.putfield 48, 3) := by decide +kernel
theorem dX7_copyFrom_72 : decode cX7_copyFrom 72 = .ok (.aload_n 0, 1) := by decide +kernel
theorem dX7_copyFrom_73 : decode cX7_copyFrom 73 = .ok (.aload_n 1, 1) := by decide +kernel
theorem dX7_copyFrom_74 : decode cX7_copyFrom 74 = .ok (.getfield 33, 3) := by decide +kernel
theorem dX7_copyFrom_77 : decode cX7_copyFrom 77 = .ok (.putfield 33, 3) := by decide +kernel
theorem dX7_copyFrom_80 : decode cX7_copyFrom 80 = .ok (.aload_n 0, 1) := by decide +kernel
theorem dX7_copyFrom_81 : decode cX7_copyFrom 81 = .ok (.aload_n 1, 1) := by decide +kernel
theorem dX7_copyFrom_82 : decode cX7_copyFrom 82 = .ok (.getfield 36, 3) := by decide +kernel
theorem dX7_copyFrom_85 : decode cX7_copyFrom 85 = .ok (.putfield 36, 3) := by decide +kernel
theorem dX7_copyFrom_88 : decode cX7_copyFrom 88 = .ok (.aload_n 0, 1) := by decide +kernel
theorem dX7_copyFrom_89 : decode cX7_copyFrom 89 = .ok (.aload_n 1, 1) := by decide +kernel
theorem dX7_copyFrom_90 : decode cX7_copyFrom 90 = .ok (.getfield 39, 3) := by decide +kernel
theorem dX7_copyFrom_93 : decode cX7_copyFrom 93 = .ok (.putfield 39, 3) := by decide +kernel
theorem dX7_copyFrom_96 : decode cX7_copyFrom 96 = .ok (.return_, 1) := by decide +kernel
theorem dX8_init_0 : decode cX8_init 0 = .ok (.aload_n 0, 1) := by decide +kernel
theorem dX8_init_1 : decode cX8_init 1 = .ok (.invokespecial 3, 3) := by decide +kernel
theorem dX8_init_4 : decode cX8_init 4 = .ok (.aload_n 0, 1) := by decide +kernel
theorem dX8_init_5 : decode cX8_init 5 = .ok (.bipush 120, 2) := by decide +kernel
theorem dX8_init_7 : decode cX8_init 7 = .ok (.newarray .int, 2) := by decide +kernel
theorem dX8_init_9 : decode cX8_init 9 = .ok (.putfield 9, 3) := by decide +kernel
theorem dX8_init_12 : decode cX8_init 12 = .ok (.return_, 1) := by decide +kernel
theorem dX8_isFull_0 : decode cX8_isFull 0 = .ok (.aload_n 0, 1) := by decide +kernel
theorem dX8_isFull_1 : decode cX8_isFull 1 = .ok (.getfield 15, 3) := by decide +kernel
theorem dX8_isFull_4 : decode cX8_isFull 4 = .ok (.bipush 120, 2) := by decide +kernel
theorem dX8_isFull_6 : decode cX8_isFull 6 = .ok (.if_icmp .lt 7, 3) := by decide +kernel
theorem dX8_isFull_9 : decode cX8_isFull 9 = .ok (.iconst 1, 1) := by decide +kernel
theorem dX8_isFull_10 : decode cX8_isFull 10 = .ok (.goto 4, 3) := by decide +kernel
theorem dX8_isFull_13 : decode cX8_isFull 13 = .ok (.iconst 0, 1) := by decide +kernel
theorem dX8_isFull_14 : decode cX8_isFull 14 = .ok (.ireturn, 1) := by decide +kernel
theorem dX8_add_0 : decode cX8_add 0 = .ok (.aload_n 0, 1) := by decide +kernel
theorem dX8_add_1 : decode cX8_add 1 = .ok (.invokevirtual 19, 3) := by decide +kernel
theorem dX8_add_4 : decode cX8_add 4 = .ok (.ifCond .ne 23, 3) := by decide +kernel
theorem dX8_add_7 : decode cX8_add 7 = .ok (.aload_n 0, 1) := by decide +kernel
theorem dX8_add_8 : decode cX8_add 8 = .ok (.getfield 9, 3) := by decide +kernel
theorem dX8_add_11 : decode cX8_add 11 = .ok (.aload_n 0, 1) := by decide +kernel
theorem dX8_add_12 : decode cX8_add 12 = .ok (.getfield 15, 3) := by decide +kernel
theorem dX8_add_15 : decode cX8_add 15 = .ok (.iload_n 1, 1) := by decide +kernel
theorem dX8_add_16 : decode cX8_add 16 = .ok (.iastore, 1) := by decide +kernel
theorem dX8_add_17 : decode cX8_add 17 = .ok (.aload_n 0, 1) := by decide +kernel
theorem dX8_add_18 : decode cX8_add 18 = .ok (.dup, 1) := by decide +kernel
theorem dX8_add_19 : decode cX8_add 19 = .ok (.getfield 15, 3) := by decide +kernel
theorem dX8_add_22 : decode cX8_add 22 = .ok (.iconst 1, 1) := by decide +kernel
theorem dX8_add_23 : decode cX8_add 23 = .ok (.iadd, 1) := by decide +kernel
theorem dX8_add_24 : decode cX8_add 24 = .ok (.putfield 15, 3) := by decide +kernel
theorem dX8_add_27 : decode cX8_add 27 = .ok (.return_, 1) := by decide +kernel
theorem dX8_at_0 : decode cX8_at 0 = .ok (.iload_n 1, 1) := by decide +kernel
theorem dX8_at_1 : decode cX8_at 1 = .ok (.ifCond .lt 20, 3) := by decide +kernel
theorem dX8_at_4 : decode cX8_at 4 = .ok (.iload_n 1, 1) := by decide +kernel
theorem dX8_at_5 : decode cX8_at 5 = .ok (.aload_n 0, 1) := by decide +kernel
theorem dX8_at_6 : decode cX8_at 6 = .ok (.getfield 15, 3) := by decide +kernel
theorem dX8_at_9 : decode cX8_at 9 = .ok (.if_icmp .ge 12, 3) := by decide +kernel
theorem dX8_at_12 : decode cX8_at 12 = .ok (.aload_n 0, 1) := by decide +kernel
theorem dX8_at_13 : decode cX8_at 13 = .ok (.getfield 9, 3) := by decide +kernel
theorem dX8_at_16 : decode cX8_at 16 = .ok (.iload_n 1, 1) := by decide +kernel
theorem dX8_at_17 : decode cX8_at 17 = .ok (.iaload, 1) := by decide +kernel
theorem dX8_at_18 : decode cX8_at 18 = .ok (.goto 4, 3) := by decide +kernel
theorem dX8_at_21 : decode cX8_at 21 = .ok (.iconst (-1), 1) := by decide +kernel
theorem dX8_at_22 : decode cX8_at 22 = .ok (.ireturn, 1) := by decide +kernel
theorem dX8_fault_0 : decode cX8_fault 0 = .ok (.iconst 0, 1) := by decide +kernel
theorem dX8_fault_1 : decode cX8_fault 1 = .ok (.istore_n 1, 1) := by decide +kernel
theorem dX8_fault_2 : decode cX8_fault 2 = .ok (.iconst 0, 1) := by decide +kernel
theorem dX8_fault_3 : decode cX8_fault 3 = .ok (.istore_n 2, 1) := by decide +kernel
theorem dX8_fault_4 : decode cX8_fault 4 = .ok (.iconst 1, 1) := by decide +kernel
theorem dX8_fault_5 : decode cX8_fault 5 = .ok (.istore_n 3, 1) := by decide +kernel
theorem dX8_fault_6 : decode cX8_fault 6 = .ok (.iconst 0, 1) := by decide +kernel
theorem dX8_fault_7 : decode cX8_fault 7 = .ok (.istore 4, 2) := by decide +kernel
theorem dX8_fault_9 : decode cX8_fault 9 = .ok (.iload 4, 2) := by decide +kernel
theorem dX8_fault_11 : decode cX8_fault 11 = .ok (.aload_n 0, 1) := by decide +kernel
theorem dX8_fault_12 : decode cX8_fault 12 = .ok (.getfield 15, 3) := by decide +kernel
theorem dX8_fault_15 : decode cX8_fault 15 = .ok (.if_icmp .ge 102, 3) := by decide +kernel
theorem dX8_fault_18 : decode cX8_fault 18 = .ok (.aload_n 0, 1) := by decide +kernel
theorem dX8_fault_19 : decode cX8_fault 19 = .ok (.iload 4, 2) := by decide +kernel
theorem dX8_fault_21 : decode cX8_fault 21 = .ok (.invokevirtual 23, 3) := by decide +kernel
theorem dX8_fault_24 : decode cX8_fault 24 = .ok (.istore 5, 2) := by decide +kernel
theorem dX8_fault_26 : decode cX8_fault 26 = .ok (.iload 5, 2) := by decide +kernel
theorem dX8_fault_28 : decode cX8_fault 28 = .ok (.bipush 32, 2) := by decide +kernel
theorem dX8_fault_30 : decode cX8_fault 30 = .ok (.if_icmp .ne 6, 3) := by decide +kernel
theorem dX8_fault_33 : decode cX8_fault 33 = .ok (.goto 78, 3) := by decide +kernel
theorem dX8_fault_36 : decode cX8_fault 36 = .ok (.iconst 0, 1) := by decide +kernel
theorem dX8_fault_37 : decode cX8_fault 37 = .ok (.istore_n 3, 1) := by decide +kernel
theorem dX8_fault_38 : decode cX8_fault 38 = .ok (.iload_n 2, 1) := by decide +kernel
theorem dX8_fault_39 : decode cX8_fault 39 = .ok (.ifCond .le 24, 3) := by decide +kernel
theorem dX8_fault_42 : decode cX8_fault 42 = .ok (.iload 5, 2) := by decide +kernel
theorem dX8_fault_44 : decode cX8_fault 44 = .ok (.bipush 48, 2) := by decide +kernel
theorem dX8_fault_46 : decode cX8_fault 46 = .ok (.bipush 57, 2) := by decide +kernel
theorem dX8_fault_48 : decode cX8_fault 48 = .ok (.invokestatic 27, 3) := by decide +kernel
theorem dX8_fault_51 : decode cX8_fault 51 = .ok (.ifCond .ne 6, 3) := by decide +kernel
theorem dX8_fault_54 : decode cX8_fault 54 = .ok (.iload 4, 2) := by decide +kernel
theorem dX8_fault_56 : decode cX8_fault 56 = .ok (.ireturn, 1) := by decide +kernel
theorem dX8_fault_57 : decode cX8_fault 57 = .ok (.iinc 2 (-1), 3) := by decide +kernel
theorem dX8_fault_60 : decode cX8_fault 60 = .ok (.goto 51, 3) := by decide +kernel
theorem dX8_fault_63 : decode cX8_fault 63 = .ok (.iload 5, 2) := by decide +kernel
theorem dX8_fault_65 : decode cX8_fault 65 = .ok (.bipush 40, 2) := by decide +kernel
theorem dX8_fault_67 : decode cX8_fault 67 = .ok (.if_icmp .ne 14, 3) := by decide +kernel
theorem dX8_fault_70 : decode cX8_fault 70 = .ok (.iload_n 1, 1) := by decide +kernel
theorem dX8_fault_71 : decode cX8_fault 71 = .ok (.iconst 4, 1) := by decide +kernel
theorem dX8_fault_72 : decode cX8_fault 72 = .ok (.if_icmp .ge 9, 3) := by decide +kernel
theorem dX8_fault_75 : decode cX8_fault 75 = .ok (.iinc 1 1, 3) := by decide +kernel
theorem dX8_fault_78 : decode cX8_fault 78 = .ok (.goto 33, 3) := by decide +kernel
theorem dX8_fault_81 : decode cX8_fault 81 = .ok (.iload 5, 2) := by decide +kernel
theorem dX8_fault_83 : decode cX8_fault 83 = .ok (.bipush 41, 2) := by decide +kernel
theorem dX8_fault_85 : decode cX8_fault 85 = .ok (.if_icmp .ne 13, 3) := by decide +kernel
theorem dX8_fault_88 : decode cX8_fault 88 = .ok (.iload_n 1, 1) := by decide +kernel
theorem dX8_fault_89 : decode cX8_fault 89 = .ok (.ifCond .le 9, 3) := by decide +kernel
theorem dX8_fault_92 : decode cX8_fault 92 = .ok (.iinc 1 (-1), 3) := by decide +kernel
theorem dX8_fault_95 : decode cX8_fault 95 = .ok (.goto 16, 3) := by decide +kernel
theorem dX8_fault_98 : decode cX8_fault 98 = .ok (.iload 5, 2) := by decide +kernel
theorem dX8_fault_100 : decode cX8_fault 100 = .ok (.invokestatic 31, 3) := by decide +kernel
theorem dX8_fault_103 : decode cX8_fault 103 = .ok (.istore_n 2, 1) := by decide +kernel
theorem dX8_fault_104 : decode cX8_fault 104 = .ok (.iload_n 2, 1) := by decide +kernel
theorem dX8_fault_105 : decode cX8_fault 105 = .ok (.ifCond .ne 6, 3) := by decide +kernel
theorem dX8_fault_108 : decode cX8_fault 108 = .ok (.iload 4, 2) := by decide +kernel
theorem dX8_fault_110 : decode cX8_fault 110 = .ok (.ireturn, 1) := by decide +kernel
theorem dX8_fault_111 : decode cX8_fault 111 = .ok (.iinc 4 1, 3) := by decide +kernel
theorem dX8_fault_114 : decode cX8_fault 114 = .ok (.goto (-105), 3) := by decide +kernel
theorem dX8_fault_117 : decode cX8_fault 117 = .ok (.iload_n 3, 1) := by decide +kernel
theorem dX8_fault_118 : decode cX8_fault 118 = .ok (.ifCond .ne 11, 3) := by decide +kernel
theorem dX8_fault_121 : decode cX8_fault 121 = .ok (.iload_n 2, 1) := by decide +kernel
theorem dX8_fault_122 : decode cX8_fault 122 = .ok (.ifCond .gt 7, 3) := by decide +kernel
theorem dX8_fault_125 : decode cX8_fault 125 = .ok (.iload_n 1, 1) := by decide +kernel
theorem dX8_fault_126 : decode cX8_fault 126 = .ok (.ifCond .le 10, 3) := by decide +kernel
theorem dX8_fault_129 : decode cX8_fault 129 = .ok (.aload_n 0, 1) := by decide +kernel
theorem dX8_fault_130 : decode cX8_fault 130 = .ok (.getfield 15, 3) := by decide +kernel
theorem dX8_fault_133 : decode cX8_fault 133 = .ok (.goto 4, 3) := by decide +kernel
theorem dX8_fault_136 : decode cX8_fault 136 = .ok (.iconst (-1), 1) := by decide +kernel
theorem dX8_fault_137 : decode cX8_fault 137 = .ok (.ireturn, 1) := by decide +kernel
theorem dX8_figuresOf_0 : decode cX8_figuresOf 0 = .ok (.iload_n 0, 1) := by decide +kernel
theorem dX8_figuresOf_1 : decode cX8_figuresOf 1 = .ok (.lookupswitch 41 #[(109, 39), (112, 35), (116, 37)], 35) := by decide +kernel
theorem dX8_figuresOf_36 : decode cX8_figuresOf 36 = .ok (.iconst 2, 1) := by decide +kernel
theorem dX8_figuresOf_37 : decode cX8_figuresOf 37 = .ok (.ireturn, 1) := by decide +kernel
theorem dX8_figuresOf_38 : decode cX8_figuresOf 38 = .ok (.iconst 1, 1) := by decide +kernel
theorem dX8_figuresOf_39 : decode cX8_figuresOf 39 = .ok (.ireturn, 1) := by decide +kernel
theorem dX8_figuresOf_40 : decode cX8_figuresOf 40 = .ok (.iconst 3, 1) := by decide +kernel
theorem dX8_figuresOf_41 : decode cX8_figuresOf 41 = .ok (.ireturn, 1) := by decide +kernel
theorem dX8_figuresOf_42 : decode cX8_figuresOf 42 = .ok (.iconst 0, 1) := by decide +kernel
theorem dX8_figuresOf_43 : decode cX8_figuresOf 43 = .ok (.ireturn, 1) := by decide +kernel
theorem dX9_init_0 : decode cX9_init 0 = .ok (.aload_n 0, 1) := by decide +kernel
theorem dX9_init_1 : decode cX9_init 1 = .ok (.invokespecial 3, 3) := by decide +kernel
theorem dX9_init_4 : decode cX9_init 4 = .ok (.return_, 1) := by decide +kernel
theorem dX9_waits_0 : decode cX9_waits 0 = .ok (.aload_n 0, 1) := by decide +kernel
theorem dX9_waits_1 : decode cX9_waits 1 = .ok (.getfield 9, 3) := by decide +kernel
theorem dX9_waits_4 : decode cX9_waits 4 = .ok (.iconst (-1), 1) := by decide +kernel
theorem dX9_waits_5 : decode cX9_waits 5 = .ok (.if_icmp .eq 7, 3) := by decide +kernel
theorem dX9_waits_8 : decode cX9_waits 8 = .ok (.iconst 1, 1) := by decide +kernel
theorem dX9_waits_9 : decode cX9_waits 9 = .ok (.goto 4, 3) := by decide +kernel
theorem dX9_waits_12 : decode cX9_waits 12 = .ok (.iconst 0, 1) := by decide +kernel
theorem dX9_waits_13 : decode cX9_waits 13 = .ok (.ireturn, 1) := by decide +kernel
theorem dX9_wishFor_0 : decode cX9_wishFor 0 = .ok (.aload_n 0, 1) := by decide +kernel
theorem dX9_wishFor_1 : decode cX9_wishFor 1 = .ok (.iload_n 1, 1) := by decide +kernel
theorem dX9_wishFor_2 : decode cX9_wishFor 2 = .ok (.putfield 15, 3) := by decide +kernel
theorem dX9_wishFor_5 : decode cX9_wishFor 5 = .ok (.aload_n 0, 1) := by decide +kernel
theorem dX9_wishFor_6 : decode cX9_wishFor 6 = .ok (.iload_n 2, 1) := by decide +kernel
theorem dX9_wishFor_7 : decode cX9_wishFor 7 = .ok (.putfield 9, 3) := by decide +kernel
theorem dX9_wishFor_10 : decode cX9_wishFor 10 = .ok (.aload_n 0, 1) := by decide +kernel
theorem dX9_wishFor_11 : decode cX9_wishFor 11 = .ok (.iload_n 2, 1) := by decide +kernel
theorem dX9_wishFor_12 : decode cX9_wishFor 12 = .ok (.ifCond .ne 7, 3) := by decide +kernel
theorem dX9_wishFor_15 : decode cX9_wishFor 15 = .ok (.iload_n 3, 1) := by decide +kernel
theorem dX9_wishFor_16 : decode cX9_wishFor 16 = .ok (.goto 4, 3) := by decide +kernel
theorem dX9_wishFor_19 : decode cX9_wishFor 19 = .ok (.iconst (-1), 1) := by decide +kernel
theorem dX9_wishFor_20 : decode cX9_wishFor 20 = .ok (.putfield 18, 3) := by decide +kernel
theorem dX9_wishFor_23 : decode cX9_wishFor 23 = .ok (.return_, 1) := by decide +kernel
theorem dX9_wishNoMore_0 : decode cX9_wishNoMore 0 = .ok (.aload_n 0, 1) := by decide +kernel
theorem dX9_wishNoMore_1 : decode cX9_wishNoMore 1 = .ok (.iconst (-1), 1) := by decide +kernel
theorem dX9_wishNoMore_2 : decode cX9_wishNoMore 2 = .ok (.putfield 15, 3) := by decide +kernel
theorem dX9_wishNoMore_5 : decode cX9_wishNoMore 5 = .ok (.aload_n 0, 1) := by decide +kernel
theorem dX9_wishNoMore_6 : decode cX9_wishNoMore 6 = .ok (.iconst (-1), 1) := by decide +kernel
theorem dX9_wishNoMore_7 : decode cX9_wishNoMore 7 = .ok (.putfield 9, 3) := by decide +kernel
theorem dX9_wishNoMore_10 : decode cX9_wishNoMore 10 = .ok (.aload_n 0, 1) := by decide +kernel
theorem dX9_wishNoMore_11 : decode cX9_wishNoMore 11 = .ok (.iconst (-1), 1) := by decide +kernel
theorem dX9_wishNoMore_12 : decode cX9_wishNoMore 12 = .ok (.putfield 18, 3) := by decide +kernel
theorem dX9_wishNoMore_15 : decode cX9_wishNoMore 15 = .ok (.return_, 1) := by decide +kernel
theorem dX9_workerTold_0 : decode cX9_workerTold 0 = .ok (.iload_n 1, 1) := by decide +kernel
theorem dX9_workerTold_1 : decode cX9_workerTold 1 = .ok (.tableswitch 59 0 3 #[31, 44, 49, 54], 31) := by decide +kernel
theorem dX9_workerTold_32 : decode cX9_workerTold 32 = .ok (.aload_n 0, 1) := by decide +kernel
theorem dX9_workerTold_33 : decode cX9_workerTold 33 = .ok (.invokevirtual 21, 3) := by decide +kernel
theorem dX9_workerTold_36 : decode cX9_workerTold 36 = .ok (.ifCond .eq 7, 3) := by decide +kernel
theorem dX9_workerTold_39 : decode cX9_workerTold 39 = .ok (.iconst 1, 1) := by decide +kernel
theorem dX9_workerTold_40 : decode cX9_workerTold 40 = .ok (.goto 4, 3) := by decide +kernel
theorem dX9_workerTold_43 : decode cX9_workerTold 43 = .ok (.iconst 0, 1) := by decide +kernel
theorem dX9_workerTold_44 : decode cX9_workerTold 44 = .ok (.ireturn, 1) := by decide +kernel
theorem dX9_workerTold_45 : decode cX9_workerTold 45 = .ok (.aload_n 0, 1) := by decide +kernel
theorem dX9_workerTold_46 : decode cX9_workerTold 46 = .ok (.getfield 15, 3) := by decide +kernel
theorem dX9_workerTold_49 : decode cX9_workerTold 49 = .ok (.ireturn, 1) := by decide +kernel
theorem dX9_workerTold_50 : decode cX9_workerTold 50 = .ok (.aload_n 0, 1) := by decide +kernel
theorem dX9_workerTold_51 : decode cX9_workerTold 51 = .ok (.getfield 9, 3) := by decide +kernel
theorem dX9_workerTold_54 : decode cX9_workerTold 54 = .ok (.ireturn, 1) := by decide +kernel
theorem dX9_workerTold_55 : decode cX9_workerTold 55 = .ok (.aload_n 0, 1) := by decide +kernel
theorem dX9_workerTold_56 : decode cX9_workerTold 56 = .ok (.getfield 18, 3) := by decide +kernel
theorem dX9_workerTold_59 : decode cX9_workerTold 59 = .ok (.ireturn, 1) := by decide +kernel
theorem dX9_workerTold_60 : decode cX9_workerTold 60 = .ok (.aload_n 0, 1) := by decide +kernel
theorem dX9_workerTold_61 : decode cX9_workerTold 61 = .ok (.getfield 25, 3) := by decide +kernel
theorem dX9_workerTold_64 : decode cX9_workerTold 64 = .ok (.ireturn, 1) := by decide +kernel
theorem dX9_startAnew_0 : decode cX9_startAnew 0 = .ok (.aload_n 0, 1) := by decide +kernel
theorem dX9_startAnew_1 : decode cX9_startAnew 1 = .ok (.invokevirtual 28, 3) := by decide +kernel
theorem dX9_startAnew_4 : decode cX9_startAnew 4 = .ok (.aload_n 0, 1) := by decide +kernel
theorem dX9_startAnew_5 : decode cX9_startAnew 5 = .ok (.iconst (-1), 1) := by decide +kernel
theorem dX9_startAnew_6 : decode cX9_startAnew 6 = .ok (.putfield 25, 3) := by decide +kernel
theorem dX9_startAnew_9 : decode cX9_startAnew 9 = .ok (.return_, 1) := by decide +kernel
theorem dX9_copyFrom_0 : decode cX9_copyFrom 0 = .ok (.aload_n 0, 1) := by decide +kernel
theorem dX9_copyFrom_1 : decode cX9_copyFrom 1 = .ok (.aload_n 1, 1) := by decide +kernel
theorem dX9_copyFrom_2 : decode cX9_copyFrom 2 = .ok (.getfield 15, 3) := by decide +kernel
theorem dX9_copyFrom_5 : decode cX9_copyFrom 5 = .ok (.putfield 15, 3) := by decide +kernel
theorem dX9_copyFrom_8 : decode cX9_copyFrom 8 = .ok (.aload_n 0, 1) := by decide +kernel
theorem dX9_copyFrom_9 : decode cX9_copyFrom 9 = .ok (.aload_n 1, 1) := by decide +kernel
theorem dX9_copyFrom_10 : decode cX9_copyFrom 10 = .ok (.getfield 9, 3) := by decide +kernel
theorem dX9_copyFrom_13 : decode cX9_copyFrom 13 = .ok (.putfield 9, 3) := by decide +kernel
theorem dX9_copyFrom_16 : decode cX9_copyFrom 16 = .ok (.aload_n 0, 1) := by decide +kernel
theorem dX9_copyFrom_17 : decode cX9_copyFrom 17 = .ok (.aload_n 1, 1) := by decide +kernel
theorem dX9_copyFrom_18 : decode cX9_copyFrom 18 = .ok (.getfield 18, 3) := by decide +kernel
theorem dX9_copyFrom_21 : decode cX9_copyFrom 21 = .ok (.putfield 18, 3) := by decide +kernel
theorem dX9_copyFrom_24 : decode cX9_copyFrom 24 = .ok (.aload_n 0, 1) := by decide +kernel
theorem dX9_copyFrom_25 : decode cX9_copyFrom 25 = .ok (.aload_n 1, 1) := by decide +kernel
theorem dX9_copyFrom_26 : decode cX9_copyFrom 26 = .ok (.getfield 25, 3) := by decide +kernel
theorem dX9_copyFrom_29 : decode cX9_copyFrom 29 = .ok (.putfield 25, 3) := by decide +kernel
theorem dX9_copyFrom_32 : decode cX9_copyFrom 32 = .ok (.return_, 1) := by decide +kernel
theorem dX10_init_0 : decode cX10_init 0 = .ok (.aload_n 0, 1) := by decide +kernel
theorem dX10_init_1 : decode cX10_init 1 = .ok (.invokespecial 1, 3) := by decide +kernel
theorem dX10_init_4 : decode cX10_init 4 = .ok (.aload_n 0, 1) := by decide +kernel
theorem dX10_init_5 : decode cX10_init 5 = .ok (.new 7, 3) := by decide +kernel
theorem dX10_init_8 : decode cX10_init 8 = .ok (.dup, 1) := by decide +kernel
theorem dX10_init_9 : decode cX10_init 9 = .ok (.invokespecial 9, 3) := by decide +kernel
theorem dX10_init_12 : decode cX10_init 12 = .ok (.putfield 10, 3) := by decide +kernel
theorem dX10_init_15 : decode cX10_init 15 = .ok (.aload_n 0, 1) := by decide +kernel
theorem dX10_init_16 : decode cX10_init 16 = .ok (.new 16, 3) := by decide +kernel
theorem dX10_init_19 : decode cX10_init 19 = .ok (.dup, 1) := by decide +kernel
theorem dX10_init_20 : decode cX10_init 20 = .ok (.invokespecial 18, 3) := by decide +kernel
theorem dX10_init_23 : decode cX10_init 23 = .ok (.putfield 19, 3) := by decide +kernel
theorem dX10_init_26 : decode cX10_init 26 = .ok (.aload_n 0, 1) := by decide +kernel
theorem dX10_init_27 : decode cX10_init 27 = .ok (.new 23, 3) := by decide +kernel
theorem dX10_init_30 : decode cX10_init 30 = .ok (.dup, 1) := by decide +kernel
theorem dX10_init_31 : decode cX10_init 31 = .ok (.invokespecial 25, 3) := by decide +kernel
theorem dX10_init_34 : decode cX10_init 34 = .ok (.putfield 26, 3) := by decide +kernel
theorem dX10_init_37 : decode cX10_init 37 = .ok (.aload_n 0, 1) := by decide +kernel
theorem dX10_init_38 : decode cX10_init 38 = .ok (.new 30, 3) := by decide +kernel
theorem dX10_init_41 : decode cX10_init 41 = .ok (.dup, 1) := by decide +kernel
theorem dX10_init_42 : decode cX10_init 42 = .ok (.aload_n 0, 1) := by decide +kernel
theorem dX10_init_43 : decode cX10_init 43 = .ok (.getfield 26, 3) := by decide +kernel
theorem dX10_init_46 : decode cX10_init 46 = .ok (.aload_n 0, 1) := by decide +kernel
theorem dX10_init_47 : decode cX10_init 47 = .ok (.getfield 10, 3) := by decide +kernel
theorem dX10_init_50 : decode cX10_init 50 = .ok (.invokespecial 32, 3) := by decide +kernel
theorem dX10_init_53 : decode cX10_init 53 = .ok (.putfield 35, 3) := by decide +kernel
theorem dX10_init_56 : decode cX10_init 56 = .ok (.aload_n 0, 1) := by decide +kernel
theorem dX10_init_57 : decode cX10_init 57 = .ok (.new 39, 3) := by decide +kernel
theorem dX10_init_60 : decode cX10_init 60 = .ok (.dup, 1) := by decide +kernel
theorem dX10_init_61 : decode cX10_init 61 = .ok (.invokespecial 41, 3) := by decide +kernel
theorem dX10_init_64 : decode cX10_init 64 = .ok (.putfield 42, 3) := by decide +kernel
theorem dX10_init_67 : decode cX10_init 67 = .ok (.return_, 1) := by decide +kernel
theorem dX10_begins_0 : decode cX10_begins 0 = .ok (.iload_n 1, 1) := by decide +kernel
theorem dX10_begins_1 : decode cX10_begins 1 = .ok (.iconst 1, 1) := by decide +kernel
theorem dX10_begins_2 : decode cX10_begins 2 = .ok (.bipush 6, 2) := by decide +kernel
theorem dX10_begins_4 : decode cX10_begins 4 = .ok (.invokestatic 46, 3) := by decide +kernel
theorem dX10_begins_7 : decode cX10_begins 7 = .ok (.ifCond .ne 8, 3) := by decide +kernel
theorem dX10_begins_10 : decode cX10_begins 10 = .ok (.aload_n 0, 1) := by decide +kernel
theorem dX10_begins_11 : decode cX10_begins 11 = .ok (.invokevirtual 50, 3) := by decide +kernel
theorem dX10_begins_14 : decode cX10_begins 14 = .ok (.ireturn, 1) := by decide +kernel
theorem dX10_begins_15 : decode cX10_begins 15 = .ok (.aload_n 0, 1) := by decide +kernel
theorem dX10_begins_16 : decode cX10_begins 16 = .ok (.getfield 19, 3) := by decide +kernel
theorem dX10_begins_19 : decode cX10_begins 19 = .ok (.aload_n 0, 1) := by decide +kernel
theorem dX10_begins_20 : decode cX10_begins 20 = .ok (.getfield 10, 3) := by decide +kernel
theorem dX10_begins_23 : decode cX10_begins 23 = .ok (.invokevirtual 54, 3) := by decide +kernel
theorem dX10_begins_26 : decode cX10_begins 26 = .ok (.aload_n 0, 1) := by decide +kernel
theorem dX10_begins_27 : decode cX10_begins 27 = .ok (.getfield 10, 3) := by decide +kernel
theorem dX10_begins_30 : decode cX10_begins 30 = .ok (.getfield 58, 3) := by decide +kernel
theorem dX10_begins_33 : decode cX10_begins 33 = .ok (.istore_n 2, 1) := by decide +kernel
theorem dX10_begins_34 : decode cX10_begins 34 = .ok (.aload_n 0, 1) := by decide +kernel
theorem dX10_begins_35 : decode cX10_begins 35 = .ok (.getfield 10, 3) := by decide +kernel
theorem dX10_begins_38 : decode cX10_begins 38 = .ok (.iload_n 1, 1) := by decide +kernel
theorem dX10_begins_39 : decode cX10_begins 39 = .ok (.invokevirtual 62, 3) := by decide +kernel
theorem dX10_begins_42 : decode cX10_begins 42 = .ok (.iload_n 2, 1) := by decide +kernel
theorem dX10_begins_43 : decode cX10_begins 43 = .ok (.ireturn, 1) := by decide +kernel
theorem dX10_rooms_0 : decode cX10_rooms 0 = .ok (.aload_n 0, 1) := by decide +kernel
theorem dX10_rooms_1 : decode cX10_rooms 1 = .ok (.getfield 10, 3) := by decide +kernel
theorem dX10_rooms_4 : decode cX10_rooms 4 = .ok (.iload_n 1, 1) := by decide +kernel
theorem dX10_rooms_5 : decode cX10_rooms 5 = .ok (.invokevirtual 66, 3) := by decide +kernel
theorem dX10_rooms_8 : decode cX10_rooms 8 = .ok (.ifCond .eq 13, 3) := by decide +kernel
theorem dX10_rooms_11 : decode cX10_rooms 11 = .ok (.iload_n 2, 1) := by decide +kernel
theorem dX10_rooms_12 : decode cX10_rooms 12 = .ok (.iconst 1, 1) := by decide +kernel
theorem dX10_rooms_13 : decode cX10_rooms 13 = .ok (.bipush 6, 2) := by decide +kernel
theorem dX10_rooms_15 : decode cX10_rooms 15 = .ok (.invokestatic 46, 3) := by decide +kernel
theorem dX10_rooms_18 : decode cX10_rooms 18 = .ok (.ifCond .ne 8, 3) := by decide +kernel
theorem dX10_rooms_21 : decode cX10_rooms 21 = .ok (.aload_n 0, 1) := by decide +kernel
theorem dX10_rooms_22 : decode cX10_rooms 22 = .ok (.invokevirtual 50, 3) := by decide +kernel
theorem dX10_rooms_25 : decode cX10_rooms 25 = .ok (.ireturn, 1) := by decide +kernel
theorem dX10_rooms_26 : decode cX10_rooms 26 = .ok (.aload_n 0, 1) := by decide +kernel
theorem dX10_rooms_27 : decode cX10_rooms 27 = .ok (.getfield 19, 3) := by decide +kernel
theorem dX10_rooms_30 : decode cX10_rooms 30 = .ok (.aload_n 0, 1) := by decide +kernel
theorem dX10_rooms_31 : decode cX10_rooms 31 = .ok (.getfield 10, 3) := by decide +kernel
theorem dX10_rooms_34 : decode cX10_rooms 34 = .ok (.invokevirtual 54, 3) := by decide +kernel
theorem dX10_rooms_37 : decode cX10_rooms 37 = .ok (.aload_n 0, 1) := by decide +kernel
theorem dX10_rooms_38 : decode cX10_rooms 38 = .ok (.getfield 10, 3) := by decide +kernel
theorem dX10_rooms_41 : decode cX10_rooms 41 = .ok (.getfield 70, 3) := by decide +kernel
theorem dX10_rooms_44 : decode cX10_rooms 44 = .ok (.iload_n 1, 1) := by decide +kernel
theorem dX10_rooms_45 : decode cX10_rooms 45 = .ok (.aaload, 1) := by decide +kernel
theorem dX10_rooms_46 : decode cX10_rooms 46 = .ok (.getfield 74, 3) := by decide +kernel
theorem dX10_rooms_49 : decode cX10_rooms 49 = .ok (.istore_n 3, 1) := by decide +kernel
theorem dX10_rooms_50 : decode cX10_rooms 50 = .ok (.aload_n 0, 1) := by decide +kernel
theorem dX10_rooms_51 : decode cX10_rooms 51 = .ok (.getfield 10, 3) := by decide +kernel
theorem dX10_rooms_54 : decode cX10_rooms 54 = .ok (.getfield 70, 3) := by decide +kernel
theorem dX10_rooms_57 : decode cX10_rooms 57 = .ok (.iload_n 1, 1) := by decide +kernel
theorem dX10_rooms_58 : decode cX10_rooms 58 = .ok (.aaload, 1) := by decide +kernel
theorem dX10_rooms_59 : decode cX10_rooms 59 = .ok (.iload_n 2, 1) := by decide +kernel
theorem dX10_rooms_60 : decode cX10_rooms 60 = .ok (.putfield 74, 3) := by decide +kernel
theorem dX10_rooms_63 : decode cX10_rooms 63 = .ok (.aload_n 0, 1) := by decide +kernel
theorem dX10_rooms_64 : decode cX10_rooms 64 = .ok (.getfield 10, 3) := by decide +kernel
theorem dX10_rooms_67 : decode cX10_rooms 67 = .ok (.invokevirtual 79, 3) := by decide +kernel
theorem dX10_rooms_70 : decode cX10_rooms 70 = .ok (.iload_n 3, 1) := by decide +kernel
theorem dX10_rooms_71 : decode cX10_rooms 71 = .ok (.ireturn, 1) := by decide +kernel
theorem dX10_station_0 : decode cX10_station 0 = .ok (.aload_n 0, 1) := by decide +kernel
theorem dX10_station_1 : decode cX10_station 1 = .ok (.getfield 10, 3) := by decide +kernel
theorem dX10_station_4 : decode cX10_station 4 = .ok (.iload_n 1, 1) := by decide +kernel
theorem dX10_station_5 : decode cX10_station 5 = .ok (.invokevirtual 66, 3) := by decide +kernel
theorem dX10_station_8 : decode cX10_station 8 = .ok (.ifCond .eq 47, 3) := by decide +kernel
theorem dX10_station_11 : decode cX10_station 11 = .ok (.aload_n 0, 1) := by decide +kernel
theorem dX10_station_12 : decode cX10_station 12 = .ok (.getfield 10, 3) := by decide +kernel
theorem dX10_station_15 : decode cX10_station 15 = .ok (.iload_n 2, 1) := by decide +kernel
theorem dX10_station_16 : decode cX10_station 16 = .ok (.invokevirtual 82, 3) := by decide +kernel
theorem dX10_station_19 : decode cX10_station 19 = .ok (.ifCond .eq 36, 3) := by decide +kernel
theorem dX10_station_22 : decode cX10_station 22 = .ok (.aload_n 0, 1) := by decide +kernel
theorem dX10_station_23 : decode cX10_station 23 = .ok (.getfield 10, 3) := by decide +kernel
theorem dX10_station_26 : decode cX10_station 26 = .ok (.iload_n 3, 1) := by decide +kernel
theorem dX10_station_27 : decode cX10_station 27 = .ok (.invokevirtual 66, 3) := by decide +kernel
theorem dX10_station_30 : decode cX10_station 30 = .ok (.ifCond .eq 25, 3) := by decide +kernel
theorem dX10_station_33 : decode cX10_station 33 = .ok (.iload 4, 2) := by decide +kernel
theorem dX10_station_35 : decode cX10_station 35 = .ok (.iconst 1, 1) := by decide +kernel
theorem dX10_station_36 : decode cX10_station 36 = .ok (.bipush 9, 2) := by decide +kernel
theorem dX10_station_38 : decode cX10_station 38 = .ok (.invokestatic 46, 3) := by decide +kernel
theorem dX10_station_41 : decode cX10_station 41 = .ok (.ifCond .eq 14, 3) := by decide +kernel
theorem dX10_station_44 : decode cX10_station 44 = .ok (.iload 5, 2) := by decide +kernel
theorem dX10_station_46 : decode cX10_station 46 = .ok (.iconst 0, 1) := by decide +kernel
theorem dX10_station_47 : decode cX10_station 47 = .ok (.bipush 9, 2) := by decide +kernel
theorem dX10_station_49 : decode cX10_station 49 = .ok (.invokestatic 46, 3) := by decide +kernel
theorem dX10_station_52 : decode cX10_station 52 = .ok (.ifCond .ne 8, 3) := by decide +kernel
theorem dX10_station_55 : decode cX10_station 55 = .ok (.aload_n 0, 1) := by decide +kernel
theorem dX10_station_56 : decode cX10_station 56 = .ok (.invokevirtual 50, 3) := by decide +kernel
theorem dX10_station_59 : decode cX10_station 59 = .ok (.ireturn, 1) := by decide +kernel
theorem dX10_station_60 : decode cX10_station 60 = .ok (.aload_n 0, 1) := by decide +kernel
theorem dX10_station_61 : decode cX10_station 61 = .ok (.getfield 10, 3) := by decide +kernel
theorem dX10_station_64 : decode cX10_station 64 = .ok (.getfield 85, 3) := by decide +kernel
theorem dX10_station_67 : decode cX10_station 67 = .ok (.bipush 6, 2) := by decide +kernel
theorem dX10_station_69 : decode cX10_station 69 = .ok (.if_icmp .lt 8, 3) := by decide +kernel
theorem dX10_station_72 : decode cX10_station 72 = .ok (.aload_n 0, 1) := by decide +kernel
theorem dX10_station_73 : decode cX10_station 73 = .ok (.invokevirtual 88, 3) := by decide +kernel
theorem dX10_station_76 : decode cX10_station 76 = .ok (.ireturn, 1) := by decide +kernel
theorem dX10_station_77 : decode cX10_station 77 = .ok (.aload_n 0, 1) := by decide +kernel
theorem dX10_station_78 : decode cX10_station 78 = .ok (.getfield 19, 3) := by decide +kernel
theorem dX10_station_81 : decode cX10_station 81 = .ok (.aload_n 0, 1) := by decide +kernel
theorem dX10_station_82 : decode cX10_station 82 = .ok (.getfield 10, 3) := by decide +kernel
theorem dX10_station_85 : decode cX10_station 85 = .ok (.invokevirtual 54, 3) := by decide +kernel
theorem dX10_station_88 : decode cX10_station 88 = .ok (.aload_n 0, 1) := by decide +kernel
theorem dX10_station_89 : decode cX10_station 89 = .ok (.getfield 10, 3) := by decide +kernel
theorem dX10_station_92 : decode cX10_station 92 = .ok (.getfield 85, 3) := by decide +kernel
theorem dX10_station_95 : decode cX10_station 95 = .ok (.istore 6, 2) := by decide +kernel
theorem dX10_station_97 : decode cX10_station 97 = .ok (.aload_n 0, 1) := by decide +kernel
theorem dX10_station_98 : decode cX10_station 98 = .ok (.getfield 10, 3) := by decide +kernel
theorem dX10_station_101 : decode cX10_station 101 = .ok (.getfield 91, 3) := by decide +kernel
theorem dX10_station_104 : decode cX10_station 104 = .ok (.iload 6, 2) := by decide +kernel
theorem dX10_station_106 : decode cX10_station 106 = .ok (.aaload, 1) := by decide +kernel
theorem dX10_station_107 : decode cX10_station 107 = .ok (.iload_n 1, 1) := by decide +kernel
theorem dX10_station_108 : decode cX10_station 108 = .ok (.iload_n 2, 1) := by decide +kernel
theorem dX10_station_109 : decode cX10_station 109 = .ok (.iload_n 3, 1) := by decide +kernel
theorem dX10_station_110 : decode cX10_station 110 = .ok (.iload 4, 2) := by decide +kernel
theorem dX10_station_112 : decode cX10_station 112 = .ok (.iload 5, 2) := by decide +kernel
theorem dX10_station_114 : decode cX10_station 114 = .ok (.invokevirtual 95, 3) := by decide +kernel
theorem dX10_station_117 : decode cX10_station 117 = .ok (.aload_n 0, 1) := by decide +kernel
theorem dX10_station_118 : decode cX10_station 118 = .ok (.getfield 10, 3) := by decide +kernel
theorem dX10_station_121 : decode cX10_station 121 = .ok (.dup, 1) := by decide +kernel
theorem dX10_station_122 : decode cX10_station 122 = .ok (.getfield 85, 3) := by decide +kernel
theorem dX10_station_125 : decode cX10_station 125 = .ok (.iconst 1, 1) := by decide +kernel
theorem dX10_station_126 : decode cX10_station 126 = .ok (.iadd, 1) := by decide +kernel
theorem dX10_station_127 : decode cX10_station 127 = .ok (.putfield 85, 3) := by decide +kernel
theorem dX10_station_130 : decode cX10_station 130 = .ok (.iload 6, 2) := by decide +kernel
theorem dX10_station_132 : decode cX10_station 132 = .ok (.ireturn, 1) := by decide +kernel
theorem dX10_guards_0 : decode cX10_guards 0 = .ok (.aload_n 0, 1) := by decide +kernel
theorem dX10_guards_1 : decode cX10_guards 1 = .ok (.getfield 10, 3) := by decide +kernel
theorem dX10_guards_4 : decode cX10_guards 4 = .ok (.iload_n 1, 1) := by decide +kernel
theorem dX10_guards_5 : decode cX10_guards 5 = .ok (.invokevirtual 101, 3) := by decide +kernel
theorem dX10_guards_8 : decode cX10_guards 8 = .ok (.ifCond .eq 14, 3) := by decide +kernel
theorem dX10_guards_11 : decode cX10_guards 11 = .ok (.aload_n 0, 1) := by decide +kernel
theorem dX10_guards_12 : decode cX10_guards 12 = .ok (.getfield 10, 3) := by decide +kernel
theorem dX10_guards_15 : decode cX10_guards 15 = .ok (.iload_n 2, 1) := by decide +kernel
theorem dX10_guards_16 : decode cX10_guards 16 = .ok (.invokevirtual 82, 3) := by decide +kernel
theorem dX10_guards_19 : decode cX10_guards 19 = .ok (.ifCond .ne 8, 3) := by decide +kernel
theorem dX10_guards_22 : decode cX10_guards 22 = .ok (.aload_n 0, 1) := by decide +kernel
theorem dX10_guards_23 : decode cX10_guards 23 = .ok (.invokevirtual 50, 3) := by decide +kernel
theorem dX10_guards_26 : decode cX10_guards 26 = .ok (.ireturn, 1) := by decide +kernel
theorem dX10_guards_27 : decode cX10_guards 27 = .ok (.aload_n 0, 1) := by decide +kernel
theorem dX10_guards_28 : decode cX10_guards 28 = .ok (.getfield 19, 3) := by decide +kernel
theorem dX10_guards_31 : decode cX10_guards 31 = .ok (.aload_n 0, 1) := by decide +kernel
theorem dX10_guards_32 : decode cX10_guards 32 = .ok (.getfield 10, 3) := by decide +kernel
theorem dX10_guards_35 : decode cX10_guards 35 = .ok (.invokevirtual 54, 3) := by decide +kernel
theorem dX10_guards_38 : decode cX10_guards 38 = .ok (.aload_n 0, 1) := by decide +kernel
theorem dX10_guards_39 : decode cX10_guards 39 = .ok (.getfield 10, 3) := by decide +kernel
theorem dX10_guards_42 : decode cX10_guards 42 = .ok (.getfield 91, 3) := by decide +kernel
theorem dX10_guards_45 : decode cX10_guards 45 = .ok (.iload_n 1, 1) := by decide +kernel
theorem dX10_guards_46 : decode cX10_guards 46 = .ok (.aaload, 1) := by decide +kernel
theorem dX10_guards_47 : decode cX10_guards 47 = .ok (.getfield 104, 3) := by decide +kernel
theorem dX10_guards_50 : decode cX10_guards 50 = .ok (.istore_n 3, 1) := by decide +kernel
theorem dX10_guards_51 : decode cX10_guards 51 = .ok (.aload_n 0, 1) := by decide +kernel
theorem dX10_guards_52 : decode cX10_guards 52 = .ok (.getfield 10, 3) := by decide +kernel
theorem dX10_guards_55 : decode cX10_guards 55 = .ok (.getfield 91, 3) := by decide +kernel
theorem dX10_guards_58 : decode cX10_guards 58 = .ok (.iload_n 1, 1) := by decide +kernel
theorem dX10_guards_59 : decode cX10_guards 59 = .ok (.aaload, 1) := by decide +kernel
theorem dX10_guards_60 : decode cX10_guards 60 = .ok (.iload_n 2, 1) := by decide +kernel
theorem dX10_guards_61 : decode cX10_guards 61 = .ok (.putfield 104, 3) := by decide +kernel
theorem dX10_guards_64 : decode cX10_guards 64 = .ok (.iload_n 3, 1) := by decide +kernel
theorem dX10_guards_65 : decode cX10_guards 65 = .ok (.ireturn, 1) := by decide +kernel
theorem dX10_ticks_0 : decode cX10_ticks 0 = .ok (.iload_n 1, 1) := by decide +kernel
theorem dX10_ticks_1 : decode cX10_ticks 1 = .ok (.iconst 1, 1) := by decide +kernel
theorem dX10_ticks_2 : decode cX10_ticks 2 = .ok (.bipush 30, 2) := by decide +kernel
theorem dX10_ticks_4 : decode cX10_ticks 4 = .ok (.invokestatic 46, 3) := by decide +kernel
theorem dX10_ticks_7 : decode cX10_ticks 7 = .ok (.ifCond .ne 8, 3) := by decide +kernel
theorem dX10_ticks_10 : decode cX10_ticks 10 = .ok (.aload_n 0, 1) := by decide +kernel
theorem dX10_ticks_11 : decode cX10_ticks 11 = .ok (.invokevirtual 50, 3) := by decide +kernel
theorem dX10_ticks_14 : decode cX10_ticks 14 = .ok (.ireturn, 1) := by decide +kernel
theorem dX10_ticks_15 : decode cX10_ticks 15 = .ok (.aload_n 0, 1) := by decide +kernel
theorem dX10_ticks_16 : decode cX10_ticks 16 = .ok (.getfield 19, 3) := by decide +kernel
theorem dX10_ticks_19 : decode cX10_ticks 19 = .ok (.aload_n 0, 1) := by decide +kernel
theorem dX10_ticks_20 : decode cX10_ticks 20 = .ok (.getfield 10, 3) := by decide +kernel
theorem dX10_ticks_23 : decode cX10_ticks 23 = .ok (.invokevirtual 54, 3) := by decide +kernel
theorem dX10_ticks_26 : decode cX10_ticks 26 = .ok (.iconst 0, 1) := by decide +kernel
theorem dX10_ticks_27 : decode cX10_ticks 27 = .ok (.istore_n 2, 1) := by decide +kernel
theorem dX10_ticks_28 : decode cX10_ticks 28 = .ok (.iconst 0, 1) := by decide +kernel
theorem dX10_ticks_29 : decode cX10_ticks 29 = .ok (.istore_n 3, 1) := by decide +kernel
theorem dX10_ticks_30 : decode cX10_ticks 30 = .ok (.iload_n 3, 1) := by decide +kernel
theorem dX10_ticks_31 : decode cX10_ticks 31 = .ok (.iload_n 1, 1) := by decide +kernel
theorem dX10_ticks_32 : decode cX10_ticks 32 = .ok (.if_icmp .ge 26, 3) := by decide +kernel
theorem dX10_ticks_35 : decode cX10_ticks 35 = .ok (.iload_n 2, 1) := by decide +kernel
theorem dX10_ticks_36 : decode cX10_ticks 36 = .ok (.aload_n 0, 1) := by decide +kernel
theorem dX10_ticks_37 : decode cX10_ticks 37 = .ok (.getfield 10, 3) := by decide +kernel
theorem dX10_ticks_40 : decode cX10_ticks 40 = .ok (.invokevirtual 107, 3) := by decide +kernel
theorem dX10_ticks_43 : decode cX10_ticks 43 = .ok (.iadd, 1) := by decide +kernel
theorem dX10_ticks_44 : decode cX10_ticks 44 = .ok (.istore_n 2, 1) := by decide +kernel
theorem dX10_ticks_45 : decode cX10_ticks 45 = .ok (.aload_n 0, 1) := by decide +kernel
theorem dX10_ticks_46 : decode cX10_ticks 46 = .ok (.getfield 10, 3) := by decide +kernel
theorem dX10_ticks_49 : decode cX10_ticks 49 = .ok (.invokevirtual 79, 3) := by decide +kernel
theorem dX10_ticks_52 : decode cX10_ticks 52 = .ok (.iinc 3 1, 3) := by decide +kernel
theorem dX10_ticks_55 : decode cX10_ticks 55 = .ok (.goto (-25), 3) := by decide +kernel
theorem dX10_ticks_58 : decode cX10_ticks 58 = .ok (.iload_n 2, 1) := by decide +kernel
theorem dX10_ticks_59 : decode cX10_ticks 59 = .ok (.ireturn, 1) := by decide +kernel
theorem dX10_puts_0 : decode cX10_puts 0 = .ok (.aload_n 0, 1) := by decide +kernel
theorem dX10_puts_1 : decode cX10_puts 1 = .ok (.getfield 10, 3) := by decide +kernel
theorem dX10_puts_4 : decode cX10_puts 4 = .ok (.iload_n 1, 1) := by decide +kernel
theorem dX10_puts_5 : decode cX10_puts 5 = .ok (.invokevirtual 66, 3) := by decide +kernel
theorem dX10_puts_8 : decode cX10_puts 8 = .ok (.ifCond .eq 13, 3) := by decide +kernel
theorem dX10_puts_11 : decode cX10_puts 11 = .ok (.iload_n 2, 1) := by decide +kernel
theorem dX10_puts_12 : decode cX10_puts 12 = .ok (.iconst 0, 1) := by decide +kernel
theorem dX10_puts_13 : decode cX10_puts 13 = .ok (.bipush 9, 2) := by decide +kernel
theorem dX10_puts_15 : decode cX10_puts 15 = .ok (.invokestatic 46, 3) := by decide +kernel
theorem dX10_puts_18 : decode cX10_puts 18 = .ok (.ifCond .ne 8, 3) := by decide +kernel
theorem dX10_puts_21 : decode cX10_puts 21 = .ok (.aload_n 0, 1) := by decide +kernel
theorem dX10_puts_22 : decode cX10_puts 22 = .ok (.invokevirtual 50, 3) := by decide +kernel
theorem dX10_puts_25 : decode cX10_puts 25 = .ok (.ireturn, 1) := by decide +kernel
theorem dX10_puts_26 : decode cX10_puts 26 = .ok (.aload_n 0, 1) := by decide +kernel
theorem dX10_puts_27 : decode cX10_puts 27 = .ok (.getfield 19, 3) := by decide +kernel
theorem dX10_puts_30 : decode cX10_puts 30 = .ok (.aload_n 0, 1) := by decide +kernel
theorem dX10_puts_31 : decode cX10_puts 31 = .ok (.getfield 10, 3) := by decide +kernel
theorem dX10_puts_34 : decode cX10_puts 34 = .ok (.invokevirtual 54, 3) := by decide +kernel
theorem dX10_puts_37 : decode cX10_puts 37 = .ok (.aload_n 0, 1) := by decide +kernel
theorem dX10_puts_38 : decode cX10_puts 38 = .ok (.getfield 10, 3) := by decide +kernel
theorem dX10_puts_41 : decode cX10_puts 41 = .ok (.getfield 70, 3) := by decide +kernel
theorem dX10_puts_44 : decode cX10_puts 44 = .ok (.iload_n 1, 1) := by decide +kernel
theorem dX10_puts_45 : decode cX10_puts 45 = .ok (.aaload, 1) := by decide +kernel
theorem dX10_puts_46 : decode cX10_puts 46 = .ok (.astore_n 3, 1) := by decide +kernel
theorem dX10_puts_47 : decode cX10_puts 47 = .ok (.aload_n 3, 1) := by decide +kernel
theorem dX10_puts_48 : decode cX10_puts 48 = .ok (.iload_n 2, 1) := by decide +kernel
theorem dX10_puts_49 : decode cX10_puts 49 = .ok (.iconst (-1), 1) := by decide +kernel
theorem dX10_puts_50 : decode cX10_puts 50 = .ok (.invokevirtual 110, 3) := by decide +kernel
theorem dX10_puts_53 : decode cX10_puts 53 = .ok (.ifCond .eq 13, 3) := by decide +kernel
theorem dX10_puts_56 : decode cX10_puts 56 = .ok (.aload_n 3, 1) := by decide +kernel
theorem dX10_puts_57 : decode cX10_puts 57 = .ok (.getfield 114, 3) := by decide +kernel
theorem dX10_puts_60 : decode cX10_puts 60 = .ok (.getfield 118, 3) := by decide +kernel
theorem dX10_puts_63 : decode cX10_puts 63 = .ok (.goto 5, 3) := by decide +kernel
theorem dX10_puts_66 : decode cX10_puts 66 = .ok (.bipush (-5), 2) := by decide +kernel
theorem dX10_puts_68 : decode cX10_puts 68 = .ok (.istore 4, 2) := by decide +kernel
theorem dX10_puts_70 : decode cX10_puts 70 = .ok (.aload_n 0, 1) := by decide +kernel
theorem dX10_puts_71 : decode cX10_puts 71 = .ok (.getfield 10, 3) := by decide +kernel
theorem dX10_puts_74 : decode cX10_puts 74 = .ok (.invokevirtual 79, 3) := by decide +kernel
theorem dX10_puts_77 : decode cX10_puts 77 = .ok (.iload 4, 2) := by decide +kernel
theorem dX10_puts_79 : decode cX10_puts 79 = .ok (.ireturn, 1) := by decide +kernel
theorem dX10_takes_0 : decode cX10_takes 0 = .ok (.aload_n 0, 1) := by decide +kernel
theorem dX10_takes_1 : decode cX10_takes 1 = .ok (.getfield 10, 3) := by decide +kernel
theorem dX10_takes_4 : decode cX10_takes 4 = .ok (.iload_n 1, 1) := by decide +kernel
theorem dX10_takes_5 : decode cX10_takes 5 = .ok (.invokevirtual 66, 3) := by decide +kernel
theorem dX10_takes_8 : decode cX10_takes 8 = .ok (.ifCond .ne 8, 3) := by decide +kernel
theorem dX10_takes_11 : decode cX10_takes 11 = .ok (.aload_n 0, 1) := by decide +kernel
theorem dX10_takes_12 : decode cX10_takes 12 = .ok (.invokevirtual 50, 3) := by decide +kernel
theorem dX10_takes_15 : decode cX10_takes 15 = .ok (.ireturn, 1) := by decide +kernel
theorem dX10_takes_16 : decode cX10_takes 16 = .ok (.aload_n 0, 1) := by decide +kernel
theorem dX10_takes_17 : decode cX10_takes 17 = .ok (.getfield 19, 3) := by decide +kernel
theorem dX10_takes_20 : decode cX10_takes 20 = .ok (.aload_n 0, 1) := by decide +kernel
theorem dX10_takes_21 : decode cX10_takes 21 = .ok (.getfield 10, 3) := by decide +kernel
theorem dX10_takes_24 : decode cX10_takes 24 = .ok (.invokevirtual 54, 3) := by decide +kernel
theorem dX10_takes_27 : decode cX10_takes 27 = .ok (.aload_n 0, 1) := by decide +kernel
theorem dX10_takes_28 : decode cX10_takes 28 = .ok (.getfield 10, 3) := by decide +kernel
theorem dX10_takes_31 : decode cX10_takes 31 = .ok (.getfield 70, 3) := by decide +kernel
theorem dX10_takes_34 : decode cX10_takes 34 = .ok (.iload_n 1, 1) := by decide +kernel
theorem dX10_takes_35 : decode cX10_takes 35 = .ok (.aaload, 1) := by decide +kernel
theorem dX10_takes_36 : decode cX10_takes 36 = .ok (.iconst (-1), 1) := by decide +kernel
theorem dX10_takes_37 : decode cX10_takes 37 = .ok (.invokevirtual 123, 3) := by decide +kernel
theorem dX10_takes_40 : decode cX10_takes 40 = .ok (.istore_n 2, 1) := by decide +kernel
theorem dX10_takes_41 : decode cX10_takes 41 = .ok (.aload_n 0, 1) := by decide +kernel
theorem dX10_takes_42 : decode cX10_takes 42 = .ok (.getfield 10, 3) := by decide +kernel
theorem dX10_takes_45 : decode cX10_takes 45 = .ok (.invokevirtual 79, 3) := by decide +kernel
theorem dX10_takes_48 : decode cX10_takes 48 = .ok (.iload_n 2, 1) := by decide +kernel
theorem dX10_takes_49 : decode cX10_takes 49 = .ok (.ireturn, 1) := by decide +kernel
theorem dX10_moves_0 : decode cX10_moves 0 = .ok (.aload_n 0, 1) := by decide +kernel
theorem dX10_moves_1 : decode cX10_moves 1 = .ok (.getfield 10, 3) := by decide +kernel
theorem dX10_moves_4 : decode cX10_moves 4 = .ok (.iload_n 1, 1) := by decide +kernel
theorem dX10_moves_5 : decode cX10_moves 5 = .ok (.invokevirtual 66, 3) := by decide +kernel
theorem dX10_moves_8 : decode cX10_moves 8 = .ok (.ifCond .eq 39, 3) := by decide +kernel
theorem dX10_moves_11 : decode cX10_moves 11 = .ok (.aload_n 0, 1) := by decide +kernel
theorem dX10_moves_12 : decode cX10_moves 12 = .ok (.getfield 10, 3) := by decide +kernel
theorem dX10_moves_15 : decode cX10_moves 15 = .ok (.iload_n 2, 1) := by decide +kernel
theorem dX10_moves_16 : decode cX10_moves 16 = .ok (.invokevirtual 66, 3) := by decide +kernel
theorem dX10_moves_19 : decode cX10_moves 19 = .ok (.ifCond .eq 28, 3) := by decide +kernel
theorem dX10_moves_22 : decode cX10_moves 22 = .ok (.iload_n 1, 1) := by decide +kernel
theorem dX10_moves_23 : decode cX10_moves 23 = .ok (.iload_n 2, 1) := by decide +kernel
theorem dX10_moves_24 : decode cX10_moves 24 = .ok (.if_icmp .eq 23, 3) := by decide +kernel
theorem dX10_moves_27 : decode cX10_moves 27 = .ok (.iload_n 3, 1) := by decide +kernel
theorem dX10_moves_28 : decode cX10_moves 28 = .ok (.iconst 1, 1) := by decide +kernel
theorem dX10_moves_29 : decode cX10_moves 29 = .ok (.bipush 9, 2) := by decide +kernel
theorem dX10_moves_31 : decode cX10_moves 31 = .ok (.invokestatic 46, 3) := by decide +kernel
theorem dX10_moves_34 : decode cX10_moves 34 = .ok (.ifCond .eq 13, 3) := by decide +kernel
theorem dX10_moves_37 : decode cX10_moves 37 = .ok (.iload 4, 2) := by decide +kernel
theorem dX10_moves_39 : decode cX10_moves 39 = .ok (.iconst 0, 1) := by decide +kernel
theorem dX10_moves_40 : decode cX10_moves 40 = .ok (.iconst 1, 1) := by decide +kernel
theorem dX10_moves_41 : decode cX10_moves 41 = .ok (.invokestatic 46, 3) := by decide +kernel
theorem dX10_moves_44 : decode cX10_moves 44 = .ok (.ifCond .ne 8, 3) := by decide +kernel
theorem dX10_moves_47 : decode cX10_moves 47 = .ok (.aload_n 0, 1) := by decide +kernel
theorem dX10_moves_48 : decode cX10_moves 48 = .ok (.invokevirtual 50, 3) := by decide +kernel
theorem dX10_moves_51 : decode cX10_moves 51 = .ok (.ireturn, 1) := by decide +kernel
theorem dX10_moves_52 : decode cX10_moves 52 = .ok (.aload_n 0, 1) := by decide +kernel
theorem dX10_moves_53 : decode cX10_moves 53 = .ok (.getfield 19, 3) := by decide +kernel
theorem dX10_moves_56 : decode cX10_moves 56 = .ok (.aload_n 0, 1) := by decide +kernel
theorem dX10_moves_57 : decode cX10_moves 57 = .ok (.getfield 10, 3) := by decide +kernel
theorem dX10_moves_60 : decode cX10_moves 60 = .ok (.invokevirtual 54, 3) := by decide +kernel
theorem dX10_moves_63 : decode cX10_moves 63 = .ok (.aload_n 0, 1) := by decide +kernel
theorem dX10_moves_64 : decode cX10_moves 64 = .ok (.getfield 42, 3) := by decide +kernel
theorem dX10_moves_67 : decode cX10_moves 67 = .ok (.aload_n 0, 1) := by decide +kernel
theorem dX10_moves_68 : decode cX10_moves 68 = .ok (.getfield 10, 3) := by decide +kernel
theorem dX10_moves_71 : decode cX10_moves 71 = .ok (.invokevirtual 127, 3) := by decide +kernel
theorem dX10_moves_74 : decode cX10_moves 74 = .ok (.aload_n 0, 1) := by decide +kernel
theorem dX10_moves_75 : decode cX10_moves 75 = .ok (.getfield 10, 3) := by decide +kernel
theorem dX10_moves_78 : decode cX10_moves 78 = .ok (.iload_n 1, 1) := by decide +kernel
theorem dX10_moves_79 : decode cX10_moves 79 = .ok (.iload_n 2, 1) := by decide +kernel
theorem dX10_moves_80 : decode cX10_moves 80 = .ok (.iload_n 3, 1) := by decide +kernel
theorem dX10_moves_81 : decode cX10_moves 81 = .ok (.invokevirtual 128, 3) := by decide +kernel
theorem dX10_moves_84 : decode cX10_moves 84 = .ok (.istore 5, 2) := by decide +kernel
theorem dX10_moves_86 : decode cX10_moves 86 = .ok (.iload_n 3, 1) := by decide +kernel
theorem dX10_moves_87 : decode cX10_moves 87 = .ok (.istore 6, 2) := by decide +kernel
theorem dX10_moves_89 : decode cX10_moves 89 = .ok (.iload 5, 2) := by decide +kernel
theorem dX10_moves_91 : decode cX10_moves 91 = .ok (.iload_n 3, 1) := by decide +kernel
theorem dX10_moves_92 : decode cX10_moves 92 = .ok (.if_icmp .ge 30, 3) := by decide +kernel
theorem dX10_moves_95 : decode cX10_moves 95 = .ok (.iload 4, 2) := by decide +kernel
theorem dX10_moves_97 : decode cX10_moves 97 = .ok (.iconst 1, 1) := by decide +kernel
theorem dX10_moves_98 : decode cX10_moves 98 = .ok (.if_icmp .ne 17, 3) := by decide +kernel
theorem dX10_moves_101 : decode cX10_moves 101 = .ok (.aload_n 0, 1) := by decide +kernel
theorem dX10_moves_102 : decode cX10_moves 102 = .ok (.getfield 42, 3) := by decide +kernel
theorem dX10_moves_105 : decode cX10_moves 105 = .ok (.aload_n 0, 1) := by decide +kernel
theorem dX10_moves_106 : decode cX10_moves 106 = .ok (.getfield 10, 3) := by decide +kernel
theorem dX10_moves_109 : decode cX10_moves 109 = .ok (.invokevirtual 132, 3) := by decide +kernel
theorem dX10_moves_112 : decode cX10_moves 112 = .ok (.iconst 0, 1) := by decide +kernel
theorem dX10_moves_113 : decode cX10_moves 113 = .ok (.istore 5, 2) := by decide +kernel
theorem dX10_moves_115 : decode cX10_moves 115 = .ok (.bipush (-100), 2) := by decide +kernel
theorem dX10_moves_117 : decode cX10_moves 117 = .ok (.iload 5, 2) := by decide +kernel
theorem dX10_moves_119 : decode cX10_moves 119 = .ok (.isub, 1) := by decide +kernel
theorem dX10_moves_120 : decode cX10_moves 120 = .ok (.istore 6, 2) := by decide +kernel
theorem dX10_moves_122 : decode cX10_moves 122 = .ok (.aload_n 0, 1) := by decide +kernel
theorem dX10_moves_123 : decode cX10_moves 123 = .ok (.getfield 10, 3) := by decide +kernel
theorem dX10_moves_126 : decode cX10_moves 126 = .ok (.invokevirtual 79, 3) := by decide +kernel
theorem dX10_moves_129 : decode cX10_moves 129 = .ok (.iload 6, 2) := by decide +kernel
theorem dX10_moves_131 : decode cX10_moves 131 = .ok (.ireturn, 1) := by decide +kernel
theorem dX10_asks_0 : decode cX10_asks 0 = .ok (.iload_n 1, 1) := by decide +kernel
theorem dX10_asks_1 : decode cX10_asks 1 = .ok (.invokestatic 135, 3) := by decide +kernel
theorem dX10_asks_4 : decode cX10_asks 4 = .ok (.ifCond .eq 34, 3) := by decide +kernel
theorem dX10_asks_7 : decode cX10_asks 7 = .ok (.aload_n 0, 1) := by decide +kernel
theorem dX10_asks_8 : decode cX10_asks 8 = .ok (.getfield 10, 3) := by decide +kernel
end
section
theorem dX10_asks_11 : decode cX10_asks 11 = .ok (.iload_n 2, 1) := by decide +kernel
theorem dX10_asks_12 : decode cX10_asks 12 = .ok (.invokevirtual 66, 3) := by decide +kernel
theorem dX10_asks_15 : decode cX10_asks 15 = .ok (.ifCond .eq 23, 3) := by decide +kernel
theorem dX10_asks_18 : decode cX10_asks 18 = .ok (.iload_n 3, 1) := by decide +kernel
theorem dX10_asks_19 : decode cX10_asks 19 = .ok (.iconst 0, 1) := by decide +kernel
theorem dX10_asks_20 : decode cX10_asks 20 = .ok (.iconst 1, 1) := by decide +kernel
theorem dX10_asks_21 : decode cX10_asks 21 = .ok (.invokestatic 46, 3) := by decide +kernel
theorem dX10_asks_24 : decode cX10_asks 24 = .ok (.ifCond .eq 14, 3) := by decide +kernel
theorem dX10_asks_27 : decode cX10_asks 27 = .ok (.iload 4, 2) := by decide +kernel
theorem dX10_asks_29 : decode cX10_asks 29 = .ok (.iconst 0, 1) := by decide +kernel
theorem dX10_asks_30 : decode cX10_asks 30 = .ok (.bipush 9, 2) := by decide +kernel
theorem dX10_asks_32 : decode cX10_asks 32 = .ok (.invokestatic 46, 3) := by decide +kernel
theorem dX10_asks_35 : decode cX10_asks 35 = .ok (.ifCond .ne 8, 3) := by decide +kernel
theorem dX10_asks_38 : decode cX10_asks 38 = .ok (.aload_n 0, 1) := by decide +kernel
theorem dX10_asks_39 : decode cX10_asks 39 = .ok (.invokevirtual 50, 3) := by decide +kernel
theorem dX10_asks_42 : decode cX10_asks 42 = .ok (.ireturn, 1) := by decide +kernel
theorem dX10_asks_43 : decode cX10_asks 43 = .ok (.aload_n 0, 1) := by decide +kernel
theorem dX10_asks_44 : decode cX10_asks 44 = .ok (.getfield 10, 3) := by decide +kernel
theorem dX10_asks_47 : decode cX10_asks 47 = .ok (.getfield 138, 3) := by decide +kernel
theorem dX10_asks_50 : decode cX10_asks 50 = .ok (.iload_n 1, 1) := by decide +kernel
theorem dX10_asks_51 : decode cX10_asks 51 = .ok (.aaload, 1) := by decide +kernel
theorem dX10_asks_52 : decode cX10_asks 52 = .ok (.invokevirtual 142, 3) := by decide +kernel
theorem dX10_asks_55 : decode cX10_asks 55 = .ok (.ifCond .eq 8, 3) := by decide +kernel
theorem dX10_asks_58 : decode cX10_asks 58 = .ok (.aload_n 0, 1) := by decide +kernel
theorem dX10_asks_59 : decode cX10_asks 59 = .ok (.invokevirtual 148, 3) := by decide +kernel
theorem dX10_asks_62 : decode cX10_asks 62 = .ok (.ireturn, 1) := by decide +kernel
theorem dX10_asks_63 : decode cX10_asks 63 = .ok (.aload_n 0, 1) := by decide +kernel
theorem dX10_asks_64 : decode cX10_asks 64 = .ok (.getfield 19, 3) := by decide +kernel
theorem dX10_asks_67 : decode cX10_asks 67 = .ok (.aload_n 0, 1) := by decide +kernel
theorem dX10_asks_68 : decode cX10_asks 68 = .ok (.getfield 10, 3) := by decide +kernel
theorem dX10_asks_71 : decode cX10_asks 71 = .ok (.invokevirtual 54, 3) := by decide +kernel
theorem dX10_asks_74 : decode cX10_asks 74 = .ok (.aload_n 0, 1) := by decide +kernel
theorem dX10_asks_75 : decode cX10_asks 75 = .ok (.getfield 10, 3) := by decide +kernel
theorem dX10_asks_78 : decode cX10_asks 78 = .ok (.getfield 138, 3) := by decide +kernel
theorem dX10_asks_81 : decode cX10_asks 81 = .ok (.iload_n 1, 1) := by decide +kernel
theorem dX10_asks_82 : decode cX10_asks 82 = .ok (.aaload, 1) := by decide +kernel
theorem dX10_asks_83 : decode cX10_asks 83 = .ok (.iload_n 2, 1) := by decide +kernel
theorem dX10_asks_84 : decode cX10_asks 84 = .ok (.iload_n 3, 1) := by decide +kernel
theorem dX10_asks_85 : decode cX10_asks 85 = .ok (.iload 4, 2) := by decide +kernel
theorem dX10_asks_87 : decode cX10_asks 87 = .ok (.invokevirtual 151, 3) := by decide +kernel
theorem dX10_asks_90 : decode cX10_asks 90 = .ok (.aload_n 0, 1) := by decide +kernel
theorem dX10_asks_91 : decode cX10_asks 91 = .ok (.getfield 10, 3) := by decide +kernel
theorem dX10_asks_94 : decode cX10_asks 94 = .ok (.iload_n 1, 1) := by decide +kernel
theorem dX10_asks_95 : decode cX10_asks 95 = .ok (.invokevirtual 155, 3) := by decide +kernel
theorem dX10_asks_98 : decode cX10_asks 98 = .ok (.istore 5, 2) := by decide +kernel
theorem dX10_asks_100 : decode cX10_asks 100 = .ok (.iload 5, 2) := by decide +kernel
theorem dX10_asks_102 : decode cX10_asks 102 = .ok (.ifCond .ne 14, 3) := by decide +kernel
theorem dX10_asks_105 : decode cX10_asks 105 = .ok (.aload_n 0, 1) := by decide +kernel
theorem dX10_asks_106 : decode cX10_asks 106 = .ok (.getfield 10, 3) := by decide +kernel
theorem dX10_asks_109 : decode cX10_asks 109 = .ok (.getfield 158, 3) := by decide +kernel
theorem dX10_asks_112 : decode cX10_asks 112 = .ok (.iload_n 1, 1) := by decide +kernel
theorem dX10_asks_113 : decode cX10_asks 113 = .ok (.invokevirtual 161, 3) := by decide +kernel
theorem dX10_asks_116 : decode cX10_asks 116 = .ok (.aload_n 0, 1) := by decide +kernel
theorem dX10_asks_117 : decode cX10_asks 117 = .ok (.getfield 10, 3) := by decide +kernel
theorem dX10_asks_120 : decode cX10_asks 120 = .ok (.invokevirtual 79, 3) := by decide +kernel
theorem dX10_asks_123 : decode cX10_asks 123 = .ok (.iload 5, 2) := by decide +kernel
theorem dX10_asks_125 : decode cX10_asks 125 = .ok (.ifCond .eq 7, 3) := by decide +kernel
theorem dX10_asks_128 : decode cX10_asks 128 = .ok (.iconst 1, 1) := by decide +kernel
theorem dX10_asks_129 : decode cX10_asks 129 = .ok (.goto 4, 3) := by decide +kernel
theorem dX10_asks_132 : decode cX10_asks 132 = .ok (.iconst 0, 1) := by decide +kernel
theorem dX10_asks_133 : decode cX10_asks 133 = .ok (.ireturn, 1) := by decide +kernel
theorem dX10_cancels_0 : decode cX10_cancels 0 = .ok (.iload_n 1, 1) := by decide +kernel
theorem dX10_cancels_1 : decode cX10_cancels 1 = .ok (.invokestatic 135, 3) := by decide +kernel
theorem dX10_cancels_4 : decode cX10_cancels 4 = .ok (.ifCond .ne 8, 3) := by decide +kernel
theorem dX10_cancels_7 : decode cX10_cancels 7 = .ok (.aload_n 0, 1) := by decide +kernel
theorem dX10_cancels_8 : decode cX10_cancels 8 = .ok (.invokevirtual 50, 3) := by decide +kernel
theorem dX10_cancels_11 : decode cX10_cancels 11 = .ok (.ireturn, 1) := by decide +kernel
theorem dX10_cancels_12 : decode cX10_cancels 12 = .ok (.aload_n 0, 1) := by decide +kernel
theorem dX10_cancels_13 : decode cX10_cancels 13 = .ok (.getfield 10, 3) := by decide +kernel
theorem dX10_cancels_16 : decode cX10_cancels 16 = .ok (.getfield 138, 3) := by decide +kernel
theorem dX10_cancels_19 : decode cX10_cancels 19 = .ok (.iload_n 1, 1) := by decide +kernel
theorem dX10_cancels_20 : decode cX10_cancels 20 = .ok (.aaload, 1) := by decide +kernel
theorem dX10_cancels_21 : decode cX10_cancels 21 = .ok (.invokevirtual 142, 3) := by decide +kernel
theorem dX10_cancels_24 : decode cX10_cancels 24 = .ok (.ifCond .ne 8, 3) := by decide +kernel
theorem dX10_cancels_27 : decode cX10_cancels 27 = .ok (.aload_n 0, 1) := by decide +kernel
theorem dX10_cancels_28 : decode cX10_cancels 28 = .ok (.invokevirtual 148, 3) := by decide +kernel
theorem dX10_cancels_31 : decode cX10_cancels 31 = .ok (.ireturn, 1) := by decide +kernel
theorem dX10_cancels_32 : decode cX10_cancels 32 = .ok (.aload_n 0, 1) := by decide +kernel
theorem dX10_cancels_33 : decode cX10_cancels 33 = .ok (.getfield 19, 3) := by decide +kernel
theorem dX10_cancels_36 : decode cX10_cancels 36 = .ok (.aload_n 0, 1) := by decide +kernel
theorem dX10_cancels_37 : decode cX10_cancels 37 = .ok (.getfield 10, 3) := by decide +kernel
theorem dX10_cancels_40 : decode cX10_cancels 40 = .ok (.invokevirtual 54, 3) := by decide +kernel
theorem dX10_cancels_43 : decode cX10_cancels 43 = .ok (.aload_n 0, 1) := by decide +kernel
theorem dX10_cancels_44 : decode cX10_cancels 44 = .ok (.getfield 10, 3) := by decide +kernel
theorem dX10_cancels_47 : decode cX10_cancels 47 = .ok (.getfield 138, 3) := by decide +kernel
theorem dX10_cancels_50 : decode cX10_cancels 50 = .ok (.iload_n 1, 1) := by decide +kernel
theorem dX10_cancels_51 : decode cX10_cancels 51 = .ok (.aaload, 1) := by decide +kernel
theorem dX10_cancels_52 : decode cX10_cancels 52 = .ok (.invokevirtual 164, 3) := by decide +kernel
theorem dX10_cancels_55 : decode cX10_cancels 55 = .ok (.aload_n 0, 1) := by decide +kernel
theorem dX10_cancels_56 : decode cX10_cancels 56 = .ok (.getfield 10, 3) := by decide +kernel
theorem dX10_cancels_59 : decode cX10_cancels 59 = .ok (.getfield 158, 3) := by decide +kernel
theorem dX10_cancels_62 : decode cX10_cancels 62 = .ok (.aload_n 0, 1) := by decide +kernel
theorem dX10_cancels_63 : decode cX10_cancels 63 = .ok (.getfield 10, 3) := by decide +kernel
theorem dX10_cancels_66 : decode cX10_cancels 66 = .ok (.getfield 158, 3) := by decide +kernel
theorem dX10_cancels_69 : decode cX10_cancels 69 = .ok (.iload_n 1, 1) := by decide +kernel
theorem dX10_cancels_70 : decode cX10_cancels 70 = .ok (.invokevirtual 167, 3) := by decide +kernel
theorem dX10_cancels_73 : decode cX10_cancels 73 = .ok (.invokevirtual 170, 3) := by decide +kernel
theorem dX10_cancels_76 : decode cX10_cancels 76 = .ok (.pop, 1) := by decide +kernel
theorem dX10_cancels_77 : decode cX10_cancels 77 = .ok (.aload_n 0, 1) := by decide +kernel
theorem dX10_cancels_78 : decode cX10_cancels 78 = .ok (.getfield 10, 3) := by decide +kernel
theorem dX10_cancels_81 : decode cX10_cancels 81 = .ok (.getfield 158, 3) := by decide +kernel
theorem dX10_cancels_84 : decode cX10_cancels 84 = .ok (.getfield 118, 3) := by decide +kernel
theorem dX10_cancels_87 : decode cX10_cancels 87 = .ok (.ireturn, 1) := by decide +kernel
theorem dX10_keeps_0 : decode cX10_keeps 0 = .ok (.iload_n 1, 1) := by decide +kernel
theorem dX10_keeps_1 : decode cX10_keeps 1 = .ok (.invokestatic 135, 3) := by decide +kernel
theorem dX10_keeps_4 : decode cX10_keeps 4 = .ok (.ifCond .eq 14, 3) := by decide +kernel
theorem dX10_keeps_7 : decode cX10_keeps 7 = .ok (.aload_n 0, 1) := by decide +kernel
theorem dX10_keeps_8 : decode cX10_keeps 8 = .ok (.getfield 10, 3) := by decide +kernel
theorem dX10_keeps_11 : decode cX10_keeps 11 = .ok (.iload_n 2, 1) := by decide +kernel
theorem dX10_keeps_12 : decode cX10_keeps 12 = .ok (.invokevirtual 66, 3) := by decide +kernel
theorem dX10_keeps_15 : decode cX10_keeps 15 = .ok (.ifCond .ne 8, 3) := by decide +kernel
theorem dX10_keeps_18 : decode cX10_keeps 18 = .ok (.aload_n 0, 1) := by decide +kernel
theorem dX10_keeps_19 : decode cX10_keeps 19 = .ok (.invokevirtual 50, 3) := by decide +kernel
theorem dX10_keeps_22 : decode cX10_keeps 22 = .ok (.ireturn, 1) := by decide +kernel
theorem dX10_keeps_23 : decode cX10_keeps 23 = .ok (.aload_n 0, 1) := by decide +kernel
theorem dX10_keeps_24 : decode cX10_keeps 24 = .ok (.getfield 10, 3) := by decide +kernel
theorem dX10_keeps_27 : decode cX10_keeps 27 = .ok (.iload_n 1, 1) := by decide +kernel
theorem dX10_keeps_28 : decode cX10_keeps 28 = .ok (.invokevirtual 173, 3) := by decide +kernel
theorem dX10_keeps_31 : decode cX10_keeps 31 = .ok (.iconst (-1), 1) := by decide +kernel
theorem dX10_keeps_32 : decode cX10_keeps 32 = .ok (.if_icmp .eq 8, 3) := by decide +kernel
theorem dX10_keeps_35 : decode cX10_keeps 35 = .ok (.aload_n 0, 1) := by decide +kernel
theorem dX10_keeps_36 : decode cX10_keeps 36 = .ok (.invokevirtual 148, 3) := by decide +kernel
theorem dX10_keeps_39 : decode cX10_keeps 39 = .ok (.ireturn, 1) := by decide +kernel
theorem dX10_keeps_40 : decode cX10_keeps 40 = .ok (.aload_n 0, 1) := by decide +kernel
theorem dX10_keeps_41 : decode cX10_keeps 41 = .ok (.getfield 19, 3) := by decide +kernel
theorem dX10_keeps_44 : decode cX10_keeps 44 = .ok (.aload_n 0, 1) := by decide +kernel
theorem dX10_keeps_45 : decode cX10_keeps 45 = .ok (.getfield 10, 3) := by decide +kernel
theorem dX10_keeps_48 : decode cX10_keeps 48 = .ok (.invokevirtual 54, 3) := by decide +kernel
theorem dX10_keeps_51 : decode cX10_keeps 51 = .ok (.aload_n 0, 1) := by decide +kernel
theorem dX10_keeps_52 : decode cX10_keeps 52 = .ok (.getfield 10, 3) := by decide +kernel
theorem dX10_keeps_55 : decode cX10_keeps 55 = .ok (.getfield 70, 3) := by decide +kernel
theorem dX10_keeps_58 : decode cX10_keeps 58 = .ok (.iload_n 2, 1) := by decide +kernel
theorem dX10_keeps_59 : decode cX10_keeps 59 = .ok (.aaload, 1) := by decide +kernel
theorem dX10_keeps_60 : decode cX10_keeps 60 = .ok (.iload_n 1, 1) := by decide +kernel
theorem dX10_keeps_61 : decode cX10_keeps 61 = .ok (.invokevirtual 176, 3) := by decide +kernel
theorem dX10_keeps_64 : decode cX10_keeps 64 = .ok (.ireturn, 1) := by decide +kernel
theorem dX10_lets_0 : decode cX10_lets 0 = .ok (.iload_n 1, 1) := by decide +kernel
theorem dX10_lets_1 : decode cX10_lets 1 = .ok (.invokestatic 135, 3) := by decide +kernel
theorem dX10_lets_4 : decode cX10_lets 4 = .ok (.ifCond .eq 14, 3) := by decide +kernel
theorem dX10_lets_7 : decode cX10_lets 7 = .ok (.aload_n 0, 1) := by decide +kernel
theorem dX10_lets_8 : decode cX10_lets 8 = .ok (.getfield 10, 3) := by decide +kernel
theorem dX10_lets_11 : decode cX10_lets 11 = .ok (.iload_n 2, 1) := by decide +kernel
theorem dX10_lets_12 : decode cX10_lets 12 = .ok (.invokevirtual 66, 3) := by decide +kernel
theorem dX10_lets_15 : decode cX10_lets 15 = .ok (.ifCond .ne 8, 3) := by decide +kernel
theorem dX10_lets_18 : decode cX10_lets 18 = .ok (.aload_n 0, 1) := by decide +kernel
theorem dX10_lets_19 : decode cX10_lets 19 = .ok (.invokevirtual 50, 3) := by decide +kernel
theorem dX10_lets_22 : decode cX10_lets 22 = .ok (.ireturn, 1) := by decide +kernel
theorem dX10_lets_23 : decode cX10_lets 23 = .ok (.aload_n 0, 1) := by decide +kernel
theorem dX10_lets_24 : decode cX10_lets 24 = .ok (.getfield 10, 3) := by decide +kernel
theorem dX10_lets_27 : decode cX10_lets 27 = .ok (.getfield 70, 3) := by decide +kernel
theorem dX10_lets_30 : decode cX10_lets 30 = .ok (.iload_n 2, 1) := by decide +kernel
theorem dX10_lets_31 : decode cX10_lets 31 = .ok (.aaload, 1) := by decide +kernel
theorem dX10_lets_32 : decode cX10_lets 32 = .ok (.getfield 179, 3) := by decide +kernel
theorem dX10_lets_35 : decode cX10_lets 35 = .ok (.iload_n 1, 1) := by decide +kernel
theorem dX10_lets_36 : decode cX10_lets 36 = .ok (.if_icmp .eq 8, 3) := by decide +kernel
theorem dX10_lets_39 : decode cX10_lets 39 = .ok (.aload_n 0, 1) := by decide +kernel
theorem dX10_lets_40 : decode cX10_lets 40 = .ok (.invokevirtual 148, 3) := by decide +kernel
theorem dX10_lets_43 : decode cX10_lets 43 = .ok (.ireturn, 1) := by decide +kernel
theorem dX10_lets_44 : decode cX10_lets 44 = .ok (.aload_n 0, 1) := by decide +kernel
theorem dX10_lets_45 : decode cX10_lets 45 = .ok (.getfield 19, 3) := by decide +kernel
theorem dX10_lets_48 : decode cX10_lets 48 = .ok (.aload_n 0, 1) := by decide +kernel
theorem dX10_lets_49 : decode cX10_lets 49 = .ok (.getfield 10, 3) := by decide +kernel
theorem dX10_lets_52 : decode cX10_lets 52 = .ok (.invokevirtual 54, 3) := by decide +kernel
theorem dX10_lets_55 : decode cX10_lets 55 = .ok (.aload_n 0, 1) := by decide +kernel
theorem dX10_lets_56 : decode cX10_lets 56 = .ok (.getfield 10, 3) := by decide +kernel
theorem dX10_lets_59 : decode cX10_lets 59 = .ok (.getfield 70, 3) := by decide +kernel
theorem dX10_lets_62 : decode cX10_lets 62 = .ok (.iload_n 2, 1) := by decide +kernel
theorem dX10_lets_63 : decode cX10_lets 63 = .ok (.aaload, 1) := by decide +kernel
theorem dX10_lets_64 : decode cX10_lets 64 = .ok (.invokevirtual 182, 3) := by decide +kernel
theorem dX10_lets_67 : decode cX10_lets 67 = .ok (.istore_n 3, 1) := by decide +kernel
theorem dX10_lets_68 : decode cX10_lets 68 = .ok (.aload_n 0, 1) := by decide +kernel
theorem dX10_lets_69 : decode cX10_lets 69 = .ok (.getfield 10, 3) := by decide +kernel
theorem dX10_lets_72 : decode cX10_lets 72 = .ok (.invokevirtual 79, 3) := by decide +kernel
theorem dX10_lets_75 : decode cX10_lets 75 = .ok (.iload_n 3, 1) := by decide +kernel
theorem dX10_lets_76 : decode cX10_lets 76 = .ok (.ireturn, 1) := by decide +kernel
theorem dX10_quits_0 : decode cX10_quits 0 = .ok (.iload_n 1, 1) := by decide +kernel
theorem dX10_quits_1 : decode cX10_quits 1 = .ok (.invokestatic 135, 3) := by decide +kernel
theorem dX10_quits_4 : decode cX10_quits 4 = .ok (.ifCond .ne 8, 3) := by decide +kernel
theorem dX10_quits_7 : decode cX10_quits 7 = .ok (.aload_n 0, 1) := by decide +kernel
theorem dX10_quits_8 : decode cX10_quits 8 = .ok (.invokevirtual 50, 3) := by decide +kernel
theorem dX10_quits_11 : decode cX10_quits 11 = .ok (.ireturn, 1) := by decide +kernel
theorem dX10_quits_12 : decode cX10_quits 12 = .ok (.aload_n 0, 1) := by decide +kernel
theorem dX10_quits_13 : decode cX10_quits 13 = .ok (.getfield 10, 3) := by decide +kernel
theorem dX10_quits_16 : decode cX10_quits 16 = .ok (.iload_n 1, 1) := by decide +kernel
theorem dX10_quits_17 : decode cX10_quits 17 = .ok (.invokevirtual 173, 3) := by decide +kernel
theorem dX10_quits_20 : decode cX10_quits 20 = .ok (.istore_n 2, 1) := by decide +kernel
theorem dX10_quits_21 : decode cX10_quits 21 = .ok (.aload_n 0, 1) := by decide +kernel
theorem dX10_quits_22 : decode cX10_quits 22 = .ok (.getfield 10, 3) := by decide +kernel
theorem dX10_quits_25 : decode cX10_quits 25 = .ok (.iload_n 2, 1) := by decide +kernel
theorem dX10_quits_26 : decode cX10_quits 26 = .ok (.invokevirtual 66, 3) := by decide +kernel
theorem dX10_quits_29 : decode cX10_quits 29 = .ok (.ifCond .ne 8, 3) := by decide +kernel
theorem dX10_quits_32 : decode cX10_quits 32 = .ok (.aload_n 0, 1) := by decide +kernel
theorem dX10_quits_33 : decode cX10_quits 33 = .ok (.invokevirtual 148, 3) := by decide +kernel
theorem dX10_quits_36 : decode cX10_quits 36 = .ok (.ireturn, 1) := by decide +kernel
theorem dX10_quits_37 : decode cX10_quits 37 = .ok (.aload_n 0, 1) := by decide +kernel
theorem dX10_quits_38 : decode cX10_quits 38 = .ok (.getfield 19, 3) := by decide +kernel
theorem dX10_quits_41 : decode cX10_quits 41 = .ok (.aload_n 0, 1) := by decide +kernel
theorem dX10_quits_42 : decode cX10_quits 42 = .ok (.getfield 10, 3) := by decide +kernel
theorem dX10_quits_45 : decode cX10_quits 45 = .ok (.invokevirtual 54, 3) := by decide +kernel
theorem dX10_quits_48 : decode cX10_quits 48 = .ok (.aload_n 0, 1) := by decide +kernel
theorem dX10_quits_49 : decode cX10_quits 49 = .ok (.getfield 10, 3) := by decide +kernel
theorem dX10_quits_52 : decode cX10_quits 52 = .ok (.getfield 70, 3) := by decide +kernel
theorem dX10_quits_55 : decode cX10_quits 55 = .ok (.iload_n 2, 1) := by decide +kernel
theorem dX10_quits_56 : decode cX10_quits 56 = .ok (.aaload, 1) := by decide +kernel
theorem dX10_quits_57 : decode cX10_quits 57 = .ok (.getfield 185, 3) := by decide +kernel
theorem dX10_quits_60 : decode cX10_quits 60 = .ok (.astore_n 3, 1) := by decide +kernel
theorem dX10_quits_61 : decode cX10_quits 61 = .ok (.aload_n 3, 1) := by decide +kernel
theorem dX10_quits_62 : decode cX10_quits 62 = .ok (.aload_n 3, 1) := by decide +kernel
theorem dX10_quits_63 : decode cX10_quits 63 = .ok (.iload_n 1, 1) := by decide +kernel
theorem dX10_quits_64 : decode cX10_quits 64 = .ok (.invokevirtual 167, 3) := by decide +kernel
theorem dX10_quits_67 : decode cX10_quits 67 = .ok (.invokevirtual 170, 3) := by decide +kernel
theorem dX10_quits_70 : decode cX10_quits 70 = .ok (.pop, 1) := by decide +kernel
theorem dX10_quits_71 : decode cX10_quits 71 = .ok (.iload_n 2, 1) := by decide +kernel
theorem dX10_quits_72 : decode cX10_quits 72 = .ok (.ireturn, 1) := by decide +kernel
theorem dX10_keeper_0 : decode cX10_keeper 0 = .ok (.aload_n 0, 1) := by decide +kernel
theorem dX10_keeper_1 : decode cX10_keeper 1 = .ok (.getfield 10, 3) := by decide +kernel
theorem dX10_keeper_4 : decode cX10_keeper 4 = .ok (.iload_n 1, 1) := by decide +kernel
theorem dX10_keeper_5 : decode cX10_keeper 5 = .ok (.invokevirtual 66, 3) := by decide +kernel
theorem dX10_keeper_8 : decode cX10_keeper 8 = .ok (.ifCond .eq 12, 3) := by decide +kernel
theorem dX10_keeper_11 : decode cX10_keeper 11 = .ok (.iload_n 2, 1) := by decide +kernel
theorem dX10_keeper_12 : decode cX10_keeper 12 = .ok (.iconst 0, 1) := by decide +kernel
theorem dX10_keeper_13 : decode cX10_keeper 13 = .ok (.iconst 2, 1) := by decide +kernel
theorem dX10_keeper_14 : decode cX10_keeper 14 = .ok (.invokestatic 46, 3) := by decide +kernel
theorem dX10_keeper_17 : decode cX10_keeper 17 = .ok (.ifCond .ne 8, 3) := by decide +kernel
theorem dX10_keeper_20 : decode cX10_keeper 20 = .ok (.aload_n 0, 1) := by decide +kernel
theorem dX10_keeper_21 : decode cX10_keeper 21 = .ok (.invokevirtual 50, 3) := by decide +kernel
theorem dX10_keeper_24 : decode cX10_keeper 24 = .ok (.ireturn, 1) := by decide +kernel
theorem dX10_keeper_25 : decode cX10_keeper 25 = .ok (.aload_n 0, 1) := by decide +kernel
theorem dX10_keeper_26 : decode cX10_keeper 26 = .ok (.getfield 10, 3) := by decide +kernel
theorem dX10_keeper_29 : decode cX10_keeper 29 = .ok (.getfield 70, 3) := by decide +kernel
theorem dX10_keeper_32 : decode cX10_keeper 32 = .ok (.iload_n 1, 1) := by decide +kernel
theorem dX10_keeper_33 : decode cX10_keeper 33 = .ok (.aaload, 1) := by decide +kernel
theorem dX10_keeper_34 : decode cX10_keeper 34 = .ok (.iload_n 2, 1) := by decide +kernel
theorem dX10_keeper_35 : decode cX10_keeper 35 = .ok (.invokevirtual 188, 3) := by decide +kernel
theorem dX10_keeper_38 : decode cX10_keeper 38 = .ok (.ireturn, 1) := by decide +kernel
theorem dX10_queue_0 : decode cX10_queue 0 = .ok (.aload_n 0, 1) := by decide +kernel
theorem dX10_queue_1 : decode cX10_queue 1 = .ok (.getfield 10, 3) := by decide +kernel
theorem dX10_queue_4 : decode cX10_queue 4 = .ok (.iload_n 1, 1) := by decide +kernel
theorem dX10_queue_5 : decode cX10_queue 5 = .ok (.invokevirtual 66, 3) := by decide +kernel
theorem dX10_queue_8 : decode cX10_queue 8 = .ok (.ifCond .eq 7, 3) := by decide +kernel
theorem dX10_queue_11 : decode cX10_queue 11 = .ok (.iload_n 2, 1) := by decide +kernel
theorem dX10_queue_12 : decode cX10_queue 12 = .ok (.ifCond .ge 8, 3) := by decide +kernel
theorem dX10_queue_15 : decode cX10_queue 15 = .ok (.aload_n 0, 1) := by decide +kernel
theorem dX10_queue_16 : decode cX10_queue 16 = .ok (.invokevirtual 50, 3) := by decide +kernel
theorem dX10_queue_19 : decode cX10_queue 19 = .ok (.ireturn, 1) := by decide +kernel
theorem dX10_queue_20 : decode cX10_queue 20 = .ok (.aload_n 0, 1) := by decide +kernel
theorem dX10_queue_21 : decode cX10_queue 21 = .ok (.getfield 10, 3) := by decide +kernel
theorem dX10_queue_24 : decode cX10_queue 24 = .ok (.getfield 70, 3) := by decide +kernel
theorem dX10_queue_27 : decode cX10_queue 27 = .ok (.iload_n 1, 1) := by decide +kernel
theorem dX10_queue_28 : decode cX10_queue 28 = .ok (.aaload, 1) := by decide +kernel
theorem dX10_queue_29 : decode cX10_queue 29 = .ok (.getfield 185, 3) := by decide +kernel
theorem dX10_queue_32 : decode cX10_queue 32 = .ok (.iload_n 2, 1) := by decide +kernel
theorem dX10_queue_33 : decode cX10_queue 33 = .ok (.invokevirtual 191, 3) := by decide +kernel
theorem dX10_queue_36 : decode cX10_queue 36 = .ok (.ireturn, 1) := by decide +kernel
theorem dX10_stuck_0 : decode cX10_stuck 0 = .ok (.aload_n 0, 1) := by decide +kernel
theorem dX10_stuck_1 : decode cX10_stuck 1 = .ok (.getfield 10, 3) := by decide +kernel
theorem dX10_stuck_4 : decode cX10_stuck 4 = .ok (.invokevirtual 194, 3) := by decide +kernel
theorem dX10_stuck_7 : decode cX10_stuck 7 = .ok (.ireturn, 1) := by decide +kernel
theorem dX10_buffer_0 : decode cX10_buffer 0 = .ok (.aload_n 0, 1) := by decide +kernel
theorem dX10_buffer_1 : decode cX10_buffer 1 = .ok (.getfield 10, 3) := by decide +kernel
theorem dX10_buffer_4 : decode cX10_buffer 4 = .ok (.iload_n 1, 1) := by decide +kernel
theorem dX10_buffer_5 : decode cX10_buffer 5 = .ok (.invokevirtual 66, 3) := by decide +kernel
theorem dX10_buffer_8 : decode cX10_buffer 8 = .ok (.ifCond .eq 13, 3) := by decide +kernel
theorem dX10_buffer_11 : decode cX10_buffer 11 = .ok (.iload_n 2, 1) := by decide +kernel
theorem dX10_buffer_12 : decode cX10_buffer 12 = .ok (.iconst 0, 1) := by decide +kernel
theorem dX10_buffer_13 : decode cX10_buffer 13 = .ok (.bipush 7, 2) := by decide +kernel
theorem dX10_buffer_15 : decode cX10_buffer 15 = .ok (.invokestatic 46, 3) := by decide +kernel
theorem dX10_buffer_18 : decode cX10_buffer 18 = .ok (.ifCond .ne 8, 3) := by decide +kernel
theorem dX10_buffer_21 : decode cX10_buffer 21 = .ok (.aload_n 0, 1) := by decide +kernel
theorem dX10_buffer_22 : decode cX10_buffer 22 = .ok (.invokevirtual 50, 3) := by decide +kernel
theorem dX10_buffer_25 : decode cX10_buffer 25 = .ok (.ireturn, 1) := by decide +kernel
theorem dX10_buffer_26 : decode cX10_buffer 26 = .ok (.aload_n 0, 1) := by decide +kernel
theorem dX10_buffer_27 : decode cX10_buffer 27 = .ok (.getfield 10, 3) := by decide +kernel
theorem dX10_buffer_30 : decode cX10_buffer 30 = .ok (.getfield 70, 3) := by decide +kernel
theorem dX10_buffer_33 : decode cX10_buffer 33 = .ok (.iload_n 1, 1) := by decide +kernel
theorem dX10_buffer_34 : decode cX10_buffer 34 = .ok (.aaload, 1) := by decide +kernel
theorem dX10_buffer_35 : decode cX10_buffer 35 = .ok (.iload_n 2, 1) := by decide +kernel
theorem dX10_buffer_36 : decode cX10_buffer 36 = .ok (.invokevirtual 197, 3) := by decide +kernel
theorem dX10_buffer_39 : decode cX10_buffer 39 = .ok (.ireturn, 1) := by decide +kernel
theorem dX10_item_0 : decode cX10_item 0 = .ok (.aload_n 0, 1) := by decide +kernel
theorem dX10_item_1 : decode cX10_item 1 = .ok (.getfield 10, 3) := by decide +kernel
theorem dX10_item_4 : decode cX10_item 4 = .ok (.iload_n 1, 1) := by decide +kernel
theorem dX10_item_5 : decode cX10_item 5 = .ok (.invokevirtual 66, 3) := by decide +kernel
theorem dX10_item_8 : decode cX10_item 8 = .ok (.ifCond .eq 7, 3) := by decide +kernel
theorem dX10_item_11 : decode cX10_item 11 = .ok (.iload_n 2, 1) := by decide +kernel
theorem dX10_item_12 : decode cX10_item 12 = .ok (.ifCond .ge 8, 3) := by decide +kernel
theorem dX10_item_15 : decode cX10_item 15 = .ok (.aload_n 0, 1) := by decide +kernel
theorem dX10_item_16 : decode cX10_item 16 = .ok (.invokevirtual 50, 3) := by decide +kernel
theorem dX10_item_19 : decode cX10_item 19 = .ok (.ireturn, 1) := by decide +kernel
theorem dX10_item_20 : decode cX10_item 20 = .ok (.aload_n 0, 1) := by decide +kernel
theorem dX10_item_21 : decode cX10_item 21 = .ok (.getfield 10, 3) := by decide +kernel
theorem dX10_item_24 : decode cX10_item 24 = .ok (.getfield 70, 3) := by decide +kernel
theorem dX10_item_27 : decode cX10_item 27 = .ok (.iload_n 1, 1) := by decide +kernel
theorem dX10_item_28 : decode cX10_item 28 = .ok (.aaload, 1) := by decide +kernel
theorem dX10_item_29 : decode cX10_item 29 = .ok (.getfield 114, 3) := by decide +kernel
theorem dX10_item_32 : decode cX10_item 32 = .ok (.iload_n 2, 1) := by decide +kernel
theorem dX10_item_33 : decode cX10_item 33 = .ok (.invokevirtual 191, 3) := by decide +kernel
theorem dX10_item_36 : decode cX10_item 36 = .ok (.ireturn, 1) := by decide +kernel
theorem dX10_of_0 : decode cX10_of 0 = .ok (.aload_n 0, 1) := by decide +kernel
theorem dX10_of_1 : decode cX10_of 1 = .ok (.getfield 10, 3) := by decide +kernel
theorem dX10_of_4 : decode cX10_of 4 = .ok (.iload_n 1, 1) := by decide +kernel
theorem dX10_of_5 : decode cX10_of 5 = .ok (.invokevirtual 101, 3) := by decide +kernel
theorem dX10_of_8 : decode cX10_of 8 = .ok (.ifCond .eq 13, 3) := by decide +kernel
theorem dX10_of_11 : decode cX10_of 11 = .ok (.iload_n 2, 1) := by decide +kernel
theorem dX10_of_12 : decode cX10_of 12 = .ok (.iconst 0, 1) := by decide +kernel
theorem dX10_of_13 : decode cX10_of 13 = .ok (.bipush 6, 2) := by decide +kernel
theorem dX10_of_15 : decode cX10_of 15 = .ok (.invokestatic 46, 3) := by decide +kernel
theorem dX10_of_18 : decode cX10_of 18 = .ok (.ifCond .ne 8, 3) := by decide +kernel
theorem dX10_of_21 : decode cX10_of 21 = .ok (.aload_n 0, 1) := by decide +kernel
theorem dX10_of_22 : decode cX10_of 22 = .ok (.invokevirtual 50, 3) := by decide +kernel
theorem dX10_of_25 : decode cX10_of 25 = .ok (.ireturn, 1) := by decide +kernel
theorem dX10_of_26 : decode cX10_of 26 = .ok (.aload_n 0, 1) := by decide +kernel
theorem dX10_of_27 : decode cX10_of 27 = .ok (.getfield 10, 3) := by decide +kernel
theorem dX10_of_30 : decode cX10_of 30 = .ok (.getfield 91, 3) := by decide +kernel
theorem dX10_of_33 : decode cX10_of 33 = .ok (.iload_n 1, 1) := by decide +kernel
theorem dX10_of_34 : decode cX10_of 34 = .ok (.aaload, 1) := by decide +kernel
theorem dX10_of_35 : decode cX10_of 35 = .ok (.iload_n 2, 1) := by decide +kernel
theorem dX10_of_36 : decode cX10_of 36 = .ok (.invokevirtual 200, 3) := by decide +kernel
theorem dX10_of_39 : decode cX10_of 39 = .ok (.ireturn, 1) := by decide +kernel
theorem dX10_worker_0 : decode cX10_worker 0 = .ok (.iload_n 1, 1) := by decide +kernel
theorem dX10_worker_1 : decode cX10_worker 1 = .ok (.invokestatic 135, 3) := by decide +kernel
theorem dX10_worker_4 : decode cX10_worker 4 = .ok (.ifCond .eq 12, 3) := by decide +kernel
theorem dX10_worker_7 : decode cX10_worker 7 = .ok (.iload_n 2, 1) := by decide +kernel
theorem dX10_worker_8 : decode cX10_worker 8 = .ok (.iconst 0, 1) := by decide +kernel
theorem dX10_worker_9 : decode cX10_worker 9 = .ok (.iconst 4, 1) := by decide +kernel
theorem dX10_worker_10 : decode cX10_worker 10 = .ok (.invokestatic 46, 3) := by decide +kernel
theorem dX10_worker_13 : decode cX10_worker 13 = .ok (.ifCond .ne 8, 3) := by decide +kernel
theorem dX10_worker_16 : decode cX10_worker 16 = .ok (.aload_n 0, 1) := by decide +kernel
theorem dX10_worker_17 : decode cX10_worker 17 = .ok (.invokevirtual 50, 3) := by decide +kernel
theorem dX10_worker_20 : decode cX10_worker 20 = .ok (.ireturn, 1) := by decide +kernel
theorem dX10_worker_21 : decode cX10_worker 21 = .ok (.aload_n 0, 1) := by decide +kernel
theorem dX10_worker_22 : decode cX10_worker 22 = .ok (.getfield 10, 3) := by decide +kernel
theorem dX10_worker_25 : decode cX10_worker 25 = .ok (.getfield 138, 3) := by decide +kernel
theorem dX10_worker_28 : decode cX10_worker 28 = .ok (.iload_n 1, 1) := by decide +kernel
theorem dX10_worker_29 : decode cX10_worker 29 = .ok (.aaload, 1) := by decide +kernel
theorem dX10_worker_30 : decode cX10_worker 30 = .ok (.iload_n 2, 1) := by decide +kernel
theorem dX10_worker_31 : decode cX10_worker 31 = .ok (.invokevirtual 203, 3) := by decide +kernel
theorem dX10_worker_34 : decode cX10_worker 34 = .ok (.ireturn, 1) := by decide +kernel
theorem dX10_line_0 : decode cX10_line 0 = .ok (.iload_n 1, 1) := by decide +kernel
theorem dX10_line_1 : decode cX10_line 1 = .ok (.ifCond .ge 8, 3) := by decide +kernel
theorem dX10_line_4 : decode cX10_line 4 = .ok (.aload_n 0, 1) := by decide +kernel
theorem dX10_line_5 : decode cX10_line 5 = .ok (.invokevirtual 50, 3) := by decide +kernel
theorem dX10_line_8 : decode cX10_line 8 = .ok (.ireturn, 1) := by decide +kernel
theorem dX10_line_9 : decode cX10_line 9 = .ok (.aload_n 0, 1) := by decide +kernel
theorem dX10_line_10 : decode cX10_line 10 = .ok (.getfield 10, 3) := by decide +kernel
theorem dX10_line_13 : decode cX10_line 13 = .ok (.getfield 158, 3) := by decide +kernel
theorem dX10_line_16 : decode cX10_line 16 = .ok (.iload_n 1, 1) := by decide +kernel
theorem dX10_line_17 : decode cX10_line 17 = .ok (.invokevirtual 191, 3) := by decide +kernel
theorem dX10_line_20 : decode cX10_line 20 = .ok (.ireturn, 1) := by decide +kernel
theorem dX10_works_0 : decode cX10_works 0 = .ok (.iload_n 1, 1) := by decide +kernel
theorem dX10_works_1 : decode cX10_works 1 = .ok (.iconst 0, 1) := by decide +kernel
theorem dX10_works_2 : decode cX10_works 2 = .ok (.bipush 9, 2) := by decide +kernel
theorem dX10_works_4 : decode cX10_works 4 = .ok (.invokestatic 46, 3) := by decide +kernel
theorem dX10_works_7 : decode cX10_works 7 = .ok (.ifCond .ne 8, 3) := by decide +kernel
theorem dX10_works_10 : decode cX10_works 10 = .ok (.aload_n 0, 1) := by decide +kernel
theorem dX10_works_11 : decode cX10_works 11 = .ok (.invokevirtual 50, 3) := by decide +kernel
theorem dX10_works_14 : decode cX10_works 14 = .ok (.ireturn, 1) := by decide +kernel
theorem dX10_works_15 : decode cX10_works 15 = .ok (.aload_n 0, 1) := by decide +kernel
theorem dX10_works_16 : decode cX10_works 16 = .ok (.getfield 10, 3) := by decide +kernel
theorem dX10_works_19 : decode cX10_works 19 = .ok (.iload_n 1, 1) := by decide +kernel
theorem dX10_works_20 : decode cX10_works 20 = .ok (.invokevirtual 206, 3) := by decide +kernel
theorem dX10_works_23 : decode cX10_works 23 = .ok (.ireturn, 1) := by decide +kernel
theorem dX10_type_0 : decode cX10_type 0 = .ok (.iload_n 1, 1) := by decide +kernel
theorem dX10_type_1 : decode cX10_type 1 = .ok (.iconst 0, 1) := by decide +kernel
theorem dX10_type_2 : decode cX10_type 2 = .ok (.bipush 127, 2) := by decide +kernel
theorem dX10_type_4 : decode cX10_type 4 = .ok (.invokestatic 46, 3) := by decide +kernel
theorem dX10_type_7 : decode cX10_type 7 = .ok (.ifCond .ne 8, 3) := by decide +kernel
theorem dX10_type_10 : decode cX10_type 10 = .ok (.aload_n 0, 1) := by decide +kernel
theorem dX10_type_11 : decode cX10_type 11 = .ok (.invokevirtual 50, 3) := by decide +kernel
theorem dX10_type_14 : decode cX10_type 14 = .ok (.ireturn, 1) := by decide +kernel
theorem dX10_type_15 : decode cX10_type 15 = .ok (.aload_n 0, 1) := by decide +kernel
theorem dX10_type_16 : decode cX10_type 16 = .ok (.getfield 26, 3) := by decide +kernel
theorem dX10_type_19 : decode cX10_type 19 = .ok (.invokevirtual 209, 3) := by decide +kernel
theorem dX10_type_22 : decode cX10_type 22 = .ok (.ifCond .eq 8, 3) := by decide +kernel
theorem dX10_type_25 : decode cX10_type 25 = .ok (.aload_n 0, 1) := by decide +kernel
theorem dX10_type_26 : decode cX10_type 26 = .ok (.invokevirtual 88, 3) := by decide +kernel
theorem dX10_type_29 : decode cX10_type 29 = .ok (.ireturn, 1) := by decide +kernel
theorem dX10_type_30 : decode cX10_type 30 = .ok (.aload_n 0, 1) := by decide +kernel
theorem dX10_type_31 : decode cX10_type 31 = .ok (.getfield 26, 3) := by decide +kernel
theorem dX10_type_34 : decode cX10_type 34 = .ok (.iload_n 1, 1) := by decide +kernel
theorem dX10_type_35 : decode cX10_type 35 = .ok (.invokevirtual 212, 3) := by decide +kernel
theorem dX10_type_38 : decode cX10_type 38 = .ok (.aload_n 0, 1) := by decide +kernel
theorem dX10_type_39 : decode cX10_type 39 = .ok (.getfield 26, 3) := by decide +kernel
theorem dX10_type_42 : decode cX10_type 42 = .ok (.getfield 215, 3) := by decide +kernel
theorem dX10_type_45 : decode cX10_type 45 = .ok (.ireturn, 1) := by decide +kernel
theorem dX10_clear_0 : decode cX10_clear 0 = .ok (.aload_n 0, 1) := by decide +kernel
theorem dX10_clear_1 : decode cX10_clear 1 = .ok (.getfield 26, 3) := by decide +kernel
theorem dX10_clear_4 : decode cX10_clear 4 = .ok (.getfield 215, 3) := by decide +kernel
theorem dX10_clear_7 : decode cX10_clear 7 = .ok (.istore_n 1, 1) := by decide +kernel
theorem dX10_clear_8 : decode cX10_clear 8 = .ok (.aload_n 0, 1) := by decide +kernel
theorem dX10_clear_9 : decode cX10_clear 9 = .ok (.getfield 26, 3) := by decide +kernel
theorem dX10_clear_12 : decode cX10_clear 12 = .ok (.iconst 0, 1) := by decide +kernel
theorem dX10_clear_13 : decode cX10_clear 13 = .ok (.putfield 215, 3) := by decide +kernel
theorem dX10_clear_16 : decode cX10_clear 16 = .ok (.iload_n 1, 1) := by decide +kernel
theorem dX10_clear_17 : decode cX10_clear 17 = .ok (.ireturn, 1) := by decide +kernel
theorem dX10_does_0 : decode cX10_does 0 = .ok (.aload_n 0, 1) := by decide +kernel
theorem dX10_does_1 : decode cX10_does 1 = .ok (.getfield 26, 3) := by decide +kernel
theorem dX10_does_4 : decode cX10_does 4 = .ok (.invokevirtual 218, 3) := by decide +kernel
theorem dX10_does_7 : decode cX10_does 7 = .ok (.istore_n 1, 1) := by decide +kernel
theorem dX10_does_8 : decode cX10_does 8 = .ok (.iload_n 1, 1) := by decide +kernel
theorem dX10_does_9 : decode cX10_does 9 = .ok (.iconst (-1), 1) := by decide +kernel
theorem dX10_does_10 : decode cX10_does 10 = .ok (.if_icmp .eq 8, 3) := by decide +kernel
theorem dX10_does_13 : decode cX10_does 13 = .ok (.bipush (-10), 2) := by decide +kernel
theorem dX10_does_15 : decode cX10_does 15 = .ok (.iload_n 1, 1) := by decide +kernel
theorem dX10_does_16 : decode cX10_does 16 = .ok (.isub, 1) := by decide +kernel
theorem dX10_does_17 : decode cX10_does 17 = .ok (.ireturn, 1) := by decide +kernel
theorem dX10_does_18 : decode cX10_does 18 = .ok (.aload_n 0, 1) := by decide +kernel
theorem dX10_does_19 : decode cX10_does 19 = .ok (.getfield 19, 3) := by decide +kernel
theorem dX10_does_22 : decode cX10_does 22 = .ok (.aload_n 0, 1) := by decide +kernel
theorem dX10_does_23 : decode cX10_does 23 = .ok (.getfield 10, 3) := by decide +kernel
theorem dX10_does_26 : decode cX10_does 26 = .ok (.invokevirtual 54, 3) := by decide +kernel
theorem dX10_does_29 : decode cX10_does 29 = .ok (.aload_n 0, 1) := by decide +kernel
theorem dX10_does_30 : decode cX10_does 30 = .ok (.getfield 35, 3) := by decide +kernel
theorem dX10_does_33 : decode cX10_does 33 = .ok (.invokevirtual 221, 3) := by decide +kernel
theorem dX10_does_36 : decode cX10_does 36 = .ok (.istore_n 2, 1) := by decide +kernel
theorem dX10_does_37 : decode cX10_does 37 = .ok (.aload_n 0, 1) := by decide +kernel
theorem dX10_does_38 : decode cX10_does 38 = .ok (.getfield 10, 3) := by decide +kernel
theorem dX10_does_41 : decode cX10_does 41 = .ok (.invokevirtual 79, 3) := by decide +kernel
theorem dX10_does_44 : decode cX10_does 44 = .ok (.iload_n 2, 1) := by decide +kernel
theorem dX10_does_45 : decode cX10_does 45 = .ok (.ireturn, 1) := by decide +kernel
theorem dX10_back_0 : decode cX10_back 0 = .ok (.aload_n 0, 1) := by decide +kernel
theorem dX10_back_1 : decode cX10_back 1 = .ok (.getfield 19, 3) := by decide +kernel
theorem dX10_back_4 : decode cX10_back 4 = .ok (.getfield 224, 3) := by decide +kernel
theorem dX10_back_7 : decode cX10_back 7 = .ok (.ifCond .ne 8, 3) := by decide +kernel
theorem dX10_back_10 : decode cX10_back 10 = .ok (.aload_n 0, 1) := by decide +kernel
theorem dX10_back_11 : decode cX10_back 11 = .ok (.invokevirtual 148, 3) := by decide +kernel
theorem dX10_back_14 : decode cX10_back 14 = .ok (.ireturn, 1) := by decide +kernel
theorem dX10_back_15 : decode cX10_back 15 = .ok (.aload_n 0, 1) := by decide +kernel
theorem dX10_back_16 : decode cX10_back 16 = .ok (.getfield 19, 3) := by decide +kernel
theorem dX10_back_19 : decode cX10_back 19 = .ok (.aload_n 0, 1) := by decide +kernel
theorem dX10_back_20 : decode cX10_back 20 = .ok (.getfield 10, 3) := by decide +kernel
theorem dX10_back_23 : decode cX10_back 23 = .ok (.invokevirtual 225, 3) := by decide +kernel
theorem dX10_back_26 : decode cX10_back 26 = .ok (.aload_n 0, 1) := by decide +kernel
theorem dX10_back_27 : decode cX10_back 27 = .ok (.getfield 19, 3) := by decide +kernel
theorem dX10_back_30 : decode cX10_back 30 = .ok (.getfield 224, 3) := by decide +kernel
theorem dX10_back_33 : decode cX10_back 33 = .ok (.ireturn, 1) := by decide +kernel
theorem dX10_told_0 : decode cX10_told 0 = .ok (.iload_n 1, 1) := by decide +kernel
theorem dX10_told_1 : decode cX10_told 1 = .ok (.iconst 0, 1) := by decide +kernel
theorem dX10_told_2 : decode cX10_told 2 = .ok (.iconst 4, 1) := by decide +kernel
theorem dX10_told_3 : decode cX10_told 3 = .ok (.invokestatic 46, 3) := by decide +kernel
theorem dX10_told_6 : decode cX10_told 6 = .ok (.ifCond .ne 8, 3) := by decide +kernel
theorem dX10_told_9 : decode cX10_told 9 = .ok (.aload_n 0, 1) := by decide +kernel
theorem dX10_told_10 : decode cX10_told 10 = .ok (.invokevirtual 50, 3) := by decide +kernel
theorem dX10_told_13 : decode cX10_told 13 = .ok (.ireturn, 1) := by decide +kernel
theorem dX10_told_14 : decode cX10_told 14 = .ok (.aload_n 0, 1) := by decide +kernel
theorem dX10_told_15 : decode cX10_told 15 = .ok (.iload_n 1, 1) := by decide +kernel
theorem dX10_told_16 : decode cX10_told 16 = .ok (.invokevirtual 226, 3) := by decide +kernel
theorem dX10_told_19 : decode cX10_told 19 = .ok (.ireturn, 1) := by decide +kernel
theorem dX10_digest_0 : decode cX10_digest 0 = .ok (.ldc2_w 229, 3) := by decide +kernel
theorem dX10_digest_3 : decode cX10_digest 3 = .ok (.lstore_n 1, 1) := by decide +kernel
theorem dX10_digest_4 : decode cX10_digest 4 = .ok (.iconst 0, 1) := by decide +kernel
theorem dX10_digest_5 : decode cX10_digest 5 = .ok (.istore_n 3, 1) := by decide +kernel
theorem dX10_digest_6 : decode cX10_digest 6 = .ok (.iload_n 3, 1) := by decide +kernel
theorem dX10_digest_7 : decode cX10_digest 7 = .ok (.iconst 5, 1) := by decide +kernel
theorem dX10_digest_8 : decode cX10_digest 8 = .ok (.if_icmp .ge 19, 3) := by decide +kernel
theorem dX10_digest_11 : decode cX10_digest 11 = .ok (.lload_n 1, 1) := by decide +kernel
theorem dX10_digest_12 : decode cX10_digest 12 = .ok (.aload_n 0, 1) := by decide +kernel
theorem dX10_digest_13 : decode cX10_digest 13 = .ok (.iload_n 3, 1) := by decide +kernel
theorem dX10_digest_14 : decode cX10_digest 14 = .ok (.invokevirtual 226, 3) := by decide +kernel
theorem dX10_digest_17 : decode cX10_digest 17 = .ok (.invokestatic 231, 3) := by decide +kernel
theorem dX10_digest_20 : decode cX10_digest 20 = .ok (.lstore_n 1, 1) := by decide +kernel
theorem dX10_digest_21 : decode cX10_digest 21 = .ok (.iinc 3 1, 3) := by decide +kernel
theorem dX10_digest_24 : decode cX10_digest 24 = .ok (.goto (-18), 3) := by decide +kernel
theorem dX10_digest_27 : decode cX10_digest 27 = .ok (.iconst 0, 1) := by decide +kernel
theorem dX10_digest_28 : decode cX10_digest 28 = .ok (.istore_n 3, 1) := by decide +kernel
theorem dX10_digest_29 : decode cX10_digest 29 = .ok (.iload_n 3, 1) := by decide +kernel
theorem dX10_digest_30 : decode cX10_digest 30 = .ok (.bipush 10, 2) := by decide +kernel
theorem dX10_digest_32 : decode cX10_digest 32 = .ok (.if_icmp .ge 22, 3) := by decide +kernel
theorem dX10_digest_35 : decode cX10_digest 35 = .ok (.lload_n 1, 1) := by decide +kernel
theorem dX10_digest_36 : decode cX10_digest 36 = .ok (.aload_n 0, 1) := by decide +kernel
theorem dX10_digest_37 : decode cX10_digest 37 = .ok (.getfield 10, 3) := by decide +kernel
theorem dX10_digest_40 : decode cX10_digest 40 = .ok (.iload_n 3, 1) := by decide +kernel
theorem dX10_digest_41 : decode cX10_digest 41 = .ok (.invokevirtual 206, 3) := by decide +kernel
theorem dX10_digest_44 : decode cX10_digest 44 = .ok (.invokestatic 231, 3) := by decide +kernel
theorem dX10_digest_47 : decode cX10_digest 47 = .ok (.lstore_n 1, 1) := by decide +kernel
theorem dX10_digest_48 : decode cX10_digest 48 = .ok (.iinc 3 1, 3) := by decide +kernel
theorem dX10_digest_51 : decode cX10_digest 51 = .ok (.goto (-22), 3) := by decide +kernel
theorem dX10_digest_54 : decode cX10_digest 54 = .ok (.iconst 0, 1) := by decide +kernel
theorem dX10_digest_55 : decode cX10_digest 55 = .ok (.istore_n 3, 1) := by decide +kernel
theorem dX10_digest_56 : decode cX10_digest 56 = .ok (.iload_n 3, 1) := by decide +kernel
theorem dX10_digest_57 : decode cX10_digest 57 = .ok (.aload_n 0, 1) := by decide +kernel
theorem dX10_digest_58 : decode cX10_digest 58 = .ok (.getfield 10, 3) := by decide +kernel
theorem dX10_digest_61 : decode cX10_digest 61 = .ok (.getfield 58, 3) := by decide +kernel
theorem dX10_digest_64 : decode cX10_digest 64 = .ok (.if_icmp .ge 23, 3) := by decide +kernel
theorem dX10_digest_67 : decode cX10_digest 67 = .ok (.lload_n 1, 1) := by decide +kernel
theorem dX10_digest_68 : decode cX10_digest 68 = .ok (.aload_n 0, 1) := by decide +kernel
theorem dX10_digest_69 : decode cX10_digest 69 = .ok (.getfield 10, 3) := by decide +kernel
theorem dX10_digest_72 : decode cX10_digest 72 = .ok (.getfield 70, 3) := by decide +kernel
theorem dX10_digest_75 : decode cX10_digest 75 = .ok (.iload_n 3, 1) := by decide +kernel
theorem dX10_digest_76 : decode cX10_digest 76 = .ok (.aaload, 1) := by decide +kernel
theorem dX10_digest_77 : decode cX10_digest 77 = .ok (.invokestatic 235, 3) := by decide +kernel
theorem dX10_digest_80 : decode cX10_digest 80 = .ok (.lstore_n 1, 1) := by decide +kernel
theorem dX10_digest_81 : decode cX10_digest 81 = .ok (.iinc 3 1, 3) := by decide +kernel
theorem dX10_digest_84 : decode cX10_digest 84 = .ok (.goto (-28), 3) := by decide +kernel
theorem dX10_digest_87 : decode cX10_digest 87 = .ok (.iconst 0, 1) := by decide +kernel
theorem dX10_digest_88 : decode cX10_digest 88 = .ok (.istore_n 3, 1) := by decide +kernel
theorem dX10_digest_89 : decode cX10_digest 89 = .ok (.iload_n 3, 1) := by decide +kernel
theorem dX10_digest_90 : decode cX10_digest 90 = .ok (.aload_n 0, 1) := by decide +kernel
theorem dX10_digest_91 : decode cX10_digest 91 = .ok (.getfield 10, 3) := by decide +kernel
theorem dX10_digest_94 : decode cX10_digest 94 = .ok (.getfield 85, 3) := by decide +kernel
theorem dX10_digest_97 : decode cX10_digest 97 = .ok (.if_icmp .ge 23, 3) := by decide +kernel
theorem dX10_digest_100 : decode cX10_digest 100 = .ok (.lload_n 1, 1) := by decide +kernel
theorem dX10_digest_101 : decode cX10_digest 101 = .ok (.aload_n 0, 1) := by decide +kernel
theorem dX10_digest_102 : decode cX10_digest 102 = .ok (.getfield 10, 3) := by decide +kernel
theorem dX10_digest_105 : decode cX10_digest 105 = .ok (.getfield 91, 3) := by decide +kernel
theorem dX10_digest_108 : decode cX10_digest 108 = .ok (.iload_n 3, 1) := by decide +kernel
theorem dX10_digest_109 : decode cX10_digest 109 = .ok (.aaload, 1) := by decide +kernel
theorem dX10_digest_110 : decode cX10_digest 110 = .ok (.invokestatic 239, 3) := by decide +kernel
theorem dX10_digest_113 : decode cX10_digest 113 = .ok (.lstore_n 1, 1) := by decide +kernel
theorem dX10_digest_114 : decode cX10_digest 114 = .ok (.iinc 3 1, 3) := by decide +kernel
theorem dX10_digest_117 : decode cX10_digest 117 = .ok (.goto (-28), 3) := by decide +kernel
theorem dX10_digest_120 : decode cX10_digest 120 = .ok (.iconst 0, 1) := by decide +kernel
theorem dX10_digest_121 : decode cX10_digest 121 = .ok (.istore_n 3, 1) := by decide +kernel
theorem dX10_digest_122 : decode cX10_digest 122 = .ok (.iload_n 3, 1) := by decide +kernel
theorem dX10_digest_123 : decode cX10_digest 123 = .ok (.bipush 6, 2) := by decide +kernel
theorem dX10_digest_125 : decode cX10_digest 125 = .ok (.if_icmp .ge 23, 3) := by decide +kernel
theorem dX10_digest_128 : decode cX10_digest 128 = .ok (.lload_n 1, 1) := by decide +kernel
theorem dX10_digest_129 : decode cX10_digest 129 = .ok (.aload_n 0, 1) := by decide +kernel
theorem dX10_digest_130 : decode cX10_digest 130 = .ok (.getfield 10, 3) := by decide +kernel
theorem dX10_digest_133 : decode cX10_digest 133 = .ok (.getfield 138, 3) := by decide +kernel
theorem dX10_digest_136 : decode cX10_digest 136 = .ok (.iload_n 3, 1) := by decide +kernel
theorem dX10_digest_137 : decode cX10_digest 137 = .ok (.aaload, 1) := by decide +kernel
theorem dX10_digest_138 : decode cX10_digest 138 = .ok (.invokestatic 243, 3) := by decide +kernel
theorem dX10_digest_141 : decode cX10_digest 141 = .ok (.lstore_n 1, 1) := by decide +kernel
theorem dX10_digest_142 : decode cX10_digest 142 = .ok (.iinc 3 1, 3) := by decide +kernel
theorem dX10_digest_145 : decode cX10_digest 145 = .ok (.goto (-23), 3) := by decide +kernel
theorem dX10_digest_148 : decode cX10_digest 148 = .ok (.lload_n 1, 1) := by decide +kernel
theorem dX10_digest_149 : decode cX10_digest 149 = .ok (.aload_n 0, 1) := by decide +kernel
theorem dX10_digest_150 : decode cX10_digest 150 = .ok (.getfield 10, 3) := by decide +kernel
theorem dX10_digest_153 : decode cX10_digest 153 = .ok (.getfield 158, 3) := by decide +kernel
theorem dX10_digest_156 : decode cX10_digest 156 = .ok (.invokestatic 247, 3) := by decide +kernel
theorem dX10_digest_159 : decode cX10_digest 159 = .ok (.lstore_n 1, 1) := by decide +kernel
theorem dX10_digest_160 : decode cX10_digest 160 = .ok (.lload_n 1, 1) := by decide +kernel
theorem dX10_digest_161 : decode cX10_digest 161 = .ok (.aload_n 0, 1) := by decide +kernel
theorem dX10_digest_162 : decode cX10_digest 162 = .ok (.getfield 10, 3) := by decide +kernel
theorem dX10_digest_165 : decode cX10_digest 165 = .ok (.invokevirtual 194, 3) := by decide +kernel
theorem dX10_digest_168 : decode cX10_digest 168 = .ok (.invokestatic 231, 3) := by decide +kernel
theorem dX10_digest_171 : decode cX10_digest 171 = .ok (.lreturn, 1) := by decide +kernel
theorem dX10_toldOf_0 : decode cX10_toldOf 0 = .ok (.iload_n 1, 1) := by decide +kernel
theorem dX10_toldOf_1 : decode cX10_toldOf 1 = .ok (.tableswitch 54 0 3 #[31, 36, 41, 46], 31) := by decide +kernel
theorem dX10_toldOf_32 : decode cX10_toldOf 32 = .ok (.aload_n 0, 1) := by decide +kernel
theorem dX10_toldOf_33 : decode cX10_toldOf 33 = .ok (.getfield 251, 3) := by decide +kernel
theorem dX10_toldOf_36 : decode cX10_toldOf 36 = .ok (.ireturn, 1) := by decide +kernel
theorem dX10_toldOf_37 : decode cX10_toldOf 37 = .ok (.aload_n 0, 1) := by decide +kernel
theorem dX10_toldOf_38 : decode cX10_toldOf 38 = .ok (.getfield 254, 3) := by decide +kernel
theorem dX10_toldOf_41 : decode cX10_toldOf 41 = .ok (.ireturn, 1) := by decide +kernel
theorem dX10_toldOf_42 : decode cX10_toldOf 42 = .ok (.aload_n 0, 1) := by decide +kernel
theorem dX10_toldOf_43 : decode cX10_toldOf 43 = .ok (.getfield 257, 3) := by decide +kernel
theorem dX10_toldOf_46 : decode cX10_toldOf 46 = .ok (.ireturn, 1) := by decide +kernel
theorem dX10_toldOf_47 : decode cX10_toldOf 47 = .ok (.aload_n 0, 1) := by decide +kernel
theorem dX10_toldOf_48 : decode cX10_toldOf 48 = .ok (.getfield 26, 3) := by decide +kernel
theorem dX10_toldOf_51 : decode cX10_toldOf 51 = .ok (.getfield 215, 3) := by decide +kernel
theorem dX10_toldOf_54 : decode cX10_toldOf 54 = .ok (.ireturn, 1) := by decide +kernel
theorem dX10_toldOf_55 : decode cX10_toldOf 55 = .ok (.aload_n 0, 1) := by decide +kernel
theorem dX10_toldOf_56 : decode cX10_toldOf 56 = .ok (.getfield 19, 3) := by decide +kernel
theorem dX10_toldOf_59 : decode cX10_toldOf 59 = .ok (.getfield 224, 3) := by decide +kernel
theorem dX10_toldOf_62 : decode cX10_toldOf 62 = .ok (.ireturn, 1) := by decide +kernel
theorem dX10_refuseBad_0 : decode cX10_refuseBad 0 = .ok (.aload_n 0, 1) := by decide +kernel
theorem dX10_refuseBad_1 : decode cX10_refuseBad 1 = .ok (.dup, 1) := by decide +kernel
theorem dX10_refuseBad_2 : decode cX10_refuseBad 2 = .ok (.getfield 251, 3) := by decide +kernel
theorem dX10_refuseBad_5 : decode cX10_refuseBad 5 = .ok (.iconst 1, 1) := by decide +kernel
theorem dX10_refuseBad_6 : decode cX10_refuseBad 6 = .ok (.iadd, 1) := by decide +kernel
theorem dX10_refuseBad_7 : decode cX10_refuseBad 7 = .ok (.putfield 251, 3) := by decide +kernel
theorem dX10_refuseBad_10 : decode cX10_refuseBad 10 = .ok (.bipush (-2), 2) := by decide +kernel
theorem dX10_refuseBad_12 : decode cX10_refuseBad 12 = .ok (.ireturn, 1) := by decide +kernel
theorem dX10_refuseNo_0 : decode cX10_refuseNo 0 = .ok (.aload_n 0, 1) := by decide +kernel
theorem dX10_refuseNo_1 : decode cX10_refuseNo 1 = .ok (.dup, 1) := by decide +kernel
theorem dX10_refuseNo_2 : decode cX10_refuseNo 2 = .ok (.getfield 254, 3) := by decide +kernel
theorem dX10_refuseNo_5 : decode cX10_refuseNo 5 = .ok (.iconst 1, 1) := by decide +kernel
theorem dX10_refuseNo_6 : decode cX10_refuseNo 6 = .ok (.iadd, 1) := by decide +kernel
theorem dX10_refuseNo_7 : decode cX10_refuseNo 7 = .ok (.putfield 254, 3) := by decide +kernel
theorem dX10_refuseNo_10 : decode cX10_refuseNo 10 = .ok (.bipush (-3), 2) := by decide +kernel
theorem dX10_refuseNo_12 : decode cX10_refuseNo 12 = .ok (.ireturn, 1) := by decide +kernel
theorem dX10_refuseFull_0 : decode cX10_refuseFull 0 = .ok (.aload_n 0, 1) := by decide +kernel
theorem dX10_refuseFull_1 : decode cX10_refuseFull 1 = .ok (.dup, 1) := by decide +kernel
theorem dX10_refuseFull_2 : decode cX10_refuseFull 2 = .ok (.getfield 257, 3) := by decide +kernel
theorem dX10_refuseFull_5 : decode cX10_refuseFull 5 = .ok (.iconst 1, 1) := by decide +kernel
theorem dX10_refuseFull_6 : decode cX10_refuseFull 6 = .ok (.iadd, 1) := by decide +kernel
theorem dX10_refuseFull_7 : decode cX10_refuseFull 7 = .ok (.putfield 257, 3) := by decide +kernel
theorem dX10_refuseFull_10 : decode cX10_refuseFull 10 = .ok (.bipush (-4), 2) := by decide +kernel
theorem dX10_refuseFull_12 : decode cX10_refuseFull 12 = .ok (.ireturn, 1) := by decide +kernel
theorem dX10_within_0 : decode cX10_within 0 = .ok (.iload_n 0, 1) := by decide +kernel
theorem dX10_within_1 : decode cX10_within 1 = .ok (.iload_n 1, 1) := by decide +kernel
theorem dX10_within_2 : decode cX10_within 2 = .ok (.if_icmp .lt 12, 3) := by decide +kernel
theorem dX10_within_5 : decode cX10_within 5 = .ok (.iload_n 0, 1) := by decide +kernel
theorem dX10_within_6 : decode cX10_within 6 = .ok (.iload_n 2, 1) := by decide +kernel
theorem dX10_within_7 : decode cX10_within 7 = .ok (.if_icmp .gt 7, 3) := by decide +kernel
theorem dX10_within_10 : decode cX10_within 10 = .ok (.iconst 1, 1) := by decide +kernel
theorem dX10_within_11 : decode cX10_within 11 = .ok (.goto 4, 3) := by decide +kernel
theorem dX10_within_14 : decode cX10_within 14 = .ok (.iconst 0, 1) := by decide +kernel
theorem dX10_within_15 : decode cX10_within 15 = .ok (.ireturn, 1) := by decide +kernel
theorem dX10_isWorker_0 : decode cX10_isWorker 0 = .ok (.iload_n 0, 1) := by decide +kernel
theorem dX10_isWorker_1 : decode cX10_isWorker 1 = .ok (.iconst 0, 1) := by decide +kernel
theorem dX10_isWorker_2 : decode cX10_isWorker 2 = .ok (.iconst 5, 1) := by decide +kernel
theorem dX10_isWorker_3 : decode cX10_isWorker 3 = .ok (.invokestatic 46, 3) := by decide +kernel
theorem dX10_isWorker_6 : decode cX10_isWorker 6 = .ok (.ireturn, 1) := by decide +kernel
theorem dX10_mixed_0 : decode cX10_mixed 0 = .ok (.ldc2_w 260, 3) := by decide +kernel
theorem dX10_mixed_3 : decode cX10_mixed 3 = .ok (.lload_n 0, 1) := by decide +kernel
theorem dX10_mixed_4 : decode cX10_mixed 4 = .ok (.lmul, 1) := by decide +kernel
theorem dX10_mixed_5 : decode cX10_mixed 5 = .ok (.iload_n 2, 1) := by decide +kernel
theorem dX10_mixed_6 : decode cX10_mixed 6 = .ok (.i2l, 1) := by decide +kernel
theorem dX10_mixed_7 : decode cX10_mixed 7 = .ok (.ladd, 1) := by decide +kernel
theorem dX10_mixed_8 : decode cX10_mixed 8 = .ok (.lreturn, 1) := by decide +kernel
theorem dX10_mixedRow_0 : decode cX10_mixedRow 0 = .ok (.lload_n 0, 1) := by decide +kernel
theorem dX10_mixedRow_1 : decode cX10_mixedRow 1 = .ok (.lstore_n 3, 1) := by decide +kernel
theorem dX10_mixedRow_2 : decode cX10_mixedRow 2 = .ok (.iconst 0, 1) := by decide +kernel
theorem dX10_mixedRow_3 : decode cX10_mixedRow 3 = .ok (.istore 5, 2) := by decide +kernel
theorem dX10_mixedRow_5 : decode cX10_mixedRow 5 = .ok (.iload 5, 2) := by decide +kernel
theorem dX10_mixedRow_7 : decode cX10_mixedRow 7 = .ok (.aload_n 2, 1) := by decide +kernel
theorem dX10_mixedRow_8 : decode cX10_mixedRow 8 = .ok (.getfield 118, 3) := by decide +kernel
theorem dX10_mixedRow_11 : decode cX10_mixedRow 11 = .ok (.if_icmp .ge 20, 3) := by decide +kernel
theorem dX10_mixedRow_14 : decode cX10_mixedRow 14 = .ok (.lload_n 3, 1) := by decide +kernel
theorem dX10_mixedRow_15 : decode cX10_mixedRow 15 = .ok (.aload_n 2, 1) := by decide +kernel
theorem dX10_mixedRow_16 : decode cX10_mixedRow 16 = .ok (.iload 5, 2) := by decide +kernel
theorem dX10_mixedRow_18 : decode cX10_mixedRow 18 = .ok (.invokevirtual 191, 3) := by decide +kernel
theorem dX10_mixedRow_21 : decode cX10_mixedRow 21 = .ok (.invokestatic 231, 3) := by decide +kernel
theorem dX10_mixedRow_24 : decode cX10_mixedRow 24 = .ok (.lstore_n 3, 1) := by decide +kernel
theorem dX10_mixedRow_25 : decode cX10_mixedRow 25 = .ok (.iinc 5 1, 3) := by decide +kernel
theorem dX10_mixedRow_28 : decode cX10_mixedRow 28 = .ok (.goto (-23), 3) := by decide +kernel
theorem dX10_mixedRow_31 : decode cX10_mixedRow 31 = .ok (.lload_n 3, 1) := by decide +kernel
theorem dX10_mixedRow_32 : decode cX10_mixedRow 32 = .ok (.lreturn, 1) := by decide +kernel
theorem dX10_mixedBuffer_0 : decode cX10_mixedBuffer 0 = .ok (.lload_n 0, 1) := by decide +kernel
theorem dX10_mixedBuffer_1 : decode cX10_mixedBuffer 1 = .ok (.lstore_n 3, 1) := by decide +kernel
theorem dX10_mixedBuffer_2 : decode cX10_mixedBuffer 2 = .ok (.iconst 0, 1) := by decide +kernel
theorem dX10_mixedBuffer_3 : decode cX10_mixedBuffer 3 = .ok (.istore 5, 2) := by decide +kernel
theorem dX10_mixedBuffer_5 : decode cX10_mixedBuffer 5 = .ok (.iload 5, 2) := by decide +kernel
theorem dX10_mixedBuffer_7 : decode cX10_mixedBuffer 7 = .ok (.bipush 8, 2) := by decide +kernel
theorem dX10_mixedBuffer_9 : decode cX10_mixedBuffer 9 = .ok (.if_icmp .ge 20, 3) := by decide +kernel
theorem dX10_mixedBuffer_12 : decode cX10_mixedBuffer 12 = .ok (.lload_n 3, 1) := by decide +kernel
theorem dX10_mixedBuffer_13 : decode cX10_mixedBuffer 13 = .ok (.aload_n 2, 1) := by decide +kernel
theorem dX10_mixedBuffer_14 : decode cX10_mixedBuffer 14 = .ok (.iload 5, 2) := by decide +kernel
theorem dX10_mixedBuffer_16 : decode cX10_mixedBuffer 16 = .ok (.invokevirtual 197, 3) := by decide +kernel
theorem dX10_mixedBuffer_19 : decode cX10_mixedBuffer 19 = .ok (.invokestatic 231, 3) := by decide +kernel
theorem dX10_mixedBuffer_22 : decode cX10_mixedBuffer 22 = .ok (.lstore_n 3, 1) := by decide +kernel
theorem dX10_mixedBuffer_23 : decode cX10_mixedBuffer 23 = .ok (.iinc 5 1, 3) := by decide +kernel
theorem dX10_mixedBuffer_26 : decode cX10_mixedBuffer 26 = .ok (.goto (-21), 3) := by decide +kernel
theorem dX10_mixedBuffer_29 : decode cX10_mixedBuffer 29 = .ok (.lload_n 3, 1) := by decide +kernel
theorem dX10_mixedBuffer_30 : decode cX10_mixedBuffer 30 = .ok (.aload_n 2, 1) := by decide +kernel
theorem dX10_mixedBuffer_31 : decode cX10_mixedBuffer 31 = .ok (.getfield 114, 3) := by decide +kernel
theorem dX10_mixedBuffer_34 : decode cX10_mixedBuffer 34 = .ok (.invokestatic 247, 3) := by decide +kernel
theorem dX10_mixedBuffer_37 : decode cX10_mixedBuffer 37 = .ok (.lstore_n 3, 1) := by decide +kernel
theorem dX10_mixedBuffer_38 : decode cX10_mixedBuffer 38 = .ok (.iconst 0, 1) := by decide +kernel
theorem dX10_mixedBuffer_39 : decode cX10_mixedBuffer 39 = .ok (.istore 5, 2) := by decide +kernel
theorem dX10_mixedBuffer_41 : decode cX10_mixedBuffer 41 = .ok (.iload 5, 2) := by decide +kernel
theorem dX10_mixedBuffer_43 : decode cX10_mixedBuffer 43 = .ok (.iconst 3, 1) := by decide +kernel
theorem dX10_mixedBuffer_44 : decode cX10_mixedBuffer 44 = .ok (.if_icmp .ge 20, 3) := by decide +kernel
theorem dX10_mixedBuffer_47 : decode cX10_mixedBuffer 47 = .ok (.lload_n 3, 1) := by decide +kernel
theorem dX10_mixedBuffer_48 : decode cX10_mixedBuffer 48 = .ok (.aload_n 2, 1) := by decide +kernel
theorem dX10_mixedBuffer_49 : decode cX10_mixedBuffer 49 = .ok (.iload 5, 2) := by decide +kernel
theorem dX10_mixedBuffer_51 : decode cX10_mixedBuffer 51 = .ok (.invokevirtual 188, 3) := by decide +kernel
theorem dX10_mixedBuffer_54 : decode cX10_mixedBuffer 54 = .ok (.invokestatic 231, 3) := by decide +kernel
theorem dX10_mixedBuffer_57 : decode cX10_mixedBuffer 57 = .ok (.lstore_n 3, 1) := by decide +kernel
theorem dX10_mixedBuffer_58 : decode cX10_mixedBuffer 58 = .ok (.iinc 5 1, 3) := by decide +kernel
theorem dX10_mixedBuffer_61 : decode cX10_mixedBuffer 61 = .ok (.goto (-20), 3) := by decide +kernel
theorem dX10_mixedBuffer_64 : decode cX10_mixedBuffer 64 = .ok (.lload_n 3, 1) := by decide +kernel
theorem dX10_mixedBuffer_65 : decode cX10_mixedBuffer 65 = .ok (.aload_n 2, 1) := by decide +kernel
theorem dX10_mixedBuffer_66 : decode cX10_mixedBuffer 66 = .ok (.getfield 185, 3) := by decide +kernel
theorem dX10_mixedBuffer_69 : decode cX10_mixedBuffer 69 = .ok (.invokestatic 247, 3) := by decide +kernel
theorem dX10_mixedBuffer_72 : decode cX10_mixedBuffer 72 = .ok (.lreturn, 1) := by decide +kernel
theorem dX10_mixedStation_0 : decode cX10_mixedStation 0 = .ok (.lload_n 0, 1) := by decide +kernel
theorem dX10_mixedStation_1 : decode cX10_mixedStation 1 = .ok (.lstore_n 3, 1) := by decide +kernel
theorem dX10_mixedStation_2 : decode cX10_mixedStation 2 = .ok (.iconst 0, 1) := by decide +kernel
theorem dX10_mixedStation_3 : decode cX10_mixedStation 3 = .ok (.istore 5, 2) := by decide +kernel
theorem dX10_mixedStation_5 : decode cX10_mixedStation 5 = .ok (.iload 5, 2) := by decide +kernel
theorem dX10_mixedStation_7 : decode cX10_mixedStation 7 = .ok (.bipush 7, 2) := by decide +kernel
theorem dX10_mixedStation_9 : decode cX10_mixedStation 9 = .ok (.if_icmp .ge 20, 3) := by decide +kernel
theorem dX10_mixedStation_12 : decode cX10_mixedStation 12 = .ok (.lload_n 3, 1) := by decide +kernel
theorem dX10_mixedStation_13 : decode cX10_mixedStation 13 = .ok (.aload_n 2, 1) := by decide +kernel
theorem dX10_mixedStation_14 : decode cX10_mixedStation 14 = .ok (.iload 5, 2) := by decide +kernel
theorem dX10_mixedStation_16 : decode cX10_mixedStation 16 = .ok (.invokevirtual 200, 3) := by decide +kernel
theorem dX10_mixedStation_19 : decode cX10_mixedStation 19 = .ok (.invokestatic 231, 3) := by decide +kernel
theorem dX10_mixedStation_22 : decode cX10_mixedStation 22 = .ok (.lstore_n 3, 1) := by decide +kernel
theorem dX10_mixedStation_23 : decode cX10_mixedStation 23 = .ok (.iinc 5 1, 3) := by decide +kernel
theorem dX10_mixedStation_26 : decode cX10_mixedStation 26 = .ok (.goto (-21), 3) := by decide +kernel
theorem dX10_mixedStation_29 : decode cX10_mixedStation 29 = .ok (.lload_n 3, 1) := by decide +kernel
theorem dX10_mixedStation_30 : decode cX10_mixedStation 30 = .ok (.lreturn, 1) := by decide +kernel
theorem dX10_mixedWorker_0 : decode cX10_mixedWorker 0 = .ok (.lload_n 0, 1) := by decide +kernel
theorem dX10_mixedWorker_1 : decode cX10_mixedWorker 1 = .ok (.lstore_n 3, 1) := by decide +kernel
theorem dX10_mixedWorker_2 : decode cX10_mixedWorker 2 = .ok (.iconst 0, 1) := by decide +kernel
theorem dX10_mixedWorker_3 : decode cX10_mixedWorker 3 = .ok (.istore 5, 2) := by decide +kernel
theorem dX10_mixedWorker_5 : decode cX10_mixedWorker 5 = .ok (.iload 5, 2) := by decide +kernel
theorem dX10_mixedWorker_7 : decode cX10_mixedWorker 7 = .ok (.iconst 5, 1) := by decide +kernel
theorem dX10_mixedWorker_8 : decode cX10_mixedWorker 8 = .ok (.if_icmp .ge 20, 3) := by decide +kernel
theorem dX10_mixedWorker_11 : decode cX10_mixedWorker 11 = .ok (.lload_n 3, 1) := by decide +kernel
theorem dX10_mixedWorker_12 : decode cX10_mixedWorker 12 = .ok (.aload_n 2, 1) := by decide +kernel
theorem dX10_mixedWorker_13 : decode cX10_mixedWorker 13 = .ok (.iload 5, 2) := by decide +kernel
theorem dX10_mixedWorker_15 : decode cX10_mixedWorker 15 = .ok (.invokevirtual 203, 3) := by decide +kernel
theorem dX10_mixedWorker_18 : decode cX10_mixedWorker 18 = .ok (.invokestatic 231, 3) := by decide +kernel
theorem dX10_mixedWorker_21 : decode cX10_mixedWorker 21 = .ok (.lstore_n 3, 1) := by decide +kernel
theorem dX10_mixedWorker_22 : decode cX10_mixedWorker 22 = .ok (.iinc 5 1, 3) := by decide +kernel
theorem dX10_mixedWorker_25 : decode cX10_mixedWorker 25 = .ok (.goto (-20), 3) := by decide +kernel
theorem dX10_mixedWorker_28 : decode cX10_mixedWorker 28 = .ok (.lload_n 3, 1) := by decide +kernel
theorem dX10_mixedWorker_29 : decode cX10_mixedWorker 29 = .ok (.lreturn, 1) := by decide +kernel
theorem dX11_init_0 : decode cX11_init 0 = .ok (.aload_n 0, 1) := by decide +kernel
theorem dX11_init_1 : decode cX11_init 1 = .ok (.invokespecial 1, 3) := by decide +kernel
theorem dX11_init_4 : decode cX11_init 4 = .ok (.aload_n 0, 1) := by decide +kernel
theorem dX11_init_5 : decode cX11_init 5 = .ok (.iconst 3, 1) := by decide +kernel
theorem dX11_init_6 : decode cX11_init 6 = .ok (.newarray .int, 2) := by decide +kernel
theorem dX11_init_8 : decode cX11_init 8 = .ok (.putfield 7, 3) := by decide +kernel
theorem dX11_init_11 : decode cX11_init 11 = .ok (.aload_n 0, 1) := by decide +kernel
theorem dX11_init_12 : decode cX11_init 12 = .ok (.sipush 320, 3) := by decide +kernel
theorem dX11_init_15 : decode cX11_init 15 = .ok (.newarray .int, 2) := by decide +kernel
theorem dX11_init_17 : decode cX11_init 17 = .ok (.putfield 13, 3) := by decide +kernel
theorem dX11_init_20 : decode cX11_init 20 = .ok (.aload_n 0, 1) := by decide +kernel
theorem dX11_init_21 : decode cX11_init 21 = .ok (.sipush 1920, 3) := by decide +kernel
theorem dX11_init_24 : decode cX11_init 24 = .ok (.newarray .int, 2) := by decide +kernel
theorem dX11_init_26 : decode cX11_init 26 = .ok (.putfield 16, 3) := by decide +kernel
theorem dX11_init_29 : decode cX11_init 29 = .ok (.aload_n 0, 1) := by decide +kernel
theorem dX11_init_30 : decode cX11_init 30 = .ok (.sipush 324, 3) := by decide +kernel
theorem dX11_init_33 : decode cX11_init 33 = .ok (.newarray .int, 2) := by decide +kernel
theorem dX11_init_35 : decode cX11_init 35 = .ok (.putfield 19, 3) := by decide +kernel
theorem dX11_init_38 : decode cX11_init 38 = .ok (.aload_n 0, 1) := by decide +kernel
theorem dX11_init_39 : decode cX11_init 39 = .ok (.bipush 120, 2) := by decide +kernel
theorem dX11_init_41 : decode cX11_init 41 = .ok (.newarray .int, 2) := by decide +kernel
theorem dX11_init_43 : decode cX11_init 43 = .ok (.putfield 22, 3) := by decide +kernel
theorem dX11_init_46 : decode cX11_init 46 = .ok (.aload_n 0, 1) := by decide +kernel
theorem dX11_init_47 : decode cX11_init 47 = .ok (.bipush 120, 2) := by decide +kernel
theorem dX11_init_49 : decode cX11_init 49 = .ok (.newarray .int, 2) := by decide +kernel
theorem dX11_init_51 : decode cX11_init 51 = .ok (.putfield 25, 3) := by decide +kernel
theorem dX11_init_54 : decode cX11_init 54 = .ok (.aload_n 0, 1) := by decide +kernel
theorem dX11_init_55 : decode cX11_init 55 = .ok (.bipush 120, 2) := by decide +kernel
theorem dX11_init_57 : decode cX11_init 57 = .ok (.newarray .int, 2) := by decide +kernel
theorem dX11_init_59 : decode cX11_init 59 = .ok (.putfield 28, 3) := by decide +kernel
theorem dX11_init_62 : decode cX11_init 62 = .ok (.aload_n 0, 1) := by decide +kernel
theorem dX11_init_63 : decode cX11_init 63 = .ok (.bipush 120, 2) := by decide +kernel
theorem dX11_init_65 : decode cX11_init 65 = .ok (.newarray .int, 2) := by decide +kernel
theorem dX11_init_67 : decode cX11_init 67 = .ok (.putfield 31, 3) := by decide +kernel
theorem dX11_init_70 : decode cX11_init 70 = .ok (.aload_n 0, 1) := by decide +kernel
theorem dX11_init_71 : decode cX11_init 71 = .ok (.bipush 120, 2) := by decide +kernel
theorem dX11_init_73 : decode cX11_init 73 = .ok (.newarray .int, 2) := by decide +kernel
theorem dX11_init_75 : decode cX11_init 75 = .ok (.putfield 34, 3) := by decide +kernel
theorem dX11_init_78 : decode cX11_init 78 = .ok (.aload_n 0, 1) := by decide +kernel
theorem dX11_init_79 : decode cX11_init 79 = .ok (.bipush 120, 2) := by decide +kernel
theorem dX11_init_81 : decode cX11_init 81 = .ok (.newarray .int, 2) := by decide +kernel
theorem dX11_init_83 : decode cX11_init 83 = .ok (.putfield 37, 3) := by decide +kernel
theorem dX11_init_86 : decode cX11_init 86 = .ok (.aload_n 0, 1) := by decide +kernel
theorem dX11_init_87 : decode cX11_init 87 = .ok (.iconst 5, 1) := by decide +kernel
theorem dX11_init_88 : decode cX11_init 88 = .ok (.newarray .int, 2) := by decide +kernel
theorem dX11_init_90 : decode cX11_init 90 = .ok (.putfield 40, 3) := by decide +kernel
theorem dX11_init_93 : decode cX11_init 93 = .ok (.aload_n 0, 1) := by decide +kernel
theorem dX11_init_94 : decode cX11_init 94 = .ok (.iconst 5, 1) := by decide +kernel
theorem dX11_init_95 : decode cX11_init 95 = .ok (.newarray .int, 2) := by decide +kernel
theorem dX11_init_97 : decode cX11_init 97 = .ok (.putfield 43, 3) := by decide +kernel
theorem dX11_init_100 : decode cX11_init 100 = .ok (.aload_n 0, 1) := by decide +kernel
theorem dX11_init_101 : decode cX11_init 101 = .ok (.iconst 3, 1) := by decide +kernel
theorem dX11_init_102 : decode cX11_init 102 = .ok (.invokevirtual 46, 3) := by decide +kernel
theorem dX11_init_105 : decode cX11_init 105 = .ok (.return_, 1) := by decide +kernel
theorem dX11_bad_0 : decode cX11_bad 0 = .ok (.aload_n 0, 1) := by decide +kernel
theorem dX11_bad_1 : decode cX11_bad 1 = .ok (.getfield 7, 3) := by decide +kernel
theorem dX11_bad_4 : decode cX11_bad 4 = .ok (.iconst 0, 1) := by decide +kernel
theorem dX11_bad_5 : decode cX11_bad 5 = .ok (.dup2, 1) := by decide +kernel
theorem dX11_bad_6 : decode cX11_bad 6 = .ok (.iaload, 1) := by decide +kernel
theorem dX11_bad_7 : decode cX11_bad 7 = .ok (.iconst 1, 1) := by decide +kernel
theorem dX11_bad_8 : decode cX11_bad 8 = .ok (.iadd, 1) := by decide +kernel
theorem dX11_bad_9 : decode cX11_bad 9 = .ok (.iastore, 1) := by decide +kernel
theorem dX11_bad_10 : decode cX11_bad 10 = .ok (.bipush (-2), 2) := by decide +kernel
theorem dX11_bad_12 : decode cX11_bad 12 = .ok (.ireturn, 1) := by decide +kernel
theorem dX11_no_0 : decode cX11_no 0 = .ok (.aload_n 0, 1) := by decide +kernel
theorem dX11_no_1 : decode cX11_no 1 = .ok (.getfield 7, 3) := by decide +kernel
theorem dX11_no_4 : decode cX11_no 4 = .ok (.iconst 1, 1) := by decide +kernel
theorem dX11_no_5 : decode cX11_no 5 = .ok (.dup2, 1) := by decide +kernel
theorem dX11_no_6 : decode cX11_no 6 = .ok (.iaload, 1) := by decide +kernel
theorem dX11_no_7 : decode cX11_no 7 = .ok (.iconst 1, 1) := by decide +kernel
theorem dX11_no_8 : decode cX11_no 8 = .ok (.iadd, 1) := by decide +kernel
theorem dX11_no_9 : decode cX11_no 9 = .ok (.iastore, 1) := by decide +kernel
theorem dX11_no_10 : decode cX11_no 10 = .ok (.bipush (-3), 2) := by decide +kernel
theorem dX11_no_12 : decode cX11_no 12 = .ok (.ireturn, 1) := by decide +kernel
theorem dX11_full_0 : decode cX11_full 0 = .ok (.aload_n 0, 1) := by decide +kernel
theorem dX11_full_1 : decode cX11_full 1 = .ok (.getfield 7, 3) := by decide +kernel
theorem dX11_full_4 : decode cX11_full 4 = .ok (.iconst 2, 1) := by decide +kernel
theorem dX11_full_5 : decode cX11_full 5 = .ok (.dup2, 1) := by decide +kernel
theorem dX11_full_6 : decode cX11_full 6 = .ok (.iaload, 1) := by decide +kernel
theorem dX11_full_7 : decode cX11_full 7 = .ok (.iconst 1, 1) := by decide +kernel
theorem dX11_full_8 : decode cX11_full 8 = .ok (.iadd, 1) := by decide +kernel
theorem dX11_full_9 : decode cX11_full 9 = .ok (.iastore, 1) := by decide +kernel
theorem dX11_full_10 : decode cX11_full 10 = .ok (.bipush (-4), 2) := by decide +kernel
theorem dX11_full_12 : decode cX11_full 12 = .ok (.ireturn, 1) := by decide +kernel
theorem dX11_in_0 : decode cX11_in 0 = .ok (.iload_n 0, 1) := by decide +kernel
theorem dX11_in_1 : decode cX11_in 1 = .ok (.iload_n 1, 1) := by decide +kernel
theorem dX11_in_2 : decode cX11_in 2 = .ok (.if_icmp .lt 12, 3) := by decide +kernel
theorem dX11_in_5 : decode cX11_in 5 = .ok (.iload_n 0, 1) := by decide +kernel
theorem dX11_in_6 : decode cX11_in 6 = .ok (.iload_n 2, 1) := by decide +kernel
theorem dX11_in_7 : decode cX11_in 7 = .ok (.if_icmp .gt 7, 3) := by decide +kernel
theorem dX11_in_10 : decode cX11_in 10 = .ok (.iconst 1, 1) := by decide +kernel
theorem dX11_in_11 : decode cX11_in 11 = .ok (.goto 4, 3) := by decide +kernel
theorem dX11_in_14 : decode cX11_in 14 = .ok (.iconst 0, 1) := by decide +kernel
theorem dX11_in_15 : decode cX11_in 15 = .ok (.ireturn, 1) := by decide +kernel
theorem dX11_atBuffer_0 : decode cX11_atBuffer 0 = .ok (.bipush 10, 2) := by decide +kernel
theorem dX11_atBuffer_2 : decode cX11_atBuffer 2 = .ok (.bipush 24, 2) := by decide +kernel
theorem dX11_atBuffer_4 : decode cX11_atBuffer 4 = .ok (.iload_n 0, 1) := by decide +kernel
theorem dX11_atBuffer_5 : decode cX11_atBuffer 5 = .ok (.imul, 1) := by decide +kernel
theorem dX11_atBuffer_6 : decode cX11_atBuffer 6 = .ok (.iadd, 1) := by decide +kernel
theorem dX11_atBuffer_7 : decode cX11_atBuffer 7 = .ok (.ireturn, 1) := by decide +kernel
theorem dX11_gate_0 : decode cX11_gate 0 = .ok (.sipush 160, 3) := by decide +kernel
theorem dX11_gate_3 : decode cX11_gate 3 = .ok (.iconst 4, 1) := by decide +kernel
theorem dX11_gate_4 : decode cX11_gate 4 = .ok (.iload_n 0, 1) := by decide +kernel
theorem dX11_gate_5 : decode cX11_gate 5 = .ok (.imul, 1) := by decide +kernel
theorem dX11_gate_6 : decode cX11_gate 6 = .ok (.iadd, 1) := by decide +kernel
theorem dX11_gate_7 : decode cX11_gate 7 = .ok (.ireturn, 1) := by decide +kernel
theorem dX11_stationAt_0 : decode cX11_stationAt 0 = .ok (.sipush 190, 3) := by decide +kernel
theorem dX11_stationAt_3 : decode cX11_stationAt 3 = .ok (.bipush 12, 2) := by decide +kernel
theorem dX11_stationAt_5 : decode cX11_stationAt 5 = .ok (.iload_n 0, 1) := by decide +kernel
theorem dX11_stationAt_6 : decode cX11_stationAt 6 = .ok (.imul, 1) := by decide +kernel
theorem dX11_stationAt_7 : decode cX11_stationAt 7 = .ok (.iadd, 1) := by decide +kernel
theorem dX11_stationAt_8 : decode cX11_stationAt 8 = .ok (.ireturn, 1) := by decide +kernel
theorem dX11_workerAt_0 : decode cX11_workerAt 0 = .ok (.sipush 270, 3) := by decide +kernel
theorem dX11_workerAt_3 : decode cX11_workerAt 3 = .ok (.iconst 5, 1) := by decide +kernel
theorem dX11_workerAt_4 : decode cX11_workerAt 4 = .ok (.iload_n 0, 1) := by decide +kernel
theorem dX11_workerAt_5 : decode cX11_workerAt 5 = .ok (.imul, 1) := by decide +kernel
theorem dX11_workerAt_6 : decode cX11_workerAt 6 = .ok (.iadd, 1) := by decide +kernel
theorem dX11_workerAt_7 : decode cX11_workerAt 7 = .ok (.ireturn, 1) := by decide +kernel
theorem dX11_isBuffer_0 : decode cX11_isBuffer 0 = .ok (.iload_n 1, 1) := by decide +kernel
theorem dX11_isBuffer_1 : decode cX11_isBuffer 1 = .ok (.iconst 0, 1) := by decide +kernel
theorem dX11_isBuffer_2 : decode cX11_isBuffer 2 = .ok (.aload_n 0, 1) := by decide +kernel
theorem dX11_isBuffer_3 : decode cX11_isBuffer 3 = .ok (.getfield 13, 3) := by decide +kernel
theorem dX11_isBuffer_6 : decode cX11_isBuffer 6 = .ok (.iconst 0, 1) := by decide +kernel
theorem dX11_isBuffer_7 : decode cX11_isBuffer 7 = .ok (.iaload, 1) := by decide +kernel
theorem dX11_isBuffer_8 : decode cX11_isBuffer 8 = .ok (.iconst 1, 1) := by decide +kernel
theorem dX11_isBuffer_9 : decode cX11_isBuffer 9 = .ok (.isub, 1) := by decide +kernel
theorem dX11_isBuffer_10 : decode cX11_isBuffer 10 = .ok (.invokestatic 50, 3) := by decide +kernel
theorem dX11_isBuffer_13 : decode cX11_isBuffer 13 = .ok (.ireturn, 1) := by decide +kernel
theorem dX11_isWorker_0 : decode cX11_isWorker 0 = .ok (.iload_n 0, 1) := by decide +kernel
theorem dX11_isWorker_1 : decode cX11_isWorker 1 = .ok (.iconst 0, 1) := by decide +kernel
theorem dX11_isWorker_2 : decode cX11_isWorker 2 = .ok (.iconst 5, 1) := by decide +kernel
theorem dX11_isWorker_3 : decode cX11_isWorker 3 = .ok (.invokestatic 50, 3) := by decide +kernel
theorem dX11_isWorker_6 : decode cX11_isWorker 6 = .ok (.ireturn, 1) := by decide +kernel
theorem dX11_lays_0 : decode cX11_lays 0 = .ok (.iconst 0, 1) := by decide +kernel
theorem dX11_lays_1 : decode cX11_lays 1 = .ok (.istore_n 2, 1) := by decide +kernel
theorem dX11_lays_2 : decode cX11_lays 2 = .ok (.iload_n 2, 1) := by decide +kernel
theorem dX11_lays_3 : decode cX11_lays 3 = .ok (.sipush 320, 3) := by decide +kernel
theorem dX11_lays_6 : decode cX11_lays 6 = .ok (.if_icmp .ge 16, 3) := by decide +kernel
theorem dX11_lays_9 : decode cX11_lays 9 = .ok (.aload_n 0, 1) := by decide +kernel
theorem dX11_lays_10 : decode cX11_lays 10 = .ok (.getfield 13, 3) := by decide +kernel
theorem dX11_lays_13 : decode cX11_lays 13 = .ok (.iload_n 2, 1) := by decide +kernel
theorem dX11_lays_14 : decode cX11_lays 14 = .ok (.iconst 0, 1) := by decide +kernel
theorem dX11_lays_15 : decode cX11_lays 15 = .ok (.iastore, 1) := by decide +kernel
theorem dX11_lays_16 : decode cX11_lays 16 = .ok (.iinc 2 1, 3) := by decide +kernel
theorem dX11_lays_19 : decode cX11_lays 19 = .ok (.goto (-17), 3) := by decide +kernel
theorem dX11_lays_22 : decode cX11_lays 22 = .ok (.aload_n 0, 1) := by decide +kernel
theorem dX11_lays_23 : decode cX11_lays 23 = .ok (.getfield 13, 3) := by decide +kernel
theorem dX11_lays_26 : decode cX11_lays 26 = .ok (.iconst 0, 1) := by decide +kernel
theorem dX11_lays_27 : decode cX11_lays 27 = .ok (.iload_n 1, 1) := by decide +kernel
theorem dX11_lays_28 : decode cX11_lays 28 = .ok (.iastore, 1) := by decide +kernel
theorem dX11_lays_29 : decode cX11_lays 29 = .ok (.iconst 0, 1) := by decide +kernel
theorem dX11_lays_30 : decode cX11_lays 30 = .ok (.istore_n 2, 1) := by decide +kernel
theorem dX11_lays_31 : decode cX11_lays 31 = .ok (.iload_n 2, 1) := by decide +kernel
theorem dX11_lays_32 : decode cX11_lays 32 = .ok (.bipush 6, 2) := by decide +kernel
theorem dX11_lays_34 : decode cX11_lays 34 = .ok (.if_icmp .ge 33, 3) := by decide +kernel
theorem dX11_lays_37 : decode cX11_lays 37 = .ok (.aload_n 0, 1) := by decide +kernel
theorem dX11_lays_38 : decode cX11_lays 38 = .ok (.getfield 13, 3) := by decide +kernel
theorem dX11_lays_41 : decode cX11_lays 41 = .ok (.iload_n 2, 1) := by decide +kernel
theorem dX11_lays_42 : decode cX11_lays 42 = .ok (.invokestatic 54, 3) := by decide +kernel
theorem dX11_lays_45 : decode cX11_lays 45 = .ok (.iconst 1, 1) := by decide +kernel
theorem dX11_lays_46 : decode cX11_lays 46 = .ok (.iadd, 1) := by decide +kernel
theorem dX11_lays_47 : decode cX11_lays 47 = .ok (.iconst 2, 1) := by decide +kernel
theorem dX11_lays_48 : decode cX11_lays 48 = .ok (.iastore, 1) := by decide +kernel
theorem dX11_lays_49 : decode cX11_lays 49 = .ok (.aload_n 0, 1) := by decide +kernel
theorem dX11_lays_50 : decode cX11_lays 50 = .ok (.getfield 13, 3) := by decide +kernel
theorem dX11_lays_53 : decode cX11_lays 53 = .ok (.iload_n 2, 1) := by decide +kernel
theorem dX11_lays_54 : decode cX11_lays 54 = .ok (.invokestatic 54, 3) := by decide +kernel
theorem dX11_lays_57 : decode cX11_lays 57 = .ok (.iconst 5, 1) := by decide +kernel
theorem dX11_lays_58 : decode cX11_lays 58 = .ok (.iadd, 1) := by decide +kernel
theorem dX11_lays_59 : decode cX11_lays 59 = .ok (.iconst (-1), 1) := by decide +kernel
theorem dX11_lays_60 : decode cX11_lays 60 = .ok (.iastore, 1) := by decide +kernel
theorem dX11_lays_61 : decode cX11_lays 61 = .ok (.iinc 2 1, 3) := by decide +kernel
theorem dX11_lays_64 : decode cX11_lays 64 = .ok (.goto (-33), 3) := by decide +kernel
theorem dX11_lays_67 : decode cX11_lays 67 = .ok (.iconst 0, 1) := by decide +kernel
theorem dX11_lays_68 : decode cX11_lays 68 = .ok (.istore_n 2, 1) := by decide +kernel
theorem dX11_lays_69 : decode cX11_lays 69 = .ok (.iload_n 2, 1) := by decide +kernel
theorem dX11_lays_70 : decode cX11_lays 70 = .ok (.bipush 6, 2) := by decide +kernel
theorem dX11_lays_72 : decode cX11_lays 72 = .ok (.if_icmp .ge 57, 3) := by decide +kernel
theorem dX11_lays_75 : decode cX11_lays 75 = .ok (.aload_n 0, 1) := by decide +kernel
theorem dX11_lays_76 : decode cX11_lays 76 = .ok (.getfield 13, 3) := by decide +kernel
theorem dX11_lays_79 : decode cX11_lays 79 = .ok (.iload_n 2, 1) := by decide +kernel
theorem dX11_lays_80 : decode cX11_lays 80 = .ok (.invokestatic 58, 3) := by decide +kernel
theorem dX11_lays_83 : decode cX11_lays 83 = .ok (.iconst 1, 1) := by decide +kernel
theorem dX11_lays_84 : decode cX11_lays 84 = .ok (.iadd, 1) := by decide +kernel
theorem dX11_lays_85 : decode cX11_lays 85 = .ok (.iconst (-1), 1) := by decide +kernel
theorem dX11_lays_86 : decode cX11_lays 86 = .ok (.iastore, 1) := by decide +kernel
theorem dX11_lays_87 : decode cX11_lays 87 = .ok (.aload_n 0, 1) := by decide +kernel
theorem dX11_lays_88 : decode cX11_lays 88 = .ok (.getfield 13, 3) := by decide +kernel
theorem dX11_lays_91 : decode cX11_lays 91 = .ok (.iload_n 2, 1) := by decide +kernel
theorem dX11_lays_92 : decode cX11_lays 92 = .ok (.invokestatic 58, 3) := by decide +kernel
theorem dX11_lays_95 : decode cX11_lays 95 = .ok (.iconst 2, 1) := by decide +kernel
theorem dX11_lays_96 : decode cX11_lays 96 = .ok (.iadd, 1) := by decide +kernel
theorem dX11_lays_97 : decode cX11_lays 97 = .ok (.iconst (-1), 1) := by decide +kernel
theorem dX11_lays_98 : decode cX11_lays 98 = .ok (.iastore, 1) := by decide +kernel
theorem dX11_lays_99 : decode cX11_lays 99 = .ok (.aload_n 0, 1) := by decide +kernel
theorem dX11_lays_100 : decode cX11_lays 100 = .ok (.getfield 13, 3) := by decide +kernel
theorem dX11_lays_103 : decode cX11_lays 103 = .ok (.iload_n 2, 1) := by decide +kernel
theorem dX11_lays_104 : decode cX11_lays 104 = .ok (.invokestatic 58, 3) := by decide +kernel
theorem dX11_lays_107 : decode cX11_lays 107 = .ok (.iconst 3, 1) := by decide +kernel
theorem dX11_lays_108 : decode cX11_lays 108 = .ok (.iadd, 1) := by decide +kernel
theorem dX11_lays_109 : decode cX11_lays 109 = .ok (.iconst (-1), 1) := by decide +kernel
theorem dX11_lays_110 : decode cX11_lays 110 = .ok (.iastore, 1) := by decide +kernel
theorem dX11_lays_111 : decode cX11_lays 111 = .ok (.aload_n 0, 1) := by decide +kernel
theorem dX11_lays_112 : decode cX11_lays 112 = .ok (.getfield 13, 3) := by decide +kernel
theorem dX11_lays_115 : decode cX11_lays 115 = .ok (.iload_n 2, 1) := by decide +kernel
theorem dX11_lays_116 : decode cX11_lays 116 = .ok (.invokestatic 58, 3) := by decide +kernel
theorem dX11_lays_119 : decode cX11_lays 119 = .ok (.iconst 4, 1) := by decide +kernel
theorem dX11_lays_120 : decode cX11_lays 120 = .ok (.iadd, 1) := by decide +kernel
theorem dX11_lays_121 : decode cX11_lays 121 = .ok (.iconst (-1), 1) := by decide +kernel
theorem dX11_lays_122 : decode cX11_lays 122 = .ok (.iastore, 1) := by decide +kernel
theorem dX11_lays_123 : decode cX11_lays 123 = .ok (.iinc 2 1, 3) := by decide +kernel
theorem dX11_lays_126 : decode cX11_lays 126 = .ok (.goto (-57), 3) := by decide +kernel
theorem dX11_lays_129 : decode cX11_lays 129 = .ok (.return_, 1) := by decide +kernel
theorem dX11_leavesState_0 : decode cX11_leavesState 0 = .ok (.aload_n 0, 1) := by decide +kernel
theorem dX11_leavesState_1 : decode cX11_leavesState 1 = .ok (.getfield 61, 3) := by decide +kernel
theorem dX11_leavesState_4 : decode cX11_leavesState 4 = .ok (.bipush 6, 2) := by decide +kernel
theorem dX11_leavesState_6 : decode cX11_leavesState 6 = .ok (.if_icmp .ne 44, 3) := by decide +kernel
theorem dX11_leavesState_9 : decode cX11_leavesState 9 = .ok (.iconst 0, 1) := by decide +kernel
theorem dX11_leavesState_10 : decode cX11_leavesState 10 = .ok (.istore_n 1, 1) := by decide +kernel
theorem dX11_leavesState_11 : decode cX11_leavesState 11 = .ok (.iload_n 1, 1) := by decide +kernel
theorem dX11_leavesState_12 : decode cX11_leavesState 12 = .ok (.sipush 1600, 3) := by decide +kernel
theorem dX11_leavesState_15 : decode cX11_leavesState 15 = .ok (.if_icmp .ge 25, 3) := by decide +kernel
theorem dX11_leavesState_18 : decode cX11_leavesState 18 = .ok (.aload_n 0, 1) := by decide +kernel
theorem dX11_leavesState_19 : decode cX11_leavesState 19 = .ok (.getfield 16, 3) := by decide +kernel
theorem dX11_leavesState_22 : decode cX11_leavesState 22 = .ok (.iload_n 1, 1) := by decide +kernel
theorem dX11_leavesState_23 : decode cX11_leavesState 23 = .ok (.aload_n 0, 1) := by decide +kernel
theorem dX11_leavesState_24 : decode cX11_leavesState 24 = .ok (.getfield 16, 3) := by decide +kernel
theorem dX11_leavesState_27 : decode cX11_leavesState 27 = .ok (.iload_n 1, 1) := by decide +kernel
theorem dX11_leavesState_28 : decode cX11_leavesState 28 = .ok (.sipush 320, 3) := by decide +kernel
theorem dX11_leavesState_31 : decode cX11_leavesState 31 = .ok (.iadd, 1) := by decide +kernel
theorem dX11_leavesState_32 : decode cX11_leavesState 32 = .ok (.iaload, 1) := by decide +kernel
theorem dX11_leavesState_33 : decode cX11_leavesState 33 = .ok (.iastore, 1) := by decide +kernel
theorem dX11_leavesState_34 : decode cX11_leavesState 34 = .ok (.iinc 1 1, 3) := by decide +kernel
theorem dX11_leavesState_37 : decode cX11_leavesState 37 = .ok (.goto (-26), 3) := by decide +kernel
theorem dX11_leavesState_40 : decode cX11_leavesState 40 = .ok (.aload_n 0, 1) := by decide +kernel
theorem dX11_leavesState_41 : decode cX11_leavesState 41 = .ok (.dup, 1) := by decide +kernel
theorem dX11_leavesState_42 : decode cX11_leavesState 42 = .ok (.getfield 61, 3) := by decide +kernel
theorem dX11_leavesState_45 : decode cX11_leavesState 45 = .ok (.iconst 1, 1) := by decide +kernel
theorem dX11_leavesState_46 : decode cX11_leavesState 46 = .ok (.isub, 1) := by decide +kernel
theorem dX11_leavesState_47 : decode cX11_leavesState 47 = .ok (.putfield 61, 3) := by decide +kernel
theorem dX11_leavesState_50 : decode cX11_leavesState 50 = .ok (.iconst 0, 1) := by decide +kernel
theorem dX11_leavesState_51 : decode cX11_leavesState 51 = .ok (.istore_n 1, 1) := by decide +kernel
theorem dX11_leavesState_52 : decode cX11_leavesState 52 = .ok (.iload_n 1, 1) := by decide +kernel
theorem dX11_leavesState_53 : decode cX11_leavesState 53 = .ok (.sipush 320, 3) := by decide +kernel
theorem dX11_leavesState_56 : decode cX11_leavesState 56 = .ok (.if_icmp .ge 30, 3) := by decide +kernel
theorem dX11_leavesState_59 : decode cX11_leavesState 59 = .ok (.aload_n 0, 1) := by decide +kernel
theorem dX11_leavesState_60 : decode cX11_leavesState 60 = .ok (.getfield 16, 3) := by decide +kernel
theorem dX11_leavesState_63 : decode cX11_leavesState 63 = .ok (.sipush 320, 3) := by decide +kernel
theorem dX11_leavesState_66 : decode cX11_leavesState 66 = .ok (.aload_n 0, 1) := by decide +kernel
theorem dX11_leavesState_67 : decode cX11_leavesState 67 = .ok (.getfield 61, 3) := by decide +kernel
theorem dX11_leavesState_70 : decode cX11_leavesState 70 = .ok (.imul, 1) := by decide +kernel
theorem dX11_leavesState_71 : decode cX11_leavesState 71 = .ok (.iload_n 1, 1) := by decide +kernel
theorem dX11_leavesState_72 : decode cX11_leavesState 72 = .ok (.iadd, 1) := by decide +kernel
theorem dX11_leavesState_73 : decode cX11_leavesState 73 = .ok (.aload_n 0, 1) := by decide +kernel
theorem dX11_leavesState_74 : decode cX11_leavesState 74 = .ok (.getfield 13, 3) := by decide +kernel
theorem dX11_leavesState_77 : decode cX11_leavesState 77 = .ok (.iload_n 1, 1) := by decide +kernel
theorem dX11_leavesState_78 : decode cX11_leavesState 78 = .ok (.iaload, 1) := by decide +kernel
theorem dX11_leavesState_79 : decode cX11_leavesState 79 = .ok (.iastore, 1) := by decide +kernel
theorem dX11_leavesState_80 : decode cX11_leavesState 80 = .ok (.iinc 1 1, 3) := by decide +kernel
theorem dX11_leavesState_83 : decode cX11_leavesState 83 = .ok (.goto (-31), 3) := by decide +kernel
theorem dX11_leavesState_86 : decode cX11_leavesState 86 = .ok (.aload_n 0, 1) := by decide +kernel
theorem dX11_leavesState_87 : decode cX11_leavesState 87 = .ok (.dup, 1) := by decide +kernel
theorem dX11_leavesState_88 : decode cX11_leavesState 88 = .ok (.getfield 61, 3) := by decide +kernel
theorem dX11_leavesState_91 : decode cX11_leavesState 91 = .ok (.iconst 1, 1) := by decide +kernel
theorem dX11_leavesState_92 : decode cX11_leavesState 92 = .ok (.iadd, 1) := by decide +kernel
theorem dX11_leavesState_93 : decode cX11_leavesState 93 = .ok (.putfield 61, 3) := by decide +kernel
theorem dX11_leavesState_96 : decode cX11_leavesState 96 = .ok (.return_, 1) := by decide +kernel
theorem dX11_back_0 : decode cX11_back 0 = .ok (.aload_n 0, 1) := by decide +kernel
theorem dX11_back_1 : decode cX11_back 1 = .ok (.getfield 61, 3) := by decide +kernel
theorem dX11_back_4 : decode cX11_back 4 = .ok (.ifCond .ne 8, 3) := by decide +kernel
theorem dX11_back_7 : decode cX11_back 7 = .ok (.aload_n 0, 1) := by decide +kernel
theorem dX11_back_8 : decode cX11_back 8 = .ok (.invokevirtual 65, 3) := by decide +kernel
theorem dX11_back_11 : decode cX11_back 11 = .ok (.ireturn, 1) := by decide +kernel
theorem dX11_back_12 : decode cX11_back 12 = .ok (.aload_n 0, 1) := by decide +kernel
theorem dX11_back_13 : decode cX11_back 13 = .ok (.dup, 1) := by decide +kernel
theorem dX11_back_14 : decode cX11_back 14 = .ok (.getfield 61, 3) := by decide +kernel
theorem dX11_back_17 : decode cX11_back 17 = .ok (.iconst 1, 1) := by decide +kernel
theorem dX11_back_18 : decode cX11_back 18 = .ok (.isub, 1) := by decide +kernel
theorem dX11_back_19 : decode cX11_back 19 = .ok (.putfield 61, 3) := by decide +kernel
theorem dX11_back_22 : decode cX11_back 22 = .ok (.iconst 0, 1) := by decide +kernel
theorem dX11_back_23 : decode cX11_back 23 = .ok (.istore_n 1, 1) := by decide +kernel
theorem dX11_back_24 : decode cX11_back 24 = .ok (.iload_n 1, 1) := by decide +kernel
theorem dX11_back_25 : decode cX11_back 25 = .ok (.sipush 320, 3) := by decide +kernel
theorem dX11_back_28 : decode cX11_back 28 = .ok (.if_icmp .ge 30, 3) := by decide +kernel
theorem dX11_back_31 : decode cX11_back 31 = .ok (.aload_n 0, 1) := by decide +kernel
theorem dX11_back_32 : decode cX11_back 32 = .ok (.getfield 13, 3) := by decide +kernel
theorem dX11_back_35 : decode cX11_back 35 = .ok (.iload_n 1, 1) := by decide +kernel
theorem dX11_back_36 : decode cX11_back 36 = .ok (.aload_n 0, 1) := by decide +kernel
theorem dX11_back_37 : decode cX11_back 37 = .ok (.getfield 16, 3) := by decide +kernel
theorem dX11_back_40 : decode cX11_back 40 = .ok (.sipush 320, 3) := by decide +kernel
theorem dX11_back_43 : decode cX11_back 43 = .ok (.aload_n 0, 1) := by decide +kernel
theorem dX11_back_44 : decode cX11_back 44 = .ok (.getfield 61, 3) := by decide +kernel
theorem dX11_back_47 : decode cX11_back 47 = .ok (.imul, 1) := by decide +kernel
theorem dX11_back_48 : decode cX11_back 48 = .ok (.iload_n 1, 1) := by decide +kernel
theorem dX11_back_49 : decode cX11_back 49 = .ok (.iadd, 1) := by decide +kernel
theorem dX11_back_50 : decode cX11_back 50 = .ok (.iaload, 1) := by decide +kernel
theorem dX11_back_51 : decode cX11_back 51 = .ok (.iastore, 1) := by decide +kernel
theorem dX11_back_52 : decode cX11_back 52 = .ok (.iinc 1 1, 3) := by decide +kernel
theorem dX11_back_55 : decode cX11_back 55 = .ok (.goto (-31), 3) := by decide +kernel
theorem dX11_back_58 : decode cX11_back 58 = .ok (.aload_n 0, 1) := by decide +kernel
theorem dX11_back_59 : decode cX11_back 59 = .ok (.getfield 61, 3) := by decide +kernel
theorem dX11_back_62 : decode cX11_back 62 = .ok (.ireturn, 1) := by decide +kernel
theorem dX11_enters_0 : decode cX11_enters 0 = .ok (.iload_n 1, 1) := by decide +kernel
theorem dX11_enters_1 : decode cX11_enters 1 = .ok (.invokestatic 69, 3) := by decide +kernel
theorem dX11_enters_4 : decode cX11_enters 4 = .ok (.istore_n 2, 1) := by decide +kernel
theorem dX11_enters_5 : decode cX11_enters 5 = .ok (.aload_n 0, 1) := by decide +kernel
theorem dX11_enters_6 : decode cX11_enters 6 = .ok (.getfield 13, 3) := by decide +kernel
theorem dX11_enters_9 : decode cX11_enters 9 = .ok (.iload_n 2, 1) := by decide +kernel
theorem dX11_enters_10 : decode cX11_enters 10 = .ok (.iconst 0, 1) := by decide +kernel
theorem dX11_enters_11 : decode cX11_enters 11 = .ok (.iadd, 1) := by decide +kernel
theorem dX11_enters_12 : decode cX11_enters 12 = .ok (.dup2, 1) := by decide +kernel
theorem dX11_enters_13 : decode cX11_enters 13 = .ok (.iaload, 1) := by decide +kernel
theorem dX11_enters_14 : decode cX11_enters 14 = .ok (.iconst 1, 1) := by decide +kernel
theorem dX11_enters_15 : decode cX11_enters 15 = .ok (.iadd, 1) := by decide +kernel
theorem dX11_enters_16 : decode cX11_enters 16 = .ok (.iastore, 1) := by decide +kernel
theorem dX11_enters_17 : decode cX11_enters 17 = .ok (.aload_n 0, 1) := by decide +kernel
theorem dX11_enters_18 : decode cX11_enters 18 = .ok (.getfield 13, 3) := by decide +kernel
theorem dX11_enters_21 : decode cX11_enters 21 = .ok (.iload_n 2, 1) := by decide +kernel
theorem dX11_enters_22 : decode cX11_enters 22 = .ok (.iconst 1, 1) := by decide +kernel
theorem dX11_enters_23 : decode cX11_enters 23 = .ok (.iadd, 1) := by decide +kernel
theorem dX11_enters_24 : decode cX11_enters 24 = .ok (.dup2, 1) := by decide +kernel
theorem dX11_enters_25 : decode cX11_enters 25 = .ok (.iaload, 1) := by decide +kernel
theorem dX11_enters_26 : decode cX11_enters 26 = .ok (.iconst 1, 1) := by decide +kernel
theorem dX11_enters_27 : decode cX11_enters 27 = .ok (.iadd, 1) := by decide +kernel
theorem dX11_enters_28 : decode cX11_enters 28 = .ok (.iastore, 1) := by decide +kernel
theorem dX11_enters_29 : decode cX11_enters 29 = .ok (.aload_n 0, 1) := by decide +kernel
theorem dX11_enters_30 : decode cX11_enters 30 = .ok (.getfield 13, 3) := by decide +kernel
theorem dX11_enters_33 : decode cX11_enters 33 = .ok (.iload_n 2, 1) := by decide +kernel
theorem dX11_enters_34 : decode cX11_enters 34 = .ok (.iconst 2, 1) := by decide +kernel
theorem dX11_enters_35 : decode cX11_enters 35 = .ok (.iadd, 1) := by decide +kernel
theorem dX11_enters_36 : decode cX11_enters 36 = .ok (.aload_n 0, 1) := by decide +kernel
theorem dX11_enters_37 : decode cX11_enters 37 = .ok (.getfield 13, 3) := by decide +kernel
theorem dX11_enters_40 : decode cX11_enters 40 = .ok (.iload_n 2, 1) := by decide +kernel
theorem dX11_enters_41 : decode cX11_enters 41 = .ok (.iconst 1, 1) := by decide +kernel
theorem dX11_enters_42 : decode cX11_enters 42 = .ok (.iadd, 1) := by decide +kernel
theorem dX11_enters_43 : decode cX11_enters 43 = .ok (.iaload, 1) := by decide +kernel
theorem dX11_enters_44 : decode cX11_enters 44 = .ok (.aload_n 0, 1) := by decide +kernel
theorem dX11_enters_45 : decode cX11_enters 45 = .ok (.getfield 13, 3) := by decide +kernel
theorem dX11_enters_48 : decode cX11_enters 48 = .ok (.iload_n 2, 1) := by decide +kernel
theorem dX11_enters_49 : decode cX11_enters 49 = .ok (.iconst 2, 1) := by decide +kernel
theorem dX11_enters_50 : decode cX11_enters 50 = .ok (.iadd, 1) := by decide +kernel
theorem dX11_enters_51 : decode cX11_enters 51 = .ok (.iaload, 1) := by decide +kernel
theorem dX11_enters_52 : decode cX11_enters 52 = .ok (.if_icmp .le 14, 3) := by decide +kernel
theorem dX11_enters_55 : decode cX11_enters 55 = .ok (.aload_n 0, 1) := by decide +kernel
theorem dX11_enters_56 : decode cX11_enters 56 = .ok (.getfield 13, 3) := by decide +kernel
theorem dX11_enters_59 : decode cX11_enters 59 = .ok (.iload_n 2, 1) := by decide +kernel
theorem dX11_enters_60 : decode cX11_enters 60 = .ok (.iconst 1, 1) := by decide +kernel
theorem dX11_enters_61 : decode cX11_enters 61 = .ok (.iadd, 1) := by decide +kernel
theorem dX11_enters_62 : decode cX11_enters 62 = .ok (.iaload, 1) := by decide +kernel
theorem dX11_enters_63 : decode cX11_enters 63 = .ok (.goto 11, 3) := by decide +kernel
theorem dX11_enters_66 : decode cX11_enters 66 = .ok (.aload_n 0, 1) := by decide +kernel
theorem dX11_enters_67 : decode cX11_enters 67 = .ok (.getfield 13, 3) := by decide +kernel
theorem dX11_enters_70 : decode cX11_enters 70 = .ok (.iload_n 2, 1) := by decide +kernel
theorem dX11_enters_71 : decode cX11_enters 71 = .ok (.iconst 2, 1) := by decide +kernel
theorem dX11_enters_72 : decode cX11_enters 72 = .ok (.iadd, 1) := by decide +kernel
theorem dX11_enters_73 : decode cX11_enters 73 = .ok (.iaload, 1) := by decide +kernel
theorem dX11_enters_74 : decode cX11_enters 74 = .ok (.iastore, 1) := by decide +kernel
theorem dX11_enters_75 : decode cX11_enters 75 = .ok (.return_, 1) := by decide +kernel
theorem dX11_leaves_0 : decode cX11_leaves 0 = .ok (.aload_n 0, 1) := by decide +kernel
theorem dX11_leaves_1 : decode cX11_leaves 1 = .ok (.getfield 13, 3) := by decide +kernel
theorem dX11_leaves_4 : decode cX11_leaves 4 = .ok (.iload_n 1, 1) := by decide +kernel
theorem dX11_leaves_5 : decode cX11_leaves 5 = .ok (.invokestatic 69, 3) := by decide +kernel
theorem dX11_leaves_8 : decode cX11_leaves 8 = .ok (.iconst 1, 1) := by decide +kernel
theorem dX11_leaves_9 : decode cX11_leaves 9 = .ok (.iadd, 1) := by decide +kernel
theorem dX11_leaves_10 : decode cX11_leaves 10 = .ok (.dup2, 1) := by decide +kernel
theorem dX11_leaves_11 : decode cX11_leaves 11 = .ok (.iaload, 1) := by decide +kernel
theorem dX11_leaves_12 : decode cX11_leaves 12 = .ok (.iconst 1, 1) := by decide +kernel
theorem dX11_leaves_13 : decode cX11_leaves 13 = .ok (.isub, 1) := by decide +kernel
theorem dX11_leaves_14 : decode cX11_leaves 14 = .ok (.iastore, 1) := by decide +kernel
theorem dX11_leaves_15 : decode cX11_leaves 15 = .ok (.return_, 1) := by decide +kernel
theorem dX11_thrownOut_0 : decode cX11_thrownOut 0 = .ok (.aload_n 0, 1) := by decide +kernel
theorem dX11_thrownOut_1 : decode cX11_thrownOut 1 = .ok (.getfield 13, 3) := by decide +kernel
theorem dX11_thrownOut_4 : decode cX11_thrownOut 4 = .ok (.iload_n 1, 1) := by decide +kernel
theorem dX11_thrownOut_5 : decode cX11_thrownOut 5 = .ok (.invokestatic 69, 3) := by decide +kernel
theorem dX11_thrownOut_8 : decode cX11_thrownOut 8 = .ok (.iconst 1, 1) := by decide +kernel
theorem dX11_thrownOut_9 : decode cX11_thrownOut 9 = .ok (.iadd, 1) := by decide +kernel
theorem dX11_thrownOut_10 : decode cX11_thrownOut 10 = .ok (.dup2, 1) := by decide +kernel
theorem dX11_thrownOut_11 : decode cX11_thrownOut 11 = .ok (.iaload, 1) := by decide +kernel
theorem dX11_thrownOut_12 : decode cX11_thrownOut 12 = .ok (.iconst 1, 1) := by decide +kernel
theorem dX11_thrownOut_13 : decode cX11_thrownOut 13 = .ok (.isub, 1) := by decide +kernel
theorem dX11_thrownOut_14 : decode cX11_thrownOut 14 = .ok (.iastore, 1) := by decide +kernel
theorem dX11_thrownOut_15 : decode cX11_thrownOut 15 = .ok (.aload_n 0, 1) := by decide +kernel
theorem dX11_thrownOut_16 : decode cX11_thrownOut 16 = .ok (.getfield 13, 3) := by decide +kernel
theorem dX11_thrownOut_19 : decode cX11_thrownOut 19 = .ok (.iload_n 1, 1) := by decide +kernel
theorem dX11_thrownOut_20 : decode cX11_thrownOut 20 = .ok (.invokestatic 69, 3) := by decide +kernel
theorem dX11_thrownOut_23 : decode cX11_thrownOut 23 = .ok (.iconst 3, 1) := by decide +kernel
theorem dX11_thrownOut_24 : decode cX11_thrownOut 24 = .ok (.iadd, 1) := by decide +kernel
theorem dX11_thrownOut_25 : decode cX11_thrownOut 25 = .ok (.dup2, 1) := by decide +kernel
theorem dX11_thrownOut_26 : decode cX11_thrownOut 26 = .ok (.iaload, 1) := by decide +kernel
theorem dX11_thrownOut_27 : decode cX11_thrownOut 27 = .ok (.iconst 1, 1) := by decide +kernel
theorem dX11_thrownOut_28 : decode cX11_thrownOut 28 = .ok (.iadd, 1) := by decide +kernel
theorem dX11_thrownOut_29 : decode cX11_thrownOut 29 = .ok (.iastore, 1) := by decide +kernel
theorem dX11_thrownOut_30 : decode cX11_thrownOut 30 = .ok (.return_, 1) := by decide +kernel
theorem dX11_isKeptFor_0 : decode cX11_isKeptFor 0 = .ok (.aload_n 0, 1) := by decide +kernel
theorem dX11_isKeptFor_1 : decode cX11_isKeptFor 1 = .ok (.getfield 13, 3) := by decide +kernel
theorem dX11_isKeptFor_4 : decode cX11_isKeptFor 4 = .ok (.iload_n 1, 1) := by decide +kernel
theorem dX11_isKeptFor_5 : decode cX11_isKeptFor 5 = .ok (.invokestatic 54, 3) := by decide +kernel
theorem dX11_isKeptFor_8 : decode cX11_isKeptFor 8 = .ok (.iconst 5, 1) := by decide +kernel
theorem dX11_isKeptFor_9 : decode cX11_isKeptFor 9 = .ok (.iadd, 1) := by decide +kernel
theorem dX11_isKeptFor_10 : decode cX11_isKeptFor 10 = .ok (.iaload, 1) := by decide +kernel
theorem dX11_isKeptFor_11 : decode cX11_isKeptFor 11 = .ok (.iconst (-1), 1) := by decide +kernel
theorem dX11_isKeptFor_12 : decode cX11_isKeptFor 12 = .ok (.if_icmp .eq 22, 3) := by decide +kernel
theorem dX11_isKeptFor_15 : decode cX11_isKeptFor 15 = .ok (.aload_n 0, 1) := by decide +kernel
theorem dX11_isKeptFor_16 : decode cX11_isKeptFor 16 = .ok (.getfield 13, 3) := by decide +kernel
theorem dX11_isKeptFor_19 : decode cX11_isKeptFor 19 = .ok (.iload_n 1, 1) := by decide +kernel
theorem dX11_isKeptFor_20 : decode cX11_isKeptFor 20 = .ok (.invokestatic 54, 3) := by decide +kernel
theorem dX11_isKeptFor_23 : decode cX11_isKeptFor 23 = .ok (.iconst 5, 1) := by decide +kernel
theorem dX11_isKeptFor_24 : decode cX11_isKeptFor 24 = .ok (.iadd, 1) := by decide +kernel
theorem dX11_isKeptFor_25 : decode cX11_isKeptFor 25 = .ok (.iaload, 1) := by decide +kernel
theorem dX11_isKeptFor_26 : decode cX11_isKeptFor 26 = .ok (.iload_n 2, 1) := by decide +kernel
theorem dX11_isKeptFor_27 : decode cX11_isKeptFor 27 = .ok (.if_icmp .eq 7, 3) := by decide +kernel
theorem dX11_isKeptFor_30 : decode cX11_isKeptFor 30 = .ok (.iconst 1, 1) := by decide +kernel
theorem dX11_isKeptFor_31 : decode cX11_isKeptFor 31 = .ok (.goto 4, 3) := by decide +kernel
theorem dX11_isKeptFor_34 : decode cX11_isKeptFor 34 = .ok (.iconst 0, 1) := by decide +kernel
theorem dX11_isKeptFor_35 : decode cX11_isKeptFor 35 = .ok (.ireturn, 1) := by decide +kernel
theorem dX11_put_0 : decode cX11_put 0 = .ok (.iload_n 1, 1) := by decide +kernel
theorem dX11_put_1 : decode cX11_put 1 = .ok (.invokestatic 54, 3) := by decide +kernel
theorem dX11_put_4 : decode cX11_put 4 = .ok (.istore 4, 2) := by decide +kernel
theorem dX11_put_6 : decode cX11_put 6 = .ok (.aload_n 0, 1) := by decide +kernel
theorem dX11_put_7 : decode cX11_put 7 = .ok (.iload_n 1, 1) := by decide +kernel
theorem dX11_put_8 : decode cX11_put 8 = .ok (.invokevirtual 72, 3) := by decide +kernel
theorem dX11_put_11 : decode cX11_put 11 = .ok (.aload_n 0, 1) := by decide +kernel
theorem dX11_put_12 : decode cX11_put 12 = .ok (.getfield 13, 3) := by decide +kernel
theorem dX11_put_15 : decode cX11_put 15 = .ok (.iload 4, 2) := by decide +kernel
theorem dX11_put_17 : decode cX11_put 17 = .ok (.iconst 0, 1) := by decide +kernel
theorem dX11_put_18 : decode cX11_put 18 = .ok (.iadd, 1) := by decide +kernel
theorem dX11_put_19 : decode cX11_put 19 = .ok (.iaload, 1) := by decide +kernel
theorem dX11_put_20 : decode cX11_put 20 = .ok (.aload_n 0, 1) := by decide +kernel
theorem dX11_put_21 : decode cX11_put 21 = .ok (.getfield 13, 3) := by decide +kernel
theorem dX11_put_24 : decode cX11_put 24 = .ok (.iload 4, 2) := by decide +kernel
theorem dX11_put_26 : decode cX11_put 26 = .ok (.iconst 1, 1) := by decide +kernel
theorem dX11_put_27 : decode cX11_put 27 = .ok (.iadd, 1) := by decide +kernel
theorem dX11_put_28 : decode cX11_put 28 = .ok (.iaload, 1) := by decide +kernel
theorem dX11_put_29 : decode cX11_put 29 = .ok (.if_icmp .ge 12, 3) := by decide +kernel
theorem dX11_put_32 : decode cX11_put 32 = .ok (.aload_n 0, 1) := by decide +kernel
theorem dX11_put_33 : decode cX11_put 33 = .ok (.iload_n 1, 1) := by decide +kernel
theorem dX11_put_34 : decode cX11_put 34 = .ok (.iload_n 3, 1) := by decide +kernel
theorem dX11_put_35 : decode cX11_put 35 = .ok (.invokevirtual 75, 3) := by decide +kernel
theorem dX11_put_38 : decode cX11_put 38 = .ok (.ifCond .eq 10, 3) := by decide +kernel
theorem dX11_put_41 : decode cX11_put 41 = .ok (.aload_n 0, 1) := by decide +kernel
theorem dX11_put_42 : decode cX11_put 42 = .ok (.iload_n 1, 1) := by decide +kernel
theorem dX11_put_43 : decode cX11_put 43 = .ok (.invokevirtual 79, 3) := by decide +kernel
theorem dX11_put_46 : decode cX11_put 46 = .ok (.iconst 0, 1) := by decide +kernel
theorem dX11_put_47 : decode cX11_put 47 = .ok (.ireturn, 1) := by decide +kernel
theorem dX11_put_48 : decode cX11_put 48 = .ok (.aload_n 0, 1) := by decide +kernel
theorem dX11_put_49 : decode cX11_put 49 = .ok (.getfield 13, 3) := by decide +kernel
theorem dX11_put_52 : decode cX11_put 52 = .ok (.iload 4, 2) := by decide +kernel
theorem dX11_put_54 : decode cX11_put 54 = .ok (.bipush 14, 2) := by decide +kernel
theorem dX11_put_56 : decode cX11_put 56 = .ok (.iadd, 1) := by decide +kernel
theorem dX11_put_57 : decode cX11_put 57 = .ok (.aload_n 0, 1) := by decide +kernel
theorem dX11_put_58 : decode cX11_put 58 = .ok (.getfield 13, 3) := by decide +kernel
theorem dX11_put_61 : decode cX11_put 61 = .ok (.iload 4, 2) := by decide +kernel
theorem dX11_put_63 : decode cX11_put 63 = .ok (.iconst 0, 1) := by decide +kernel
theorem dX11_put_64 : decode cX11_put 64 = .ok (.iadd, 1) := by decide +kernel
theorem dX11_put_65 : decode cX11_put 65 = .ok (.iaload, 1) := by decide +kernel
theorem dX11_put_66 : decode cX11_put 66 = .ok (.iadd, 1) := by decide +kernel
theorem dX11_put_67 : decode cX11_put 67 = .ok (.iload_n 2, 1) := by decide +kernel
theorem dX11_put_68 : decode cX11_put 68 = .ok (.iastore, 1) := by decide +kernel
theorem dX11_put_69 : decode cX11_put 69 = .ok (.aload_n 0, 1) := by decide +kernel
theorem dX11_put_70 : decode cX11_put 70 = .ok (.getfield 13, 3) := by decide +kernel
theorem dX11_put_73 : decode cX11_put 73 = .ok (.iload 4, 2) := by decide +kernel
theorem dX11_put_75 : decode cX11_put 75 = .ok (.iconst 0, 1) := by decide +kernel
theorem dX11_put_76 : decode cX11_put 76 = .ok (.iadd, 1) := by decide +kernel
theorem dX11_put_77 : decode cX11_put 77 = .ok (.dup2, 1) := by decide +kernel
theorem dX11_put_78 : decode cX11_put 78 = .ok (.iaload, 1) := by decide +kernel
theorem dX11_put_79 : decode cX11_put 79 = .ok (.iconst 1, 1) := by decide +kernel
theorem dX11_put_80 : decode cX11_put 80 = .ok (.iadd, 1) := by decide +kernel
theorem dX11_put_81 : decode cX11_put 81 = .ok (.iastore, 1) := by decide +kernel
theorem dX11_put_82 : decode cX11_put 82 = .ok (.aload_n 0, 1) := by decide +kernel
theorem dX11_put_83 : decode cX11_put 83 = .ok (.getfield 13, 3) := by decide +kernel
theorem dX11_put_86 : decode cX11_put 86 = .ok (.iload 4, 2) := by decide +kernel
theorem dX11_put_88 : decode cX11_put 88 = .ok (.iconst 2, 1) := by decide +kernel
theorem dX11_put_89 : decode cX11_put 89 = .ok (.iadd, 1) := by decide +kernel
theorem dX11_put_90 : decode cX11_put 90 = .ok (.dup2, 1) := by decide +kernel
theorem dX11_put_91 : decode cX11_put 91 = .ok (.iaload, 1) := by decide +kernel
theorem dX11_put_92 : decode cX11_put 92 = .ok (.iconst 1, 1) := by decide +kernel
theorem dX11_put_93 : decode cX11_put 93 = .ok (.iadd, 1) := by decide +kernel
theorem dX11_put_94 : decode cX11_put 94 = .ok (.iastore, 1) := by decide +kernel
theorem dX11_put_95 : decode cX11_put 95 = .ok (.aload_n 0, 1) := by decide +kernel
theorem dX11_put_96 : decode cX11_put 96 = .ok (.getfield 13, 3) := by decide +kernel
theorem dX11_put_99 : decode cX11_put 99 = .ok (.iload 4, 2) := by decide +kernel
theorem dX11_put_101 : decode cX11_put 101 = .ok (.iconst 4, 1) := by decide +kernel
theorem dX11_put_102 : decode cX11_put 102 = .ok (.iadd, 1) := by decide +kernel
theorem dX11_put_103 : decode cX11_put 103 = .ok (.aload_n 0, 1) := by decide +kernel
theorem dX11_put_104 : decode cX11_put 104 = .ok (.getfield 13, 3) := by decide +kernel
theorem dX11_put_107 : decode cX11_put 107 = .ok (.iload 4, 2) := by decide +kernel
theorem dX11_put_109 : decode cX11_put 109 = .ok (.iconst 0, 1) := by decide +kernel
theorem dX11_put_110 : decode cX11_put 110 = .ok (.iadd, 1) := by decide +kernel
theorem dX11_put_111 : decode cX11_put 111 = .ok (.iaload, 1) := by decide +kernel
theorem dX11_put_112 : decode cX11_put 112 = .ok (.aload_n 0, 1) := by decide +kernel
theorem dX11_put_113 : decode cX11_put 113 = .ok (.getfield 13, 3) := by decide +kernel
theorem dX11_put_116 : decode cX11_put 116 = .ok (.iload 4, 2) := by decide +kernel
theorem dX11_put_118 : decode cX11_put 118 = .ok (.iconst 4, 1) := by decide +kernel
theorem dX11_put_119 : decode cX11_put 119 = .ok (.iadd, 1) := by decide +kernel
theorem dX11_put_120 : decode cX11_put 120 = .ok (.iaload, 1) := by decide +kernel
theorem dX11_put_121 : decode cX11_put 121 = .ok (.if_icmp .le 15, 3) := by decide +kernel
theorem dX11_put_124 : decode cX11_put 124 = .ok (.aload_n 0, 1) := by decide +kernel
theorem dX11_put_125 : decode cX11_put 125 = .ok (.getfield 13, 3) := by decide +kernel
theorem dX11_put_128 : decode cX11_put 128 = .ok (.iload 4, 2) := by decide +kernel
theorem dX11_put_130 : decode cX11_put 130 = .ok (.iconst 0, 1) := by decide +kernel
theorem dX11_put_131 : decode cX11_put 131 = .ok (.iadd, 1) := by decide +kernel
theorem dX11_put_132 : decode cX11_put 132 = .ok (.iaload, 1) := by decide +kernel
theorem dX11_put_133 : decode cX11_put 133 = .ok (.goto 12, 3) := by decide +kernel
theorem dX11_put_136 : decode cX11_put 136 = .ok (.aload_n 0, 1) := by decide +kernel
theorem dX11_put_137 : decode cX11_put 137 = .ok (.getfield 13, 3) := by decide +kernel
theorem dX11_put_140 : decode cX11_put 140 = .ok (.iload 4, 2) := by decide +kernel
theorem dX11_put_142 : decode cX11_put 142 = .ok (.iconst 4, 1) := by decide +kernel
end
section
theorem dX11_put_143 : decode cX11_put 143 = .ok (.iadd, 1) := by decide +kernel
theorem dX11_put_144 : decode cX11_put 144 = .ok (.iaload, 1) := by decide +kernel
theorem dX11_put_145 : decode cX11_put 145 = .ok (.iastore, 1) := by decide +kernel
theorem dX11_put_146 : decode cX11_put 146 = .ok (.aload_n 0, 1) := by decide +kernel
theorem dX11_put_147 : decode cX11_put 147 = .ok (.iload_n 1, 1) := by decide +kernel
theorem dX11_put_148 : decode cX11_put 148 = .ok (.invokevirtual 82, 3) := by decide +kernel
theorem dX11_put_151 : decode cX11_put 151 = .ok (.iconst 1, 1) := by decide +kernel
theorem dX11_put_152 : decode cX11_put 152 = .ok (.ireturn, 1) := by decide +kernel
theorem dX11_firstOf_0 : decode cX11_firstOf 0 = .ok (.iload_n 1, 1) := by decide +kernel
theorem dX11_firstOf_1 : decode cX11_firstOf 1 = .ok (.invokestatic 54, 3) := by decide +kernel
theorem dX11_firstOf_4 : decode cX11_firstOf 4 = .ok (.istore_n 2, 1) := by decide +kernel
theorem dX11_firstOf_5 : decode cX11_firstOf 5 = .ok (.aload_n 0, 1) := by decide +kernel
theorem dX11_firstOf_6 : decode cX11_firstOf 6 = .ok (.getfield 13, 3) := by decide +kernel
theorem dX11_firstOf_9 : decode cX11_firstOf 9 = .ok (.iload_n 2, 1) := by decide +kernel
theorem dX11_firstOf_10 : decode cX11_firstOf 10 = .ok (.bipush 14, 2) := by decide +kernel
theorem dX11_firstOf_12 : decode cX11_firstOf 12 = .ok (.iadd, 1) := by decide +kernel
theorem dX11_firstOf_13 : decode cX11_firstOf 13 = .ok (.iaload, 1) := by decide +kernel
theorem dX11_firstOf_14 : decode cX11_firstOf 14 = .ok (.istore_n 3, 1) := by decide +kernel
theorem dX11_firstOf_15 : decode cX11_firstOf 15 = .ok (.aload_n 0, 1) := by decide +kernel
theorem dX11_firstOf_16 : decode cX11_firstOf 16 = .ok (.getfield 13, 3) := by decide +kernel
theorem dX11_firstOf_19 : decode cX11_firstOf 19 = .ok (.iload_n 2, 1) := by decide +kernel
theorem dX11_firstOf_20 : decode cX11_firstOf 20 = .ok (.iconst 0, 1) := by decide +kernel
theorem dX11_firstOf_21 : decode cX11_firstOf 21 = .ok (.iadd, 1) := by decide +kernel
theorem dX11_firstOf_22 : decode cX11_firstOf 22 = .ok (.dup2, 1) := by decide +kernel
theorem dX11_firstOf_23 : decode cX11_firstOf 23 = .ok (.iaload, 1) := by decide +kernel
theorem dX11_firstOf_24 : decode cX11_firstOf 24 = .ok (.iconst 1, 1) := by decide +kernel
theorem dX11_firstOf_25 : decode cX11_firstOf 25 = .ok (.isub, 1) := by decide +kernel
theorem dX11_firstOf_26 : decode cX11_firstOf 26 = .ok (.iastore, 1) := by decide +kernel
theorem dX11_firstOf_27 : decode cX11_firstOf 27 = .ok (.iconst 0, 1) := by decide +kernel
theorem dX11_firstOf_28 : decode cX11_firstOf 28 = .ok (.istore 4, 2) := by decide +kernel
theorem dX11_firstOf_30 : decode cX11_firstOf 30 = .ok (.iload 4, 2) := by decide +kernel
theorem dX11_firstOf_32 : decode cX11_firstOf 32 = .ok (.aload_n 0, 1) := by decide +kernel
theorem dX11_firstOf_33 : decode cX11_firstOf 33 = .ok (.getfield 13, 3) := by decide +kernel
theorem dX11_firstOf_36 : decode cX11_firstOf 36 = .ok (.iload_n 2, 1) := by decide +kernel
theorem dX11_firstOf_37 : decode cX11_firstOf 37 = .ok (.iconst 0, 1) := by decide +kernel
theorem dX11_firstOf_38 : decode cX11_firstOf 38 = .ok (.iadd, 1) := by decide +kernel
theorem dX11_firstOf_39 : decode cX11_firstOf 39 = .ok (.iaload, 1) := by decide +kernel
theorem dX11_firstOf_40 : decode cX11_firstOf 40 = .ok (.if_icmp .ge 35, 3) := by decide +kernel
theorem dX11_firstOf_43 : decode cX11_firstOf 43 = .ok (.aload_n 0, 1) := by decide +kernel
theorem dX11_firstOf_44 : decode cX11_firstOf 44 = .ok (.getfield 13, 3) := by decide +kernel
theorem dX11_firstOf_47 : decode cX11_firstOf 47 = .ok (.iload_n 2, 1) := by decide +kernel
theorem dX11_firstOf_48 : decode cX11_firstOf 48 = .ok (.bipush 14, 2) := by decide +kernel
theorem dX11_firstOf_50 : decode cX11_firstOf 50 = .ok (.iadd, 1) := by decide +kernel
theorem dX11_firstOf_51 : decode cX11_firstOf 51 = .ok (.iload 4, 2) := by decide +kernel
theorem dX11_firstOf_53 : decode cX11_firstOf 53 = .ok (.iadd, 1) := by decide +kernel
theorem dX11_firstOf_54 : decode cX11_firstOf 54 = .ok (.aload_n 0, 1) := by decide +kernel
theorem dX11_firstOf_55 : decode cX11_firstOf 55 = .ok (.getfield 13, 3) := by decide +kernel
theorem dX11_firstOf_58 : decode cX11_firstOf 58 = .ok (.iload_n 2, 1) := by decide +kernel
theorem dX11_firstOf_59 : decode cX11_firstOf 59 = .ok (.bipush 14, 2) := by decide +kernel
theorem dX11_firstOf_61 : decode cX11_firstOf 61 = .ok (.iadd, 1) := by decide +kernel
theorem dX11_firstOf_62 : decode cX11_firstOf 62 = .ok (.iload 4, 2) := by decide +kernel
theorem dX11_firstOf_64 : decode cX11_firstOf 64 = .ok (.iadd, 1) := by decide +kernel
theorem dX11_firstOf_65 : decode cX11_firstOf 65 = .ok (.iconst 1, 1) := by decide +kernel
theorem dX11_firstOf_66 : decode cX11_firstOf 66 = .ok (.iadd, 1) := by decide +kernel
theorem dX11_firstOf_67 : decode cX11_firstOf 67 = .ok (.iaload, 1) := by decide +kernel
theorem dX11_firstOf_68 : decode cX11_firstOf 68 = .ok (.iastore, 1) := by decide +kernel
theorem dX11_firstOf_69 : decode cX11_firstOf 69 = .ok (.iinc 4 1, 3) := by decide +kernel
theorem dX11_firstOf_72 : decode cX11_firstOf 72 = .ok (.goto (-42), 3) := by decide +kernel
theorem dX11_firstOf_75 : decode cX11_firstOf 75 = .ok (.aload_n 0, 1) := by decide +kernel
theorem dX11_firstOf_76 : decode cX11_firstOf 76 = .ok (.getfield 13, 3) := by decide +kernel
theorem dX11_firstOf_79 : decode cX11_firstOf 79 = .ok (.iload_n 2, 1) := by decide +kernel
theorem dX11_firstOf_80 : decode cX11_firstOf 80 = .ok (.iconst 3, 1) := by decide +kernel
theorem dX11_firstOf_81 : decode cX11_firstOf 81 = .ok (.iadd, 1) := by decide +kernel
theorem dX11_firstOf_82 : decode cX11_firstOf 82 = .ok (.dup2, 1) := by decide +kernel
theorem dX11_firstOf_83 : decode cX11_firstOf 83 = .ok (.iaload, 1) := by decide +kernel
theorem dX11_firstOf_84 : decode cX11_firstOf 84 = .ok (.iconst 1, 1) := by decide +kernel
theorem dX11_firstOf_85 : decode cX11_firstOf 85 = .ok (.iadd, 1) := by decide +kernel
theorem dX11_firstOf_86 : decode cX11_firstOf 86 = .ok (.iastore, 1) := by decide +kernel
theorem dX11_firstOf_87 : decode cX11_firstOf 87 = .ok (.iload_n 3, 1) := by decide +kernel
theorem dX11_firstOf_88 : decode cX11_firstOf 88 = .ok (.ireturn, 1) := by decide +kernel
theorem dX11_take_0 : decode cX11_take 0 = .ok (.aload_n 0, 1) := by decide +kernel
theorem dX11_take_1 : decode cX11_take 1 = .ok (.iload_n 1, 1) := by decide +kernel
theorem dX11_take_2 : decode cX11_take 2 = .ok (.invokevirtual 72, 3) := by decide +kernel
theorem dX11_take_5 : decode cX11_take 5 = .ok (.aload_n 0, 1) := by decide +kernel
theorem dX11_take_6 : decode cX11_take 6 = .ok (.getfield 13, 3) := by decide +kernel
theorem dX11_take_9 : decode cX11_take 9 = .ok (.iload_n 1, 1) := by decide +kernel
theorem dX11_take_10 : decode cX11_take 10 = .ok (.invokestatic 54, 3) := by decide +kernel
theorem dX11_take_13 : decode cX11_take 13 = .ok (.iconst 0, 1) := by decide +kernel
theorem dX11_take_14 : decode cX11_take 14 = .ok (.iadd, 1) := by decide +kernel
theorem dX11_take_15 : decode cX11_take 15 = .ok (.iaload, 1) := by decide +kernel
theorem dX11_take_16 : decode cX11_take 16 = .ok (.ifCond .eq 12, 3) := by decide +kernel
theorem dX11_take_19 : decode cX11_take 19 = .ok (.aload_n 0, 1) := by decide +kernel
theorem dX11_take_20 : decode cX11_take 20 = .ok (.iload_n 1, 1) := by decide +kernel
theorem dX11_take_21 : decode cX11_take 21 = .ok (.iload_n 2, 1) := by decide +kernel
theorem dX11_take_22 : decode cX11_take 22 = .ok (.invokevirtual 75, 3) := by decide +kernel
theorem dX11_take_25 : decode cX11_take 25 = .ok (.ifCond .eq 10, 3) := by decide +kernel
theorem dX11_take_28 : decode cX11_take 28 = .ok (.aload_n 0, 1) := by decide +kernel
theorem dX11_take_29 : decode cX11_take 29 = .ok (.iload_n 1, 1) := by decide +kernel
theorem dX11_take_30 : decode cX11_take 30 = .ok (.invokevirtual 79, 3) := by decide +kernel
theorem dX11_take_33 : decode cX11_take 33 = .ok (.iconst (-1), 1) := by decide +kernel
theorem dX11_take_34 : decode cX11_take 34 = .ok (.ireturn, 1) := by decide +kernel
theorem dX11_take_35 : decode cX11_take 35 = .ok (.aload_n 0, 1) := by decide +kernel
theorem dX11_take_36 : decode cX11_take 36 = .ok (.iload_n 1, 1) := by decide +kernel
theorem dX11_take_37 : decode cX11_take 37 = .ok (.invokevirtual 85, 3) := by decide +kernel
theorem dX11_take_40 : decode cX11_take 40 = .ok (.istore_n 3, 1) := by decide +kernel
theorem dX11_take_41 : decode cX11_take 41 = .ok (.aload_n 0, 1) := by decide +kernel
theorem dX11_take_42 : decode cX11_take 42 = .ok (.iload_n 1, 1) := by decide +kernel
theorem dX11_take_43 : decode cX11_take 43 = .ok (.invokevirtual 82, 3) := by decide +kernel
theorem dX11_take_46 : decode cX11_take 46 = .ok (.iload_n 3, 1) := by decide +kernel
theorem dX11_take_47 : decode cX11_take 47 = .ok (.ireturn, 1) := by decide +kernel
theorem dX11_firstAgain_0 : decode cX11_firstAgain 0 = .ok (.iload_n 1, 1) := by decide +kernel
theorem dX11_firstAgain_1 : decode cX11_firstAgain 1 = .ok (.invokestatic 54, 3) := by decide +kernel
theorem dX11_firstAgain_4 : decode cX11_firstAgain 4 = .ok (.istore_n 3, 1) := by decide +kernel
theorem dX11_firstAgain_5 : decode cX11_firstAgain 5 = .ok (.aload_n 0, 1) := by decide +kernel
theorem dX11_firstAgain_6 : decode cX11_firstAgain 6 = .ok (.getfield 13, 3) := by decide +kernel
theorem dX11_firstAgain_9 : decode cX11_firstAgain 9 = .ok (.iload_n 3, 1) := by decide +kernel
theorem dX11_firstAgain_10 : decode cX11_firstAgain 10 = .ok (.iconst 0, 1) := by decide +kernel
theorem dX11_firstAgain_11 : decode cX11_firstAgain 11 = .ok (.iadd, 1) := by decide +kernel
theorem dX11_firstAgain_12 : decode cX11_firstAgain 12 = .ok (.iaload, 1) := by decide +kernel
theorem dX11_firstAgain_13 : decode cX11_firstAgain 13 = .ok (.istore 4, 2) := by decide +kernel
theorem dX11_firstAgain_15 : decode cX11_firstAgain 15 = .ok (.iload 4, 2) := by decide +kernel
theorem dX11_firstAgain_17 : decode cX11_firstAgain 17 = .ok (.ifCond .le 35, 3) := by decide +kernel
theorem dX11_firstAgain_20 : decode cX11_firstAgain 20 = .ok (.aload_n 0, 1) := by decide +kernel
theorem dX11_firstAgain_21 : decode cX11_firstAgain 21 = .ok (.getfield 13, 3) := by decide +kernel
theorem dX11_firstAgain_24 : decode cX11_firstAgain 24 = .ok (.iload_n 3, 1) := by decide +kernel
theorem dX11_firstAgain_25 : decode cX11_firstAgain 25 = .ok (.bipush 14, 2) := by decide +kernel
theorem dX11_firstAgain_27 : decode cX11_firstAgain 27 = .ok (.iadd, 1) := by decide +kernel
theorem dX11_firstAgain_28 : decode cX11_firstAgain 28 = .ok (.iload 4, 2) := by decide +kernel
theorem dX11_firstAgain_30 : decode cX11_firstAgain 30 = .ok (.iadd, 1) := by decide +kernel
theorem dX11_firstAgain_31 : decode cX11_firstAgain 31 = .ok (.aload_n 0, 1) := by decide +kernel
theorem dX11_firstAgain_32 : decode cX11_firstAgain 32 = .ok (.getfield 13, 3) := by decide +kernel
theorem dX11_firstAgain_35 : decode cX11_firstAgain 35 = .ok (.iload_n 3, 1) := by decide +kernel
theorem dX11_firstAgain_36 : decode cX11_firstAgain 36 = .ok (.bipush 14, 2) := by decide +kernel
theorem dX11_firstAgain_38 : decode cX11_firstAgain 38 = .ok (.iadd, 1) := by decide +kernel
theorem dX11_firstAgain_39 : decode cX11_firstAgain 39 = .ok (.iload 4, 2) := by decide +kernel
theorem dX11_firstAgain_41 : decode cX11_firstAgain 41 = .ok (.iadd, 1) := by decide +kernel
theorem dX11_firstAgain_42 : decode cX11_firstAgain 42 = .ok (.iconst 1, 1) := by decide +kernel
theorem dX11_firstAgain_43 : decode cX11_firstAgain 43 = .ok (.isub, 1) := by decide +kernel
theorem dX11_firstAgain_44 : decode cX11_firstAgain 44 = .ok (.iaload, 1) := by decide +kernel
theorem dX11_firstAgain_45 : decode cX11_firstAgain 45 = .ok (.iastore, 1) := by decide +kernel
theorem dX11_firstAgain_46 : decode cX11_firstAgain 46 = .ok (.iinc 4 (-1), 3) := by decide +kernel
theorem dX11_firstAgain_49 : decode cX11_firstAgain 49 = .ok (.goto (-34), 3) := by decide +kernel
theorem dX11_firstAgain_52 : decode cX11_firstAgain 52 = .ok (.aload_n 0, 1) := by decide +kernel
theorem dX11_firstAgain_53 : decode cX11_firstAgain 53 = .ok (.getfield 13, 3) := by decide +kernel
theorem dX11_firstAgain_56 : decode cX11_firstAgain 56 = .ok (.iload_n 3, 1) := by decide +kernel
theorem dX11_firstAgain_57 : decode cX11_firstAgain 57 = .ok (.bipush 14, 2) := by decide +kernel
theorem dX11_firstAgain_59 : decode cX11_firstAgain 59 = .ok (.iadd, 1) := by decide +kernel
theorem dX11_firstAgain_60 : decode cX11_firstAgain 60 = .ok (.iload_n 2, 1) := by decide +kernel
theorem dX11_firstAgain_61 : decode cX11_firstAgain 61 = .ok (.iastore, 1) := by decide +kernel
theorem dX11_firstAgain_62 : decode cX11_firstAgain 62 = .ok (.aload_n 0, 1) := by decide +kernel
theorem dX11_firstAgain_63 : decode cX11_firstAgain 63 = .ok (.getfield 13, 3) := by decide +kernel
theorem dX11_firstAgain_66 : decode cX11_firstAgain 66 = .ok (.iload_n 3, 1) := by decide +kernel
theorem dX11_firstAgain_67 : decode cX11_firstAgain 67 = .ok (.iconst 0, 1) := by decide +kernel
theorem dX11_firstAgain_68 : decode cX11_firstAgain 68 = .ok (.iadd, 1) := by decide +kernel
theorem dX11_firstAgain_69 : decode cX11_firstAgain 69 = .ok (.dup2, 1) := by decide +kernel
theorem dX11_firstAgain_70 : decode cX11_firstAgain 70 = .ok (.iaload, 1) := by decide +kernel
theorem dX11_firstAgain_71 : decode cX11_firstAgain 71 = .ok (.iconst 1, 1) := by decide +kernel
theorem dX11_firstAgain_72 : decode cX11_firstAgain 72 = .ok (.iadd, 1) := by decide +kernel
theorem dX11_firstAgain_73 : decode cX11_firstAgain 73 = .ok (.iastore, 1) := by decide +kernel
theorem dX11_firstAgain_74 : decode cX11_firstAgain 74 = .ok (.return_, 1) := by decide +kernel
theorem dX11_lesser_0 : decode cX11_lesser 0 = .ok (.iload_n 0, 1) := by decide +kernel
theorem dX11_lesser_1 : decode cX11_lesser 1 = .ok (.iload_n 1, 1) := by decide +kernel
theorem dX11_lesser_2 : decode cX11_lesser 2 = .ok (.if_icmp .ge 7, 3) := by decide +kernel
theorem dX11_lesser_5 : decode cX11_lesser 5 = .ok (.iload_n 0, 1) := by decide +kernel
theorem dX11_lesser_6 : decode cX11_lesser 6 = .ok (.goto 4, 3) := by decide +kernel
theorem dX11_lesser_9 : decode cX11_lesser 9 = .ok (.iload_n 1, 1) := by decide +kernel
theorem dX11_lesser_10 : decode cX11_lesser 10 = .ok (.ireturn, 1) := by decide +kernel
theorem dX11_greater_0 : decode cX11_greater 0 = .ok (.iload_n 0, 1) := by decide +kernel
theorem dX11_greater_1 : decode cX11_greater 1 = .ok (.iload_n 1, 1) := by decide +kernel
theorem dX11_greater_2 : decode cX11_greater 2 = .ok (.if_icmp .le 7, 3) := by decide +kernel
theorem dX11_greater_5 : decode cX11_greater 5 = .ok (.iload_n 0, 1) := by decide +kernel
theorem dX11_greater_6 : decode cX11_greater 6 = .ok (.goto 4, 3) := by decide +kernel
theorem dX11_greater_9 : decode cX11_greater 9 = .ok (.iload_n 1, 1) := by decide +kernel
theorem dX11_greater_10 : decode cX11_greater 10 = .ok (.ireturn, 1) := by decide +kernel
theorem dX11_move_0 : decode cX11_move 0 = .ok (.iload_n 1, 1) := by decide +kernel
theorem dX11_move_1 : decode cX11_move 1 = .ok (.iload_n 2, 1) := by decide +kernel
theorem dX11_move_2 : decode cX11_move 2 = .ok (.invokestatic 88, 3) := by decide +kernel
theorem dX11_move_5 : decode cX11_move 5 = .ok (.istore 4, 2) := by decide +kernel
theorem dX11_move_7 : decode cX11_move 7 = .ok (.iload_n 1, 1) := by decide +kernel
theorem dX11_move_8 : decode cX11_move 8 = .ok (.iload_n 2, 1) := by decide +kernel
theorem dX11_move_9 : decode cX11_move 9 = .ok (.invokestatic 92, 3) := by decide +kernel
theorem dX11_move_12 : decode cX11_move 12 = .ok (.istore 5, 2) := by decide +kernel
theorem dX11_move_14 : decode cX11_move 14 = .ok (.aload_n 0, 1) := by decide +kernel
theorem dX11_move_15 : decode cX11_move 15 = .ok (.iload 4, 2) := by decide +kernel
theorem dX11_move_17 : decode cX11_move 17 = .ok (.invokevirtual 72, 3) := by decide +kernel
theorem dX11_move_20 : decode cX11_move 20 = .ok (.aload_n 0, 1) := by decide +kernel
theorem dX11_move_21 : decode cX11_move 21 = .ok (.iload 5, 2) := by decide +kernel
theorem dX11_move_23 : decode cX11_move 23 = .ok (.invokevirtual 72, 3) := by decide +kernel
theorem dX11_move_26 : decode cX11_move 26 = .ok (.iconst 0, 1) := by decide +kernel
theorem dX11_move_27 : decode cX11_move 27 = .ok (.istore 6, 2) := by decide +kernel
theorem dX11_move_29 : decode cX11_move 29 = .ok (.iconst 0, 1) := by decide +kernel
theorem dX11_move_30 : decode cX11_move 30 = .ok (.istore 7, 2) := by decide +kernel
theorem dX11_move_32 : decode cX11_move 32 = .ok (.iload 6, 2) := by decide +kernel
theorem dX11_move_34 : decode cX11_move 34 = .ok (.iload_n 3, 1) := by decide +kernel
theorem dX11_move_35 : decode cX11_move 35 = .ok (.if_icmp .ge 73, 3) := by decide +kernel
theorem dX11_move_38 : decode cX11_move 38 = .ok (.iload 7, 2) := by decide +kernel
theorem dX11_move_40 : decode cX11_move 40 = .ok (.ifCond .ne 68, 3) := by decide +kernel
theorem dX11_move_43 : decode cX11_move 43 = .ok (.aload_n 0, 1) := by decide +kernel
theorem dX11_move_44 : decode cX11_move 44 = .ok (.iload_n 1, 1) := by decide +kernel
theorem dX11_move_45 : decode cX11_move 45 = .ok (.iconst (-1), 1) := by decide +kernel
theorem dX11_move_46 : decode cX11_move 46 = .ok (.invokevirtual 95, 3) := by decide +kernel
theorem dX11_move_49 : decode cX11_move 49 = .ok (.istore 8, 2) := by decide +kernel
theorem dX11_move_51 : decode cX11_move 51 = .ok (.iload 8, 2) := by decide +kernel
theorem dX11_move_53 : decode cX11_move 53 = .ok (.iconst (-1), 1) := by decide +kernel
theorem dX11_move_54 : decode cX11_move 54 = .ok (.if_icmp .ne 7, 3) := by decide +kernel
theorem dX11_move_57 : decode cX11_move 57 = .ok (.iconst 1, 1) := by decide +kernel
theorem dX11_move_58 : decode cX11_move 58 = .ok (.goto 4, 3) := by decide +kernel
theorem dX11_move_61 : decode cX11_move 61 = .ok (.iconst 0, 1) := by decide +kernel
theorem dX11_move_62 : decode cX11_move 62 = .ok (.istore 7, 2) := by decide +kernel
theorem dX11_move_64 : decode cX11_move 64 = .ok (.iload 7, 2) := by decide +kernel
theorem dX11_move_66 : decode cX11_move 66 = .ok (.ifCond .ne 24, 3) := by decide +kernel
theorem dX11_move_69 : decode cX11_move 69 = .ok (.aload_n 0, 1) := by decide +kernel
theorem dX11_move_70 : decode cX11_move 70 = .ok (.iload_n 2, 1) := by decide +kernel
theorem dX11_move_71 : decode cX11_move 71 = .ok (.iload 8, 2) := by decide +kernel
theorem dX11_move_73 : decode cX11_move 73 = .ok (.iconst (-1), 1) := by decide +kernel
theorem dX11_move_74 : decode cX11_move 74 = .ok (.invokevirtual 98, 3) := by decide +kernel
theorem dX11_move_77 : decode cX11_move 77 = .ok (.ifCond .ne 13, 3) := by decide +kernel
theorem dX11_move_80 : decode cX11_move 80 = .ok (.aload_n 0, 1) := by decide +kernel
theorem dX11_move_81 : decode cX11_move 81 = .ok (.iload_n 1, 1) := by decide +kernel
theorem dX11_move_82 : decode cX11_move 82 = .ok (.iload 8, 2) := by decide +kernel
theorem dX11_move_84 : decode cX11_move 84 = .ok (.invokevirtual 101, 3) := by decide +kernel
theorem dX11_move_87 : decode cX11_move 87 = .ok (.iconst 1, 1) := by decide +kernel
theorem dX11_move_88 : decode cX11_move 88 = .ok (.istore 7, 2) := by decide +kernel
theorem dX11_move_90 : decode cX11_move 90 = .ok (.iload 6, 2) := by decide +kernel
theorem dX11_move_92 : decode cX11_move 92 = .ok (.iload 7, 2) := by decide +kernel
theorem dX11_move_94 : decode cX11_move 94 = .ok (.ifCond .eq 7, 3) := by decide +kernel
theorem dX11_move_97 : decode cX11_move 97 = .ok (.iconst 0, 1) := by decide +kernel
theorem dX11_move_98 : decode cX11_move 98 = .ok (.goto 4, 3) := by decide +kernel
theorem dX11_move_101 : decode cX11_move 101 = .ok (.iconst 1, 1) := by decide +kernel
theorem dX11_move_102 : decode cX11_move 102 = .ok (.iadd, 1) := by decide +kernel
theorem dX11_move_103 : decode cX11_move 103 = .ok (.istore 6, 2) := by decide +kernel
theorem dX11_move_105 : decode cX11_move 105 = .ok (.goto (-73), 3) := by decide +kernel
theorem dX11_move_108 : decode cX11_move 108 = .ok (.iload 7, 2) := by decide +kernel
theorem dX11_move_110 : decode cX11_move 110 = .ok (.ifCond .eq 18, 3) := by decide +kernel
theorem dX11_move_113 : decode cX11_move 113 = .ok (.aload_n 0, 1) := by decide +kernel
theorem dX11_move_114 : decode cX11_move 114 = .ok (.iload 5, 2) := by decide +kernel
theorem dX11_move_116 : decode cX11_move 116 = .ok (.invokevirtual 79, 3) := by decide +kernel
theorem dX11_move_119 : decode cX11_move 119 = .ok (.aload_n 0, 1) := by decide +kernel
theorem dX11_move_120 : decode cX11_move 120 = .ok (.iload 4, 2) := by decide +kernel
theorem dX11_move_122 : decode cX11_move 122 = .ok (.invokevirtual 79, 3) := by decide +kernel
theorem dX11_move_125 : decode cX11_move 125 = .ok (.goto 15, 3) := by decide +kernel
theorem dX11_move_128 : decode cX11_move 128 = .ok (.aload_n 0, 1) := by decide +kernel
theorem dX11_move_129 : decode cX11_move 129 = .ok (.iload 5, 2) := by decide +kernel
theorem dX11_move_131 : decode cX11_move 131 = .ok (.invokevirtual 82, 3) := by decide +kernel
theorem dX11_move_134 : decode cX11_move 134 = .ok (.aload_n 0, 1) := by decide +kernel
theorem dX11_move_135 : decode cX11_move 135 = .ok (.iload 4, 2) := by decide +kernel
theorem dX11_move_137 : decode cX11_move 137 = .ok (.invokevirtual 82, 3) := by decide +kernel
theorem dX11_move_140 : decode cX11_move 140 = .ok (.iload 6, 2) := by decide +kernel
theorem dX11_move_142 : decode cX11_move 142 = .ok (.ireturn, 1) := by decide +kernel
theorem dX11_laysAside_0 : decode cX11_laysAside 0 = .ok (.iconst 0, 1) := by decide +kernel
theorem dX11_laysAside_1 : decode cX11_laysAside 1 = .ok (.istore_n 2, 1) := by decide +kernel
theorem dX11_laysAside_2 : decode cX11_laysAside 2 = .ok (.iload_n 2, 1) := by decide +kernel
theorem dX11_laysAside_3 : decode cX11_laysAside 3 = .ok (.bipush 6, 2) := by decide +kernel
theorem dX11_laysAside_5 : decode cX11_laysAside 5 = .ok (.if_icmp .ge 73, 3) := by decide +kernel
theorem dX11_laysAside_8 : decode cX11_laysAside 8 = .ok (.iconst 0, 1) := by decide +kernel
theorem dX11_laysAside_9 : decode cX11_laysAside 9 = .ok (.istore_n 3, 1) := by decide +kernel
theorem dX11_laysAside_10 : decode cX11_laysAside 10 = .ok (.iload_n 3, 1) := by decide +kernel
theorem dX11_laysAside_11 : decode cX11_laysAside 11 = .ok (.bipush 9, 2) := by decide +kernel
theorem dX11_laysAside_13 : decode cX11_laysAside 13 = .ok (.if_icmp .ge 59, 3) := by decide +kernel
theorem dX11_laysAside_16 : decode cX11_laysAside 16 = .ok (.aload_n 0, 1) := by decide +kernel
theorem dX11_laysAside_17 : decode cX11_laysAside 17 = .ok (.getfield 19, 3) := by decide +kernel
theorem dX11_laysAside_20 : decode cX11_laysAside 20 = .ok (.bipush 54, 2) := by decide +kernel
theorem dX11_laysAside_22 : decode cX11_laysAside 22 = .ok (.iload_n 1, 1) := by decide +kernel
theorem dX11_laysAside_23 : decode cX11_laysAside 23 = .ok (.imul, 1) := by decide +kernel
theorem dX11_laysAside_24 : decode cX11_laysAside 24 = .ok (.bipush 9, 2) := by decide +kernel
theorem dX11_laysAside_26 : decode cX11_laysAside 26 = .ok (.iload_n 2, 1) := by decide +kernel
theorem dX11_laysAside_27 : decode cX11_laysAside 27 = .ok (.imul, 1) := by decide +kernel
theorem dX11_laysAside_28 : decode cX11_laysAside 28 = .ok (.iadd, 1) := by decide +kernel
theorem dX11_laysAside_29 : decode cX11_laysAside 29 = .ok (.iload_n 3, 1) := by decide +kernel
theorem dX11_laysAside_30 : decode cX11_laysAside 30 = .ok (.iadd, 1) := by decide +kernel
theorem dX11_laysAside_31 : decode cX11_laysAside 31 = .ok (.iload_n 3, 1) := by decide +kernel
theorem dX11_laysAside_32 : decode cX11_laysAside 32 = .ok (.bipush 8, 2) := by decide +kernel
theorem dX11_laysAside_34 : decode cX11_laysAside 34 = .ok (.if_icmp .ne 17, 3) := by decide +kernel
theorem dX11_laysAside_37 : decode cX11_laysAside 37 = .ok (.aload_n 0, 1) := by decide +kernel
theorem dX11_laysAside_38 : decode cX11_laysAside 38 = .ok (.getfield 13, 3) := by decide +kernel
theorem dX11_laysAside_41 : decode cX11_laysAside 41 = .ok (.iload_n 2, 1) := by decide +kernel
theorem dX11_laysAside_42 : decode cX11_laysAside 42 = .ok (.invokestatic 54, 3) := by decide +kernel
theorem dX11_laysAside_45 : decode cX11_laysAside 45 = .ok (.iconst 0, 1) := by decide +kernel
theorem dX11_laysAside_46 : decode cX11_laysAside 46 = .ok (.iadd, 1) := by decide +kernel
theorem dX11_laysAside_47 : decode cX11_laysAside 47 = .ok (.iaload, 1) := by decide +kernel
theorem dX11_laysAside_48 : decode cX11_laysAside 48 = .ok (.goto 17, 3) := by decide +kernel
theorem dX11_laysAside_51 : decode cX11_laysAside 51 = .ok (.aload_n 0, 1) := by decide +kernel
theorem dX11_laysAside_52 : decode cX11_laysAside 52 = .ok (.getfield 13, 3) := by decide +kernel
theorem dX11_laysAside_55 : decode cX11_laysAside 55 = .ok (.iload_n 2, 1) := by decide +kernel
theorem dX11_laysAside_56 : decode cX11_laysAside 56 = .ok (.invokestatic 54, 3) := by decide +kernel
theorem dX11_laysAside_59 : decode cX11_laysAside 59 = .ok (.bipush 14, 2) := by decide +kernel
theorem dX11_laysAside_61 : decode cX11_laysAside 61 = .ok (.iadd, 1) := by decide +kernel
theorem dX11_laysAside_62 : decode cX11_laysAside 62 = .ok (.iload_n 3, 1) := by decide +kernel
theorem dX11_laysAside_63 : decode cX11_laysAside 63 = .ok (.iadd, 1) := by decide +kernel
theorem dX11_laysAside_64 : decode cX11_laysAside 64 = .ok (.iaload, 1) := by decide +kernel
theorem dX11_laysAside_65 : decode cX11_laysAside 65 = .ok (.iastore, 1) := by decide +kernel
theorem dX11_laysAside_66 : decode cX11_laysAside 66 = .ok (.iinc 3 1, 3) := by decide +kernel
theorem dX11_laysAside_69 : decode cX11_laysAside 69 = .ok (.goto (-59), 3) := by decide +kernel
theorem dX11_laysAside_72 : decode cX11_laysAside 72 = .ok (.iinc 2 1, 3) := by decide +kernel
theorem dX11_laysAside_75 : decode cX11_laysAside 75 = .ok (.goto (-73), 3) := by decide +kernel
theorem dX11_laysAside_78 : decode cX11_laysAside 78 = .ok (.return_, 1) := by decide +kernel
theorem dX11_undoes_0 : decode cX11_undoes 0 = .ok (.iconst 0, 1) := by decide +kernel
theorem dX11_undoes_1 : decode cX11_undoes 1 = .ok (.istore_n 2, 1) := by decide +kernel
theorem dX11_undoes_2 : decode cX11_undoes 2 = .ok (.iload_n 2, 1) := by decide +kernel
theorem dX11_undoes_3 : decode cX11_undoes 3 = .ok (.bipush 6, 2) := by decide +kernel
theorem dX11_undoes_5 : decode cX11_undoes 5 = .ok (.if_icmp .ge 81, 3) := by decide +kernel
theorem dX11_undoes_8 : decode cX11_undoes 8 = .ok (.iconst 0, 1) := by decide +kernel
theorem dX11_undoes_9 : decode cX11_undoes 9 = .ok (.istore_n 3, 1) := by decide +kernel
theorem dX11_undoes_10 : decode cX11_undoes 10 = .ok (.iload_n 3, 1) := by decide +kernel
theorem dX11_undoes_11 : decode cX11_undoes 11 = .ok (.bipush 8, 2) := by decide +kernel
theorem dX11_undoes_13 : decode cX11_undoes 13 = .ok (.if_icmp .ge 39, 3) := by decide +kernel
theorem dX11_undoes_16 : decode cX11_undoes 16 = .ok (.aload_n 0, 1) := by decide +kernel
theorem dX11_undoes_17 : decode cX11_undoes 17 = .ok (.getfield 13, 3) := by decide +kernel
theorem dX11_undoes_20 : decode cX11_undoes 20 = .ok (.iload_n 2, 1) := by decide +kernel
theorem dX11_undoes_21 : decode cX11_undoes 21 = .ok (.invokestatic 54, 3) := by decide +kernel
theorem dX11_undoes_24 : decode cX11_undoes 24 = .ok (.bipush 14, 2) := by decide +kernel
theorem dX11_undoes_26 : decode cX11_undoes 26 = .ok (.iadd, 1) := by decide +kernel
theorem dX11_undoes_27 : decode cX11_undoes 27 = .ok (.iload_n 3, 1) := by decide +kernel
theorem dX11_undoes_28 : decode cX11_undoes 28 = .ok (.iadd, 1) := by decide +kernel
theorem dX11_undoes_29 : decode cX11_undoes 29 = .ok (.aload_n 0, 1) := by decide +kernel
theorem dX11_undoes_30 : decode cX11_undoes 30 = .ok (.getfield 19, 3) := by decide +kernel
theorem dX11_undoes_33 : decode cX11_undoes 33 = .ok (.bipush 54, 2) := by decide +kernel
theorem dX11_undoes_35 : decode cX11_undoes 35 = .ok (.iload_n 1, 1) := by decide +kernel
theorem dX11_undoes_36 : decode cX11_undoes 36 = .ok (.imul, 1) := by decide +kernel
theorem dX11_undoes_37 : decode cX11_undoes 37 = .ok (.bipush 9, 2) := by decide +kernel
theorem dX11_undoes_39 : decode cX11_undoes 39 = .ok (.iload_n 2, 1) := by decide +kernel
theorem dX11_undoes_40 : decode cX11_undoes 40 = .ok (.imul, 1) := by decide +kernel
theorem dX11_undoes_41 : decode cX11_undoes 41 = .ok (.iadd, 1) := by decide +kernel
theorem dX11_undoes_42 : decode cX11_undoes 42 = .ok (.iload_n 3, 1) := by decide +kernel
theorem dX11_undoes_43 : decode cX11_undoes 43 = .ok (.iadd, 1) := by decide +kernel
theorem dX11_undoes_44 : decode cX11_undoes 44 = .ok (.iaload, 1) := by decide +kernel
theorem dX11_undoes_45 : decode cX11_undoes 45 = .ok (.iastore, 1) := by decide +kernel
theorem dX11_undoes_46 : decode cX11_undoes 46 = .ok (.iinc 3 1, 3) := by decide +kernel
theorem dX11_undoes_49 : decode cX11_undoes 49 = .ok (.goto (-39), 3) := by decide +kernel
theorem dX11_undoes_52 : decode cX11_undoes 52 = .ok (.aload_n 0, 1) := by decide +kernel
theorem dX11_undoes_53 : decode cX11_undoes 53 = .ok (.getfield 13, 3) := by decide +kernel
theorem dX11_undoes_56 : decode cX11_undoes 56 = .ok (.iload_n 2, 1) := by decide +kernel
theorem dX11_undoes_57 : decode cX11_undoes 57 = .ok (.invokestatic 54, 3) := by decide +kernel
theorem dX11_undoes_60 : decode cX11_undoes 60 = .ok (.iconst 0, 1) := by decide +kernel
theorem dX11_undoes_61 : decode cX11_undoes 61 = .ok (.iadd, 1) := by decide +kernel
theorem dX11_undoes_62 : decode cX11_undoes 62 = .ok (.aload_n 0, 1) := by decide +kernel
theorem dX11_undoes_63 : decode cX11_undoes 63 = .ok (.getfield 19, 3) := by decide +kernel
theorem dX11_undoes_66 : decode cX11_undoes 66 = .ok (.bipush 54, 2) := by decide +kernel
theorem dX11_undoes_68 : decode cX11_undoes 68 = .ok (.iload_n 1, 1) := by decide +kernel
theorem dX11_undoes_69 : decode cX11_undoes 69 = .ok (.imul, 1) := by decide +kernel
theorem dX11_undoes_70 : decode cX11_undoes 70 = .ok (.bipush 9, 2) := by decide +kernel
theorem dX11_undoes_72 : decode cX11_undoes 72 = .ok (.iload_n 2, 1) := by decide +kernel
theorem dX11_undoes_73 : decode cX11_undoes 73 = .ok (.imul, 1) := by decide +kernel
theorem dX11_undoes_74 : decode cX11_undoes 74 = .ok (.iadd, 1) := by decide +kernel
theorem dX11_undoes_75 : decode cX11_undoes 75 = .ok (.bipush 8, 2) := by decide +kernel
theorem dX11_undoes_77 : decode cX11_undoes 77 = .ok (.iadd, 1) := by decide +kernel
theorem dX11_undoes_78 : decode cX11_undoes 78 = .ok (.iaload, 1) := by decide +kernel
theorem dX11_undoes_79 : decode cX11_undoes 79 = .ok (.iastore, 1) := by decide +kernel
theorem dX11_undoes_80 : decode cX11_undoes 80 = .ok (.iinc 2 1, 3) := by decide +kernel
theorem dX11_undoes_83 : decode cX11_undoes 83 = .ok (.goto (-81), 3) := by decide +kernel
theorem dX11_undoes_86 : decode cX11_undoes 86 = .ok (.return_, 1) := by decide +kernel
theorem dX11_goesFromLine_0 : decode cX11_goesFromLine 0 = .ok (.aload_n 0, 1) := by decide +kernel
theorem dX11_goesFromLine_1 : decode cX11_goesFromLine 1 = .ok (.getfield 13, 3) := by decide +kernel
theorem dX11_goesFromLine_4 : decode cX11_goesFromLine 4 = .ok (.sipush 300, 3) := by decide +kernel
theorem dX11_goesFromLine_7 : decode cX11_goesFromLine 7 = .ok (.iload_n 1, 1) := by decide +kernel
theorem dX11_goesFromLine_8 : decode cX11_goesFromLine 8 = .ok (.iadd, 1) := by decide +kernel
theorem dX11_goesFromLine_9 : decode cX11_goesFromLine 9 = .ok (.iaload, 1) := by decide +kernel
theorem dX11_goesFromLine_10 : decode cX11_goesFromLine 10 = .ok (.istore_n 2, 1) := by decide +kernel
theorem dX11_goesFromLine_11 : decode cX11_goesFromLine 11 = .ok (.aload_n 0, 1) := by decide +kernel
theorem dX11_goesFromLine_12 : decode cX11_goesFromLine 12 = .ok (.getfield 13, 3) := by decide +kernel
theorem dX11_goesFromLine_15 : decode cX11_goesFromLine 15 = .ok (.iconst 4, 1) := by decide +kernel
theorem dX11_goesFromLine_16 : decode cX11_goesFromLine 16 = .ok (.dup2, 1) := by decide +kernel
theorem dX11_goesFromLine_17 : decode cX11_goesFromLine 17 = .ok (.iaload, 1) := by decide +kernel
theorem dX11_goesFromLine_18 : decode cX11_goesFromLine 18 = .ok (.iconst 1, 1) := by decide +kernel
theorem dX11_goesFromLine_19 : decode cX11_goesFromLine 19 = .ok (.isub, 1) := by decide +kernel
theorem dX11_goesFromLine_20 : decode cX11_goesFromLine 20 = .ok (.iastore, 1) := by decide +kernel
theorem dX11_goesFromLine_21 : decode cX11_goesFromLine 21 = .ok (.iload_n 1, 1) := by decide +kernel
theorem dX11_goesFromLine_22 : decode cX11_goesFromLine 22 = .ok (.istore_n 3, 1) := by decide +kernel
theorem dX11_goesFromLine_23 : decode cX11_goesFromLine 23 = .ok (.iload_n 3, 1) := by decide +kernel
theorem dX11_goesFromLine_24 : decode cX11_goesFromLine 24 = .ok (.aload_n 0, 1) := by decide +kernel
theorem dX11_goesFromLine_25 : decode cX11_goesFromLine 25 = .ok (.getfield 13, 3) := by decide +kernel
theorem dX11_goesFromLine_28 : decode cX11_goesFromLine 28 = .ok (.iconst 4, 1) := by decide +kernel
theorem dX11_goesFromLine_29 : decode cX11_goesFromLine 29 = .ok (.iaload, 1) := by decide +kernel
theorem dX11_goesFromLine_30 : decode cX11_goesFromLine 30 = .ok (.if_icmp .ge 31, 3) := by decide +kernel
theorem dX11_goesFromLine_33 : decode cX11_goesFromLine 33 = .ok (.aload_n 0, 1) := by decide +kernel
theorem dX11_goesFromLine_34 : decode cX11_goesFromLine 34 = .ok (.getfield 13, 3) := by decide +kernel
theorem dX11_goesFromLine_37 : decode cX11_goesFromLine 37 = .ok (.sipush 300, 3) := by decide +kernel
theorem dX11_goesFromLine_40 : decode cX11_goesFromLine 40 = .ok (.iload_n 3, 1) := by decide +kernel
theorem dX11_goesFromLine_41 : decode cX11_goesFromLine 41 = .ok (.iadd, 1) := by decide +kernel
theorem dX11_goesFromLine_42 : decode cX11_goesFromLine 42 = .ok (.aload_n 0, 1) := by decide +kernel
theorem dX11_goesFromLine_43 : decode cX11_goesFromLine 43 = .ok (.getfield 13, 3) := by decide +kernel
theorem dX11_goesFromLine_46 : decode cX11_goesFromLine 46 = .ok (.sipush 300, 3) := by decide +kernel
theorem dX11_goesFromLine_49 : decode cX11_goesFromLine 49 = .ok (.iload_n 3, 1) := by decide +kernel
theorem dX11_goesFromLine_50 : decode cX11_goesFromLine 50 = .ok (.iadd, 1) := by decide +kernel
theorem dX11_goesFromLine_51 : decode cX11_goesFromLine 51 = .ok (.iconst 1, 1) := by decide +kernel
theorem dX11_goesFromLine_52 : decode cX11_goesFromLine 52 = .ok (.iadd, 1) := by decide +kernel
theorem dX11_goesFromLine_53 : decode cX11_goesFromLine 53 = .ok (.iaload, 1) := by decide +kernel
theorem dX11_goesFromLine_54 : decode cX11_goesFromLine 54 = .ok (.iastore, 1) := by decide +kernel
theorem dX11_goesFromLine_55 : decode cX11_goesFromLine 55 = .ok (.iinc 3 1, 3) := by decide +kernel
theorem dX11_goesFromLine_58 : decode cX11_goesFromLine 58 = .ok (.goto (-35), 3) := by decide +kernel
theorem dX11_goesFromLine_61 : decode cX11_goesFromLine 61 = .ok (.aload_n 0, 1) := by decide +kernel
theorem dX11_goesFromLine_62 : decode cX11_goesFromLine 62 = .ok (.getfield 13, 3) := by decide +kernel
theorem dX11_goesFromLine_65 : decode cX11_goesFromLine 65 = .ok (.iload_n 2, 1) := by decide +kernel
theorem dX11_goesFromLine_66 : decode cX11_goesFromLine 66 = .ok (.invokestatic 58, 3) := by decide +kernel
theorem dX11_goesFromLine_69 : decode cX11_goesFromLine 69 = .ok (.iconst 0, 1) := by decide +kernel
theorem dX11_goesFromLine_70 : decode cX11_goesFromLine 70 = .ok (.iadd, 1) := by decide +kernel
theorem dX11_goesFromLine_71 : decode cX11_goesFromLine 71 = .ok (.iconst 0, 1) := by decide +kernel
theorem dX11_goesFromLine_72 : decode cX11_goesFromLine 72 = .ok (.iastore, 1) := by decide +kernel
theorem dX11_goesFromLine_73 : decode cX11_goesFromLine 73 = .ok (.aload_n 0, 1) := by decide +kernel
theorem dX11_goesFromLine_74 : decode cX11_goesFromLine 74 = .ok (.getfield 13, 3) := by decide +kernel
theorem dX11_goesFromLine_77 : decode cX11_goesFromLine 77 = .ok (.iload_n 2, 1) := by decide +kernel
theorem dX11_goesFromLine_78 : decode cX11_goesFromLine 78 = .ok (.invokestatic 58, 3) := by decide +kernel
theorem dX11_goesFromLine_81 : decode cX11_goesFromLine 81 = .ok (.iconst 1, 1) := by decide +kernel
theorem dX11_goesFromLine_82 : decode cX11_goesFromLine 82 = .ok (.iadd, 1) := by decide +kernel
theorem dX11_goesFromLine_83 : decode cX11_goesFromLine 83 = .ok (.iconst (-1), 1) := by decide +kernel
theorem dX11_goesFromLine_84 : decode cX11_goesFromLine 84 = .ok (.iastore, 1) := by decide +kernel
theorem dX11_goesFromLine_85 : decode cX11_goesFromLine 85 = .ok (.aload_n 0, 1) := by decide +kernel
theorem dX11_goesFromLine_86 : decode cX11_goesFromLine 86 = .ok (.getfield 13, 3) := by decide +kernel
theorem dX11_goesFromLine_89 : decode cX11_goesFromLine 89 = .ok (.iload_n 2, 1) := by decide +kernel
theorem dX11_goesFromLine_90 : decode cX11_goesFromLine 90 = .ok (.invokestatic 58, 3) := by decide +kernel
theorem dX11_goesFromLine_93 : decode cX11_goesFromLine 93 = .ok (.iconst 2, 1) := by decide +kernel
theorem dX11_goesFromLine_94 : decode cX11_goesFromLine 94 = .ok (.iadd, 1) := by decide +kernel
theorem dX11_goesFromLine_95 : decode cX11_goesFromLine 95 = .ok (.iconst (-1), 1) := by decide +kernel
theorem dX11_goesFromLine_96 : decode cX11_goesFromLine 96 = .ok (.iastore, 1) := by decide +kernel
theorem dX11_goesFromLine_97 : decode cX11_goesFromLine 97 = .ok (.aload_n 0, 1) := by decide +kernel
theorem dX11_goesFromLine_98 : decode cX11_goesFromLine 98 = .ok (.getfield 13, 3) := by decide +kernel
theorem dX11_goesFromLine_101 : decode cX11_goesFromLine 101 = .ok (.iload_n 2, 1) := by decide +kernel
theorem dX11_goesFromLine_102 : decode cX11_goesFromLine 102 = .ok (.invokestatic 58, 3) := by decide +kernel
theorem dX11_goesFromLine_105 : decode cX11_goesFromLine 105 = .ok (.iconst 3, 1) := by decide +kernel
theorem dX11_goesFromLine_106 : decode cX11_goesFromLine 106 = .ok (.iadd, 1) := by decide +kernel
theorem dX11_goesFromLine_107 : decode cX11_goesFromLine 107 = .ok (.iconst (-1), 1) := by decide +kernel
theorem dX11_goesFromLine_108 : decode cX11_goesFromLine 108 = .ok (.iastore, 1) := by decide +kernel
theorem dX11_goesFromLine_109 : decode cX11_goesFromLine 109 = .ok (.return_, 1) := by decide +kernel
theorem dX11_tries_0 : decode cX11_tries 0 = .ok (.iload_n 3, 1) := by decide +kernel
theorem dX11_tries_1 : decode cX11_tries 1 = .ok (.ifCond .ne 12, 3) := by decide +kernel
theorem dX11_tries_4 : decode cX11_tries 4 = .ok (.aload_n 0, 1) := by decide +kernel
theorem dX11_tries_5 : decode cX11_tries 5 = .ok (.iload_n 2, 1) := by decide +kernel
theorem dX11_tries_6 : decode cX11_tries 6 = .ok (.iload 4, 2) := by decide +kernel
theorem dX11_tries_8 : decode cX11_tries 8 = .ok (.iload_n 1, 1) := by decide +kernel
theorem dX11_tries_9 : decode cX11_tries 9 = .ok (.invokevirtual 98, 3) := by decide +kernel
theorem dX11_tries_12 : decode cX11_tries 12 = .ok (.ireturn, 1) := by decide +kernel
theorem dX11_tries_13 : decode cX11_tries 13 = .ok (.aload_n 0, 1) := by decide +kernel
theorem dX11_tries_14 : decode cX11_tries 14 = .ok (.iload_n 2, 1) := by decide +kernel
theorem dX11_tries_15 : decode cX11_tries 15 = .ok (.iload_n 1, 1) := by decide +kernel
theorem dX11_tries_16 : decode cX11_tries 16 = .ok (.invokevirtual 95, 3) := by decide +kernel
theorem dX11_tries_19 : decode cX11_tries 19 = .ok (.istore 5, 2) := by decide +kernel
theorem dX11_tries_21 : decode cX11_tries 21 = .ok (.aload_n 0, 1) := by decide +kernel
theorem dX11_tries_22 : decode cX11_tries 22 = .ok (.getfield 13, 3) := by decide +kernel
theorem dX11_tries_25 : decode cX11_tries 25 = .ok (.iload_n 1, 1) := by decide +kernel
theorem dX11_tries_26 : decode cX11_tries 26 = .ok (.invokestatic 58, 3) := by decide +kernel
theorem dX11_tries_29 : decode cX11_tries 29 = .ok (.iconst 4, 1) := by decide +kernel
theorem dX11_tries_30 : decode cX11_tries 30 = .ok (.iadd, 1) := by decide +kernel
theorem dX11_tries_31 : decode cX11_tries 31 = .ok (.iload 5, 2) := by decide +kernel
theorem dX11_tries_33 : decode cX11_tries 33 = .ok (.iconst (-1), 1) := by decide +kernel
theorem dX11_tries_34 : decode cX11_tries 34 = .ok (.if_icmp .ne 17, 3) := by decide +kernel
theorem dX11_tries_37 : decode cX11_tries 37 = .ok (.aload_n 0, 1) := by decide +kernel
theorem dX11_tries_38 : decode cX11_tries 38 = .ok (.getfield 13, 3) := by decide +kernel
theorem dX11_tries_41 : decode cX11_tries 41 = .ok (.iload_n 1, 1) := by decide +kernel
theorem dX11_tries_42 : decode cX11_tries 42 = .ok (.invokestatic 58, 3) := by decide +kernel
theorem dX11_tries_45 : decode cX11_tries 45 = .ok (.iconst 4, 1) := by decide +kernel
theorem dX11_tries_46 : decode cX11_tries 46 = .ok (.iadd, 1) := by decide +kernel
theorem dX11_tries_47 : decode cX11_tries 47 = .ok (.iaload, 1) := by decide +kernel
theorem dX11_tries_48 : decode cX11_tries 48 = .ok (.goto 5, 3) := by decide +kernel
theorem dX11_tries_51 : decode cX11_tries 51 = .ok (.iload 5, 2) := by decide +kernel
theorem dX11_tries_53 : decode cX11_tries 53 = .ok (.iastore, 1) := by decide +kernel
theorem dX11_tries_54 : decode cX11_tries 54 = .ok (.iload 5, 2) := by decide +kernel
theorem dX11_tries_56 : decode cX11_tries 56 = .ok (.iconst (-1), 1) := by decide +kernel
theorem dX11_tries_57 : decode cX11_tries 57 = .ok (.if_icmp .eq 7, 3) := by decide +kernel
theorem dX11_tries_60 : decode cX11_tries 60 = .ok (.iconst 1, 1) := by decide +kernel
theorem dX11_tries_61 : decode cX11_tries 61 = .ok (.goto 4, 3) := by decide +kernel
theorem dX11_tries_64 : decode cX11_tries 64 = .ok (.iconst 0, 1) := by decide +kernel
theorem dX11_tries_65 : decode cX11_tries 65 = .ok (.ireturn, 1) := by decide +kernel
theorem dX11_serves_0 : decode cX11_serves 0 = .ok (.iconst 0, 1) := by decide +kernel
theorem dX11_serves_1 : decode cX11_serves 1 = .ok (.istore_n 1, 1) := by decide +kernel
theorem dX11_serves_2 : decode cX11_serves 2 = .ok (.iload_n 1, 1) := by decide +kernel
theorem dX11_serves_3 : decode cX11_serves 3 = .ok (.aload_n 0, 1) := by decide +kernel
theorem dX11_serves_4 : decode cX11_serves 4 = .ok (.getfield 13, 3) := by decide +kernel
theorem dX11_serves_7 : decode cX11_serves 7 = .ok (.iconst 4, 1) := by decide +kernel
theorem dX11_serves_8 : decode cX11_serves 8 = .ok (.iaload, 1) := by decide +kernel
theorem dX11_serves_9 : decode cX11_serves 9 = .ok (.if_icmp .ge 67, 3) := by decide +kernel
theorem dX11_serves_12 : decode cX11_serves 12 = .ok (.aload_n 0, 1) := by decide +kernel
theorem dX11_serves_13 : decode cX11_serves 13 = .ok (.getfield 13, 3) := by decide +kernel
theorem dX11_serves_16 : decode cX11_serves 16 = .ok (.sipush 300, 3) := by decide +kernel
theorem dX11_serves_19 : decode cX11_serves 19 = .ok (.iload_n 1, 1) := by decide +kernel
theorem dX11_serves_20 : decode cX11_serves 20 = .ok (.iadd, 1) := by decide +kernel
theorem dX11_serves_21 : decode cX11_serves 21 = .ok (.iaload, 1) := by decide +kernel
theorem dX11_serves_22 : decode cX11_serves 22 = .ok (.istore_n 2, 1) := by decide +kernel
theorem dX11_serves_23 : decode cX11_serves 23 = .ok (.iload_n 2, 1) := by decide +kernel
theorem dX11_serves_24 : decode cX11_serves 24 = .ok (.invokestatic 58, 3) := by decide +kernel
theorem dX11_serves_27 : decode cX11_serves 27 = .ok (.istore_n 3, 1) := by decide +kernel
theorem dX11_serves_28 : decode cX11_serves 28 = .ok (.aload_n 0, 1) := by decide +kernel
theorem dX11_serves_29 : decode cX11_serves 29 = .ok (.iload_n 2, 1) := by decide +kernel
theorem dX11_serves_30 : decode cX11_serves 30 = .ok (.aload_n 0, 1) := by decide +kernel
theorem dX11_serves_31 : decode cX11_serves 31 = .ok (.getfield 13, 3) := by decide +kernel
theorem dX11_serves_34 : decode cX11_serves 34 = .ok (.iload_n 3, 1) := by decide +kernel
theorem dX11_serves_35 : decode cX11_serves 35 = .ok (.iconst 1, 1) := by decide +kernel
theorem dX11_serves_36 : decode cX11_serves 36 = .ok (.iadd, 1) := by decide +kernel
theorem dX11_serves_37 : decode cX11_serves 37 = .ok (.iaload, 1) := by decide +kernel
theorem dX11_serves_38 : decode cX11_serves 38 = .ok (.aload_n 0, 1) := by decide +kernel
theorem dX11_serves_39 : decode cX11_serves 39 = .ok (.getfield 13, 3) := by decide +kernel
theorem dX11_serves_42 : decode cX11_serves 42 = .ok (.iload_n 3, 1) := by decide +kernel
theorem dX11_serves_43 : decode cX11_serves 43 = .ok (.iconst 2, 1) := by decide +kernel
theorem dX11_serves_44 : decode cX11_serves 44 = .ok (.iadd, 1) := by decide +kernel
theorem dX11_serves_45 : decode cX11_serves 45 = .ok (.iaload, 1) := by decide +kernel
theorem dX11_serves_46 : decode cX11_serves 46 = .ok (.aload_n 0, 1) := by decide +kernel
theorem dX11_serves_47 : decode cX11_serves 47 = .ok (.getfield 13, 3) := by decide +kernel
theorem dX11_serves_50 : decode cX11_serves 50 = .ok (.iload_n 3, 1) := by decide +kernel
theorem dX11_serves_51 : decode cX11_serves 51 = .ok (.iconst 3, 1) := by decide +kernel
theorem dX11_serves_52 : decode cX11_serves 52 = .ok (.iadd, 1) := by decide +kernel
theorem dX11_serves_53 : decode cX11_serves 53 = .ok (.iaload, 1) := by decide +kernel
theorem dX11_serves_54 : decode cX11_serves 54 = .ok (.invokevirtual 105, 3) := by decide +kernel
theorem dX11_serves_57 : decode cX11_serves 57 = .ok (.ifCond .eq 13, 3) := by decide +kernel
theorem dX11_serves_60 : decode cX11_serves 60 = .ok (.aload_n 0, 1) := by decide +kernel
theorem dX11_serves_61 : decode cX11_serves 61 = .ok (.iload_n 1, 1) := by decide +kernel
theorem dX11_serves_62 : decode cX11_serves 62 = .ok (.invokevirtual 109, 3) := by decide +kernel
theorem dX11_serves_65 : decode cX11_serves 65 = .ok (.iconst 0, 1) := by decide +kernel
theorem dX11_serves_66 : decode cX11_serves 66 = .ok (.istore_n 1, 1) := by decide +kernel
theorem dX11_serves_67 : decode cX11_serves 67 = .ok (.goto 6, 3) := by decide +kernel
theorem dX11_serves_70 : decode cX11_serves 70 = .ok (.iinc 1 1, 3) := by decide +kernel
theorem dX11_serves_73 : decode cX11_serves 73 = .ok (.goto (-71), 3) := by decide +kernel
theorem dX11_serves_76 : decode cX11_serves 76 = .ok (.return_, 1) := by decide +kernel
theorem dX11_starts_0 : decode cX11_starts 0 = .ok (.aload_n 0, 1) := by decide +kernel
theorem dX11_starts_1 : decode cX11_starts 1 = .ok (.getfield 13, 3) := by decide +kernel
theorem dX11_starts_4 : decode cX11_starts 4 = .ok (.iload_n 1, 1) := by decide +kernel
theorem dX11_starts_5 : decode cX11_starts 5 = .ok (.bipush 6, 2) := by decide +kernel
theorem dX11_starts_7 : decode cX11_starts 7 = .ok (.iadd, 1) := by decide +kernel
theorem dX11_starts_8 : decode cX11_starts 8 = .ok (.iconst 1, 1) := by decide +kernel
theorem dX11_starts_9 : decode cX11_starts 9 = .ok (.iastore, 1) := by decide +kernel
theorem dX11_starts_10 : decode cX11_starts 10 = .ok (.aload_n 0, 1) := by decide +kernel
theorem dX11_starts_11 : decode cX11_starts 11 = .ok (.getfield 13, 3) := by decide +kernel
theorem dX11_starts_14 : decode cX11_starts 14 = .ok (.iload_n 1, 1) := by decide +kernel
theorem dX11_starts_15 : decode cX11_starts 15 = .ok (.bipush 7, 2) := by decide +kernel
theorem dX11_starts_17 : decode cX11_starts 17 = .ok (.iadd, 1) := by decide +kernel
theorem dX11_starts_18 : decode cX11_starts 18 = .ok (.aload_n 0, 1) := by decide +kernel
theorem dX11_starts_19 : decode cX11_starts 19 = .ok (.getfield 13, 3) := by decide +kernel
theorem dX11_starts_22 : decode cX11_starts 22 = .ok (.iload_n 1, 1) := by decide +kernel
theorem dX11_starts_23 : decode cX11_starts 23 = .ok (.iconst 3, 1) := by decide +kernel
theorem dX11_starts_24 : decode cX11_starts 24 = .ok (.iadd, 1) := by decide +kernel
theorem dX11_starts_25 : decode cX11_starts 25 = .ok (.iaload, 1) := by decide +kernel
theorem dX11_starts_26 : decode cX11_starts 26 = .ok (.iastore, 1) := by decide +kernel
theorem dX11_starts_27 : decode cX11_starts 27 = .ok (.aload_n 0, 1) := by decide +kernel
theorem dX11_starts_28 : decode cX11_starts 28 = .ok (.getfield 13, 3) := by decide +kernel
theorem dX11_starts_31 : decode cX11_starts 31 = .ok (.iload_n 1, 1) := by decide +kernel
theorem dX11_starts_32 : decode cX11_starts 32 = .ok (.bipush 8, 2) := by decide +kernel
theorem dX11_starts_34 : decode cX11_starts 34 = .ok (.iadd, 1) := by decide +kernel
theorem dX11_starts_35 : decode cX11_starts 35 = .ok (.iload_n 2, 1) := by decide +kernel
theorem dX11_starts_36 : decode cX11_starts 36 = .ok (.aload_n 0, 1) := by decide +kernel
theorem dX11_starts_37 : decode cX11_starts 37 = .ok (.getfield 13, 3) := by decide +kernel
theorem dX11_starts_40 : decode cX11_starts 40 = .ok (.iload_n 1, 1) := by decide +kernel
theorem dX11_starts_41 : decode cX11_starts 41 = .ok (.iconst 4, 1) := by decide +kernel
theorem dX11_starts_42 : decode cX11_starts 42 = .ok (.iadd, 1) := by decide +kernel
theorem dX11_starts_43 : decode cX11_starts 43 = .ok (.iaload, 1) := by decide +kernel
theorem dX11_starts_44 : decode cX11_starts 44 = .ok (.iadd, 1) := by decide +kernel
theorem dX11_starts_45 : decode cX11_starts 45 = .ok (.bipush 10, 2) := by decide +kernel
theorem dX11_starts_47 : decode cX11_starts 47 = .ok (.irem, 1) := by decide +kernel
theorem dX11_starts_48 : decode cX11_starts 48 = .ok (.iastore, 1) := by decide +kernel
theorem dX11_starts_49 : decode cX11_starts 49 = .ok (.return_, 1) := by decide +kernel
theorem dX11_takesBoth_0 : decode cX11_takesBoth 0 = .ok (.aload_n 0, 1) := by decide +kernel
theorem dX11_takesBoth_1 : decode cX11_takesBoth 1 = .ok (.getfield 13, 3) := by decide +kernel
theorem dX11_takesBoth_4 : decode cX11_takesBoth 4 = .ok (.iload_n 1, 1) := by decide +kernel
theorem dX11_takesBoth_5 : decode cX11_takesBoth 5 = .ok (.iconst 0, 1) := by decide +kernel
theorem dX11_takesBoth_6 : decode cX11_takesBoth 6 = .ok (.iadd, 1) := by decide +kernel
theorem dX11_takesBoth_7 : decode cX11_takesBoth 7 = .ok (.iaload, 1) := by decide +kernel
theorem dX11_takesBoth_8 : decode cX11_takesBoth 8 = .ok (.istore_n 2, 1) := by decide +kernel
theorem dX11_takesBoth_9 : decode cX11_takesBoth 9 = .ok (.aload_n 0, 1) := by decide +kernel
theorem dX11_takesBoth_10 : decode cX11_takesBoth 10 = .ok (.getfield 13, 3) := by decide +kernel
theorem dX11_takesBoth_13 : decode cX11_takesBoth 13 = .ok (.iload_n 1, 1) := by decide +kernel
theorem dX11_takesBoth_14 : decode cX11_takesBoth 14 = .ok (.iconst 1, 1) := by decide +kernel
theorem dX11_takesBoth_15 : decode cX11_takesBoth 15 = .ok (.iadd, 1) := by decide +kernel
theorem dX11_takesBoth_16 : decode cX11_takesBoth 16 = .ok (.iaload, 1) := by decide +kernel
theorem dX11_takesBoth_17 : decode cX11_takesBoth 17 = .ok (.istore_n 3, 1) := by decide +kernel
theorem dX11_takesBoth_18 : decode cX11_takesBoth 18 = .ok (.iload_n 2, 1) := by decide +kernel
theorem dX11_takesBoth_19 : decode cX11_takesBoth 19 = .ok (.iload_n 3, 1) := by decide +kernel
theorem dX11_takesBoth_20 : decode cX11_takesBoth 20 = .ok (.invokestatic 88, 3) := by decide +kernel
theorem dX11_takesBoth_23 : decode cX11_takesBoth 23 = .ok (.istore 4, 2) := by decide +kernel
theorem dX11_takesBoth_25 : decode cX11_takesBoth 25 = .ok (.iload_n 2, 1) := by decide +kernel
theorem dX11_takesBoth_26 : decode cX11_takesBoth 26 = .ok (.iload_n 3, 1) := by decide +kernel
theorem dX11_takesBoth_27 : decode cX11_takesBoth 27 = .ok (.invokestatic 92, 3) := by decide +kernel
theorem dX11_takesBoth_30 : decode cX11_takesBoth 30 = .ok (.istore 5, 2) := by decide +kernel
theorem dX11_takesBoth_32 : decode cX11_takesBoth 32 = .ok (.aload_n 0, 1) := by decide +kernel
theorem dX11_takesBoth_33 : decode cX11_takesBoth 33 = .ok (.iload 4, 2) := by decide +kernel
theorem dX11_takesBoth_35 : decode cX11_takesBoth 35 = .ok (.invokevirtual 72, 3) := by decide +kernel
theorem dX11_takesBoth_38 : decode cX11_takesBoth 38 = .ok (.aload_n 0, 1) := by decide +kernel
theorem dX11_takesBoth_39 : decode cX11_takesBoth 39 = .ok (.iload 5, 2) := by decide +kernel
theorem dX11_takesBoth_41 : decode cX11_takesBoth 41 = .ok (.invokevirtual 72, 3) := by decide +kernel
theorem dX11_takesBoth_44 : decode cX11_takesBoth 44 = .ok (.aload_n 0, 1) := by decide +kernel
theorem dX11_takesBoth_45 : decode cX11_takesBoth 45 = .ok (.getfield 13, 3) := by decide +kernel
theorem dX11_takesBoth_48 : decode cX11_takesBoth 48 = .ok (.iload_n 2, 1) := by decide +kernel
theorem dX11_takesBoth_49 : decode cX11_takesBoth 49 = .ok (.invokestatic 54, 3) := by decide +kernel
theorem dX11_takesBoth_52 : decode cX11_takesBoth 52 = .ok (.iconst 5, 1) := by decide +kernel
theorem dX11_takesBoth_53 : decode cX11_takesBoth 53 = .ok (.iadd, 1) := by decide +kernel
theorem dX11_takesBoth_54 : decode cX11_takesBoth 54 = .ok (.iaload, 1) := by decide +kernel
theorem dX11_takesBoth_55 : decode cX11_takesBoth 55 = .ok (.iconst (-1), 1) := by decide +kernel
theorem dX11_takesBoth_56 : decode cX11_takesBoth 56 = .ok (.if_icmp .ne 18, 3) := by decide +kernel
theorem dX11_takesBoth_59 : decode cX11_takesBoth 59 = .ok (.aload_n 0, 1) := by decide +kernel
theorem dX11_takesBoth_60 : decode cX11_takesBoth 60 = .ok (.getfield 13, 3) := by decide +kernel
theorem dX11_takesBoth_63 : decode cX11_takesBoth 63 = .ok (.iload_n 3, 1) := by decide +kernel
theorem dX11_takesBoth_64 : decode cX11_takesBoth 64 = .ok (.invokestatic 54, 3) := by decide +kernel
theorem dX11_takesBoth_67 : decode cX11_takesBoth 67 = .ok (.iconst 5, 1) := by decide +kernel
theorem dX11_takesBoth_68 : decode cX11_takesBoth 68 = .ok (.iadd, 1) := by decide +kernel
theorem dX11_takesBoth_69 : decode cX11_takesBoth 69 = .ok (.iaload, 1) := by decide +kernel
theorem dX11_takesBoth_70 : decode cX11_takesBoth 70 = .ok (.iconst (-1), 1) := by decide +kernel
theorem dX11_takesBoth_71 : decode cX11_takesBoth 71 = .ok (.if_icmp .eq 7, 3) := by decide +kernel
theorem dX11_takesBoth_74 : decode cX11_takesBoth 74 = .ok (.iconst 1, 1) := by decide +kernel
theorem dX11_takesBoth_75 : decode cX11_takesBoth 75 = .ok (.goto 4, 3) := by decide +kernel
theorem dX11_takesBoth_78 : decode cX11_takesBoth 78 = .ok (.iconst 0, 1) := by decide +kernel
theorem dX11_takesBoth_79 : decode cX11_takesBoth 79 = .ok (.istore 6, 2) := by decide +kernel
theorem dX11_takesBoth_81 : decode cX11_takesBoth 81 = .ok (.iload_n 2, 1) := by decide +kernel
theorem dX11_takesBoth_82 : decode cX11_takesBoth 82 = .ok (.iload_n 3, 1) := by decide +kernel
theorem dX11_takesBoth_83 : decode cX11_takesBoth 83 = .ok (.if_icmp .ne 26, 3) := by decide +kernel
theorem dX11_takesBoth_86 : decode cX11_takesBoth 86 = .ok (.aload_n 0, 1) := by decide +kernel
theorem dX11_takesBoth_87 : decode cX11_takesBoth 87 = .ok (.getfield 13, 3) := by decide +kernel
theorem dX11_takesBoth_90 : decode cX11_takesBoth 90 = .ok (.iload_n 2, 1) := by decide +kernel
theorem dX11_takesBoth_91 : decode cX11_takesBoth 91 = .ok (.invokestatic 54, 3) := by decide +kernel
theorem dX11_takesBoth_94 : decode cX11_takesBoth 94 = .ok (.iconst 0, 1) := by decide +kernel
theorem dX11_takesBoth_95 : decode cX11_takesBoth 95 = .ok (.iadd, 1) := by decide +kernel
theorem dX11_takesBoth_96 : decode cX11_takesBoth 96 = .ok (.iaload, 1) := by decide +kernel
theorem dX11_takesBoth_97 : decode cX11_takesBoth 97 = .ok (.iconst 1, 1) := by decide +kernel
theorem dX11_takesBoth_98 : decode cX11_takesBoth 98 = .ok (.if_icmp .le 7, 3) := by decide +kernel
theorem dX11_takesBoth_101 : decode cX11_takesBoth 101 = .ok (.iconst 1, 1) := by decide +kernel
theorem dX11_takesBoth_102 : decode cX11_takesBoth 102 = .ok (.goto 40, 3) := by decide +kernel
theorem dX11_takesBoth_105 : decode cX11_takesBoth 105 = .ok (.iconst 0, 1) := by decide +kernel
theorem dX11_takesBoth_106 : decode cX11_takesBoth 106 = .ok (.goto 36, 3) := by decide +kernel
theorem dX11_takesBoth_109 : decode cX11_takesBoth 109 = .ok (.aload_n 0, 1) := by decide +kernel
theorem dX11_takesBoth_110 : decode cX11_takesBoth 110 = .ok (.getfield 13, 3) := by decide +kernel
theorem dX11_takesBoth_113 : decode cX11_takesBoth 113 = .ok (.iload_n 2, 1) := by decide +kernel
theorem dX11_takesBoth_114 : decode cX11_takesBoth 114 = .ok (.invokestatic 54, 3) := by decide +kernel
theorem dX11_takesBoth_117 : decode cX11_takesBoth 117 = .ok (.iconst 0, 1) := by decide +kernel
theorem dX11_takesBoth_118 : decode cX11_takesBoth 118 = .ok (.iadd, 1) := by decide +kernel
theorem dX11_takesBoth_119 : decode cX11_takesBoth 119 = .ok (.iaload, 1) := by decide +kernel
theorem dX11_takesBoth_120 : decode cX11_takesBoth 120 = .ok (.ifCond .le 21, 3) := by decide +kernel
theorem dX11_takesBoth_123 : decode cX11_takesBoth 123 = .ok (.aload_n 0, 1) := by decide +kernel
theorem dX11_takesBoth_124 : decode cX11_takesBoth 124 = .ok (.getfield 13, 3) := by decide +kernel
theorem dX11_takesBoth_127 : decode cX11_takesBoth 127 = .ok (.iload_n 3, 1) := by decide +kernel
theorem dX11_takesBoth_128 : decode cX11_takesBoth 128 = .ok (.invokestatic 54, 3) := by decide +kernel
theorem dX11_takesBoth_131 : decode cX11_takesBoth 131 = .ok (.iconst 0, 1) := by decide +kernel
theorem dX11_takesBoth_132 : decode cX11_takesBoth 132 = .ok (.iadd, 1) := by decide +kernel
theorem dX11_takesBoth_133 : decode cX11_takesBoth 133 = .ok (.iaload, 1) := by decide +kernel
theorem dX11_takesBoth_134 : decode cX11_takesBoth 134 = .ok (.ifCond .le 7, 3) := by decide +kernel
theorem dX11_takesBoth_137 : decode cX11_takesBoth 137 = .ok (.iconst 1, 1) := by decide +kernel
theorem dX11_takesBoth_138 : decode cX11_takesBoth 138 = .ok (.goto 4, 3) := by decide +kernel
theorem dX11_takesBoth_141 : decode cX11_takesBoth 141 = .ok (.iconst 0, 1) := by decide +kernel
theorem dX11_takesBoth_142 : decode cX11_takesBoth 142 = .ok (.istore 7, 2) := by decide +kernel
theorem dX11_takesBoth_144 : decode cX11_takesBoth 144 = .ok (.iload 6, 2) := by decide +kernel
theorem dX11_takesBoth_146 : decode cX11_takesBoth 146 = .ok (.ifCond .ne 8, 3) := by decide +kernel
theorem dX11_takesBoth_149 : decode cX11_takesBoth 149 = .ok (.iload 7, 2) := by decide +kernel
theorem dX11_takesBoth_151 : decode cX11_takesBoth 151 = .ok (.ifCond .ne 29, 3) := by decide +kernel
theorem dX11_takesBoth_154 : decode cX11_takesBoth 154 = .ok (.aload_n 0, 1) := by decide +kernel
theorem dX11_takesBoth_155 : decode cX11_takesBoth 155 = .ok (.iload 5, 2) := by decide +kernel
theorem dX11_takesBoth_157 : decode cX11_takesBoth 157 = .ok (.invokevirtual 79, 3) := by decide +kernel
theorem dX11_takesBoth_160 : decode cX11_takesBoth 160 = .ok (.aload_n 0, 1) := by decide +kernel
theorem dX11_takesBoth_161 : decode cX11_takesBoth 161 = .ok (.iload 4, 2) := by decide +kernel
theorem dX11_takesBoth_163 : decode cX11_takesBoth 163 = .ok (.invokevirtual 79, 3) := by decide +kernel
theorem dX11_takesBoth_166 : decode cX11_takesBoth 166 = .ok (.aload_n 0, 1) := by decide +kernel
theorem dX11_takesBoth_167 : decode cX11_takesBoth 167 = .ok (.getfield 13, 3) := by decide +kernel
theorem dX11_takesBoth_170 : decode cX11_takesBoth 170 = .ok (.iload_n 1, 1) := by decide +kernel
theorem dX11_takesBoth_171 : decode cX11_takesBoth 171 = .ok (.bipush 11, 2) := by decide +kernel
theorem dX11_takesBoth_173 : decode cX11_takesBoth 173 = .ok (.iadd, 1) := by decide +kernel
theorem dX11_takesBoth_174 : decode cX11_takesBoth 174 = .ok (.dup2, 1) := by decide +kernel
theorem dX11_takesBoth_175 : decode cX11_takesBoth 175 = .ok (.iaload, 1) := by decide +kernel
theorem dX11_takesBoth_176 : decode cX11_takesBoth 176 = .ok (.iconst 1, 1) := by decide +kernel
theorem dX11_takesBoth_177 : decode cX11_takesBoth 177 = .ok (.iadd, 1) := by decide +kernel
theorem dX11_takesBoth_178 : decode cX11_takesBoth 178 = .ok (.iastore, 1) := by decide +kernel
theorem dX11_takesBoth_179 : decode cX11_takesBoth 179 = .ok (.return_, 1) := by decide +kernel
theorem dX11_takesBoth_180 : decode cX11_takesBoth 180 = .ok (.aload_n 0, 1) := by decide +kernel
theorem dX11_takesBoth_181 : decode cX11_takesBoth 181 = .ok (.iload_n 2, 1) := by decide +kernel
theorem dX11_takesBoth_182 : decode cX11_takesBoth 182 = .ok (.invokevirtual 85, 3) := by decide +kernel
theorem dX11_takesBoth_185 : decode cX11_takesBoth 185 = .ok (.istore 8, 2) := by decide +kernel
theorem dX11_takesBoth_187 : decode cX11_takesBoth 187 = .ok (.aload_n 0, 1) := by decide +kernel
theorem dX11_takesBoth_188 : decode cX11_takesBoth 188 = .ok (.iload_n 3, 1) := by decide +kernel
theorem dX11_takesBoth_189 : decode cX11_takesBoth 189 = .ok (.invokevirtual 85, 3) := by decide +kernel
theorem dX11_takesBoth_192 : decode cX11_takesBoth 192 = .ok (.istore 9, 2) := by decide +kernel
theorem dX11_takesBoth_194 : decode cX11_takesBoth 194 = .ok (.aload_n 0, 1) := by decide +kernel
theorem dX11_takesBoth_195 : decode cX11_takesBoth 195 = .ok (.iload 5, 2) := by decide +kernel
theorem dX11_takesBoth_197 : decode cX11_takesBoth 197 = .ok (.invokevirtual 82, 3) := by decide +kernel
theorem dX11_takesBoth_200 : decode cX11_takesBoth 200 = .ok (.aload_n 0, 1) := by decide +kernel
theorem dX11_takesBoth_201 : decode cX11_takesBoth 201 = .ok (.iload 4, 2) := by decide +kernel
theorem dX11_takesBoth_203 : decode cX11_takesBoth 203 = .ok (.invokevirtual 82, 3) := by decide +kernel
theorem dX11_takesBoth_206 : decode cX11_takesBoth 206 = .ok (.aload_n 0, 1) := by decide +kernel
theorem dX11_takesBoth_207 : decode cX11_takesBoth 207 = .ok (.iload_n 1, 1) := by decide +kernel
theorem dX11_takesBoth_208 : decode cX11_takesBoth 208 = .ok (.iload 8, 2) := by decide +kernel
theorem dX11_takesBoth_210 : decode cX11_takesBoth 210 = .ok (.iload 9, 2) := by decide +kernel
theorem dX11_takesBoth_212 : decode cX11_takesBoth 212 = .ok (.iadd, 1) := by decide +kernel
theorem dX11_takesBoth_213 : decode cX11_takesBoth 213 = .ok (.invokevirtual 112, 3) := by decide +kernel
theorem dX11_takesBoth_216 : decode cX11_takesBoth 216 = .ok (.return_, 1) := by decide +kernel
theorem dX11_takesOne_0 : decode cX11_takesOne 0 = .ok (.aload_n 0, 1) := by decide +kernel
theorem dX11_takesOne_1 : decode cX11_takesOne 1 = .ok (.aload_n 0, 1) := by decide +kernel
theorem dX11_takesOne_2 : decode cX11_takesOne 2 = .ok (.getfield 13, 3) := by decide +kernel
theorem dX11_takesOne_5 : decode cX11_takesOne 5 = .ok (.iload_n 1, 1) := by decide +kernel
theorem dX11_takesOne_6 : decode cX11_takesOne 6 = .ok (.iconst 0, 1) := by decide +kernel
theorem dX11_takesOne_7 : decode cX11_takesOne 7 = .ok (.iadd, 1) := by decide +kernel
theorem dX11_takesOne_8 : decode cX11_takesOne 8 = .ok (.iaload, 1) := by decide +kernel
theorem dX11_takesOne_9 : decode cX11_takesOne 9 = .ok (.iconst (-1), 1) := by decide +kernel
theorem dX11_takesOne_10 : decode cX11_takesOne 10 = .ok (.invokevirtual 95, 3) := by decide +kernel
theorem dX11_takesOne_13 : decode cX11_takesOne 13 = .ok (.istore_n 2, 1) := by decide +kernel
theorem dX11_takesOne_14 : decode cX11_takesOne 14 = .ok (.iload_n 2, 1) := by decide +kernel
theorem dX11_takesOne_15 : decode cX11_takesOne 15 = .ok (.iconst (-1), 1) := by decide +kernel
theorem dX11_takesOne_16 : decode cX11_takesOne 16 = .ok (.if_icmp .ne 19, 3) := by decide +kernel
theorem dX11_takesOne_19 : decode cX11_takesOne 19 = .ok (.aload_n 0, 1) := by decide +kernel
theorem dX11_takesOne_20 : decode cX11_takesOne 20 = .ok (.getfield 13, 3) := by decide +kernel
theorem dX11_takesOne_23 : decode cX11_takesOne 23 = .ok (.iload_n 1, 1) := by decide +kernel
theorem dX11_takesOne_24 : decode cX11_takesOne 24 = .ok (.bipush 11, 2) := by decide +kernel
theorem dX11_takesOne_26 : decode cX11_takesOne 26 = .ok (.iadd, 1) := by decide +kernel
theorem dX11_takesOne_27 : decode cX11_takesOne 27 = .ok (.dup2, 1) := by decide +kernel
theorem dX11_takesOne_28 : decode cX11_takesOne 28 = .ok (.iaload, 1) := by decide +kernel
theorem dX11_takesOne_29 : decode cX11_takesOne 29 = .ok (.iconst 1, 1) := by decide +kernel
theorem dX11_takesOne_30 : decode cX11_takesOne 30 = .ok (.iadd, 1) := by decide +kernel
theorem dX11_takesOne_31 : decode cX11_takesOne 31 = .ok (.iastore, 1) := by decide +kernel
theorem dX11_takesOne_32 : decode cX11_takesOne 32 = .ok (.goto 9, 3) := by decide +kernel
theorem dX11_takesOne_35 : decode cX11_takesOne 35 = .ok (.aload_n 0, 1) := by decide +kernel
theorem dX11_takesOne_36 : decode cX11_takesOne 36 = .ok (.iload_n 1, 1) := by decide +kernel
theorem dX11_takesOne_37 : decode cX11_takesOne 37 = .ok (.iload_n 2, 1) := by decide +kernel
theorem dX11_takesOne_38 : decode cX11_takesOne 38 = .ok (.invokevirtual 112, 3) := by decide +kernel
theorem dX11_takesOne_41 : decode cX11_takesOne 41 = .ok (.return_, 1) := by decide +kernel
theorem dX11_worksOn_0 : decode cX11_worksOn 0 = .ok (.aload_n 0, 1) := by decide +kernel
theorem dX11_worksOn_1 : decode cX11_worksOn 1 = .ok (.getfield 13, 3) := by decide +kernel
theorem dX11_worksOn_4 : decode cX11_worksOn 4 = .ok (.iload_n 1, 1) := by decide +kernel
theorem dX11_worksOn_5 : decode cX11_worksOn 5 = .ok (.bipush 6, 2) := by decide +kernel
theorem dX11_worksOn_7 : decode cX11_worksOn 7 = .ok (.iadd, 1) := by decide +kernel
theorem dX11_worksOn_8 : decode cX11_worksOn 8 = .ok (.iaload, 1) := by decide +kernel
theorem dX11_worksOn_9 : decode cX11_worksOn 9 = .ok (.iconst 1, 1) := by decide +kernel
theorem dX11_worksOn_10 : decode cX11_worksOn 10 = .ok (.if_icmp .ne 42, 3) := by decide +kernel
theorem dX11_worksOn_13 : decode cX11_worksOn 13 = .ok (.aload_n 0, 1) := by decide +kernel
theorem dX11_worksOn_14 : decode cX11_worksOn 14 = .ok (.getfield 13, 3) := by decide +kernel
theorem dX11_worksOn_17 : decode cX11_worksOn 17 = .ok (.iload_n 1, 1) := by decide +kernel
theorem dX11_worksOn_18 : decode cX11_worksOn 18 = .ok (.bipush 7, 2) := by decide +kernel
theorem dX11_worksOn_20 : decode cX11_worksOn 20 = .ok (.iadd, 1) := by decide +kernel
theorem dX11_worksOn_21 : decode cX11_worksOn 21 = .ok (.dup2, 1) := by decide +kernel
theorem dX11_worksOn_22 : decode cX11_worksOn 22 = .ok (.iaload, 1) := by decide +kernel
theorem dX11_worksOn_23 : decode cX11_worksOn 23 = .ok (.iconst 1, 1) := by decide +kernel
theorem dX11_worksOn_24 : decode cX11_worksOn 24 = .ok (.isub, 1) := by decide +kernel
theorem dX11_worksOn_25 : decode cX11_worksOn 25 = .ok (.iastore, 1) := by decide +kernel
theorem dX11_worksOn_26 : decode cX11_worksOn 26 = .ok (.aload_n 0, 1) := by decide +kernel
theorem dX11_worksOn_27 : decode cX11_worksOn 27 = .ok (.getfield 13, 3) := by decide +kernel
theorem dX11_worksOn_30 : decode cX11_worksOn 30 = .ok (.iload_n 1, 1) := by decide +kernel
theorem dX11_worksOn_31 : decode cX11_worksOn 31 = .ok (.bipush 6, 2) := by decide +kernel
theorem dX11_worksOn_33 : decode cX11_worksOn 33 = .ok (.iadd, 1) := by decide +kernel
theorem dX11_worksOn_34 : decode cX11_worksOn 34 = .ok (.aload_n 0, 1) := by decide +kernel
theorem dX11_worksOn_35 : decode cX11_worksOn 35 = .ok (.getfield 13, 3) := by decide +kernel
theorem dX11_worksOn_38 : decode cX11_worksOn 38 = .ok (.iload_n 1, 1) := by decide +kernel
theorem dX11_worksOn_39 : decode cX11_worksOn 39 = .ok (.bipush 7, 2) := by decide +kernel
theorem dX11_worksOn_41 : decode cX11_worksOn 41 = .ok (.iadd, 1) := by decide +kernel
theorem dX11_worksOn_42 : decode cX11_worksOn 42 = .ok (.iaload, 1) := by decide +kernel
theorem dX11_worksOn_43 : decode cX11_worksOn 43 = .ok (.ifCond .ne 7, 3) := by decide +kernel
theorem dX11_worksOn_46 : decode cX11_worksOn 46 = .ok (.iconst 2, 1) := by decide +kernel
theorem dX11_worksOn_47 : decode cX11_worksOn 47 = .ok (.goto 4, 3) := by decide +kernel
theorem dX11_worksOn_50 : decode cX11_worksOn 50 = .ok (.iconst 1, 1) := by decide +kernel
theorem dX11_worksOn_51 : decode cX11_worksOn 51 = .ok (.iastore, 1) := by decide +kernel
theorem dX11_worksOn_52 : decode cX11_worksOn 52 = .ok (.aload_n 0, 1) := by decide +kernel
theorem dX11_worksOn_53 : decode cX11_worksOn 53 = .ok (.getfield 13, 3) := by decide +kernel
theorem dX11_worksOn_56 : decode cX11_worksOn 56 = .ok (.iload_n 1, 1) := by decide +kernel
theorem dX11_worksOn_57 : decode cX11_worksOn 57 = .ok (.bipush 6, 2) := by decide +kernel
theorem dX11_worksOn_59 : decode cX11_worksOn 59 = .ok (.iadd, 1) := by decide +kernel
theorem dX11_worksOn_60 : decode cX11_worksOn 60 = .ok (.iaload, 1) := by decide +kernel
theorem dX11_worksOn_61 : decode cX11_worksOn 61 = .ok (.iconst 2, 1) := by decide +kernel
theorem dX11_worksOn_62 : decode cX11_worksOn 62 = .ok (.if_icmp .ne 67, 3) := by decide +kernel
theorem dX11_worksOn_65 : decode cX11_worksOn 65 = .ok (.aload_n 0, 1) := by decide +kernel
theorem dX11_worksOn_66 : decode cX11_worksOn 66 = .ok (.aload_n 0, 1) := by decide +kernel
theorem dX11_worksOn_67 : decode cX11_worksOn 67 = .ok (.getfield 13, 3) := by decide +kernel
theorem dX11_worksOn_70 : decode cX11_worksOn 70 = .ok (.iload_n 1, 1) := by decide +kernel
theorem dX11_worksOn_71 : decode cX11_worksOn 71 = .ok (.iconst 2, 1) := by decide +kernel
theorem dX11_worksOn_72 : decode cX11_worksOn 72 = .ok (.iadd, 1) := by decide +kernel
theorem dX11_worksOn_73 : decode cX11_worksOn 73 = .ok (.iaload, 1) := by decide +kernel
theorem dX11_worksOn_74 : decode cX11_worksOn 74 = .ok (.aload_n 0, 1) := by decide +kernel
theorem dX11_worksOn_75 : decode cX11_worksOn 75 = .ok (.getfield 13, 3) := by decide +kernel
theorem dX11_worksOn_78 : decode cX11_worksOn 78 = .ok (.iload_n 1, 1) := by decide +kernel
theorem dX11_worksOn_79 : decode cX11_worksOn 79 = .ok (.bipush 8, 2) := by decide +kernel
theorem dX11_worksOn_81 : decode cX11_worksOn 81 = .ok (.iadd, 1) := by decide +kernel
theorem dX11_worksOn_82 : decode cX11_worksOn 82 = .ok (.iaload, 1) := by decide +kernel
theorem dX11_worksOn_83 : decode cX11_worksOn 83 = .ok (.iconst (-1), 1) := by decide +kernel
theorem dX11_worksOn_84 : decode cX11_worksOn 84 = .ok (.invokevirtual 98, 3) := by decide +kernel
theorem dX11_worksOn_87 : decode cX11_worksOn 87 = .ok (.ifCond .eq 29, 3) := by decide +kernel
theorem dX11_worksOn_90 : decode cX11_worksOn 90 = .ok (.aload_n 0, 1) := by decide +kernel
theorem dX11_worksOn_91 : decode cX11_worksOn 91 = .ok (.getfield 13, 3) := by decide +kernel
theorem dX11_worksOn_94 : decode cX11_worksOn 94 = .ok (.iload_n 1, 1) := by decide +kernel
theorem dX11_worksOn_95 : decode cX11_worksOn 95 = .ok (.bipush 6, 2) := by decide +kernel
theorem dX11_worksOn_97 : decode cX11_worksOn 97 = .ok (.iadd, 1) := by decide +kernel
theorem dX11_worksOn_98 : decode cX11_worksOn 98 = .ok (.iconst 0, 1) := by decide +kernel
theorem dX11_worksOn_99 : decode cX11_worksOn 99 = .ok (.iastore, 1) := by decide +kernel
theorem dX11_worksOn_100 : decode cX11_worksOn 100 = .ok (.aload_n 0, 1) := by decide +kernel
theorem dX11_worksOn_101 : decode cX11_worksOn 101 = .ok (.getfield 13, 3) := by decide +kernel
theorem dX11_worksOn_104 : decode cX11_worksOn 104 = .ok (.iload_n 1, 1) := by decide +kernel
theorem dX11_worksOn_105 : decode cX11_worksOn 105 = .ok (.bipush 9, 2) := by decide +kernel
theorem dX11_worksOn_107 : decode cX11_worksOn 107 = .ok (.iadd, 1) := by decide +kernel
theorem dX11_worksOn_108 : decode cX11_worksOn 108 = .ok (.dup2, 1) := by decide +kernel
theorem dX11_worksOn_109 : decode cX11_worksOn 109 = .ok (.iaload, 1) := by decide +kernel
theorem dX11_worksOn_110 : decode cX11_worksOn 110 = .ok (.iconst 1, 1) := by decide +kernel
theorem dX11_worksOn_111 : decode cX11_worksOn 111 = .ok (.iadd, 1) := by decide +kernel
theorem dX11_worksOn_112 : decode cX11_worksOn 112 = .ok (.iastore, 1) := by decide +kernel
theorem dX11_worksOn_113 : decode cX11_worksOn 113 = .ok (.goto 16, 3) := by decide +kernel
theorem dX11_worksOn_116 : decode cX11_worksOn 116 = .ok (.aload_n 0, 1) := by decide +kernel
theorem dX11_worksOn_117 : decode cX11_worksOn 117 = .ok (.getfield 13, 3) := by decide +kernel
theorem dX11_worksOn_120 : decode cX11_worksOn 120 = .ok (.iload_n 1, 1) := by decide +kernel
theorem dX11_worksOn_121 : decode cX11_worksOn 121 = .ok (.bipush 10, 2) := by decide +kernel
theorem dX11_worksOn_123 : decode cX11_worksOn 123 = .ok (.iadd, 1) := by decide +kernel
theorem dX11_worksOn_124 : decode cX11_worksOn 124 = .ok (.dup2, 1) := by decide +kernel
theorem dX11_worksOn_125 : decode cX11_worksOn 125 = .ok (.iaload, 1) := by decide +kernel
theorem dX11_worksOn_126 : decode cX11_worksOn 126 = .ok (.iconst 1, 1) := by decide +kernel
theorem dX11_worksOn_127 : decode cX11_worksOn 127 = .ok (.iadd, 1) := by decide +kernel
theorem dX11_worksOn_128 : decode cX11_worksOn 128 = .ok (.iastore, 1) := by decide +kernel
theorem dX11_worksOn_129 : decode cX11_worksOn 129 = .ok (.aload_n 0, 1) := by decide +kernel
theorem dX11_worksOn_130 : decode cX11_worksOn 130 = .ok (.getfield 13, 3) := by decide +kernel
theorem dX11_worksOn_133 : decode cX11_worksOn 133 = .ok (.iload_n 1, 1) := by decide +kernel
theorem dX11_worksOn_134 : decode cX11_worksOn 134 = .ok (.bipush 6, 2) := by decide +kernel
theorem dX11_worksOn_136 : decode cX11_worksOn 136 = .ok (.iadd, 1) := by decide +kernel
theorem dX11_worksOn_137 : decode cX11_worksOn 137 = .ok (.iaload, 1) := by decide +kernel
theorem dX11_worksOn_138 : decode cX11_worksOn 138 = .ok (.ifCond .ne 28, 3) := by decide +kernel
theorem dX11_worksOn_141 : decode cX11_worksOn 141 = .ok (.aload_n 0, 1) := by decide +kernel
theorem dX11_worksOn_142 : decode cX11_worksOn 142 = .ok (.getfield 13, 3) := by decide +kernel
theorem dX11_worksOn_145 : decode cX11_worksOn 145 = .ok (.iload_n 1, 1) := by decide +kernel
theorem dX11_worksOn_146 : decode cX11_worksOn 146 = .ok (.iconst 1, 1) := by decide +kernel
theorem dX11_worksOn_147 : decode cX11_worksOn 147 = .ok (.iadd, 1) := by decide +kernel
theorem dX11_worksOn_148 : decode cX11_worksOn 148 = .ok (.iaload, 1) := by decide +kernel
theorem dX11_worksOn_149 : decode cX11_worksOn 149 = .ok (.iconst (-1), 1) := by decide +kernel
theorem dX11_worksOn_150 : decode cX11_worksOn 150 = .ok (.if_icmp .ne 11, 3) := by decide +kernel
theorem dX11_worksOn_153 : decode cX11_worksOn 153 = .ok (.aload_n 0, 1) := by decide +kernel
theorem dX11_worksOn_154 : decode cX11_worksOn 154 = .ok (.iload_n 1, 1) := by decide +kernel
theorem dX11_worksOn_155 : decode cX11_worksOn 155 = .ok (.invokevirtual 115, 3) := by decide +kernel
theorem dX11_worksOn_158 : decode cX11_worksOn 158 = .ok (.goto 8, 3) := by decide +kernel
theorem dX11_worksOn_161 : decode cX11_worksOn 161 = .ok (.aload_n 0, 1) := by decide +kernel
theorem dX11_worksOn_162 : decode cX11_worksOn 162 = .ok (.iload_n 1, 1) := by decide +kernel
theorem dX11_worksOn_163 : decode cX11_worksOn 163 = .ok (.invokevirtual 118, 3) := by decide +kernel
theorem dX11_worksOn_166 : decode cX11_worksOn 166 = .ok (.return_, 1) := by decide +kernel
theorem dX11_madeOfAll_0 : decode cX11_madeOfAll 0 = .ok (.iconst 0, 1) := by decide +kernel
theorem dX11_madeOfAll_1 : decode cX11_madeOfAll 1 = .ok (.istore_n 1, 1) := by decide +kernel
theorem dX11_madeOfAll_2 : decode cX11_madeOfAll 2 = .ok (.iconst 0, 1) := by decide +kernel
theorem dX11_madeOfAll_3 : decode cX11_madeOfAll 3 = .ok (.istore_n 2, 1) := by decide +kernel
theorem dX11_madeOfAll_4 : decode cX11_madeOfAll 4 = .ok (.iload_n 2, 1) := by decide +kernel
theorem dX11_madeOfAll_5 : decode cX11_madeOfAll 5 = .ok (.aload_n 0, 1) := by decide +kernel
theorem dX11_madeOfAll_6 : decode cX11_madeOfAll 6 = .ok (.getfield 13, 3) := by decide +kernel
theorem dX11_madeOfAll_9 : decode cX11_madeOfAll 9 = .ok (.iconst 1, 1) := by decide +kernel
theorem dX11_madeOfAll_10 : decode cX11_madeOfAll 10 = .ok (.iaload, 1) := by decide +kernel
theorem dX11_madeOfAll_11 : decode cX11_madeOfAll 11 = .ok (.if_icmp .ge 24, 3) := by decide +kernel
theorem dX11_madeOfAll_14 : decode cX11_madeOfAll 14 = .ok (.iload_n 1, 1) := by decide +kernel
theorem dX11_madeOfAll_15 : decode cX11_madeOfAll 15 = .ok (.aload_n 0, 1) := by decide +kernel
theorem dX11_madeOfAll_16 : decode cX11_madeOfAll 16 = .ok (.getfield 13, 3) := by decide +kernel
theorem dX11_madeOfAll_19 : decode cX11_madeOfAll 19 = .ok (.iload_n 2, 1) := by decide +kernel
theorem dX11_madeOfAll_20 : decode cX11_madeOfAll 20 = .ok (.invokestatic 121, 3) := by decide +kernel
theorem dX11_madeOfAll_23 : decode cX11_madeOfAll 23 = .ok (.bipush 9, 2) := by decide +kernel
theorem dX11_madeOfAll_25 : decode cX11_madeOfAll 25 = .ok (.iadd, 1) := by decide +kernel
theorem dX11_madeOfAll_26 : decode cX11_madeOfAll 26 = .ok (.iaload, 1) := by decide +kernel
theorem dX11_madeOfAll_27 : decode cX11_madeOfAll 27 = .ok (.iadd, 1) := by decide +kernel
theorem dX11_madeOfAll_28 : decode cX11_madeOfAll 28 = .ok (.istore_n 1, 1) := by decide +kernel
theorem dX11_madeOfAll_29 : decode cX11_madeOfAll 29 = .ok (.iinc 2 1, 3) := by decide +kernel
theorem dX11_madeOfAll_32 : decode cX11_madeOfAll 32 = .ok (.goto (-28), 3) := by decide +kernel
theorem dX11_madeOfAll_35 : decode cX11_madeOfAll 35 = .ok (.iload_n 1, 1) := by decide +kernel
theorem dX11_madeOfAll_36 : decode cX11_madeOfAll 36 = .ok (.ireturn, 1) := by decide +kernel
theorem dX11_tick_0 : decode cX11_tick 0 = .ok (.iconst 0, 1) := by decide +kernel
theorem dX11_tick_1 : decode cX11_tick 1 = .ok (.istore_n 1, 1) := by decide +kernel
theorem dX11_tick_2 : decode cX11_tick 2 = .ok (.iload_n 1, 1) := by decide +kernel
theorem dX11_tick_3 : decode cX11_tick 3 = .ok (.aload_n 0, 1) := by decide +kernel
theorem dX11_tick_4 : decode cX11_tick 4 = .ok (.getfield 13, 3) := by decide +kernel
theorem dX11_tick_7 : decode cX11_tick 7 = .ok (.iconst 1, 1) := by decide +kernel
theorem dX11_tick_8 : decode cX11_tick 8 = .ok (.iaload, 1) := by decide +kernel
theorem dX11_tick_9 : decode cX11_tick 9 = .ok (.if_icmp .ge 61, 3) := by decide +kernel
theorem dX11_tick_12 : decode cX11_tick 12 = .ok (.iload_n 1, 1) := by decide +kernel
theorem dX11_tick_13 : decode cX11_tick 13 = .ok (.invokestatic 121, 3) := by decide +kernel
theorem dX11_tick_16 : decode cX11_tick 16 = .ok (.istore_n 2, 1) := by decide +kernel
theorem dX11_tick_17 : decode cX11_tick 17 = .ok (.aload_n 0, 1) := by decide +kernel
theorem dX11_tick_18 : decode cX11_tick 18 = .ok (.getfield 13, 3) := by decide +kernel
theorem dX11_tick_21 : decode cX11_tick 21 = .ok (.iload_n 2, 1) := by decide +kernel
theorem dX11_tick_22 : decode cX11_tick 22 = .ok (.iconst 5, 1) := by decide +kernel
theorem dX11_tick_23 : decode cX11_tick 23 = .ok (.iadd, 1) := by decide +kernel
theorem dX11_tick_24 : decode cX11_tick 24 = .ok (.iaload, 1) := by decide +kernel
theorem dX11_tick_25 : decode cX11_tick 25 = .ok (.istore_n 3, 1) := by decide +kernel
theorem dX11_tick_26 : decode cX11_tick 26 = .ok (.iload_n 3, 1) := by decide +kernel
theorem dX11_tick_27 : decode cX11_tick 27 = .ok (.iconst (-1), 1) := by decide +kernel
theorem dX11_tick_28 : decode cX11_tick 28 = .ok (.if_icmp .ne 16, 3) := by decide +kernel
theorem dX11_tick_31 : decode cX11_tick 31 = .ok (.aload_n 0, 1) := by decide +kernel
theorem dX11_tick_32 : decode cX11_tick 32 = .ok (.getfield 13, 3) := by decide +kernel
theorem dX11_tick_35 : decode cX11_tick 35 = .ok (.iconst 3, 1) := by decide +kernel
theorem dX11_tick_36 : decode cX11_tick 36 = .ok (.dup2, 1) := by decide +kernel
theorem dX11_tick_37 : decode cX11_tick 37 = .ok (.iaload, 1) := by decide +kernel
theorem dX11_tick_38 : decode cX11_tick 38 = .ok (.iconst 1, 1) := by decide +kernel
theorem dX11_tick_39 : decode cX11_tick 39 = .ok (.iadd, 1) := by decide +kernel
theorem dX11_tick_40 : decode cX11_tick 40 = .ok (.iastore, 1) := by decide +kernel
theorem dX11_tick_41 : decode cX11_tick 41 = .ok (.goto 8, 3) := by decide +kernel
theorem dX11_tick_44 : decode cX11_tick 44 = .ok (.aload_n 0, 1) := by decide +kernel
theorem dX11_tick_45 : decode cX11_tick 45 = .ok (.iload_n 3, 1) := by decide +kernel
theorem dX11_tick_46 : decode cX11_tick 46 = .ok (.invokevirtual 72, 3) := by decide +kernel
theorem dX11_tick_49 : decode cX11_tick 49 = .ok (.aload_n 0, 1) := by decide +kernel
theorem dX11_tick_50 : decode cX11_tick 50 = .ok (.iload_n 2, 1) := by decide +kernel
theorem dX11_tick_51 : decode cX11_tick 51 = .ok (.invokevirtual 124, 3) := by decide +kernel
theorem dX11_tick_54 : decode cX11_tick 54 = .ok (.iload_n 3, 1) := by decide +kernel
theorem dX11_tick_55 : decode cX11_tick 55 = .ok (.iconst (-1), 1) := by decide +kernel
theorem dX11_tick_56 : decode cX11_tick 56 = .ok (.if_icmp .eq 8, 3) := by decide +kernel
theorem dX11_tick_59 : decode cX11_tick 59 = .ok (.aload_n 0, 1) := by decide +kernel
theorem dX11_tick_60 : decode cX11_tick 60 = .ok (.iload_n 3, 1) := by decide +kernel
theorem dX11_tick_61 : decode cX11_tick 61 = .ok (.invokevirtual 82, 3) := by decide +kernel
theorem dX11_tick_64 : decode cX11_tick 64 = .ok (.iinc 1 1, 3) := by decide +kernel
theorem dX11_tick_67 : decode cX11_tick 67 = .ok (.goto (-65), 3) := by decide +kernel
theorem dX11_tick_70 : decode cX11_tick 70 = .ok (.aload_n 0, 1) := by decide +kernel
theorem dX11_tick_71 : decode cX11_tick 71 = .ok (.getfield 13, 3) := by decide +kernel
theorem dX11_tick_74 : decode cX11_tick 74 = .ok (.iconst 2, 1) := by decide +kernel
theorem dX11_tick_75 : decode cX11_tick 75 = .ok (.dup2, 1) := by decide +kernel
theorem dX11_tick_76 : decode cX11_tick 76 = .ok (.iaload, 1) := by decide +kernel
theorem dX11_tick_77 : decode cX11_tick 77 = .ok (.iconst 1, 1) := by decide +kernel
theorem dX11_tick_78 : decode cX11_tick 78 = .ok (.iadd, 1) := by decide +kernel
theorem dX11_tick_79 : decode cX11_tick 79 = .ok (.iastore, 1) := by decide +kernel
theorem dX11_tick_80 : decode cX11_tick 80 = .ok (.aload_n 0, 1) := by decide +kernel
theorem dX11_tick_81 : decode cX11_tick 81 = .ok (.invokevirtual 127, 3) := by decide +kernel
theorem dX11_tick_84 : decode cX11_tick 84 = .ok (.return_, 1) := by decide +kernel
theorem dX11_begins_0 : decode cX11_begins 0 = .ok (.iload_n 1, 1) := by decide +kernel
theorem dX11_begins_1 : decode cX11_begins 1 = .ok (.iconst 1, 1) := by decide +kernel
theorem dX11_begins_2 : decode cX11_begins 2 = .ok (.bipush 6, 2) := by decide +kernel
theorem dX11_begins_4 : decode cX11_begins 4 = .ok (.invokestatic 50, 3) := by decide +kernel
theorem dX11_begins_7 : decode cX11_begins 7 = .ok (.ifCond .ne 8, 3) := by decide +kernel
theorem dX11_begins_10 : decode cX11_begins 10 = .ok (.aload_n 0, 1) := by decide +kernel
theorem dX11_begins_11 : decode cX11_begins 11 = .ok (.invokevirtual 130, 3) := by decide +kernel
theorem dX11_begins_14 : decode cX11_begins 14 = .ok (.ireturn, 1) := by decide +kernel
theorem dX11_begins_15 : decode cX11_begins 15 = .ok (.aload_n 0, 1) := by decide +kernel
theorem dX11_begins_16 : decode cX11_begins 16 = .ok (.invokevirtual 133, 3) := by decide +kernel
theorem dX11_begins_19 : decode cX11_begins 19 = .ok (.aload_n 0, 1) := by decide +kernel
theorem dX11_begins_20 : decode cX11_begins 20 = .ok (.getfield 13, 3) := by decide +kernel
theorem dX11_begins_23 : decode cX11_begins 23 = .ok (.iconst 0, 1) := by decide +kernel
theorem dX11_begins_24 : decode cX11_begins 24 = .ok (.iaload, 1) := by decide +kernel
theorem dX11_begins_25 : decode cX11_begins 25 = .ok (.istore_n 2, 1) := by decide +kernel
theorem dX11_begins_26 : decode cX11_begins 26 = .ok (.aload_n 0, 1) := by decide +kernel
theorem dX11_begins_27 : decode cX11_begins 27 = .ok (.iload_n 1, 1) := by decide +kernel
theorem dX11_begins_28 : decode cX11_begins 28 = .ok (.invokevirtual 46, 3) := by decide +kernel
theorem dX11_begins_31 : decode cX11_begins 31 = .ok (.iload_n 2, 1) := by decide +kernel
theorem dX11_begins_32 : decode cX11_begins 32 = .ok (.ireturn, 1) := by decide +kernel
theorem dX11_rooms_0 : decode cX11_rooms 0 = .ok (.aload_n 0, 1) := by decide +kernel
theorem dX11_rooms_1 : decode cX11_rooms 1 = .ok (.iload_n 1, 1) := by decide +kernel
theorem dX11_rooms_2 : decode cX11_rooms 2 = .ok (.invokevirtual 136, 3) := by decide +kernel
theorem dX11_rooms_5 : decode cX11_rooms 5 = .ok (.ifCond .eq 13, 3) := by decide +kernel
theorem dX11_rooms_8 : decode cX11_rooms 8 = .ok (.iload_n 2, 1) := by decide +kernel
theorem dX11_rooms_9 : decode cX11_rooms 9 = .ok (.iconst 1, 1) := by decide +kernel
theorem dX11_rooms_10 : decode cX11_rooms 10 = .ok (.bipush 6, 2) := by decide +kernel
theorem dX11_rooms_12 : decode cX11_rooms 12 = .ok (.invokestatic 50, 3) := by decide +kernel
theorem dX11_rooms_15 : decode cX11_rooms 15 = .ok (.ifCond .ne 8, 3) := by decide +kernel
theorem dX11_rooms_18 : decode cX11_rooms 18 = .ok (.aload_n 0, 1) := by decide +kernel
theorem dX11_rooms_19 : decode cX11_rooms 19 = .ok (.invokevirtual 130, 3) := by decide +kernel
theorem dX11_rooms_22 : decode cX11_rooms 22 = .ok (.ireturn, 1) := by decide +kernel
theorem dX11_rooms_23 : decode cX11_rooms 23 = .ok (.aload_n 0, 1) := by decide +kernel
theorem dX11_rooms_24 : decode cX11_rooms 24 = .ok (.invokevirtual 133, 3) := by decide +kernel
theorem dX11_rooms_27 : decode cX11_rooms 27 = .ok (.aload_n 0, 1) := by decide +kernel
theorem dX11_rooms_28 : decode cX11_rooms 28 = .ok (.getfield 13, 3) := by decide +kernel
theorem dX11_rooms_31 : decode cX11_rooms 31 = .ok (.iload_n 1, 1) := by decide +kernel
theorem dX11_rooms_32 : decode cX11_rooms 32 = .ok (.invokestatic 54, 3) := by decide +kernel
theorem dX11_rooms_35 : decode cX11_rooms 35 = .ok (.iconst 1, 1) := by decide +kernel
theorem dX11_rooms_36 : decode cX11_rooms 36 = .ok (.iadd, 1) := by decide +kernel
theorem dX11_rooms_37 : decode cX11_rooms 37 = .ok (.iaload, 1) := by decide +kernel
theorem dX11_rooms_38 : decode cX11_rooms 38 = .ok (.istore_n 3, 1) := by decide +kernel
theorem dX11_rooms_39 : decode cX11_rooms 39 = .ok (.aload_n 0, 1) := by decide +kernel
theorem dX11_rooms_40 : decode cX11_rooms 40 = .ok (.getfield 13, 3) := by decide +kernel
theorem dX11_rooms_43 : decode cX11_rooms 43 = .ok (.iload_n 1, 1) := by decide +kernel
theorem dX11_rooms_44 : decode cX11_rooms 44 = .ok (.invokestatic 54, 3) := by decide +kernel
theorem dX11_rooms_47 : decode cX11_rooms 47 = .ok (.iconst 1, 1) := by decide +kernel
theorem dX11_rooms_48 : decode cX11_rooms 48 = .ok (.iadd, 1) := by decide +kernel
theorem dX11_rooms_49 : decode cX11_rooms 49 = .ok (.iload_n 2, 1) := by decide +kernel
theorem dX11_rooms_50 : decode cX11_rooms 50 = .ok (.iastore, 1) := by decide +kernel
theorem dX11_rooms_51 : decode cX11_rooms 51 = .ok (.aload_n 0, 1) := by decide +kernel
theorem dX11_rooms_52 : decode cX11_rooms 52 = .ok (.invokevirtual 127, 3) := by decide +kernel
theorem dX11_rooms_55 : decode cX11_rooms 55 = .ok (.iload_n 3, 1) := by decide +kernel
theorem dX11_rooms_56 : decode cX11_rooms 56 = .ok (.ireturn, 1) := by decide +kernel
theorem dX11_station_0 : decode cX11_station 0 = .ok (.aload_n 0, 1) := by decide +kernel
theorem dX11_station_1 : decode cX11_station 1 = .ok (.iload_n 1, 1) := by decide +kernel
theorem dX11_station_2 : decode cX11_station 2 = .ok (.invokevirtual 136, 3) := by decide +kernel
theorem dX11_station_5 : decode cX11_station 5 = .ok (.ifCond .eq 46, 3) := by decide +kernel
theorem dX11_station_8 : decode cX11_station 8 = .ok (.iload_n 2, 1) := by decide +kernel
theorem dX11_station_9 : decode cX11_station 9 = .ok (.iconst (-1), 1) := by decide +kernel
theorem dX11_station_10 : decode cX11_station 10 = .ok (.if_icmp .eq 11, 3) := by decide +kernel
theorem dX11_station_13 : decode cX11_station 13 = .ok (.aload_n 0, 1) := by decide +kernel
theorem dX11_station_14 : decode cX11_station 14 = .ok (.iload_n 2, 1) := by decide +kernel
theorem dX11_station_15 : decode cX11_station 15 = .ok (.invokevirtual 136, 3) := by decide +kernel
theorem dX11_station_18 : decode cX11_station 18 = .ok (.ifCond .eq 33, 3) := by decide +kernel
theorem dX11_station_21 : decode cX11_station 21 = .ok (.aload_n 0, 1) := by decide +kernel
theorem dX11_station_22 : decode cX11_station 22 = .ok (.iload_n 3, 1) := by decide +kernel
theorem dX11_station_23 : decode cX11_station 23 = .ok (.invokevirtual 136, 3) := by decide +kernel
theorem dX11_station_26 : decode cX11_station 26 = .ok (.ifCond .eq 25, 3) := by decide +kernel
theorem dX11_station_29 : decode cX11_station 29 = .ok (.iload 4, 2) := by decide +kernel
theorem dX11_station_31 : decode cX11_station 31 = .ok (.iconst 1, 1) := by decide +kernel
theorem dX11_station_32 : decode cX11_station 32 = .ok (.bipush 9, 2) := by decide +kernel
theorem dX11_station_34 : decode cX11_station 34 = .ok (.invokestatic 50, 3) := by decide +kernel
theorem dX11_station_37 : decode cX11_station 37 = .ok (.ifCond .eq 14, 3) := by decide +kernel
theorem dX11_station_40 : decode cX11_station 40 = .ok (.iload 5, 2) := by decide +kernel
theorem dX11_station_42 : decode cX11_station 42 = .ok (.iconst 0, 1) := by decide +kernel
theorem dX11_station_43 : decode cX11_station 43 = .ok (.bipush 9, 2) := by decide +kernel
theorem dX11_station_45 : decode cX11_station 45 = .ok (.invokestatic 50, 3) := by decide +kernel
theorem dX11_station_48 : decode cX11_station 48 = .ok (.ifCond .ne 8, 3) := by decide +kernel
theorem dX11_station_51 : decode cX11_station 51 = .ok (.aload_n 0, 1) := by decide +kernel
theorem dX11_station_52 : decode cX11_station 52 = .ok (.invokevirtual 130, 3) := by decide +kernel
theorem dX11_station_55 : decode cX11_station 55 = .ok (.ireturn, 1) := by decide +kernel
theorem dX11_station_56 : decode cX11_station 56 = .ok (.aload_n 0, 1) := by decide +kernel
theorem dX11_station_57 : decode cX11_station 57 = .ok (.getfield 13, 3) := by decide +kernel
theorem dX11_station_60 : decode cX11_station 60 = .ok (.iconst 1, 1) := by decide +kernel
theorem dX11_station_61 : decode cX11_station 61 = .ok (.iaload, 1) := by decide +kernel
theorem dX11_station_62 : decode cX11_station 62 = .ok (.bipush 6, 2) := by decide +kernel
theorem dX11_station_64 : decode cX11_station 64 = .ok (.if_icmp .ne 8, 3) := by decide +kernel
theorem dX11_station_67 : decode cX11_station 67 = .ok (.aload_n 0, 1) := by decide +kernel
theorem dX11_station_68 : decode cX11_station 68 = .ok (.invokevirtual 140, 3) := by decide +kernel
theorem dX11_station_71 : decode cX11_station 71 = .ok (.ireturn, 1) := by decide +kernel
theorem dX11_station_72 : decode cX11_station 72 = .ok (.aload_n 0, 1) := by decide +kernel
theorem dX11_station_73 : decode cX11_station 73 = .ok (.invokevirtual 133, 3) := by decide +kernel
theorem dX11_station_76 : decode cX11_station 76 = .ok (.aload_n 0, 1) := by decide +kernel
theorem dX11_station_77 : decode cX11_station 77 = .ok (.getfield 13, 3) := by decide +kernel
theorem dX11_station_80 : decode cX11_station 80 = .ok (.iconst 1, 1) := by decide +kernel
theorem dX11_station_81 : decode cX11_station 81 = .ok (.iaload, 1) := by decide +kernel
theorem dX11_station_82 : decode cX11_station 82 = .ok (.invokestatic 121, 3) := by decide +kernel
theorem dX11_station_85 : decode cX11_station 85 = .ok (.istore 6, 2) := by decide +kernel
theorem dX11_station_87 : decode cX11_station 87 = .ok (.aload_n 0, 1) := by decide +kernel
theorem dX11_station_88 : decode cX11_station 88 = .ok (.getfield 13, 3) := by decide +kernel
theorem dX11_station_91 : decode cX11_station 91 = .ok (.iload 6, 2) := by decide +kernel
theorem dX11_station_93 : decode cX11_station 93 = .ok (.iconst 0, 1) := by decide +kernel
theorem dX11_station_94 : decode cX11_station 94 = .ok (.iadd, 1) := by decide +kernel
theorem dX11_station_95 : decode cX11_station 95 = .ok (.iload_n 1, 1) := by decide +kernel
theorem dX11_station_96 : decode cX11_station 96 = .ok (.iastore, 1) := by decide +kernel
theorem dX11_station_97 : decode cX11_station 97 = .ok (.aload_n 0, 1) := by decide +kernel
theorem dX11_station_98 : decode cX11_station 98 = .ok (.getfield 13, 3) := by decide +kernel
theorem dX11_station_101 : decode cX11_station 101 = .ok (.iload 6, 2) := by decide +kernel
theorem dX11_station_103 : decode cX11_station 103 = .ok (.iconst 1, 1) := by decide +kernel
theorem dX11_station_104 : decode cX11_station 104 = .ok (.iadd, 1) := by decide +kernel
theorem dX11_station_105 : decode cX11_station 105 = .ok (.iload_n 2, 1) := by decide +kernel
theorem dX11_station_106 : decode cX11_station 106 = .ok (.iastore, 1) := by decide +kernel
theorem dX11_station_107 : decode cX11_station 107 = .ok (.aload_n 0, 1) := by decide +kernel
theorem dX11_station_108 : decode cX11_station 108 = .ok (.getfield 13, 3) := by decide +kernel
theorem dX11_station_111 : decode cX11_station 111 = .ok (.iload 6, 2) := by decide +kernel
theorem dX11_station_113 : decode cX11_station 113 = .ok (.iconst 2, 1) := by decide +kernel
theorem dX11_station_114 : decode cX11_station 114 = .ok (.iadd, 1) := by decide +kernel
theorem dX11_station_115 : decode cX11_station 115 = .ok (.iload_n 3, 1) := by decide +kernel
theorem dX11_station_116 : decode cX11_station 116 = .ok (.iastore, 1) := by decide +kernel
theorem dX11_station_117 : decode cX11_station 117 = .ok (.aload_n 0, 1) := by decide +kernel
theorem dX11_station_118 : decode cX11_station 118 = .ok (.getfield 13, 3) := by decide +kernel
theorem dX11_station_121 : decode cX11_station 121 = .ok (.iload 6, 2) := by decide +kernel
theorem dX11_station_123 : decode cX11_station 123 = .ok (.iconst 3, 1) := by decide +kernel
theorem dX11_station_124 : decode cX11_station 124 = .ok (.iadd, 1) := by decide +kernel
theorem dX11_station_125 : decode cX11_station 125 = .ok (.iload 4, 2) := by decide +kernel
theorem dX11_station_127 : decode cX11_station 127 = .ok (.iastore, 1) := by decide +kernel
theorem dX11_station_128 : decode cX11_station 128 = .ok (.aload_n 0, 1) := by decide +kernel
theorem dX11_station_129 : decode cX11_station 129 = .ok (.getfield 13, 3) := by decide +kernel
theorem dX11_station_132 : decode cX11_station 132 = .ok (.iload 6, 2) := by decide +kernel
theorem dX11_station_134 : decode cX11_station 134 = .ok (.iconst 4, 1) := by decide +kernel
theorem dX11_station_135 : decode cX11_station 135 = .ok (.iadd, 1) := by decide +kernel
theorem dX11_station_136 : decode cX11_station 136 = .ok (.iload 5, 2) := by decide +kernel
theorem dX11_station_138 : decode cX11_station 138 = .ok (.iastore, 1) := by decide +kernel
theorem dX11_station_139 : decode cX11_station 139 = .ok (.aload_n 0, 1) := by decide +kernel
theorem dX11_station_140 : decode cX11_station 140 = .ok (.getfield 13, 3) := by decide +kernel
theorem dX11_station_143 : decode cX11_station 143 = .ok (.iload 6, 2) := by decide +kernel
theorem dX11_station_145 : decode cX11_station 145 = .ok (.iconst 5, 1) := by decide +kernel
theorem dX11_station_146 : decode cX11_station 146 = .ok (.iadd, 1) := by decide +kernel
theorem dX11_station_147 : decode cX11_station 147 = .ok (.iconst (-1), 1) := by decide +kernel
theorem dX11_station_148 : decode cX11_station 148 = .ok (.iastore, 1) := by decide +kernel
theorem dX11_station_149 : decode cX11_station 149 = .ok (.aload_n 0, 1) := by decide +kernel
theorem dX11_station_150 : decode cX11_station 150 = .ok (.getfield 13, 3) := by decide +kernel
theorem dX11_station_153 : decode cX11_station 153 = .ok (.iconst 1, 1) := by decide +kernel
theorem dX11_station_154 : decode cX11_station 154 = .ok (.dup2, 1) := by decide +kernel
theorem dX11_station_155 : decode cX11_station 155 = .ok (.iaload, 1) := by decide +kernel
theorem dX11_station_156 : decode cX11_station 156 = .ok (.iconst 1, 1) := by decide +kernel
theorem dX11_station_157 : decode cX11_station 157 = .ok (.iadd, 1) := by decide +kernel
theorem dX11_station_158 : decode cX11_station 158 = .ok (.iastore, 1) := by decide +kernel
theorem dX11_station_159 : decode cX11_station 159 = .ok (.aload_n 0, 1) := by decide +kernel
theorem dX11_station_160 : decode cX11_station 160 = .ok (.getfield 13, 3) := by decide +kernel
theorem dX11_station_163 : decode cX11_station 163 = .ok (.iconst 1, 1) := by decide +kernel
theorem dX11_station_164 : decode cX11_station 164 = .ok (.iaload, 1) := by decide +kernel
theorem dX11_station_165 : decode cX11_station 165 = .ok (.iconst 1, 1) := by decide +kernel
theorem dX11_station_166 : decode cX11_station 166 = .ok (.isub, 1) := by decide +kernel
theorem dX11_station_167 : decode cX11_station 167 = .ok (.ireturn, 1) := by decide +kernel
theorem dX11_isStation_0 : decode cX11_isStation 0 = .ok (.iload_n 1, 1) := by decide +kernel
theorem dX11_isStation_1 : decode cX11_isStation 1 = .ok (.iconst 0, 1) := by decide +kernel
theorem dX11_isStation_2 : decode cX11_isStation 2 = .ok (.aload_n 0, 1) := by decide +kernel
theorem dX11_isStation_3 : decode cX11_isStation 3 = .ok (.getfield 13, 3) := by decide +kernel
theorem dX11_isStation_6 : decode cX11_isStation 6 = .ok (.iconst 1, 1) := by decide +kernel
theorem dX11_isStation_7 : decode cX11_isStation 7 = .ok (.iaload, 1) := by decide +kernel
theorem dX11_isStation_8 : decode cX11_isStation 8 = .ok (.iconst 1, 1) := by decide +kernel
theorem dX11_isStation_9 : decode cX11_isStation 9 = .ok (.isub, 1) := by decide +kernel
theorem dX11_isStation_10 : decode cX11_isStation 10 = .ok (.invokestatic 50, 3) := by decide +kernel
theorem dX11_isStation_13 : decode cX11_isStation 13 = .ok (.ireturn, 1) := by decide +kernel
theorem dX11_guards_0 : decode cX11_guards 0 = .ok (.aload_n 0, 1) := by decide +kernel
theorem dX11_guards_1 : decode cX11_guards 1 = .ok (.iload_n 1, 1) := by decide +kernel
theorem dX11_guards_2 : decode cX11_guards 2 = .ok (.invokevirtual 143, 3) := by decide +kernel
theorem dX11_guards_5 : decode cX11_guards 5 = .ok (.ifCond .eq 16, 3) := by decide +kernel
theorem dX11_guards_8 : decode cX11_guards 8 = .ok (.iload_n 2, 1) := by decide +kernel
theorem dX11_guards_9 : decode cX11_guards 9 = .ok (.iconst (-1), 1) := by decide +kernel
theorem dX11_guards_10 : decode cX11_guards 10 = .ok (.if_icmp .eq 16, 3) := by decide +kernel
theorem dX11_guards_13 : decode cX11_guards 13 = .ok (.aload_n 0, 1) := by decide +kernel
theorem dX11_guards_14 : decode cX11_guards 14 = .ok (.iload_n 2, 1) := by decide +kernel
theorem dX11_guards_15 : decode cX11_guards 15 = .ok (.invokevirtual 136, 3) := by decide +kernel
theorem dX11_guards_18 : decode cX11_guards 18 = .ok (.ifCond .ne 8, 3) := by decide +kernel
theorem dX11_guards_21 : decode cX11_guards 21 = .ok (.aload_n 0, 1) := by decide +kernel
theorem dX11_guards_22 : decode cX11_guards 22 = .ok (.invokevirtual 130, 3) := by decide +kernel
theorem dX11_guards_25 : decode cX11_guards 25 = .ok (.ireturn, 1) := by decide +kernel
theorem dX11_guards_26 : decode cX11_guards 26 = .ok (.aload_n 0, 1) := by decide +kernel
theorem dX11_guards_27 : decode cX11_guards 27 = .ok (.invokevirtual 133, 3) := by decide +kernel
theorem dX11_guards_30 : decode cX11_guards 30 = .ok (.aload_n 0, 1) := by decide +kernel
theorem dX11_guards_31 : decode cX11_guards 31 = .ok (.getfield 13, 3) := by decide +kernel
theorem dX11_guards_34 : decode cX11_guards 34 = .ok (.iload_n 1, 1) := by decide +kernel
theorem dX11_guards_35 : decode cX11_guards 35 = .ok (.invokestatic 121, 3) := by decide +kernel
theorem dX11_guards_38 : decode cX11_guards 38 = .ok (.iconst 5, 1) := by decide +kernel
theorem dX11_guards_39 : decode cX11_guards 39 = .ok (.iadd, 1) := by decide +kernel
theorem dX11_guards_40 : decode cX11_guards 40 = .ok (.iaload, 1) := by decide +kernel
theorem dX11_guards_41 : decode cX11_guards 41 = .ok (.istore_n 3, 1) := by decide +kernel
theorem dX11_guards_42 : decode cX11_guards 42 = .ok (.aload_n 0, 1) := by decide +kernel
theorem dX11_guards_43 : decode cX11_guards 43 = .ok (.getfield 13, 3) := by decide +kernel
theorem dX11_guards_46 : decode cX11_guards 46 = .ok (.iload_n 1, 1) := by decide +kernel
theorem dX11_guards_47 : decode cX11_guards 47 = .ok (.invokestatic 121, 3) := by decide +kernel
theorem dX11_guards_50 : decode cX11_guards 50 = .ok (.iconst 5, 1) := by decide +kernel
theorem dX11_guards_51 : decode cX11_guards 51 = .ok (.iadd, 1) := by decide +kernel
theorem dX11_guards_52 : decode cX11_guards 52 = .ok (.iload_n 2, 1) := by decide +kernel
theorem dX11_guards_53 : decode cX11_guards 53 = .ok (.iastore, 1) := by decide +kernel
theorem dX11_guards_54 : decode cX11_guards 54 = .ok (.iload_n 3, 1) := by decide +kernel
theorem dX11_guards_55 : decode cX11_guards 55 = .ok (.ireturn, 1) := by decide +kernel
theorem dX11_ticks_0 : decode cX11_ticks 0 = .ok (.iload_n 1, 1) := by decide +kernel
theorem dX11_ticks_1 : decode cX11_ticks 1 = .ok (.iconst 1, 1) := by decide +kernel
theorem dX11_ticks_2 : decode cX11_ticks 2 = .ok (.bipush 30, 2) := by decide +kernel
theorem dX11_ticks_4 : decode cX11_ticks 4 = .ok (.invokestatic 50, 3) := by decide +kernel
theorem dX11_ticks_7 : decode cX11_ticks 7 = .ok (.ifCond .ne 8, 3) := by decide +kernel
theorem dX11_ticks_10 : decode cX11_ticks 10 = .ok (.aload_n 0, 1) := by decide +kernel
theorem dX11_ticks_11 : decode cX11_ticks 11 = .ok (.invokevirtual 130, 3) := by decide +kernel
theorem dX11_ticks_14 : decode cX11_ticks 14 = .ok (.ireturn, 1) := by decide +kernel
theorem dX11_ticks_15 : decode cX11_ticks 15 = .ok (.aload_n 0, 1) := by decide +kernel
theorem dX11_ticks_16 : decode cX11_ticks 16 = .ok (.invokevirtual 133, 3) := by decide +kernel
theorem dX11_ticks_19 : decode cX11_ticks 19 = .ok (.aload_n 0, 1) := by decide +kernel
theorem dX11_ticks_20 : decode cX11_ticks 20 = .ok (.invokevirtual 146, 3) := by decide +kernel
theorem dX11_ticks_23 : decode cX11_ticks 23 = .ok (.istore_n 2, 1) := by decide +kernel
theorem dX11_ticks_24 : decode cX11_ticks 24 = .ok (.iconst 0, 1) := by decide +kernel
theorem dX11_ticks_25 : decode cX11_ticks 25 = .ok (.istore_n 3, 1) := by decide +kernel
theorem dX11_ticks_26 : decode cX11_ticks 26 = .ok (.iload_n 3, 1) := by decide +kernel
theorem dX11_ticks_27 : decode cX11_ticks 27 = .ok (.iload_n 1, 1) := by decide +kernel
theorem dX11_ticks_28 : decode cX11_ticks 28 = .ok (.if_icmp .ge 13, 3) := by decide +kernel
theorem dX11_ticks_31 : decode cX11_ticks 31 = .ok (.aload_n 0, 1) := by decide +kernel
theorem dX11_ticks_32 : decode cX11_ticks 32 = .ok (.invokevirtual 149, 3) := by decide +kernel
theorem dX11_ticks_35 : decode cX11_ticks 35 = .ok (.iinc 3 1, 3) := by decide +kernel
theorem dX11_ticks_38 : decode cX11_ticks 38 = .ok (.goto (-12), 3) := by decide +kernel
theorem dX11_ticks_41 : decode cX11_ticks 41 = .ok (.aload_n 0, 1) := by decide +kernel
theorem dX11_ticks_42 : decode cX11_ticks 42 = .ok (.invokevirtual 146, 3) := by decide +kernel
theorem dX11_ticks_45 : decode cX11_ticks 45 = .ok (.iload_n 2, 1) := by decide +kernel
theorem dX11_ticks_46 : decode cX11_ticks 46 = .ok (.isub, 1) := by decide +kernel
theorem dX11_ticks_47 : decode cX11_ticks 47 = .ok (.ireturn, 1) := by decide +kernel
theorem dX11_puts_0 : decode cX11_puts 0 = .ok (.aload_n 0, 1) := by decide +kernel
theorem dX11_puts_1 : decode cX11_puts 1 = .ok (.iload_n 1, 1) := by decide +kernel
theorem dX11_puts_2 : decode cX11_puts 2 = .ok (.invokevirtual 136, 3) := by decide +kernel
theorem dX11_puts_5 : decode cX11_puts 5 = .ok (.ifCond .eq 13, 3) := by decide +kernel
theorem dX11_puts_8 : decode cX11_puts 8 = .ok (.iload_n 2, 1) := by decide +kernel
theorem dX11_puts_9 : decode cX11_puts 9 = .ok (.iconst 0, 1) := by decide +kernel
theorem dX11_puts_10 : decode cX11_puts 10 = .ok (.bipush 9, 2) := by decide +kernel
theorem dX11_puts_12 : decode cX11_puts 12 = .ok (.invokestatic 50, 3) := by decide +kernel
theorem dX11_puts_15 : decode cX11_puts 15 = .ok (.ifCond .ne 8, 3) := by decide +kernel
theorem dX11_puts_18 : decode cX11_puts 18 = .ok (.aload_n 0, 1) := by decide +kernel
theorem dX11_puts_19 : decode cX11_puts 19 = .ok (.invokevirtual 130, 3) := by decide +kernel
theorem dX11_puts_22 : decode cX11_puts 22 = .ok (.ireturn, 1) := by decide +kernel
theorem dX11_puts_23 : decode cX11_puts 23 = .ok (.aload_n 0, 1) := by decide +kernel
theorem dX11_puts_24 : decode cX11_puts 24 = .ok (.invokevirtual 133, 3) := by decide +kernel
theorem dX11_puts_27 : decode cX11_puts 27 = .ok (.aload_n 0, 1) := by decide +kernel
theorem dX11_puts_28 : decode cX11_puts 28 = .ok (.iload_n 1, 1) := by decide +kernel
theorem dX11_puts_29 : decode cX11_puts 29 = .ok (.iload_n 2, 1) := by decide +kernel
theorem dX11_puts_30 : decode cX11_puts 30 = .ok (.iconst (-1), 1) := by decide +kernel
theorem dX11_puts_31 : decode cX11_puts 31 = .ok (.invokevirtual 98, 3) := by decide +kernel
theorem dX11_puts_34 : decode cX11_puts 34 = .ok (.ifCond .eq 17, 3) := by decide +kernel
theorem dX11_puts_37 : decode cX11_puts 37 = .ok (.aload_n 0, 1) := by decide +kernel
theorem dX11_puts_38 : decode cX11_puts 38 = .ok (.getfield 13, 3) := by decide +kernel
theorem dX11_puts_41 : decode cX11_puts 41 = .ok (.iload_n 1, 1) := by decide +kernel
theorem dX11_puts_42 : decode cX11_puts 42 = .ok (.invokestatic 54, 3) := by decide +kernel
theorem dX11_puts_45 : decode cX11_puts 45 = .ok (.iconst 0, 1) := by decide +kernel
theorem dX11_puts_46 : decode cX11_puts 46 = .ok (.iadd, 1) := by decide +kernel
theorem dX11_puts_47 : decode cX11_puts 47 = .ok (.iaload, 1) := by decide +kernel
theorem dX11_puts_48 : decode cX11_puts 48 = .ok (.goto 5, 3) := by decide +kernel
theorem dX11_puts_51 : decode cX11_puts 51 = .ok (.bipush (-5), 2) := by decide +kernel
theorem dX11_puts_53 : decode cX11_puts 53 = .ok (.istore_n 3, 1) := by decide +kernel
theorem dX11_puts_54 : decode cX11_puts 54 = .ok (.aload_n 0, 1) := by decide +kernel
theorem dX11_puts_55 : decode cX11_puts 55 = .ok (.invokevirtual 127, 3) := by decide +kernel
theorem dX11_puts_58 : decode cX11_puts 58 = .ok (.iload_n 3, 1) := by decide +kernel
theorem dX11_puts_59 : decode cX11_puts 59 = .ok (.ireturn, 1) := by decide +kernel
theorem dX11_takes_0 : decode cX11_takes 0 = .ok (.aload_n 0, 1) := by decide +kernel
theorem dX11_takes_1 : decode cX11_takes 1 = .ok (.iload_n 1, 1) := by decide +kernel
theorem dX11_takes_2 : decode cX11_takes 2 = .ok (.invokevirtual 136, 3) := by decide +kernel
theorem dX11_takes_5 : decode cX11_takes 5 = .ok (.ifCond .ne 8, 3) := by decide +kernel
theorem dX11_takes_8 : decode cX11_takes 8 = .ok (.aload_n 0, 1) := by decide +kernel
theorem dX11_takes_9 : decode cX11_takes 9 = .ok (.invokevirtual 130, 3) := by decide +kernel
theorem dX11_takes_12 : decode cX11_takes 12 = .ok (.ireturn, 1) := by decide +kernel
theorem dX11_takes_13 : decode cX11_takes 13 = .ok (.aload_n 0, 1) := by decide +kernel
theorem dX11_takes_14 : decode cX11_takes 14 = .ok (.invokevirtual 133, 3) := by decide +kernel
theorem dX11_takes_17 : decode cX11_takes 17 = .ok (.aload_n 0, 1) := by decide +kernel
theorem dX11_takes_18 : decode cX11_takes 18 = .ok (.iload_n 1, 1) := by decide +kernel
theorem dX11_takes_19 : decode cX11_takes 19 = .ok (.iconst (-1), 1) := by decide +kernel
theorem dX11_takes_20 : decode cX11_takes 20 = .ok (.invokevirtual 95, 3) := by decide +kernel
theorem dX11_takes_23 : decode cX11_takes 23 = .ok (.istore_n 2, 1) := by decide +kernel
theorem dX11_takes_24 : decode cX11_takes 24 = .ok (.aload_n 0, 1) := by decide +kernel
theorem dX11_takes_25 : decode cX11_takes 25 = .ok (.invokevirtual 127, 3) := by decide +kernel
theorem dX11_takes_28 : decode cX11_takes 28 = .ok (.iload_n 2, 1) := by decide +kernel
theorem dX11_takes_29 : decode cX11_takes 29 = .ok (.iconst (-1), 1) := by decide +kernel
theorem dX11_takes_30 : decode cX11_takes 30 = .ok (.if_icmp .ne 8, 3) := by decide +kernel
theorem dX11_takes_33 : decode cX11_takes 33 = .ok (.bipush (-5), 2) := by decide +kernel
theorem dX11_takes_35 : decode cX11_takes 35 = .ok (.goto 4, 3) := by decide +kernel
theorem dX11_takes_38 : decode cX11_takes 38 = .ok (.iload_n 2, 1) := by decide +kernel
theorem dX11_takes_39 : decode cX11_takes 39 = .ok (.ireturn, 1) := by decide +kernel
theorem dX11_moves_0 : decode cX11_moves 0 = .ok (.aload_n 0, 1) := by decide +kernel
theorem dX11_moves_1 : decode cX11_moves 1 = .ok (.iload_n 1, 1) := by decide +kernel
theorem dX11_moves_2 : decode cX11_moves 2 = .ok (.invokevirtual 136, 3) := by decide +kernel
theorem dX11_moves_5 : decode cX11_moves 5 = .ok (.ifCond .eq 36, 3) := by decide +kernel
theorem dX11_moves_8 : decode cX11_moves 8 = .ok (.aload_n 0, 1) := by decide +kernel
theorem dX11_moves_9 : decode cX11_moves 9 = .ok (.iload_n 2, 1) := by decide +kernel
theorem dX11_moves_10 : decode cX11_moves 10 = .ok (.invokevirtual 136, 3) := by decide +kernel
theorem dX11_moves_13 : decode cX11_moves 13 = .ok (.ifCond .eq 28, 3) := by decide +kernel
theorem dX11_moves_16 : decode cX11_moves 16 = .ok (.iload_n 1, 1) := by decide +kernel
theorem dX11_moves_17 : decode cX11_moves 17 = .ok (.iload_n 2, 1) := by decide +kernel
theorem dX11_moves_18 : decode cX11_moves 18 = .ok (.if_icmp .eq 23, 3) := by decide +kernel
theorem dX11_moves_21 : decode cX11_moves 21 = .ok (.iload_n 3, 1) := by decide +kernel
theorem dX11_moves_22 : decode cX11_moves 22 = .ok (.iconst 1, 1) := by decide +kernel
theorem dX11_moves_23 : decode cX11_moves 23 = .ok (.bipush 9, 2) := by decide +kernel
theorem dX11_moves_25 : decode cX11_moves 25 = .ok (.invokestatic 50, 3) := by decide +kernel
theorem dX11_moves_28 : decode cX11_moves 28 = .ok (.ifCond .eq 13, 3) := by decide +kernel
theorem dX11_moves_31 : decode cX11_moves 31 = .ok (.iload 4, 2) := by decide +kernel
theorem dX11_moves_33 : decode cX11_moves 33 = .ok (.iconst 0, 1) := by decide +kernel
theorem dX11_moves_34 : decode cX11_moves 34 = .ok (.iconst 1, 1) := by decide +kernel
theorem dX11_moves_35 : decode cX11_moves 35 = .ok (.invokestatic 50, 3) := by decide +kernel
theorem dX11_moves_38 : decode cX11_moves 38 = .ok (.ifCond .ne 8, 3) := by decide +kernel
theorem dX11_moves_41 : decode cX11_moves 41 = .ok (.aload_n 0, 1) := by decide +kernel
theorem dX11_moves_42 : decode cX11_moves 42 = .ok (.invokevirtual 130, 3) := by decide +kernel
theorem dX11_moves_45 : decode cX11_moves 45 = .ok (.ireturn, 1) := by decide +kernel
theorem dX11_moves_46 : decode cX11_moves 46 = .ok (.aload_n 0, 1) := by decide +kernel
theorem dX11_moves_47 : decode cX11_moves 47 = .ok (.invokevirtual 133, 3) := by decide +kernel
theorem dX11_moves_50 : decode cX11_moves 50 = .ok (.aload_n 0, 1) := by decide +kernel
theorem dX11_moves_51 : decode cX11_moves 51 = .ok (.iconst 5, 1) := by decide +kernel
theorem dX11_moves_52 : decode cX11_moves 52 = .ok (.invokevirtual 152, 3) := by decide +kernel
theorem dX11_moves_55 : decode cX11_moves 55 = .ok (.aload_n 0, 1) := by decide +kernel
theorem dX11_moves_56 : decode cX11_moves 56 = .ok (.iload_n 1, 1) := by decide +kernel
theorem dX11_moves_57 : decode cX11_moves 57 = .ok (.iload_n 2, 1) := by decide +kernel
theorem dX11_moves_58 : decode cX11_moves 58 = .ok (.iload_n 3, 1) := by decide +kernel
theorem dX11_moves_59 : decode cX11_moves 59 = .ok (.invokevirtual 155, 3) := by decide +kernel
end
section
theorem dX11_moves_62 : decode cX11_moves 62 = .ok (.istore 5, 2) := by decide +kernel
theorem dX11_moves_64 : decode cX11_moves 64 = .ok (.iload 5, 2) := by decide +kernel
theorem dX11_moves_66 : decode cX11_moves 66 = .ok (.iload_n 3, 1) := by decide +kernel
theorem dX11_moves_67 : decode cX11_moves 67 = .ok (.if_icmp .ne 7, 3) := by decide +kernel
theorem dX11_moves_70 : decode cX11_moves 70 = .ok (.iconst 1, 1) := by decide +kernel
theorem dX11_moves_71 : decode cX11_moves 71 = .ok (.goto 4, 3) := by decide +kernel
theorem dX11_moves_74 : decode cX11_moves 74 = .ok (.iconst 0, 1) := by decide +kernel
theorem dX11_moves_75 : decode cX11_moves 75 = .ok (.istore 6, 2) := by decide +kernel
theorem dX11_moves_77 : decode cX11_moves 77 = .ok (.iload 6, 2) := by decide +kernel
theorem dX11_moves_79 : decode cX11_moves 79 = .ok (.ifCond .ne 14, 3) := by decide +kernel
theorem dX11_moves_82 : decode cX11_moves 82 = .ok (.iload 4, 2) := by decide +kernel
theorem dX11_moves_84 : decode cX11_moves 84 = .ok (.iconst 1, 1) := by decide +kernel
theorem dX11_moves_85 : decode cX11_moves 85 = .ok (.if_icmp .ne 8, 3) := by decide +kernel
theorem dX11_moves_88 : decode cX11_moves 88 = .ok (.aload_n 0, 1) := by decide +kernel
theorem dX11_moves_89 : decode cX11_moves 89 = .ok (.iconst 5, 1) := by decide +kernel
theorem dX11_moves_90 : decode cX11_moves 90 = .ok (.invokevirtual 159, 3) := by decide +kernel
theorem dX11_moves_93 : decode cX11_moves 93 = .ok (.aload_n 0, 1) := by decide +kernel
theorem dX11_moves_94 : decode cX11_moves 94 = .ok (.invokevirtual 127, 3) := by decide +kernel
theorem dX11_moves_97 : decode cX11_moves 97 = .ok (.iload 6, 2) := by decide +kernel
theorem dX11_moves_99 : decode cX11_moves 99 = .ok (.ifCond .eq 7, 3) := by decide +kernel
theorem dX11_moves_102 : decode cX11_moves 102 = .ok (.iload_n 3, 1) := by decide +kernel
theorem dX11_moves_103 : decode cX11_moves 103 = .ok (.goto 19, 3) := by decide +kernel
theorem dX11_moves_106 : decode cX11_moves 106 = .ok (.iload 4, 2) := by decide +kernel
theorem dX11_moves_108 : decode cX11_moves 108 = .ok (.iconst 1, 1) := by decide +kernel
theorem dX11_moves_109 : decode cX11_moves 109 = .ok (.if_icmp .ne 8, 3) := by decide +kernel
theorem dX11_moves_112 : decode cX11_moves 112 = .ok (.bipush (-100), 2) := by decide +kernel
theorem dX11_moves_114 : decode cX11_moves 114 = .ok (.goto 8, 3) := by decide +kernel
theorem dX11_moves_117 : decode cX11_moves 117 = .ok (.bipush (-100), 2) := by decide +kernel
theorem dX11_moves_119 : decode cX11_moves 119 = .ok (.iload 5, 2) := by decide +kernel
theorem dX11_moves_121 : decode cX11_moves 121 = .ok (.isub, 1) := by decide +kernel
theorem dX11_moves_122 : decode cX11_moves 122 = .ok (.ireturn, 1) := by decide +kernel
theorem dX11_asks_0 : decode cX11_asks 0 = .ok (.iload_n 1, 1) := by decide +kernel
theorem dX11_asks_1 : decode cX11_asks 1 = .ok (.invokestatic 162, 3) := by decide +kernel
theorem dX11_asks_4 : decode cX11_asks 4 = .ok (.ifCond .eq 31, 3) := by decide +kernel
theorem dX11_asks_7 : decode cX11_asks 7 = .ok (.aload_n 0, 1) := by decide +kernel
theorem dX11_asks_8 : decode cX11_asks 8 = .ok (.iload_n 2, 1) := by decide +kernel
theorem dX11_asks_9 : decode cX11_asks 9 = .ok (.invokevirtual 136, 3) := by decide +kernel
theorem dX11_asks_12 : decode cX11_asks 12 = .ok (.ifCond .eq 23, 3) := by decide +kernel
theorem dX11_asks_15 : decode cX11_asks 15 = .ok (.iload_n 3, 1) := by decide +kernel
theorem dX11_asks_16 : decode cX11_asks 16 = .ok (.iconst 0, 1) := by decide +kernel
theorem dX11_asks_17 : decode cX11_asks 17 = .ok (.iconst 1, 1) := by decide +kernel
theorem dX11_asks_18 : decode cX11_asks 18 = .ok (.invokestatic 50, 3) := by decide +kernel
theorem dX11_asks_21 : decode cX11_asks 21 = .ok (.ifCond .eq 14, 3) := by decide +kernel
theorem dX11_asks_24 : decode cX11_asks 24 = .ok (.iload 4, 2) := by decide +kernel
theorem dX11_asks_26 : decode cX11_asks 26 = .ok (.iconst 0, 1) := by decide +kernel
theorem dX11_asks_27 : decode cX11_asks 27 = .ok (.bipush 9, 2) := by decide +kernel
theorem dX11_asks_29 : decode cX11_asks 29 = .ok (.invokestatic 50, 3) := by decide +kernel
theorem dX11_asks_32 : decode cX11_asks 32 = .ok (.ifCond .ne 8, 3) := by decide +kernel
theorem dX11_asks_35 : decode cX11_asks 35 = .ok (.aload_n 0, 1) := by decide +kernel
theorem dX11_asks_36 : decode cX11_asks 36 = .ok (.invokevirtual 130, 3) := by decide +kernel
theorem dX11_asks_39 : decode cX11_asks 39 = .ok (.ireturn, 1) := by decide +kernel
theorem dX11_asks_40 : decode cX11_asks 40 = .ok (.iload_n 1, 1) := by decide +kernel
theorem dX11_asks_41 : decode cX11_asks 41 = .ok (.invokestatic 58, 3) := by decide +kernel
theorem dX11_asks_44 : decode cX11_asks 44 = .ok (.istore 5, 2) := by decide +kernel
theorem dX11_asks_46 : decode cX11_asks 46 = .ok (.aload_n 0, 1) := by decide +kernel
theorem dX11_asks_47 : decode cX11_asks 47 = .ok (.getfield 13, 3) := by decide +kernel
theorem dX11_asks_50 : decode cX11_asks 50 = .ok (.iload 5, 2) := by decide +kernel
theorem dX11_asks_52 : decode cX11_asks 52 = .ok (.iconst 0, 1) := by decide +kernel
theorem dX11_asks_53 : decode cX11_asks 53 = .ok (.iadd, 1) := by decide +kernel
theorem dX11_asks_54 : decode cX11_asks 54 = .ok (.iaload, 1) := by decide +kernel
theorem dX11_asks_55 : decode cX11_asks 55 = .ok (.iconst 1, 1) := by decide +kernel
theorem dX11_asks_56 : decode cX11_asks 56 = .ok (.if_icmp .ne 8, 3) := by decide +kernel
theorem dX11_asks_59 : decode cX11_asks 59 = .ok (.aload_n 0, 1) := by decide +kernel
theorem dX11_asks_60 : decode cX11_asks 60 = .ok (.invokevirtual 65, 3) := by decide +kernel
theorem dX11_asks_63 : decode cX11_asks 63 = .ok (.ireturn, 1) := by decide +kernel
theorem dX11_asks_64 : decode cX11_asks 64 = .ok (.aload_n 0, 1) := by decide +kernel
theorem dX11_asks_65 : decode cX11_asks 65 = .ok (.invokevirtual 133, 3) := by decide +kernel
theorem dX11_asks_68 : decode cX11_asks 68 = .ok (.aload_n 0, 1) := by decide +kernel
theorem dX11_asks_69 : decode cX11_asks 69 = .ok (.iload_n 1, 1) := by decide +kernel
theorem dX11_asks_70 : decode cX11_asks 70 = .ok (.iload_n 2, 1) := by decide +kernel
theorem dX11_asks_71 : decode cX11_asks 71 = .ok (.iload_n 3, 1) := by decide +kernel
theorem dX11_asks_72 : decode cX11_asks 72 = .ok (.iload 4, 2) := by decide +kernel
theorem dX11_asks_74 : decode cX11_asks 74 = .ok (.invokevirtual 105, 3) := by decide +kernel
theorem dX11_asks_77 : decode cX11_asks 77 = .ok (.istore 6, 2) := by decide +kernel
theorem dX11_asks_79 : decode cX11_asks 79 = .ok (.iload 6, 2) := by decide +kernel
theorem dX11_asks_81 : decode cX11_asks 81 = .ok (.ifCond .ne 78, 3) := by decide +kernel
theorem dX11_asks_84 : decode cX11_asks 84 = .ok (.aload_n 0, 1) := by decide +kernel
theorem dX11_asks_85 : decode cX11_asks 85 = .ok (.getfield 13, 3) := by decide +kernel
theorem dX11_asks_88 : decode cX11_asks 88 = .ok (.iload 5, 2) := by decide +kernel
theorem dX11_asks_90 : decode cX11_asks 90 = .ok (.iconst 0, 1) := by decide +kernel
theorem dX11_asks_91 : decode cX11_asks 91 = .ok (.iadd, 1) := by decide +kernel
theorem dX11_asks_92 : decode cX11_asks 92 = .ok (.iconst 1, 1) := by decide +kernel
theorem dX11_asks_93 : decode cX11_asks 93 = .ok (.iastore, 1) := by decide +kernel
theorem dX11_asks_94 : decode cX11_asks 94 = .ok (.aload_n 0, 1) := by decide +kernel
theorem dX11_asks_95 : decode cX11_asks 95 = .ok (.getfield 13, 3) := by decide +kernel
theorem dX11_asks_98 : decode cX11_asks 98 = .ok (.iload 5, 2) := by decide +kernel
theorem dX11_asks_100 : decode cX11_asks 100 = .ok (.iconst 1, 1) := by decide +kernel
theorem dX11_asks_101 : decode cX11_asks 101 = .ok (.iadd, 1) := by decide +kernel
theorem dX11_asks_102 : decode cX11_asks 102 = .ok (.iload_n 2, 1) := by decide +kernel
theorem dX11_asks_103 : decode cX11_asks 103 = .ok (.iastore, 1) := by decide +kernel
theorem dX11_asks_104 : decode cX11_asks 104 = .ok (.aload_n 0, 1) := by decide +kernel
theorem dX11_asks_105 : decode cX11_asks 105 = .ok (.getfield 13, 3) := by decide +kernel
theorem dX11_asks_108 : decode cX11_asks 108 = .ok (.iload 5, 2) := by decide +kernel
theorem dX11_asks_110 : decode cX11_asks 110 = .ok (.iconst 2, 1) := by decide +kernel
theorem dX11_asks_111 : decode cX11_asks 111 = .ok (.iadd, 1) := by decide +kernel
theorem dX11_asks_112 : decode cX11_asks 112 = .ok (.iload_n 3, 1) := by decide +kernel
theorem dX11_asks_113 : decode cX11_asks 113 = .ok (.iastore, 1) := by decide +kernel
theorem dX11_asks_114 : decode cX11_asks 114 = .ok (.aload_n 0, 1) := by decide +kernel
theorem dX11_asks_115 : decode cX11_asks 115 = .ok (.getfield 13, 3) := by decide +kernel
theorem dX11_asks_118 : decode cX11_asks 118 = .ok (.iload 5, 2) := by decide +kernel
theorem dX11_asks_120 : decode cX11_asks 120 = .ok (.iconst 3, 1) := by decide +kernel
theorem dX11_asks_121 : decode cX11_asks 121 = .ok (.iadd, 1) := by decide +kernel
theorem dX11_asks_122 : decode cX11_asks 122 = .ok (.iload_n 3, 1) := by decide +kernel
theorem dX11_asks_123 : decode cX11_asks 123 = .ok (.ifCond .ne 8, 3) := by decide +kernel
theorem dX11_asks_126 : decode cX11_asks 126 = .ok (.iload 4, 2) := by decide +kernel
theorem dX11_asks_128 : decode cX11_asks 128 = .ok (.goto 4, 3) := by decide +kernel
theorem dX11_asks_131 : decode cX11_asks 131 = .ok (.iconst (-1), 1) := by decide +kernel
theorem dX11_asks_132 : decode cX11_asks 132 = .ok (.iastore, 1) := by decide +kernel
theorem dX11_asks_133 : decode cX11_asks 133 = .ok (.aload_n 0, 1) := by decide +kernel
theorem dX11_asks_134 : decode cX11_asks 134 = .ok (.getfield 13, 3) := by decide +kernel
theorem dX11_asks_137 : decode cX11_asks 137 = .ok (.sipush 300, 3) := by decide +kernel
theorem dX11_asks_140 : decode cX11_asks 140 = .ok (.aload_n 0, 1) := by decide +kernel
theorem dX11_asks_141 : decode cX11_asks 141 = .ok (.getfield 13, 3) := by decide +kernel
theorem dX11_asks_144 : decode cX11_asks 144 = .ok (.iconst 4, 1) := by decide +kernel
theorem dX11_asks_145 : decode cX11_asks 145 = .ok (.iaload, 1) := by decide +kernel
theorem dX11_asks_146 : decode cX11_asks 146 = .ok (.iadd, 1) := by decide +kernel
theorem dX11_asks_147 : decode cX11_asks 147 = .ok (.iload_n 1, 1) := by decide +kernel
theorem dX11_asks_148 : decode cX11_asks 148 = .ok (.iastore, 1) := by decide +kernel
theorem dX11_asks_149 : decode cX11_asks 149 = .ok (.aload_n 0, 1) := by decide +kernel
theorem dX11_asks_150 : decode cX11_asks 150 = .ok (.getfield 13, 3) := by decide +kernel
theorem dX11_asks_153 : decode cX11_asks 153 = .ok (.iconst 4, 1) := by decide +kernel
theorem dX11_asks_154 : decode cX11_asks 154 = .ok (.dup2, 1) := by decide +kernel
theorem dX11_asks_155 : decode cX11_asks 155 = .ok (.iaload, 1) := by decide +kernel
theorem dX11_asks_156 : decode cX11_asks 156 = .ok (.iconst 1, 1) := by decide +kernel
theorem dX11_asks_157 : decode cX11_asks 157 = .ok (.iadd, 1) := by decide +kernel
theorem dX11_asks_158 : decode cX11_asks 158 = .ok (.iastore, 1) := by decide +kernel
theorem dX11_asks_159 : decode cX11_asks 159 = .ok (.aload_n 0, 1) := by decide +kernel
theorem dX11_asks_160 : decode cX11_asks 160 = .ok (.invokevirtual 127, 3) := by decide +kernel
theorem dX11_asks_163 : decode cX11_asks 163 = .ok (.iload 6, 2) := by decide +kernel
theorem dX11_asks_165 : decode cX11_asks 165 = .ok (.ifCond .eq 7, 3) := by decide +kernel
theorem dX11_asks_168 : decode cX11_asks 168 = .ok (.iconst 1, 1) := by decide +kernel
theorem dX11_asks_169 : decode cX11_asks 169 = .ok (.goto 4, 3) := by decide +kernel
theorem dX11_asks_172 : decode cX11_asks 172 = .ok (.iconst 0, 1) := by decide +kernel
theorem dX11_asks_173 : decode cX11_asks 173 = .ok (.ireturn, 1) := by decide +kernel
theorem dX11_cancels_0 : decode cX11_cancels 0 = .ok (.iload_n 1, 1) := by decide +kernel
theorem dX11_cancels_1 : decode cX11_cancels 1 = .ok (.invokestatic 162, 3) := by decide +kernel
theorem dX11_cancels_4 : decode cX11_cancels 4 = .ok (.ifCond .ne 8, 3) := by decide +kernel
theorem dX11_cancels_7 : decode cX11_cancels 7 = .ok (.aload_n 0, 1) := by decide +kernel
theorem dX11_cancels_8 : decode cX11_cancels 8 = .ok (.invokevirtual 130, 3) := by decide +kernel
theorem dX11_cancels_11 : decode cX11_cancels 11 = .ok (.ireturn, 1) := by decide +kernel
theorem dX11_cancels_12 : decode cX11_cancels 12 = .ok (.aload_n 0, 1) := by decide +kernel
theorem dX11_cancels_13 : decode cX11_cancels 13 = .ok (.getfield 13, 3) := by decide +kernel
theorem dX11_cancels_16 : decode cX11_cancels 16 = .ok (.iload_n 1, 1) := by decide +kernel
theorem dX11_cancels_17 : decode cX11_cancels 17 = .ok (.invokestatic 58, 3) := by decide +kernel
theorem dX11_cancels_20 : decode cX11_cancels 20 = .ok (.iconst 0, 1) := by decide +kernel
theorem dX11_cancels_21 : decode cX11_cancels 21 = .ok (.iadd, 1) := by decide +kernel
theorem dX11_cancels_22 : decode cX11_cancels 22 = .ok (.iaload, 1) := by decide +kernel
theorem dX11_cancels_23 : decode cX11_cancels 23 = .ok (.ifCond .ne 8, 3) := by decide +kernel
theorem dX11_cancels_26 : decode cX11_cancels 26 = .ok (.aload_n 0, 1) := by decide +kernel
theorem dX11_cancels_27 : decode cX11_cancels 27 = .ok (.invokevirtual 65, 3) := by decide +kernel
theorem dX11_cancels_30 : decode cX11_cancels 30 = .ok (.ireturn, 1) := by decide +kernel
theorem dX11_cancels_31 : decode cX11_cancels 31 = .ok (.aload_n 0, 1) := by decide +kernel
theorem dX11_cancels_32 : decode cX11_cancels 32 = .ok (.invokevirtual 133, 3) := by decide +kernel
theorem dX11_cancels_35 : decode cX11_cancels 35 = .ok (.iconst 0, 1) := by decide +kernel
theorem dX11_cancels_36 : decode cX11_cancels 36 = .ok (.istore_n 2, 1) := by decide +kernel
theorem dX11_cancels_37 : decode cX11_cancels 37 = .ok (.aload_n 0, 1) := by decide +kernel
theorem dX11_cancels_38 : decode cX11_cancels 38 = .ok (.getfield 13, 3) := by decide +kernel
theorem dX11_cancels_41 : decode cX11_cancels 41 = .ok (.sipush 300, 3) := by decide +kernel
theorem dX11_cancels_44 : decode cX11_cancels 44 = .ok (.iload_n 2, 1) := by decide +kernel
theorem dX11_cancels_45 : decode cX11_cancels 45 = .ok (.iadd, 1) := by decide +kernel
theorem dX11_cancels_46 : decode cX11_cancels 46 = .ok (.iaload, 1) := by decide +kernel
theorem dX11_cancels_47 : decode cX11_cancels 47 = .ok (.iload_n 1, 1) := by decide +kernel
theorem dX11_cancels_48 : decode cX11_cancels 48 = .ok (.if_icmp .eq 9, 3) := by decide +kernel
theorem dX11_cancels_51 : decode cX11_cancels 51 = .ok (.iinc 2 1, 3) := by decide +kernel
theorem dX11_cancels_54 : decode cX11_cancels 54 = .ok (.goto (-17), 3) := by decide +kernel
theorem dX11_cancels_57 : decode cX11_cancels 57 = .ok (.aload_n 0, 1) := by decide +kernel
theorem dX11_cancels_58 : decode cX11_cancels 58 = .ok (.iload_n 2, 1) := by decide +kernel
theorem dX11_cancels_59 : decode cX11_cancels 59 = .ok (.invokevirtual 109, 3) := by decide +kernel
theorem dX11_cancels_62 : decode cX11_cancels 62 = .ok (.aload_n 0, 1) := by decide +kernel
theorem dX11_cancels_63 : decode cX11_cancels 63 = .ok (.getfield 13, 3) := by decide +kernel
theorem dX11_cancels_66 : decode cX11_cancels 66 = .ok (.iconst 4, 1) := by decide +kernel
theorem dX11_cancels_67 : decode cX11_cancels 67 = .ok (.iaload, 1) := by decide +kernel
theorem dX11_cancels_68 : decode cX11_cancels 68 = .ok (.ireturn, 1) := by decide +kernel
theorem dX11_queueOf_0 : decode cX11_queueOf 0 = .ok (.iconst (-1), 1) := by decide +kernel
theorem dX11_queueOf_1 : decode cX11_queueOf 1 = .ok (.istore_n 2, 1) := by decide +kernel
theorem dX11_queueOf_2 : decode cX11_queueOf 2 = .ok (.iconst 0, 1) := by decide +kernel
theorem dX11_queueOf_3 : decode cX11_queueOf 3 = .ok (.istore_n 3, 1) := by decide +kernel
theorem dX11_queueOf_4 : decode cX11_queueOf 4 = .ok (.iload_n 3, 1) := by decide +kernel
theorem dX11_queueOf_5 : decode cX11_queueOf 5 = .ok (.bipush 6, 2) := by decide +kernel
theorem dX11_queueOf_7 : decode cX11_queueOf 7 = .ok (.if_icmp .ge 60, 3) := by decide +kernel
theorem dX11_queueOf_10 : decode cX11_queueOf 10 = .ok (.iconst 0, 1) := by decide +kernel
theorem dX11_queueOf_11 : decode cX11_queueOf 11 = .ok (.istore 4, 2) := by decide +kernel
theorem dX11_queueOf_13 : decode cX11_queueOf 13 = .ok (.iload 4, 2) := by decide +kernel
theorem dX11_queueOf_15 : decode cX11_queueOf 15 = .ok (.aload_n 0, 1) := by decide +kernel
theorem dX11_queueOf_16 : decode cX11_queueOf 16 = .ok (.getfield 13, 3) := by decide +kernel
theorem dX11_queueOf_19 : decode cX11_queueOf 19 = .ok (.iload_n 3, 1) := by decide +kernel
theorem dX11_queueOf_20 : decode cX11_queueOf 20 = .ok (.invokestatic 54, 3) := by decide +kernel
theorem dX11_queueOf_23 : decode cX11_queueOf 23 = .ok (.bipush 7, 2) := by decide +kernel
theorem dX11_queueOf_25 : decode cX11_queueOf 25 = .ok (.iadd, 1) := by decide +kernel
theorem dX11_queueOf_26 : decode cX11_queueOf 26 = .ok (.iaload, 1) := by decide +kernel
theorem dX11_queueOf_27 : decode cX11_queueOf 27 = .ok (.if_icmp .ge 34, 3) := by decide +kernel
theorem dX11_queueOf_30 : decode cX11_queueOf 30 = .ok (.aload_n 0, 1) := by decide +kernel
theorem dX11_queueOf_31 : decode cX11_queueOf 31 = .ok (.getfield 13, 3) := by decide +kernel
theorem dX11_queueOf_34 : decode cX11_queueOf 34 = .ok (.iload_n 3, 1) := by decide +kernel
theorem dX11_queueOf_35 : decode cX11_queueOf 35 = .ok (.invokestatic 54, 3) := by decide +kernel
theorem dX11_queueOf_38 : decode cX11_queueOf 38 = .ok (.bipush 8, 2) := by decide +kernel
theorem dX11_queueOf_40 : decode cX11_queueOf 40 = .ok (.iadd, 1) := by decide +kernel
theorem dX11_queueOf_41 : decode cX11_queueOf 41 = .ok (.iload 4, 2) := by decide +kernel
theorem dX11_queueOf_43 : decode cX11_queueOf 43 = .ok (.iadd, 1) := by decide +kernel
theorem dX11_queueOf_44 : decode cX11_queueOf 44 = .ok (.iaload, 1) := by decide +kernel
theorem dX11_queueOf_45 : decode cX11_queueOf 45 = .ok (.iload_n 1, 1) := by decide +kernel
theorem dX11_queueOf_46 : decode cX11_queueOf 46 = .ok (.if_icmp .ne 7, 3) := by decide +kernel
theorem dX11_queueOf_49 : decode cX11_queueOf 49 = .ok (.iload_n 3, 1) := by decide +kernel
theorem dX11_queueOf_50 : decode cX11_queueOf 50 = .ok (.goto 4, 3) := by decide +kernel
theorem dX11_queueOf_53 : decode cX11_queueOf 53 = .ok (.iload_n 2, 1) := by decide +kernel
theorem dX11_queueOf_54 : decode cX11_queueOf 54 = .ok (.istore_n 2, 1) := by decide +kernel
theorem dX11_queueOf_55 : decode cX11_queueOf 55 = .ok (.iinc 4 1, 3) := by decide +kernel
theorem dX11_queueOf_58 : decode cX11_queueOf 58 = .ok (.goto (-45), 3) := by decide +kernel
theorem dX11_queueOf_61 : decode cX11_queueOf 61 = .ok (.iinc 3 1, 3) := by decide +kernel
theorem dX11_queueOf_64 : decode cX11_queueOf 64 = .ok (.goto (-60), 3) := by decide +kernel
theorem dX11_queueOf_67 : decode cX11_queueOf 67 = .ok (.iload_n 2, 1) := by decide +kernel
theorem dX11_queueOf_68 : decode cX11_queueOf 68 = .ok (.ireturn, 1) := by decide +kernel
theorem dX11_goesFromQueue_0 : decode cX11_goesFromQueue 0 = .ok (.iload_n 1, 1) := by decide +kernel
theorem dX11_goesFromQueue_1 : decode cX11_goesFromQueue 1 = .ok (.invokestatic 54, 3) := by decide +kernel
theorem dX11_goesFromQueue_4 : decode cX11_goesFromQueue 4 = .ok (.istore_n 3, 1) := by decide +kernel
theorem dX11_goesFromQueue_5 : decode cX11_goesFromQueue 5 = .ok (.iconst 0, 1) := by decide +kernel
theorem dX11_goesFromQueue_6 : decode cX11_goesFromQueue 6 = .ok (.istore 4, 2) := by decide +kernel
theorem dX11_goesFromQueue_8 : decode cX11_goesFromQueue 8 = .ok (.aload_n 0, 1) := by decide +kernel
theorem dX11_goesFromQueue_9 : decode cX11_goesFromQueue 9 = .ok (.getfield 13, 3) := by decide +kernel
theorem dX11_goesFromQueue_12 : decode cX11_goesFromQueue 12 = .ok (.iload_n 3, 1) := by decide +kernel
theorem dX11_goesFromQueue_13 : decode cX11_goesFromQueue 13 = .ok (.bipush 8, 2) := by decide +kernel
theorem dX11_goesFromQueue_15 : decode cX11_goesFromQueue 15 = .ok (.iadd, 1) := by decide +kernel
theorem dX11_goesFromQueue_16 : decode cX11_goesFromQueue 16 = .ok (.iload 4, 2) := by decide +kernel
theorem dX11_goesFromQueue_18 : decode cX11_goesFromQueue 18 = .ok (.iadd, 1) := by decide +kernel
theorem dX11_goesFromQueue_19 : decode cX11_goesFromQueue 19 = .ok (.iaload, 1) := by decide +kernel
theorem dX11_goesFromQueue_20 : decode cX11_goesFromQueue 20 = .ok (.iload_n 2, 1) := by decide +kernel
theorem dX11_goesFromQueue_21 : decode cX11_goesFromQueue 21 = .ok (.if_icmp .eq 9, 3) := by decide +kernel
theorem dX11_goesFromQueue_24 : decode cX11_goesFromQueue 24 = .ok (.iinc 4 1, 3) := by decide +kernel
theorem dX11_goesFromQueue_27 : decode cX11_goesFromQueue 27 = .ok (.goto (-19), 3) := by decide +kernel
theorem dX11_goesFromQueue_30 : decode cX11_goesFromQueue 30 = .ok (.aload_n 0, 1) := by decide +kernel
theorem dX11_goesFromQueue_31 : decode cX11_goesFromQueue 31 = .ok (.getfield 13, 3) := by decide +kernel
theorem dX11_goesFromQueue_34 : decode cX11_goesFromQueue 34 = .ok (.iload_n 3, 1) := by decide +kernel
theorem dX11_goesFromQueue_35 : decode cX11_goesFromQueue 35 = .ok (.bipush 7, 2) := by decide +kernel
theorem dX11_goesFromQueue_37 : decode cX11_goesFromQueue 37 = .ok (.iadd, 1) := by decide +kernel
theorem dX11_goesFromQueue_38 : decode cX11_goesFromQueue 38 = .ok (.dup2, 1) := by decide +kernel
theorem dX11_goesFromQueue_39 : decode cX11_goesFromQueue 39 = .ok (.iaload, 1) := by decide +kernel
theorem dX11_goesFromQueue_40 : decode cX11_goesFromQueue 40 = .ok (.iconst 1, 1) := by decide +kernel
theorem dX11_goesFromQueue_41 : decode cX11_goesFromQueue 41 = .ok (.isub, 1) := by decide +kernel
theorem dX11_goesFromQueue_42 : decode cX11_goesFromQueue 42 = .ok (.iastore, 1) := by decide +kernel
theorem dX11_goesFromQueue_43 : decode cX11_goesFromQueue 43 = .ok (.iload 4, 2) := by decide +kernel
theorem dX11_goesFromQueue_45 : decode cX11_goesFromQueue 45 = .ok (.istore 5, 2) := by decide +kernel
theorem dX11_goesFromQueue_47 : decode cX11_goesFromQueue 47 = .ok (.iload 5, 2) := by decide +kernel
theorem dX11_goesFromQueue_49 : decode cX11_goesFromQueue 49 = .ok (.aload_n 0, 1) := by decide +kernel
theorem dX11_goesFromQueue_50 : decode cX11_goesFromQueue 50 = .ok (.getfield 13, 3) := by decide +kernel
theorem dX11_goesFromQueue_53 : decode cX11_goesFromQueue 53 = .ok (.iload_n 3, 1) := by decide +kernel
theorem dX11_goesFromQueue_54 : decode cX11_goesFromQueue 54 = .ok (.bipush 7, 2) := by decide +kernel
theorem dX11_goesFromQueue_56 : decode cX11_goesFromQueue 56 = .ok (.iadd, 1) := by decide +kernel
theorem dX11_goesFromQueue_57 : decode cX11_goesFromQueue 57 = .ok (.iaload, 1) := by decide +kernel
theorem dX11_goesFromQueue_58 : decode cX11_goesFromQueue 58 = .ok (.if_icmp .ge 35, 3) := by decide +kernel
theorem dX11_goesFromQueue_61 : decode cX11_goesFromQueue 61 = .ok (.aload_n 0, 1) := by decide +kernel
theorem dX11_goesFromQueue_62 : decode cX11_goesFromQueue 62 = .ok (.getfield 13, 3) := by decide +kernel
theorem dX11_goesFromQueue_65 : decode cX11_goesFromQueue 65 = .ok (.iload_n 3, 1) := by decide +kernel
theorem dX11_goesFromQueue_66 : decode cX11_goesFromQueue 66 = .ok (.bipush 8, 2) := by decide +kernel
theorem dX11_goesFromQueue_68 : decode cX11_goesFromQueue 68 = .ok (.iadd, 1) := by decide +kernel
theorem dX11_goesFromQueue_69 : decode cX11_goesFromQueue 69 = .ok (.iload 5, 2) := by decide +kernel
theorem dX11_goesFromQueue_71 : decode cX11_goesFromQueue 71 = .ok (.iadd, 1) := by decide +kernel
theorem dX11_goesFromQueue_72 : decode cX11_goesFromQueue 72 = .ok (.aload_n 0, 1) := by decide +kernel
theorem dX11_goesFromQueue_73 : decode cX11_goesFromQueue 73 = .ok (.getfield 13, 3) := by decide +kernel
theorem dX11_goesFromQueue_76 : decode cX11_goesFromQueue 76 = .ok (.iload_n 3, 1) := by decide +kernel
theorem dX11_goesFromQueue_77 : decode cX11_goesFromQueue 77 = .ok (.bipush 8, 2) := by decide +kernel
theorem dX11_goesFromQueue_79 : decode cX11_goesFromQueue 79 = .ok (.iadd, 1) := by decide +kernel
theorem dX11_goesFromQueue_80 : decode cX11_goesFromQueue 80 = .ok (.iload 5, 2) := by decide +kernel
theorem dX11_goesFromQueue_82 : decode cX11_goesFromQueue 82 = .ok (.iadd, 1) := by decide +kernel
theorem dX11_goesFromQueue_83 : decode cX11_goesFromQueue 83 = .ok (.iconst 1, 1) := by decide +kernel
theorem dX11_goesFromQueue_84 : decode cX11_goesFromQueue 84 = .ok (.iadd, 1) := by decide +kernel
theorem dX11_goesFromQueue_85 : decode cX11_goesFromQueue 85 = .ok (.iaload, 1) := by decide +kernel
theorem dX11_goesFromQueue_86 : decode cX11_goesFromQueue 86 = .ok (.iastore, 1) := by decide +kernel
theorem dX11_goesFromQueue_87 : decode cX11_goesFromQueue 87 = .ok (.iinc 5 1, 3) := by decide +kernel
theorem dX11_goesFromQueue_90 : decode cX11_goesFromQueue 90 = .ok (.goto (-43), 3) := by decide +kernel
theorem dX11_goesFromQueue_93 : decode cX11_goesFromQueue 93 = .ok (.return_, 1) := by decide +kernel
theorem dX11_keeps_0 : decode cX11_keeps 0 = .ok (.iload_n 1, 1) := by decide +kernel
theorem dX11_keeps_1 : decode cX11_keeps 1 = .ok (.invokestatic 162, 3) := by decide +kernel
theorem dX11_keeps_4 : decode cX11_keeps 4 = .ok (.ifCond .eq 11, 3) := by decide +kernel
theorem dX11_keeps_7 : decode cX11_keeps 7 = .ok (.aload_n 0, 1) := by decide +kernel
theorem dX11_keeps_8 : decode cX11_keeps 8 = .ok (.iload_n 2, 1) := by decide +kernel
theorem dX11_keeps_9 : decode cX11_keeps 9 = .ok (.invokevirtual 136, 3) := by decide +kernel
theorem dX11_keeps_12 : decode cX11_keeps 12 = .ok (.ifCond .ne 8, 3) := by decide +kernel
theorem dX11_keeps_15 : decode cX11_keeps 15 = .ok (.aload_n 0, 1) := by decide +kernel
theorem dX11_keeps_16 : decode cX11_keeps 16 = .ok (.invokevirtual 130, 3) := by decide +kernel
theorem dX11_keeps_19 : decode cX11_keeps 19 = .ok (.ireturn, 1) := by decide +kernel
theorem dX11_keeps_20 : decode cX11_keeps 20 = .ok (.aload_n 0, 1) := by decide +kernel
theorem dX11_keeps_21 : decode cX11_keeps 21 = .ok (.iload_n 1, 1) := by decide +kernel
theorem dX11_keeps_22 : decode cX11_keeps 22 = .ok (.invokevirtual 165, 3) := by decide +kernel
theorem dX11_keeps_25 : decode cX11_keeps 25 = .ok (.iconst (-1), 1) := by decide +kernel
theorem dX11_keeps_26 : decode cX11_keeps 26 = .ok (.if_icmp .eq 8, 3) := by decide +kernel
theorem dX11_keeps_29 : decode cX11_keeps 29 = .ok (.aload_n 0, 1) := by decide +kernel
theorem dX11_keeps_30 : decode cX11_keeps 30 = .ok (.invokevirtual 65, 3) := by decide +kernel
theorem dX11_keeps_33 : decode cX11_keeps 33 = .ok (.ireturn, 1) := by decide +kernel
theorem dX11_keeps_34 : decode cX11_keeps 34 = .ok (.aload_n 0, 1) := by decide +kernel
theorem dX11_keeps_35 : decode cX11_keeps 35 = .ok (.invokevirtual 133, 3) := by decide +kernel
theorem dX11_keeps_38 : decode cX11_keeps 38 = .ok (.iload_n 2, 1) := by decide +kernel
theorem dX11_keeps_39 : decode cX11_keeps 39 = .ok (.invokestatic 54, 3) := by decide +kernel
theorem dX11_keeps_42 : decode cX11_keeps 42 = .ok (.istore_n 3, 1) := by decide +kernel
theorem dX11_keeps_43 : decode cX11_keeps 43 = .ok (.aload_n 0, 1) := by decide +kernel
theorem dX11_keeps_44 : decode cX11_keeps 44 = .ok (.iload_n 2, 1) := by decide +kernel
theorem dX11_keeps_45 : decode cX11_keeps 45 = .ok (.invokevirtual 72, 3) := by decide +kernel
theorem dX11_keeps_48 : decode cX11_keeps 48 = .ok (.aload_n 0, 1) := by decide +kernel
theorem dX11_keeps_49 : decode cX11_keeps 49 = .ok (.getfield 13, 3) := by decide +kernel
theorem dX11_keeps_52 : decode cX11_keeps 52 = .ok (.iload_n 3, 1) := by decide +kernel
theorem dX11_keeps_53 : decode cX11_keeps 53 = .ok (.iconst 5, 1) := by decide +kernel
theorem dX11_keeps_54 : decode cX11_keeps 54 = .ok (.iadd, 1) := by decide +kernel
theorem dX11_keeps_55 : decode cX11_keeps 55 = .ok (.iaload, 1) := by decide +kernel
theorem dX11_keeps_56 : decode cX11_keeps 56 = .ok (.iconst (-1), 1) := by decide +kernel
theorem dX11_keeps_57 : decode cX11_keeps 57 = .ok (.if_icmp .eq 15, 3) := by decide +kernel
theorem dX11_keeps_60 : decode cX11_keeps 60 = .ok (.aload_n 0, 1) := by decide +kernel
theorem dX11_keeps_61 : decode cX11_keeps 61 = .ok (.getfield 13, 3) := by decide +kernel
theorem dX11_keeps_64 : decode cX11_keeps 64 = .ok (.iload_n 3, 1) := by decide +kernel
theorem dX11_keeps_65 : decode cX11_keeps 65 = .ok (.iconst 5, 1) := by decide +kernel
theorem dX11_keeps_66 : decode cX11_keeps 66 = .ok (.iadd, 1) := by decide +kernel
theorem dX11_keeps_67 : decode cX11_keeps 67 = .ok (.iaload, 1) := by decide +kernel
theorem dX11_keeps_68 : decode cX11_keeps 68 = .ok (.iload_n 1, 1) := by decide +kernel
theorem dX11_keeps_69 : decode cX11_keeps 69 = .ok (.if_icmp .ne 7, 3) := by decide +kernel
theorem dX11_keeps_72 : decode cX11_keeps 72 = .ok (.iconst 1, 1) := by decide +kernel
theorem dX11_keeps_73 : decode cX11_keeps 73 = .ok (.goto 4, 3) := by decide +kernel
theorem dX11_keeps_76 : decode cX11_keeps 76 = .ok (.iconst 0, 1) := by decide +kernel
theorem dX11_keeps_77 : decode cX11_keeps 77 = .ok (.istore 4, 2) := by decide +kernel
theorem dX11_keeps_79 : decode cX11_keeps 79 = .ok (.iload 4, 2) := by decide +kernel
theorem dX11_keeps_81 : decode cX11_keeps 81 = .ok (.ifCond .eq 28, 3) := by decide +kernel
theorem dX11_keeps_84 : decode cX11_keeps 84 = .ok (.aload_n 0, 1) := by decide +kernel
theorem dX11_keeps_85 : decode cX11_keeps 85 = .ok (.getfield 13, 3) := by decide +kernel
theorem dX11_keeps_88 : decode cX11_keeps 88 = .ok (.iload_n 3, 1) := by decide +kernel
theorem dX11_keeps_89 : decode cX11_keeps 89 = .ok (.iconst 5, 1) := by decide +kernel
theorem dX11_keeps_90 : decode cX11_keeps 90 = .ok (.iadd, 1) := by decide +kernel
theorem dX11_keeps_91 : decode cX11_keeps 91 = .ok (.iload_n 1, 1) := by decide +kernel
theorem dX11_keeps_92 : decode cX11_keeps 92 = .ok (.iastore, 1) := by decide +kernel
theorem dX11_keeps_93 : decode cX11_keeps 93 = .ok (.aload_n 0, 1) := by decide +kernel
theorem dX11_keeps_94 : decode cX11_keeps 94 = .ok (.getfield 13, 3) := by decide +kernel
theorem dX11_keeps_97 : decode cX11_keeps 97 = .ok (.iload_n 3, 1) := by decide +kernel
theorem dX11_keeps_98 : decode cX11_keeps 98 = .ok (.bipush 6, 2) := by decide +kernel
theorem dX11_keeps_100 : decode cX11_keeps 100 = .ok (.iadd, 1) := by decide +kernel
theorem dX11_keeps_101 : decode cX11_keeps 101 = .ok (.dup2, 1) := by decide +kernel
theorem dX11_keeps_102 : decode cX11_keeps 102 = .ok (.iaload, 1) := by decide +kernel
theorem dX11_keeps_103 : decode cX11_keeps 103 = .ok (.iconst 1, 1) := by decide +kernel
theorem dX11_keeps_104 : decode cX11_keeps 104 = .ok (.iadd, 1) := by decide +kernel
theorem dX11_keeps_105 : decode cX11_keeps 105 = .ok (.iastore, 1) := by decide +kernel
theorem dX11_keeps_106 : decode cX11_keeps 106 = .ok (.goto 36, 3) := by decide +kernel
theorem dX11_keeps_109 : decode cX11_keeps 109 = .ok (.aload_n 0, 1) := by decide +kernel
theorem dX11_keeps_110 : decode cX11_keeps 110 = .ok (.getfield 13, 3) := by decide +kernel
theorem dX11_keeps_113 : decode cX11_keeps 113 = .ok (.iload_n 3, 1) := by decide +kernel
theorem dX11_keeps_114 : decode cX11_keeps 114 = .ok (.bipush 8, 2) := by decide +kernel
theorem dX11_keeps_116 : decode cX11_keeps 116 = .ok (.iadd, 1) := by decide +kernel
theorem dX11_keeps_117 : decode cX11_keeps 117 = .ok (.aload_n 0, 1) := by decide +kernel
theorem dX11_keeps_118 : decode cX11_keeps 118 = .ok (.getfield 13, 3) := by decide +kernel
theorem dX11_keeps_121 : decode cX11_keeps 121 = .ok (.iload_n 3, 1) := by decide +kernel
theorem dX11_keeps_122 : decode cX11_keeps 122 = .ok (.bipush 7, 2) := by decide +kernel
theorem dX11_keeps_124 : decode cX11_keeps 124 = .ok (.iadd, 1) := by decide +kernel
theorem dX11_keeps_125 : decode cX11_keeps 125 = .ok (.iaload, 1) := by decide +kernel
theorem dX11_keeps_126 : decode cX11_keeps 126 = .ok (.iadd, 1) := by decide +kernel
theorem dX11_keeps_127 : decode cX11_keeps 127 = .ok (.iload_n 1, 1) := by decide +kernel
theorem dX11_keeps_128 : decode cX11_keeps 128 = .ok (.iastore, 1) := by decide +kernel
theorem dX11_keeps_129 : decode cX11_keeps 129 = .ok (.aload_n 0, 1) := by decide +kernel
theorem dX11_keeps_130 : decode cX11_keeps 130 = .ok (.getfield 13, 3) := by decide +kernel
theorem dX11_keeps_133 : decode cX11_keeps 133 = .ok (.iload_n 3, 1) := by decide +kernel
theorem dX11_keeps_134 : decode cX11_keeps 134 = .ok (.bipush 7, 2) := by decide +kernel
theorem dX11_keeps_136 : decode cX11_keeps 136 = .ok (.iadd, 1) := by decide +kernel
theorem dX11_keeps_137 : decode cX11_keeps 137 = .ok (.dup2, 1) := by decide +kernel
theorem dX11_keeps_138 : decode cX11_keeps 138 = .ok (.iaload, 1) := by decide +kernel
theorem dX11_keeps_139 : decode cX11_keeps 139 = .ok (.iconst 1, 1) := by decide +kernel
theorem dX11_keeps_140 : decode cX11_keeps 140 = .ok (.iadd, 1) := by decide +kernel
theorem dX11_keeps_141 : decode cX11_keeps 141 = .ok (.iastore, 1) := by decide +kernel
theorem dX11_keeps_142 : decode cX11_keeps 142 = .ok (.aload_n 0, 1) := by decide +kernel
theorem dX11_keeps_143 : decode cX11_keeps 143 = .ok (.iload_n 2, 1) := by decide +kernel
theorem dX11_keeps_144 : decode cX11_keeps 144 = .ok (.invokevirtual 82, 3) := by decide +kernel
theorem dX11_keeps_147 : decode cX11_keeps 147 = .ok (.iload 4, 2) := by decide +kernel
theorem dX11_keeps_149 : decode cX11_keeps 149 = .ok (.ifCond .eq 15, 3) := by decide +kernel
theorem dX11_keeps_152 : decode cX11_keeps 152 = .ok (.aload_n 0, 1) := by decide +kernel
theorem dX11_keeps_153 : decode cX11_keeps 153 = .ok (.getfield 13, 3) := by decide +kernel
theorem dX11_keeps_156 : decode cX11_keeps 156 = .ok (.iload_n 3, 1) := by decide +kernel
theorem dX11_keeps_157 : decode cX11_keeps 157 = .ok (.bipush 6, 2) := by decide +kernel
theorem dX11_keeps_159 : decode cX11_keeps 159 = .ok (.iadd, 1) := by decide +kernel
theorem dX11_keeps_160 : decode cX11_keeps 160 = .ok (.iaload, 1) := by decide +kernel
theorem dX11_keeps_161 : decode cX11_keeps 161 = .ok (.goto 5, 3) := by decide +kernel
theorem dX11_keeps_164 : decode cX11_keeps 164 = .ok (.bipush (-5), 2) := by decide +kernel
theorem dX11_keeps_166 : decode cX11_keeps 166 = .ok (.ireturn, 1) := by decide +kernel
theorem dX11_lets_0 : decode cX11_lets 0 = .ok (.iload_n 1, 1) := by decide +kernel
theorem dX11_lets_1 : decode cX11_lets 1 = .ok (.invokestatic 162, 3) := by decide +kernel
theorem dX11_lets_4 : decode cX11_lets 4 = .ok (.ifCond .eq 11, 3) := by decide +kernel
theorem dX11_lets_7 : decode cX11_lets 7 = .ok (.aload_n 0, 1) := by decide +kernel
theorem dX11_lets_8 : decode cX11_lets 8 = .ok (.iload_n 2, 1) := by decide +kernel
theorem dX11_lets_9 : decode cX11_lets 9 = .ok (.invokevirtual 136, 3) := by decide +kernel
theorem dX11_lets_12 : decode cX11_lets 12 = .ok (.ifCond .ne 8, 3) := by decide +kernel
theorem dX11_lets_15 : decode cX11_lets 15 = .ok (.aload_n 0, 1) := by decide +kernel
theorem dX11_lets_16 : decode cX11_lets 16 = .ok (.invokevirtual 130, 3) := by decide +kernel
theorem dX11_lets_19 : decode cX11_lets 19 = .ok (.ireturn, 1) := by decide +kernel
theorem dX11_lets_20 : decode cX11_lets 20 = .ok (.iload_n 2, 1) := by decide +kernel
theorem dX11_lets_21 : decode cX11_lets 21 = .ok (.invokestatic 54, 3) := by decide +kernel
theorem dX11_lets_24 : decode cX11_lets 24 = .ok (.istore_n 3, 1) := by decide +kernel
theorem dX11_lets_25 : decode cX11_lets 25 = .ok (.aload_n 0, 1) := by decide +kernel
theorem dX11_lets_26 : decode cX11_lets 26 = .ok (.getfield 13, 3) := by decide +kernel
theorem dX11_lets_29 : decode cX11_lets 29 = .ok (.iload_n 3, 1) := by decide +kernel
theorem dX11_lets_30 : decode cX11_lets 30 = .ok (.iconst 5, 1) := by decide +kernel
theorem dX11_lets_31 : decode cX11_lets 31 = .ok (.iadd, 1) := by decide +kernel
theorem dX11_lets_32 : decode cX11_lets 32 = .ok (.iaload, 1) := by decide +kernel
theorem dX11_lets_33 : decode cX11_lets 33 = .ok (.iload_n 1, 1) := by decide +kernel
theorem dX11_lets_34 : decode cX11_lets 34 = .ok (.if_icmp .eq 8, 3) := by decide +kernel
theorem dX11_lets_37 : decode cX11_lets 37 = .ok (.aload_n 0, 1) := by decide +kernel
theorem dX11_lets_38 : decode cX11_lets 38 = .ok (.invokevirtual 65, 3) := by decide +kernel
theorem dX11_lets_41 : decode cX11_lets 41 = .ok (.ireturn, 1) := by decide +kernel
theorem dX11_lets_42 : decode cX11_lets 42 = .ok (.aload_n 0, 1) := by decide +kernel
theorem dX11_lets_43 : decode cX11_lets 43 = .ok (.invokevirtual 133, 3) := by decide +kernel
theorem dX11_lets_46 : decode cX11_lets 46 = .ok (.aload_n 0, 1) := by decide +kernel
theorem dX11_lets_47 : decode cX11_lets 47 = .ok (.iload_n 2, 1) := by decide +kernel
theorem dX11_lets_48 : decode cX11_lets 48 = .ok (.invokevirtual 72, 3) := by decide +kernel
theorem dX11_lets_51 : decode cX11_lets 51 = .ok (.aload_n 0, 1) := by decide +kernel
theorem dX11_lets_52 : decode cX11_lets 52 = .ok (.getfield 13, 3) := by decide +kernel
theorem dX11_lets_55 : decode cX11_lets 55 = .ok (.iload_n 3, 1) := by decide +kernel
theorem dX11_lets_56 : decode cX11_lets 56 = .ok (.bipush 6, 2) := by decide +kernel
theorem dX11_lets_58 : decode cX11_lets 58 = .ok (.iadd, 1) := by decide +kernel
theorem dX11_lets_59 : decode cX11_lets 59 = .ok (.dup2, 1) := by decide +kernel
theorem dX11_lets_60 : decode cX11_lets 60 = .ok (.iaload, 1) := by decide +kernel
theorem dX11_lets_61 : decode cX11_lets 61 = .ok (.iconst 1, 1) := by decide +kernel
theorem dX11_lets_62 : decode cX11_lets 62 = .ok (.isub, 1) := by decide +kernel
theorem dX11_lets_63 : decode cX11_lets 63 = .ok (.iastore, 1) := by decide +kernel
theorem dX11_lets_64 : decode cX11_lets 64 = .ok (.aload_n 0, 1) := by decide +kernel
theorem dX11_lets_65 : decode cX11_lets 65 = .ok (.getfield 13, 3) := by decide +kernel
theorem dX11_lets_68 : decode cX11_lets 68 = .ok (.iload_n 3, 1) := by decide +kernel
theorem dX11_lets_69 : decode cX11_lets 69 = .ok (.bipush 6, 2) := by decide +kernel
theorem dX11_lets_71 : decode cX11_lets 71 = .ok (.iadd, 1) := by decide +kernel
theorem dX11_lets_72 : decode cX11_lets 72 = .ok (.iaload, 1) := by decide +kernel
theorem dX11_lets_73 : decode cX11_lets 73 = .ok (.istore 4, 2) := by decide +kernel
theorem dX11_lets_75 : decode cX11_lets 75 = .ok (.iload 4, 2) := by decide +kernel
theorem dX11_lets_77 : decode cX11_lets 77 = .ok (.ifCond .ne 63, 3) := by decide +kernel
theorem dX11_lets_80 : decode cX11_lets 80 = .ok (.aload_n 0, 1) := by decide +kernel
theorem dX11_lets_81 : decode cX11_lets 81 = .ok (.getfield 13, 3) := by decide +kernel
theorem dX11_lets_84 : decode cX11_lets 84 = .ok (.iload_n 3, 1) := by decide +kernel
theorem dX11_lets_85 : decode cX11_lets 85 = .ok (.bipush 7, 2) := by decide +kernel
theorem dX11_lets_87 : decode cX11_lets 87 = .ok (.iadd, 1) := by decide +kernel
theorem dX11_lets_88 : decode cX11_lets 88 = .ok (.iaload, 1) := by decide +kernel
theorem dX11_lets_89 : decode cX11_lets 89 = .ok (.ifCond .le 15, 3) := by decide +kernel
theorem dX11_lets_92 : decode cX11_lets 92 = .ok (.aload_n 0, 1) := by decide +kernel
theorem dX11_lets_93 : decode cX11_lets 93 = .ok (.getfield 13, 3) := by decide +kernel
theorem dX11_lets_96 : decode cX11_lets 96 = .ok (.iload_n 3, 1) := by decide +kernel
theorem dX11_lets_97 : decode cX11_lets 97 = .ok (.bipush 8, 2) := by decide +kernel
theorem dX11_lets_99 : decode cX11_lets 99 = .ok (.iadd, 1) := by decide +kernel
theorem dX11_lets_100 : decode cX11_lets 100 = .ok (.iaload, 1) := by decide +kernel
theorem dX11_lets_101 : decode cX11_lets 101 = .ok (.goto 4, 3) := by decide +kernel
theorem dX11_lets_104 : decode cX11_lets 104 = .ok (.iconst (-1), 1) := by decide +kernel
theorem dX11_lets_105 : decode cX11_lets 105 = .ok (.istore 5, 2) := by decide +kernel
theorem dX11_lets_107 : decode cX11_lets 107 = .ok (.aload_n 0, 1) := by decide +kernel
theorem dX11_lets_108 : decode cX11_lets 108 = .ok (.getfield 13, 3) := by decide +kernel
theorem dX11_lets_111 : decode cX11_lets 111 = .ok (.iload_n 3, 1) := by decide +kernel
theorem dX11_lets_112 : decode cX11_lets 112 = .ok (.iconst 5, 1) := by decide +kernel
theorem dX11_lets_113 : decode cX11_lets 113 = .ok (.iadd, 1) := by decide +kernel
theorem dX11_lets_114 : decode cX11_lets 114 = .ok (.iload 5, 2) := by decide +kernel
theorem dX11_lets_116 : decode cX11_lets 116 = .ok (.iastore, 1) := by decide +kernel
theorem dX11_lets_117 : decode cX11_lets 117 = .ok (.iload 5, 2) := by decide +kernel
theorem dX11_lets_119 : decode cX11_lets 119 = .ok (.iconst (-1), 1) := by decide +kernel
theorem dX11_lets_120 : decode cX11_lets 120 = .ok (.if_icmp .eq 20, 3) := by decide +kernel
theorem dX11_lets_123 : decode cX11_lets 123 = .ok (.aload_n 0, 1) := by decide +kernel
theorem dX11_lets_124 : decode cX11_lets 124 = .ok (.getfield 13, 3) := by decide +kernel
theorem dX11_lets_127 : decode cX11_lets 127 = .ok (.iload_n 3, 1) := by decide +kernel
theorem dX11_lets_128 : decode cX11_lets 128 = .ok (.bipush 6, 2) := by decide +kernel
theorem dX11_lets_130 : decode cX11_lets 130 = .ok (.iadd, 1) := by decide +kernel
theorem dX11_lets_131 : decode cX11_lets 131 = .ok (.iconst 1, 1) := by decide +kernel
theorem dX11_lets_132 : decode cX11_lets 132 = .ok (.iastore, 1) := by decide +kernel
theorem dX11_lets_133 : decode cX11_lets 133 = .ok (.aload_n 0, 1) := by decide +kernel
theorem dX11_lets_134 : decode cX11_lets 134 = .ok (.iload_n 2, 1) := by decide +kernel
theorem dX11_lets_135 : decode cX11_lets 135 = .ok (.iload 5, 2) := by decide +kernel
theorem dX11_lets_137 : decode cX11_lets 137 = .ok (.invokevirtual 168, 3) := by decide +kernel
theorem dX11_lets_140 : decode cX11_lets 140 = .ok (.aload_n 0, 1) := by decide +kernel
theorem dX11_lets_141 : decode cX11_lets 141 = .ok (.iload_n 2, 1) := by decide +kernel
theorem dX11_lets_142 : decode cX11_lets 142 = .ok (.invokevirtual 82, 3) := by decide +kernel
theorem dX11_lets_145 : decode cX11_lets 145 = .ok (.aload_n 0, 1) := by decide +kernel
theorem dX11_lets_146 : decode cX11_lets 146 = .ok (.invokevirtual 127, 3) := by decide +kernel
theorem dX11_lets_149 : decode cX11_lets 149 = .ok (.iload 4, 2) := by decide +kernel
theorem dX11_lets_151 : decode cX11_lets 151 = .ok (.ireturn, 1) := by decide +kernel
theorem dX11_quits_0 : decode cX11_quits 0 = .ok (.iload_n 1, 1) := by decide +kernel
theorem dX11_quits_1 : decode cX11_quits 1 = .ok (.invokestatic 162, 3) := by decide +kernel
theorem dX11_quits_4 : decode cX11_quits 4 = .ok (.ifCond .ne 8, 3) := by decide +kernel
theorem dX11_quits_7 : decode cX11_quits 7 = .ok (.aload_n 0, 1) := by decide +kernel
theorem dX11_quits_8 : decode cX11_quits 8 = .ok (.invokevirtual 130, 3) := by decide +kernel
theorem dX11_quits_11 : decode cX11_quits 11 = .ok (.ireturn, 1) := by decide +kernel
theorem dX11_quits_12 : decode cX11_quits 12 = .ok (.aload_n 0, 1) := by decide +kernel
theorem dX11_quits_13 : decode cX11_quits 13 = .ok (.iload_n 1, 1) := by decide +kernel
theorem dX11_quits_14 : decode cX11_quits 14 = .ok (.invokevirtual 165, 3) := by decide +kernel
theorem dX11_quits_17 : decode cX11_quits 17 = .ok (.istore_n 2, 1) := by decide +kernel
theorem dX11_quits_18 : decode cX11_quits 18 = .ok (.iload_n 2, 1) := by decide +kernel
theorem dX11_quits_19 : decode cX11_quits 19 = .ok (.iconst (-1), 1) := by decide +kernel
theorem dX11_quits_20 : decode cX11_quits 20 = .ok (.if_icmp .ne 8, 3) := by decide +kernel
theorem dX11_quits_23 : decode cX11_quits 23 = .ok (.aload_n 0, 1) := by decide +kernel
theorem dX11_quits_24 : decode cX11_quits 24 = .ok (.invokevirtual 65, 3) := by decide +kernel
theorem dX11_quits_27 : decode cX11_quits 27 = .ok (.ireturn, 1) := by decide +kernel
theorem dX11_quits_28 : decode cX11_quits 28 = .ok (.aload_n 0, 1) := by decide +kernel
theorem dX11_quits_29 : decode cX11_quits 29 = .ok (.invokevirtual 133, 3) := by decide +kernel
theorem dX11_quits_32 : decode cX11_quits 32 = .ok (.aload_n 0, 1) := by decide +kernel
theorem dX11_quits_33 : decode cX11_quits 33 = .ok (.iload_n 2, 1) := by decide +kernel
theorem dX11_quits_34 : decode cX11_quits 34 = .ok (.iload_n 1, 1) := by decide +kernel
theorem dX11_quits_35 : decode cX11_quits 35 = .ok (.invokevirtual 168, 3) := by decide +kernel
theorem dX11_quits_38 : decode cX11_quits 38 = .ok (.iload_n 2, 1) := by decide +kernel
theorem dX11_quits_39 : decode cX11_quits 39 = .ok (.ireturn, 1) := by decide +kernel
theorem dX11_keeper_0 : decode cX11_keeper 0 = .ok (.aload_n 0, 1) := by decide +kernel
theorem dX11_keeper_1 : decode cX11_keeper 1 = .ok (.iload_n 1, 1) := by decide +kernel
theorem dX11_keeper_2 : decode cX11_keeper 2 = .ok (.invokevirtual 136, 3) := by decide +kernel
theorem dX11_keeper_5 : decode cX11_keeper 5 = .ok (.ifCond .eq 12, 3) := by decide +kernel
theorem dX11_keeper_8 : decode cX11_keeper 8 = .ok (.iload_n 2, 1) := by decide +kernel
theorem dX11_keeper_9 : decode cX11_keeper 9 = .ok (.iconst 0, 1) := by decide +kernel
theorem dX11_keeper_10 : decode cX11_keeper 10 = .ok (.iconst 2, 1) := by decide +kernel
theorem dX11_keeper_11 : decode cX11_keeper 11 = .ok (.invokestatic 50, 3) := by decide +kernel
theorem dX11_keeper_14 : decode cX11_keeper 14 = .ok (.ifCond .ne 8, 3) := by decide +kernel
theorem dX11_keeper_17 : decode cX11_keeper 17 = .ok (.aload_n 0, 1) := by decide +kernel
theorem dX11_keeper_18 : decode cX11_keeper 18 = .ok (.invokevirtual 130, 3) := by decide +kernel
theorem dX11_keeper_21 : decode cX11_keeper 21 = .ok (.ireturn, 1) := by decide +kernel
theorem dX11_keeper_22 : decode cX11_keeper 22 = .ok (.aload_n 0, 1) := by decide +kernel
theorem dX11_keeper_23 : decode cX11_keeper 23 = .ok (.getfield 13, 3) := by decide +kernel
theorem dX11_keeper_26 : decode cX11_keeper 26 = .ok (.iload_n 1, 1) := by decide +kernel
theorem dX11_keeper_27 : decode cX11_keeper 27 = .ok (.invokestatic 54, 3) := by decide +kernel
theorem dX11_keeper_30 : decode cX11_keeper 30 = .ok (.iload_n 2, 1) := by decide +kernel
theorem dX11_keeper_31 : decode cX11_keeper 31 = .ok (.ifCond .ne 7, 3) := by decide +kernel
theorem dX11_keeper_34 : decode cX11_keeper 34 = .ok (.iconst 5, 1) := by decide +kernel
theorem dX11_keeper_35 : decode cX11_keeper 35 = .ok (.goto 15, 3) := by decide +kernel
theorem dX11_keeper_38 : decode cX11_keeper 38 = .ok (.iload_n 2, 1) := by decide +kernel
theorem dX11_keeper_39 : decode cX11_keeper 39 = .ok (.iconst 1, 1) := by decide +kernel
theorem dX11_keeper_40 : decode cX11_keeper 40 = .ok (.if_icmp .ne 8, 3) := by decide +kernel
theorem dX11_keeper_43 : decode cX11_keeper 43 = .ok (.bipush 6, 2) := by decide +kernel
theorem dX11_keeper_45 : decode cX11_keeper 45 = .ok (.goto 5, 3) := by decide +kernel
theorem dX11_keeper_48 : decode cX11_keeper 48 = .ok (.bipush 7, 2) := by decide +kernel
theorem dX11_keeper_50 : decode cX11_keeper 50 = .ok (.iadd, 1) := by decide +kernel
theorem dX11_keeper_51 : decode cX11_keeper 51 = .ok (.iaload, 1) := by decide +kernel
theorem dX11_keeper_52 : decode cX11_keeper 52 = .ok (.ireturn, 1) := by decide +kernel
theorem dX11_queue_0 : decode cX11_queue 0 = .ok (.aload_n 0, 1) := by decide +kernel
theorem dX11_queue_1 : decode cX11_queue 1 = .ok (.iload_n 1, 1) := by decide +kernel
theorem dX11_queue_2 : decode cX11_queue 2 = .ok (.invokevirtual 136, 3) := by decide +kernel
theorem dX11_queue_5 : decode cX11_queue 5 = .ok (.ifCond .eq 7, 3) := by decide +kernel
theorem dX11_queue_8 : decode cX11_queue 8 = .ok (.iload_n 2, 1) := by decide +kernel
theorem dX11_queue_9 : decode cX11_queue 9 = .ok (.ifCond .ge 8, 3) := by decide +kernel
theorem dX11_queue_12 : decode cX11_queue 12 = .ok (.aload_n 0, 1) := by decide +kernel
theorem dX11_queue_13 : decode cX11_queue 13 = .ok (.invokevirtual 130, 3) := by decide +kernel
theorem dX11_queue_16 : decode cX11_queue 16 = .ok (.ireturn, 1) := by decide +kernel
theorem dX11_queue_17 : decode cX11_queue 17 = .ok (.iload_n 2, 1) := by decide +kernel
theorem dX11_queue_18 : decode cX11_queue 18 = .ok (.aload_n 0, 1) := by decide +kernel
theorem dX11_queue_19 : decode cX11_queue 19 = .ok (.getfield 13, 3) := by decide +kernel
theorem dX11_queue_22 : decode cX11_queue 22 = .ok (.iload_n 1, 1) := by decide +kernel
theorem dX11_queue_23 : decode cX11_queue 23 = .ok (.invokestatic 54, 3) := by decide +kernel
theorem dX11_queue_26 : decode cX11_queue 26 = .ok (.bipush 7, 2) := by decide +kernel
theorem dX11_queue_28 : decode cX11_queue 28 = .ok (.iadd, 1) := by decide +kernel
theorem dX11_queue_29 : decode cX11_queue 29 = .ok (.iaload, 1) := by decide +kernel
theorem dX11_queue_30 : decode cX11_queue 30 = .ok (.if_icmp .ge 20, 3) := by decide +kernel
theorem dX11_queue_33 : decode cX11_queue 33 = .ok (.aload_n 0, 1) := by decide +kernel
theorem dX11_queue_34 : decode cX11_queue 34 = .ok (.getfield 13, 3) := by decide +kernel
theorem dX11_queue_37 : decode cX11_queue 37 = .ok (.iload_n 1, 1) := by decide +kernel
theorem dX11_queue_38 : decode cX11_queue 38 = .ok (.invokestatic 54, 3) := by decide +kernel
theorem dX11_queue_41 : decode cX11_queue 41 = .ok (.bipush 8, 2) := by decide +kernel
theorem dX11_queue_43 : decode cX11_queue 43 = .ok (.iadd, 1) := by decide +kernel
theorem dX11_queue_44 : decode cX11_queue 44 = .ok (.iload_n 2, 1) := by decide +kernel
theorem dX11_queue_45 : decode cX11_queue 45 = .ok (.iadd, 1) := by decide +kernel
theorem dX11_queue_46 : decode cX11_queue 46 = .ok (.iaload, 1) := by decide +kernel
theorem dX11_queue_47 : decode cX11_queue 47 = .ok (.goto 4, 3) := by decide +kernel
theorem dX11_queue_50 : decode cX11_queue 50 = .ok (.iconst (-1), 1) := by decide +kernel
theorem dX11_queue_51 : decode cX11_queue 51 = .ok (.ireturn, 1) := by decide +kernel
theorem dX11_isStuck_0 : decode cX11_isStuck 0 = .ok (.iload_n 1, 1) := by decide +kernel
theorem dX11_isStuck_1 : decode cX11_isStuck 1 = .ok (.istore_n 2, 1) := by decide +kernel
theorem dX11_isStuck_2 : decode cX11_isStuck 2 = .ok (.iconst 0, 1) := by decide +kernel
theorem dX11_isStuck_3 : decode cX11_isStuck 3 = .ok (.istore_n 3, 1) := by decide +kernel
theorem dX11_isStuck_4 : decode cX11_isStuck 4 = .ok (.iconst 0, 1) := by decide +kernel
theorem dX11_isStuck_5 : decode cX11_isStuck 5 = .ok (.istore 4, 2) := by decide +kernel
theorem dX11_isStuck_7 : decode cX11_isStuck 7 = .ok (.iload 4, 2) := by decide +kernel
theorem dX11_isStuck_9 : decode cX11_isStuck 9 = .ok (.bipush 6, 2) := by decide +kernel
theorem dX11_isStuck_11 : decode cX11_isStuck 11 = .ok (.if_icmp .ge 59, 3) := by decide +kernel
theorem dX11_isStuck_14 : decode cX11_isStuck 14 = .ok (.iload_n 3, 1) := by decide +kernel
theorem dX11_isStuck_15 : decode cX11_isStuck 15 = .ok (.ifCond .ne 55, 3) := by decide +kernel
theorem dX11_isStuck_18 : decode cX11_isStuck 18 = .ok (.iload_n 2, 1) := by decide +kernel
theorem dX11_isStuck_19 : decode cX11_isStuck 19 = .ok (.iconst (-1), 1) := by decide +kernel
theorem dX11_isStuck_20 : decode cX11_isStuck 20 = .ok (.if_icmp .eq 50, 3) := by decide +kernel
theorem dX11_isStuck_23 : decode cX11_isStuck 23 = .ok (.aload_n 0, 1) := by decide +kernel
theorem dX11_isStuck_24 : decode cX11_isStuck 24 = .ok (.iload_n 2, 1) := by decide +kernel
theorem dX11_isStuck_25 : decode cX11_isStuck 25 = .ok (.invokevirtual 165, 3) := by decide +kernel
theorem dX11_isStuck_28 : decode cX11_isStuck 28 = .ok (.istore 5, 2) := by decide +kernel
theorem dX11_isStuck_30 : decode cX11_isStuck 30 = .ok (.iload 5, 2) := by decide +kernel
theorem dX11_isStuck_32 : decode cX11_isStuck 32 = .ok (.iconst (-1), 1) := by decide +kernel
theorem dX11_isStuck_33 : decode cX11_isStuck 33 = .ok (.if_icmp .ne 7, 3) := by decide +kernel
theorem dX11_isStuck_36 : decode cX11_isStuck 36 = .ok (.iconst (-1), 1) := by decide +kernel
theorem dX11_isStuck_37 : decode cX11_isStuck 37 = .ok (.goto 15, 3) := by decide +kernel
theorem dX11_isStuck_40 : decode cX11_isStuck 40 = .ok (.aload_n 0, 1) := by decide +kernel
theorem dX11_isStuck_41 : decode cX11_isStuck 41 = .ok (.getfield 13, 3) := by decide +kernel
theorem dX11_isStuck_44 : decode cX11_isStuck 44 = .ok (.iload 5, 2) := by decide +kernel
theorem dX11_isStuck_46 : decode cX11_isStuck 46 = .ok (.invokestatic 54, 3) := by decide +kernel
theorem dX11_isStuck_49 : decode cX11_isStuck 49 = .ok (.iconst 5, 1) := by decide +kernel
theorem dX11_isStuck_50 : decode cX11_isStuck 50 = .ok (.iadd, 1) := by decide +kernel
theorem dX11_isStuck_51 : decode cX11_isStuck 51 = .ok (.iaload, 1) := by decide +kernel
theorem dX11_isStuck_52 : decode cX11_isStuck 52 = .ok (.istore_n 2, 1) := by decide +kernel
theorem dX11_isStuck_53 : decode cX11_isStuck 53 = .ok (.iload_n 2, 1) := by decide +kernel
theorem dX11_isStuck_54 : decode cX11_isStuck 54 = .ok (.iload_n 1, 1) := by decide +kernel
theorem dX11_isStuck_55 : decode cX11_isStuck 55 = .ok (.if_icmp .ne 7, 3) := by decide +kernel
theorem dX11_isStuck_58 : decode cX11_isStuck 58 = .ok (.iconst 1, 1) := by decide +kernel
theorem dX11_isStuck_59 : decode cX11_isStuck 59 = .ok (.goto 4, 3) := by decide +kernel
theorem dX11_isStuck_62 : decode cX11_isStuck 62 = .ok (.iconst 0, 1) := by decide +kernel
theorem dX11_isStuck_63 : decode cX11_isStuck 63 = .ok (.istore_n 3, 1) := by decide +kernel
theorem dX11_isStuck_64 : decode cX11_isStuck 64 = .ok (.iinc 4 1, 3) := by decide +kernel
theorem dX11_isStuck_67 : decode cX11_isStuck 67 = .ok (.goto (-60), 3) := by decide +kernel
theorem dX11_isStuck_70 : decode cX11_isStuck 70 = .ok (.iload_n 3, 1) := by decide +kernel
theorem dX11_isStuck_71 : decode cX11_isStuck 71 = .ok (.ireturn, 1) := by decide +kernel
theorem dX11_stuck_0 : decode cX11_stuck 0 = .ok (.iconst 0, 1) := by decide +kernel
theorem dX11_stuck_1 : decode cX11_stuck 1 = .ok (.istore_n 1, 1) := by decide +kernel
theorem dX11_stuck_2 : decode cX11_stuck 2 = .ok (.iconst 0, 1) := by decide +kernel
theorem dX11_stuck_3 : decode cX11_stuck 3 = .ok (.istore_n 2, 1) := by decide +kernel
theorem dX11_stuck_4 : decode cX11_stuck 4 = .ok (.iload_n 2, 1) := by decide +kernel
theorem dX11_stuck_5 : decode cX11_stuck 5 = .ok (.bipush 6, 2) := by decide +kernel
theorem dX11_stuck_7 : decode cX11_stuck 7 = .ok (.if_icmp .ge 27, 3) := by decide +kernel
theorem dX11_stuck_10 : decode cX11_stuck 10 = .ok (.iload_n 1, 1) := by decide +kernel
theorem dX11_stuck_11 : decode cX11_stuck 11 = .ok (.aload_n 0, 1) := by decide +kernel
theorem dX11_stuck_12 : decode cX11_stuck 12 = .ok (.iload_n 2, 1) := by decide +kernel
theorem dX11_stuck_13 : decode cX11_stuck 13 = .ok (.invokevirtual 171, 3) := by decide +kernel
theorem dX11_stuck_16 : decode cX11_stuck 16 = .ok (.ifCond .eq 9, 3) := by decide +kernel
theorem dX11_stuck_19 : decode cX11_stuck 19 = .ok (.iconst 1, 1) := by decide +kernel
theorem dX11_stuck_20 : decode cX11_stuck 20 = .ok (.iload_n 2, 1) := by decide +kernel
theorem dX11_stuck_21 : decode cX11_stuck 21 = .ok (.ishl, 1) := by decide +kernel
theorem dX11_stuck_22 : decode cX11_stuck 22 = .ok (.goto 4, 3) := by decide +kernel
theorem dX11_stuck_25 : decode cX11_stuck 25 = .ok (.iconst 0, 1) := by decide +kernel
theorem dX11_stuck_26 : decode cX11_stuck 26 = .ok (.ior, 1) := by decide +kernel
theorem dX11_stuck_27 : decode cX11_stuck 27 = .ok (.istore_n 1, 1) := by decide +kernel
theorem dX11_stuck_28 : decode cX11_stuck 28 = .ok (.iinc 2 1, 3) := by decide +kernel
theorem dX11_stuck_31 : decode cX11_stuck 31 = .ok (.goto (-27), 3) := by decide +kernel
theorem dX11_stuck_34 : decode cX11_stuck 34 = .ok (.iload_n 1, 1) := by decide +kernel
theorem dX11_stuck_35 : decode cX11_stuck 35 = .ok (.ireturn, 1) := by decide +kernel
theorem dX11_ofBuffer_0 : decode cX11_ofBuffer 0 = .ok (.iload_n 2, 1) := by decide +kernel
theorem dX11_ofBuffer_1 : decode cX11_ofBuffer 1 = .ok (.tableswitch 63 5 7 #[27, 39, 51], 27) := by decide +kernel
theorem dX11_ofBuffer_28 : decode cX11_ofBuffer 28 = .ok (.aload_n 0, 1) := by decide +kernel
theorem dX11_ofBuffer_29 : decode cX11_ofBuffer 29 = .ok (.getfield 13, 3) := by decide +kernel
theorem dX11_ofBuffer_32 : decode cX11_ofBuffer 32 = .ok (.iload_n 1, 1) := by decide +kernel
theorem dX11_ofBuffer_33 : decode cX11_ofBuffer 33 = .ok (.invokestatic 69, 3) := by decide +kernel
theorem dX11_ofBuffer_36 : decode cX11_ofBuffer 36 = .ok (.iconst 0, 1) := by decide +kernel
theorem dX11_ofBuffer_37 : decode cX11_ofBuffer 37 = .ok (.iadd, 1) := by decide +kernel
theorem dX11_ofBuffer_38 : decode cX11_ofBuffer 38 = .ok (.iaload, 1) := by decide +kernel
theorem dX11_ofBuffer_39 : decode cX11_ofBuffer 39 = .ok (.ireturn, 1) := by decide +kernel
theorem dX11_ofBuffer_40 : decode cX11_ofBuffer 40 = .ok (.aload_n 0, 1) := by decide +kernel
theorem dX11_ofBuffer_41 : decode cX11_ofBuffer 41 = .ok (.getfield 13, 3) := by decide +kernel
theorem dX11_ofBuffer_44 : decode cX11_ofBuffer 44 = .ok (.iload_n 1, 1) := by decide +kernel
theorem dX11_ofBuffer_45 : decode cX11_ofBuffer 45 = .ok (.invokestatic 69, 3) := by decide +kernel
theorem dX11_ofBuffer_48 : decode cX11_ofBuffer 48 = .ok (.iconst 3, 1) := by decide +kernel
theorem dX11_ofBuffer_49 : decode cX11_ofBuffer 49 = .ok (.iadd, 1) := by decide +kernel
theorem dX11_ofBuffer_50 : decode cX11_ofBuffer 50 = .ok (.iaload, 1) := by decide +kernel
theorem dX11_ofBuffer_51 : decode cX11_ofBuffer 51 = .ok (.ireturn, 1) := by decide +kernel
theorem dX11_ofBuffer_52 : decode cX11_ofBuffer 52 = .ok (.aload_n 0, 1) := by decide +kernel
theorem dX11_ofBuffer_53 : decode cX11_ofBuffer 53 = .ok (.getfield 13, 3) := by decide +kernel
theorem dX11_ofBuffer_56 : decode cX11_ofBuffer 56 = .ok (.iload_n 1, 1) := by decide +kernel
theorem dX11_ofBuffer_57 : decode cX11_ofBuffer 57 = .ok (.invokestatic 69, 3) := by decide +kernel
theorem dX11_ofBuffer_60 : decode cX11_ofBuffer 60 = .ok (.iconst 2, 1) := by decide +kernel
theorem dX11_ofBuffer_61 : decode cX11_ofBuffer 61 = .ok (.iadd, 1) := by decide +kernel
theorem dX11_ofBuffer_62 : decode cX11_ofBuffer 62 = .ok (.iaload, 1) := by decide +kernel
theorem dX11_ofBuffer_63 : decode cX11_ofBuffer 63 = .ok (.ireturn, 1) := by decide +kernel
theorem dX11_ofBuffer_64 : decode cX11_ofBuffer 64 = .ok (.aload_n 0, 1) := by decide +kernel
theorem dX11_ofBuffer_65 : decode cX11_ofBuffer 65 = .ok (.getfield 13, 3) := by decide +kernel
theorem dX11_ofBuffer_68 : decode cX11_ofBuffer 68 = .ok (.iload_n 1, 1) := by decide +kernel
theorem dX11_ofBuffer_69 : decode cX11_ofBuffer 69 = .ok (.invokestatic 54, 3) := by decide +kernel
theorem dX11_ofBuffer_72 : decode cX11_ofBuffer 72 = .ok (.iload_n 2, 1) := by decide +kernel
theorem dX11_ofBuffer_73 : decode cX11_ofBuffer 73 = .ok (.iadd, 1) := by decide +kernel
theorem dX11_ofBuffer_74 : decode cX11_ofBuffer 74 = .ok (.iaload, 1) := by decide +kernel
theorem dX11_ofBuffer_75 : decode cX11_ofBuffer 75 = .ok (.ireturn, 1) := by decide +kernel
theorem dX11_buffer_0 : decode cX11_buffer 0 = .ok (.aload_n 0, 1) := by decide +kernel
theorem dX11_buffer_1 : decode cX11_buffer 1 = .ok (.iload_n 1, 1) := by decide +kernel
theorem dX11_buffer_2 : decode cX11_buffer 2 = .ok (.invokevirtual 136, 3) := by decide +kernel
theorem dX11_buffer_5 : decode cX11_buffer 5 = .ok (.ifCond .eq 22, 3) := by decide +kernel
theorem dX11_buffer_8 : decode cX11_buffer 8 = .ok (.iload_n 2, 1) := by decide +kernel
theorem dX11_buffer_9 : decode cX11_buffer 9 = .ok (.iconst 0, 1) := by decide +kernel
theorem dX11_buffer_10 : decode cX11_buffer 10 = .ok (.bipush 7, 2) := by decide +kernel
theorem dX11_buffer_12 : decode cX11_buffer 12 = .ok (.invokestatic 50, 3) := by decide +kernel
theorem dX11_buffer_15 : decode cX11_buffer 15 = .ok (.ifCond .eq 12, 3) := by decide +kernel
theorem dX11_buffer_18 : decode cX11_buffer 18 = .ok (.aload_n 0, 1) := by decide +kernel
theorem dX11_buffer_19 : decode cX11_buffer 19 = .ok (.iload_n 1, 1) := by decide +kernel
theorem dX11_buffer_20 : decode cX11_buffer 20 = .ok (.iload_n 2, 1) := by decide +kernel
theorem dX11_buffer_21 : decode cX11_buffer 21 = .ok (.invokevirtual 174, 3) := by decide +kernel
theorem dX11_buffer_24 : decode cX11_buffer 24 = .ok (.goto 7, 3) := by decide +kernel
theorem dX11_buffer_27 : decode cX11_buffer 27 = .ok (.aload_n 0, 1) := by decide +kernel
theorem dX11_buffer_28 : decode cX11_buffer 28 = .ok (.invokevirtual 130, 3) := by decide +kernel
theorem dX11_buffer_31 : decode cX11_buffer 31 = .ok (.ireturn, 1) := by decide +kernel
theorem dX11_item_0 : decode cX11_item 0 = .ok (.aload_n 0, 1) := by decide +kernel
theorem dX11_item_1 : decode cX11_item 1 = .ok (.iload_n 1, 1) := by decide +kernel
theorem dX11_item_2 : decode cX11_item 2 = .ok (.invokevirtual 136, 3) := by decide +kernel
theorem dX11_item_5 : decode cX11_item 5 = .ok (.ifCond .eq 7, 3) := by decide +kernel
theorem dX11_item_8 : decode cX11_item 8 = .ok (.iload_n 2, 1) := by decide +kernel
theorem dX11_item_9 : decode cX11_item 9 = .ok (.ifCond .ge 8, 3) := by decide +kernel
theorem dX11_item_12 : decode cX11_item 12 = .ok (.aload_n 0, 1) := by decide +kernel
theorem dX11_item_13 : decode cX11_item 13 = .ok (.invokevirtual 130, 3) := by decide +kernel
theorem dX11_item_16 : decode cX11_item 16 = .ok (.ireturn, 1) := by decide +kernel
theorem dX11_item_17 : decode cX11_item 17 = .ok (.iload_n 2, 1) := by decide +kernel
theorem dX11_item_18 : decode cX11_item 18 = .ok (.aload_n 0, 1) := by decide +kernel
theorem dX11_item_19 : decode cX11_item 19 = .ok (.getfield 13, 3) := by decide +kernel
theorem dX11_item_22 : decode cX11_item 22 = .ok (.iload_n 1, 1) := by decide +kernel
theorem dX11_item_23 : decode cX11_item 23 = .ok (.invokestatic 54, 3) := by decide +kernel
theorem dX11_item_26 : decode cX11_item 26 = .ok (.iconst 0, 1) := by decide +kernel
theorem dX11_item_27 : decode cX11_item 27 = .ok (.iadd, 1) := by decide +kernel
theorem dX11_item_28 : decode cX11_item 28 = .ok (.iaload, 1) := by decide +kernel
theorem dX11_item_29 : decode cX11_item 29 = .ok (.if_icmp .ge 20, 3) := by decide +kernel
theorem dX11_item_32 : decode cX11_item 32 = .ok (.aload_n 0, 1) := by decide +kernel
theorem dX11_item_33 : decode cX11_item 33 = .ok (.getfield 13, 3) := by decide +kernel
theorem dX11_item_36 : decode cX11_item 36 = .ok (.iload_n 1, 1) := by decide +kernel
theorem dX11_item_37 : decode cX11_item 37 = .ok (.invokestatic 54, 3) := by decide +kernel
theorem dX11_item_40 : decode cX11_item 40 = .ok (.bipush 14, 2) := by decide +kernel
theorem dX11_item_42 : decode cX11_item 42 = .ok (.iadd, 1) := by decide +kernel
theorem dX11_item_43 : decode cX11_item 43 = .ok (.iload_n 2, 1) := by decide +kernel
theorem dX11_item_44 : decode cX11_item 44 = .ok (.iadd, 1) := by decide +kernel
theorem dX11_item_45 : decode cX11_item 45 = .ok (.iaload, 1) := by decide +kernel
theorem dX11_item_46 : decode cX11_item 46 = .ok (.goto 4, 3) := by decide +kernel
theorem dX11_item_49 : decode cX11_item 49 = .ok (.iconst (-1), 1) := by decide +kernel
theorem dX11_item_50 : decode cX11_item 50 = .ok (.ireturn, 1) := by decide +kernel
theorem dX11_ofStation_0 : decode cX11_ofStation 0 = .ok (.iload_n 1, 1) := by decide +kernel
theorem dX11_ofStation_1 : decode cX11_ofStation 1 = .ok (.invokestatic 121, 3) := by decide +kernel
theorem dX11_ofStation_4 : decode cX11_ofStation 4 = .ok (.istore_n 3, 1) := by decide +kernel
theorem dX11_ofStation_5 : decode cX11_ofStation 5 = .ok (.iload_n 2, 1) := by decide +kernel
theorem dX11_ofStation_6 : decode cX11_ofStation 6 = .ok (.tableswitch 131 0 5 #[38, 48, 75, 101, 111, 121], 38) := by decide +kernel
theorem dX11_ofStation_44 : decode cX11_ofStation 44 = .ok (.aload_n 0, 1) := by decide +kernel
theorem dX11_ofStation_45 : decode cX11_ofStation 45 = .ok (.getfield 13, 3) := by decide +kernel
theorem dX11_ofStation_48 : decode cX11_ofStation 48 = .ok (.iload_n 3, 1) := by decide +kernel
theorem dX11_ofStation_49 : decode cX11_ofStation 49 = .ok (.bipush 6, 2) := by decide +kernel
theorem dX11_ofStation_51 : decode cX11_ofStation 51 = .ok (.iadd, 1) := by decide +kernel
theorem dX11_ofStation_52 : decode cX11_ofStation 52 = .ok (.iaload, 1) := by decide +kernel
theorem dX11_ofStation_53 : decode cX11_ofStation 53 = .ok (.ireturn, 1) := by decide +kernel
theorem dX11_ofStation_54 : decode cX11_ofStation 54 = .ok (.aload_n 0, 1) := by decide +kernel
theorem dX11_ofStation_55 : decode cX11_ofStation 55 = .ok (.getfield 13, 3) := by decide +kernel
theorem dX11_ofStation_58 : decode cX11_ofStation 58 = .ok (.iload_n 3, 1) := by decide +kernel
theorem dX11_ofStation_59 : decode cX11_ofStation 59 = .ok (.bipush 6, 2) := by decide +kernel
theorem dX11_ofStation_61 : decode cX11_ofStation 61 = .ok (.iadd, 1) := by decide +kernel
theorem dX11_ofStation_62 : decode cX11_ofStation 62 = .ok (.iaload, 1) := by decide +kernel
theorem dX11_ofStation_63 : decode cX11_ofStation 63 = .ok (.iconst 1, 1) := by decide +kernel
theorem dX11_ofStation_64 : decode cX11_ofStation 64 = .ok (.if_icmp .ne 15, 3) := by decide +kernel
theorem dX11_ofStation_67 : decode cX11_ofStation 67 = .ok (.aload_n 0, 1) := by decide +kernel
theorem dX11_ofStation_68 : decode cX11_ofStation 68 = .ok (.getfield 13, 3) := by decide +kernel
theorem dX11_ofStation_71 : decode cX11_ofStation 71 = .ok (.iload_n 3, 1) := by decide +kernel
theorem dX11_ofStation_72 : decode cX11_ofStation 72 = .ok (.bipush 7, 2) := by decide +kernel
theorem dX11_ofStation_74 : decode cX11_ofStation 74 = .ok (.iadd, 1) := by decide +kernel
theorem dX11_ofStation_75 : decode cX11_ofStation 75 = .ok (.iaload, 1) := by decide +kernel
theorem dX11_ofStation_76 : decode cX11_ofStation 76 = .ok (.goto 4, 3) := by decide +kernel
theorem dX11_ofStation_79 : decode cX11_ofStation 79 = .ok (.iconst 0, 1) := by decide +kernel
theorem dX11_ofStation_80 : decode cX11_ofStation 80 = .ok (.ireturn, 1) := by decide +kernel
theorem dX11_ofStation_81 : decode cX11_ofStation 81 = .ok (.aload_n 0, 1) := by decide +kernel
theorem dX11_ofStation_82 : decode cX11_ofStation 82 = .ok (.getfield 13, 3) := by decide +kernel
theorem dX11_ofStation_85 : decode cX11_ofStation 85 = .ok (.iload_n 3, 1) := by decide +kernel
theorem dX11_ofStation_86 : decode cX11_ofStation 86 = .ok (.bipush 6, 2) := by decide +kernel
theorem dX11_ofStation_88 : decode cX11_ofStation 88 = .ok (.iadd, 1) := by decide +kernel
theorem dX11_ofStation_89 : decode cX11_ofStation 89 = .ok (.iaload, 1) := by decide +kernel
theorem dX11_ofStation_90 : decode cX11_ofStation 90 = .ok (.ifCond .ne 7, 3) := by decide +kernel
theorem dX11_ofStation_93 : decode cX11_ofStation 93 = .ok (.iconst (-1), 1) := by decide +kernel
theorem dX11_ofStation_94 : decode cX11_ofStation 94 = .ok (.goto 12, 3) := by decide +kernel
theorem dX11_ofStation_97 : decode cX11_ofStation 97 = .ok (.aload_n 0, 1) := by decide +kernel
theorem dX11_ofStation_98 : decode cX11_ofStation 98 = .ok (.getfield 13, 3) := by decide +kernel
theorem dX11_ofStation_101 : decode cX11_ofStation 101 = .ok (.iload_n 3, 1) := by decide +kernel
theorem dX11_ofStation_102 : decode cX11_ofStation 102 = .ok (.bipush 8, 2) := by decide +kernel
theorem dX11_ofStation_104 : decode cX11_ofStation 104 = .ok (.iadd, 1) := by decide +kernel
theorem dX11_ofStation_105 : decode cX11_ofStation 105 = .ok (.iaload, 1) := by decide +kernel
theorem dX11_ofStation_106 : decode cX11_ofStation 106 = .ok (.ireturn, 1) := by decide +kernel
theorem dX11_ofStation_107 : decode cX11_ofStation 107 = .ok (.aload_n 0, 1) := by decide +kernel
theorem dX11_ofStation_108 : decode cX11_ofStation 108 = .ok (.getfield 13, 3) := by decide +kernel
theorem dX11_ofStation_111 : decode cX11_ofStation 111 = .ok (.iload_n 3, 1) := by decide +kernel
theorem dX11_ofStation_112 : decode cX11_ofStation 112 = .ok (.bipush 9, 2) := by decide +kernel
theorem dX11_ofStation_114 : decode cX11_ofStation 114 = .ok (.iadd, 1) := by decide +kernel
theorem dX11_ofStation_115 : decode cX11_ofStation 115 = .ok (.iaload, 1) := by decide +kernel
theorem dX11_ofStation_116 : decode cX11_ofStation 116 = .ok (.ireturn, 1) := by decide +kernel
theorem dX11_ofStation_117 : decode cX11_ofStation 117 = .ok (.aload_n 0, 1) := by decide +kernel
theorem dX11_ofStation_118 : decode cX11_ofStation 118 = .ok (.getfield 13, 3) := by decide +kernel
theorem dX11_ofStation_121 : decode cX11_ofStation 121 = .ok (.iload_n 3, 1) := by decide +kernel
theorem dX11_ofStation_122 : decode cX11_ofStation 122 = .ok (.bipush 10, 2) := by decide +kernel
theorem dX11_ofStation_124 : decode cX11_ofStation 124 = .ok (.iadd, 1) := by decide +kernel
theorem dX11_ofStation_125 : decode cX11_ofStation 125 = .ok (.iaload, 1) := by decide +kernel
theorem dX11_ofStation_126 : decode cX11_ofStation 126 = .ok (.ireturn, 1) := by decide +kernel
theorem dX11_ofStation_127 : decode cX11_ofStation 127 = .ok (.aload_n 0, 1) := by decide +kernel
theorem dX11_ofStation_128 : decode cX11_ofStation 128 = .ok (.getfield 13, 3) := by decide +kernel
theorem dX11_ofStation_131 : decode cX11_ofStation 131 = .ok (.iload_n 3, 1) := by decide +kernel
theorem dX11_ofStation_132 : decode cX11_ofStation 132 = .ok (.bipush 11, 2) := by decide +kernel
theorem dX11_ofStation_134 : decode cX11_ofStation 134 = .ok (.iadd, 1) := by decide +kernel
theorem dX11_ofStation_135 : decode cX11_ofStation 135 = .ok (.iaload, 1) := by decide +kernel
theorem dX11_ofStation_136 : decode cX11_ofStation 136 = .ok (.ireturn, 1) := by decide +kernel
theorem dX11_ofStation_137 : decode cX11_ofStation 137 = .ok (.aload_n 0, 1) := by decide +kernel
theorem dX11_ofStation_138 : decode cX11_ofStation 138 = .ok (.getfield 13, 3) := by decide +kernel
theorem dX11_ofStation_141 : decode cX11_ofStation 141 = .ok (.iload_n 3, 1) := by decide +kernel
theorem dX11_ofStation_142 : decode cX11_ofStation 142 = .ok (.iconst 5, 1) := by decide +kernel
theorem dX11_ofStation_143 : decode cX11_ofStation 143 = .ok (.iadd, 1) := by decide +kernel
theorem dX11_ofStation_144 : decode cX11_ofStation 144 = .ok (.iaload, 1) := by decide +kernel
theorem dX11_ofStation_145 : decode cX11_ofStation 145 = .ok (.ireturn, 1) := by decide +kernel
theorem dX11_of_0 : decode cX11_of 0 = .ok (.aload_n 0, 1) := by decide +kernel
theorem dX11_of_1 : decode cX11_of 1 = .ok (.iload_n 1, 1) := by decide +kernel
theorem dX11_of_2 : decode cX11_of 2 = .ok (.invokevirtual 143, 3) := by decide +kernel
theorem dX11_of_5 : decode cX11_of 5 = .ok (.ifCond .eq 22, 3) := by decide +kernel
theorem dX11_of_8 : decode cX11_of 8 = .ok (.iload_n 2, 1) := by decide +kernel
theorem dX11_of_9 : decode cX11_of 9 = .ok (.iconst 0, 1) := by decide +kernel
theorem dX11_of_10 : decode cX11_of 10 = .ok (.bipush 6, 2) := by decide +kernel
theorem dX11_of_12 : decode cX11_of 12 = .ok (.invokestatic 50, 3) := by decide +kernel
theorem dX11_of_15 : decode cX11_of 15 = .ok (.ifCond .eq 12, 3) := by decide +kernel
theorem dX11_of_18 : decode cX11_of 18 = .ok (.aload_n 0, 1) := by decide +kernel
theorem dX11_of_19 : decode cX11_of 19 = .ok (.iload_n 1, 1) := by decide +kernel
theorem dX11_of_20 : decode cX11_of 20 = .ok (.iload_n 2, 1) := by decide +kernel
theorem dX11_of_21 : decode cX11_of 21 = .ok (.invokevirtual 177, 3) := by decide +kernel
theorem dX11_of_24 : decode cX11_of 24 = .ok (.goto 7, 3) := by decide +kernel
theorem dX11_of_27 : decode cX11_of 27 = .ok (.aload_n 0, 1) := by decide +kernel
theorem dX11_of_28 : decode cX11_of 28 = .ok (.invokevirtual 130, 3) := by decide +kernel
theorem dX11_of_31 : decode cX11_of 31 = .ok (.ireturn, 1) := by decide +kernel
theorem dX11_worker_0 : decode cX11_worker 0 = .ok (.iload_n 1, 1) := by decide +kernel
theorem dX11_worker_1 : decode cX11_worker 1 = .ok (.invokestatic 162, 3) := by decide +kernel
theorem dX11_worker_4 : decode cX11_worker 4 = .ok (.ifCond .eq 26, 3) := by decide +kernel
theorem dX11_worker_7 : decode cX11_worker 7 = .ok (.iload_n 2, 1) := by decide +kernel
theorem dX11_worker_8 : decode cX11_worker 8 = .ok (.iconst 0, 1) := by decide +kernel
theorem dX11_worker_9 : decode cX11_worker 9 = .ok (.iconst 4, 1) := by decide +kernel
theorem dX11_worker_10 : decode cX11_worker 10 = .ok (.invokestatic 50, 3) := by decide +kernel
theorem dX11_worker_13 : decode cX11_worker 13 = .ok (.ifCond .eq 17, 3) := by decide +kernel
theorem dX11_worker_16 : decode cX11_worker 16 = .ok (.aload_n 0, 1) := by decide +kernel
theorem dX11_worker_17 : decode cX11_worker 17 = .ok (.getfield 13, 3) := by decide +kernel
theorem dX11_worker_20 : decode cX11_worker 20 = .ok (.iload_n 1, 1) := by decide +kernel
theorem dX11_worker_21 : decode cX11_worker 21 = .ok (.invokestatic 58, 3) := by decide +kernel
theorem dX11_worker_24 : decode cX11_worker 24 = .ok (.iload_n 2, 1) := by decide +kernel
theorem dX11_worker_25 : decode cX11_worker 25 = .ok (.iadd, 1) := by decide +kernel
theorem dX11_worker_26 : decode cX11_worker 26 = .ok (.iaload, 1) := by decide +kernel
theorem dX11_worker_27 : decode cX11_worker 27 = .ok (.goto 7, 3) := by decide +kernel
theorem dX11_worker_30 : decode cX11_worker 30 = .ok (.aload_n 0, 1) := by decide +kernel
theorem dX11_worker_31 : decode cX11_worker 31 = .ok (.invokevirtual 130, 3) := by decide +kernel
theorem dX11_worker_34 : decode cX11_worker 34 = .ok (.ireturn, 1) := by decide +kernel
theorem dX11_line_0 : decode cX11_line 0 = .ok (.iload_n 1, 1) := by decide +kernel
theorem dX11_line_1 : decode cX11_line 1 = .ok (.ifCond .ge 8, 3) := by decide +kernel
theorem dX11_line_4 : decode cX11_line 4 = .ok (.aload_n 0, 1) := by decide +kernel
theorem dX11_line_5 : decode cX11_line 5 = .ok (.invokevirtual 130, 3) := by decide +kernel
theorem dX11_line_8 : decode cX11_line 8 = .ok (.ireturn, 1) := by decide +kernel
theorem dX11_line_9 : decode cX11_line 9 = .ok (.iload_n 1, 1) := by decide +kernel
theorem dX11_line_10 : decode cX11_line 10 = .ok (.aload_n 0, 1) := by decide +kernel
theorem dX11_line_11 : decode cX11_line 11 = .ok (.getfield 13, 3) := by decide +kernel
theorem dX11_line_14 : decode cX11_line 14 = .ok (.iconst 4, 1) := by decide +kernel
theorem dX11_line_15 : decode cX11_line 15 = .ok (.iaload, 1) := by decide +kernel
theorem dX11_line_16 : decode cX11_line 16 = .ok (.if_icmp .ge 16, 3) := by decide +kernel
theorem dX11_line_19 : decode cX11_line 19 = .ok (.aload_n 0, 1) := by decide +kernel
theorem dX11_line_20 : decode cX11_line 20 = .ok (.getfield 13, 3) := by decide +kernel
theorem dX11_line_23 : decode cX11_line 23 = .ok (.sipush 300, 3) := by decide +kernel
theorem dX11_line_26 : decode cX11_line 26 = .ok (.iload_n 1, 1) := by decide +kernel
theorem dX11_line_27 : decode cX11_line 27 = .ok (.iadd, 1) := by decide +kernel
theorem dX11_line_28 : decode cX11_line 28 = .ok (.iaload, 1) := by decide +kernel
theorem dX11_line_29 : decode cX11_line 29 = .ok (.goto 4, 3) := by decide +kernel
theorem dX11_line_32 : decode cX11_line 32 = .ok (.iconst (-1), 1) := by decide +kernel
theorem dX11_line_33 : decode cX11_line 33 = .ok (.ireturn, 1) := by decide +kernel
theorem dX11_itemsOfAll_0 : decode cX11_itemsOfAll 0 = .ok (.iconst 0, 1) := by decide +kernel
theorem dX11_itemsOfAll_1 : decode cX11_itemsOfAll 1 = .ok (.istore_n 1, 1) := by decide +kernel
theorem dX11_itemsOfAll_2 : decode cX11_itemsOfAll 2 = .ok (.iconst 0, 1) := by decide +kernel
theorem dX11_itemsOfAll_3 : decode cX11_itemsOfAll 3 = .ok (.istore_n 2, 1) := by decide +kernel
theorem dX11_itemsOfAll_4 : decode cX11_itemsOfAll 4 = .ok (.iload_n 2, 1) := by decide +kernel
theorem dX11_itemsOfAll_5 : decode cX11_itemsOfAll 5 = .ok (.aload_n 0, 1) := by decide +kernel
theorem dX11_itemsOfAll_6 : decode cX11_itemsOfAll 6 = .ok (.getfield 13, 3) := by decide +kernel
theorem dX11_itemsOfAll_9 : decode cX11_itemsOfAll 9 = .ok (.iconst 0, 1) := by decide +kernel
theorem dX11_itemsOfAll_10 : decode cX11_itemsOfAll 10 = .ok (.iaload, 1) := by decide +kernel
theorem dX11_itemsOfAll_11 : decode cX11_itemsOfAll 11 = .ok (.if_icmp .ge 23, 3) := by decide +kernel
theorem dX11_itemsOfAll_14 : decode cX11_itemsOfAll 14 = .ok (.iload_n 1, 1) := by decide +kernel
theorem dX11_itemsOfAll_15 : decode cX11_itemsOfAll 15 = .ok (.aload_n 0, 1) := by decide +kernel
theorem dX11_itemsOfAll_16 : decode cX11_itemsOfAll 16 = .ok (.getfield 13, 3) := by decide +kernel
theorem dX11_itemsOfAll_19 : decode cX11_itemsOfAll 19 = .ok (.iload_n 2, 1) := by decide +kernel
theorem dX11_itemsOfAll_20 : decode cX11_itemsOfAll 20 = .ok (.invokestatic 54, 3) := by decide +kernel
theorem dX11_itemsOfAll_23 : decode cX11_itemsOfAll 23 = .ok (.iconst 0, 1) := by decide +kernel
theorem dX11_itemsOfAll_24 : decode cX11_itemsOfAll 24 = .ok (.iadd, 1) := by decide +kernel
theorem dX11_itemsOfAll_25 : decode cX11_itemsOfAll 25 = .ok (.iaload, 1) := by decide +kernel
theorem dX11_itemsOfAll_26 : decode cX11_itemsOfAll 26 = .ok (.iadd, 1) := by decide +kernel
theorem dX11_itemsOfAll_27 : decode cX11_itemsOfAll 27 = .ok (.istore_n 1, 1) := by decide +kernel
theorem dX11_itemsOfAll_28 : decode cX11_itemsOfAll 28 = .ok (.iinc 2 1, 3) := by decide +kernel
theorem dX11_itemsOfAll_31 : decode cX11_itemsOfAll 31 = .ok (.goto (-27), 3) := by decide +kernel
theorem dX11_itemsOfAll_34 : decode cX11_itemsOfAll 34 = .ok (.iload_n 1, 1) := by decide +kernel
theorem dX11_itemsOfAll_35 : decode cX11_itemsOfAll 35 = .ok (.ireturn, 1) := by decide +kernel
theorem dX11_entriesOfAll_0 : decode cX11_entriesOfAll 0 = .ok (.iconst 0, 1) := by decide +kernel
theorem dX11_entriesOfAll_1 : decode cX11_entriesOfAll 1 = .ok (.istore_n 1, 1) := by decide +kernel
theorem dX11_entriesOfAll_2 : decode cX11_entriesOfAll 2 = .ok (.iconst 0, 1) := by decide +kernel
theorem dX11_entriesOfAll_3 : decode cX11_entriesOfAll 3 = .ok (.istore_n 2, 1) := by decide +kernel
theorem dX11_entriesOfAll_4 : decode cX11_entriesOfAll 4 = .ok (.iload_n 2, 1) := by decide +kernel
theorem dX11_entriesOfAll_5 : decode cX11_entriesOfAll 5 = .ok (.bipush 6, 2) := by decide +kernel
theorem dX11_entriesOfAll_7 : decode cX11_entriesOfAll 7 = .ok (.if_icmp .gt 23, 3) := by decide +kernel
theorem dX11_entriesOfAll_10 : decode cX11_entriesOfAll 10 = .ok (.iload_n 1, 1) := by decide +kernel
theorem dX11_entriesOfAll_11 : decode cX11_entriesOfAll 11 = .ok (.aload_n 0, 1) := by decide +kernel
theorem dX11_entriesOfAll_12 : decode cX11_entriesOfAll 12 = .ok (.getfield 13, 3) := by decide +kernel
theorem dX11_entriesOfAll_15 : decode cX11_entriesOfAll 15 = .ok (.iload_n 2, 1) := by decide +kernel
theorem dX11_entriesOfAll_16 : decode cX11_entriesOfAll 16 = .ok (.invokestatic 69, 3) := by decide +kernel
theorem dX11_entriesOfAll_19 : decode cX11_entriesOfAll 19 = .ok (.iconst 0, 1) := by decide +kernel
theorem dX11_entriesOfAll_20 : decode cX11_entriesOfAll 20 = .ok (.iadd, 1) := by decide +kernel
theorem dX11_entriesOfAll_21 : decode cX11_entriesOfAll 21 = .ok (.iaload, 1) := by decide +kernel
theorem dX11_entriesOfAll_22 : decode cX11_entriesOfAll 22 = .ok (.iadd, 1) := by decide +kernel
theorem dX11_entriesOfAll_23 : decode cX11_entriesOfAll 23 = .ok (.istore_n 1, 1) := by decide +kernel
theorem dX11_entriesOfAll_24 : decode cX11_entriesOfAll 24 = .ok (.iinc 2 1, 3) := by decide +kernel
theorem dX11_entriesOfAll_27 : decode cX11_entriesOfAll 27 = .ok (.goto (-23), 3) := by decide +kernel
theorem dX11_entriesOfAll_30 : decode cX11_entriesOfAll 30 = .ok (.iload_n 1, 1) := by decide +kernel
theorem dX11_entriesOfAll_31 : decode cX11_entriesOfAll 31 = .ok (.ireturn, 1) := by decide +kernel
theorem dX11_worksBy_0 : decode cX11_worksBy 0 = .ok (.iload_n 1, 1) := by decide +kernel
theorem dX11_worksBy_1 : decode cX11_worksBy 1 = .ok (.tableswitch 128 0 8 #[51, 58, 65, 72, 79, 92, 105, 118, 123], 51) := by decide +kernel
theorem dX11_worksBy_52 : decode cX11_worksBy 52 = .ok (.aload_n 0, 1) := by decide +kernel
theorem dX11_worksBy_53 : decode cX11_worksBy 53 = .ok (.getfield 13, 3) := by decide +kernel
theorem dX11_worksBy_56 : decode cX11_worksBy 56 = .ok (.iconst 0, 1) := by decide +kernel
theorem dX11_worksBy_57 : decode cX11_worksBy 57 = .ok (.iaload, 1) := by decide +kernel
theorem dX11_worksBy_58 : decode cX11_worksBy 58 = .ok (.ireturn, 1) := by decide +kernel
theorem dX11_worksBy_59 : decode cX11_worksBy 59 = .ok (.aload_n 0, 1) := by decide +kernel
theorem dX11_worksBy_60 : decode cX11_worksBy 60 = .ok (.getfield 13, 3) := by decide +kernel
theorem dX11_worksBy_63 : decode cX11_worksBy 63 = .ok (.iconst 1, 1) := by decide +kernel
theorem dX11_worksBy_64 : decode cX11_worksBy 64 = .ok (.iaload, 1) := by decide +kernel
theorem dX11_worksBy_65 : decode cX11_worksBy 65 = .ok (.ireturn, 1) := by decide +kernel
theorem dX11_worksBy_66 : decode cX11_worksBy 66 = .ok (.aload_n 0, 1) := by decide +kernel
theorem dX11_worksBy_67 : decode cX11_worksBy 67 = .ok (.getfield 13, 3) := by decide +kernel
theorem dX11_worksBy_70 : decode cX11_worksBy 70 = .ok (.iconst 2, 1) := by decide +kernel
theorem dX11_worksBy_71 : decode cX11_worksBy 71 = .ok (.iaload, 1) := by decide +kernel
theorem dX11_worksBy_72 : decode cX11_worksBy 72 = .ok (.ireturn, 1) := by decide +kernel
theorem dX11_worksBy_73 : decode cX11_worksBy 73 = .ok (.aload_n 0, 1) := by decide +kernel
theorem dX11_worksBy_74 : decode cX11_worksBy 74 = .ok (.getfield 13, 3) := by decide +kernel
theorem dX11_worksBy_77 : decode cX11_worksBy 77 = .ok (.iconst 3, 1) := by decide +kernel
theorem dX11_worksBy_78 : decode cX11_worksBy 78 = .ok (.iaload, 1) := by decide +kernel
theorem dX11_worksBy_79 : decode cX11_worksBy 79 = .ok (.ireturn, 1) := by decide +kernel
theorem dX11_worksBy_80 : decode cX11_worksBy 80 = .ok (.aload_n 0, 1) := by decide +kernel
theorem dX11_worksBy_81 : decode cX11_worksBy 81 = .ok (.getfield 13, 3) := by decide +kernel
theorem dX11_worksBy_84 : decode cX11_worksBy 84 = .ok (.bipush 6, 2) := by decide +kernel
theorem dX11_worksBy_86 : decode cX11_worksBy 86 = .ok (.invokestatic 69, 3) := by decide +kernel
theorem dX11_worksBy_89 : decode cX11_worksBy 89 = .ok (.iconst 0, 1) := by decide +kernel
theorem dX11_worksBy_90 : decode cX11_worksBy 90 = .ok (.iadd, 1) := by decide +kernel
theorem dX11_worksBy_91 : decode cX11_worksBy 91 = .ok (.iaload, 1) := by decide +kernel
theorem dX11_worksBy_92 : decode cX11_worksBy 92 = .ok (.ireturn, 1) := by decide +kernel
theorem dX11_worksBy_93 : decode cX11_worksBy 93 = .ok (.aload_n 0, 1) := by decide +kernel
theorem dX11_worksBy_94 : decode cX11_worksBy 94 = .ok (.getfield 13, 3) := by decide +kernel
theorem dX11_worksBy_97 : decode cX11_worksBy 97 = .ok (.bipush 6, 2) := by decide +kernel
theorem dX11_worksBy_99 : decode cX11_worksBy 99 = .ok (.invokestatic 69, 3) := by decide +kernel
theorem dX11_worksBy_102 : decode cX11_worksBy 102 = .ok (.iconst 3, 1) := by decide +kernel
theorem dX11_worksBy_103 : decode cX11_worksBy 103 = .ok (.iadd, 1) := by decide +kernel
theorem dX11_worksBy_104 : decode cX11_worksBy 104 = .ok (.iaload, 1) := by decide +kernel
theorem dX11_worksBy_105 : decode cX11_worksBy 105 = .ok (.ireturn, 1) := by decide +kernel
theorem dX11_worksBy_106 : decode cX11_worksBy 106 = .ok (.aload_n 0, 1) := by decide +kernel
theorem dX11_worksBy_107 : decode cX11_worksBy 107 = .ok (.getfield 13, 3) := by decide +kernel
theorem dX11_worksBy_110 : decode cX11_worksBy 110 = .ok (.bipush 6, 2) := by decide +kernel
theorem dX11_worksBy_112 : decode cX11_worksBy 112 = .ok (.invokestatic 69, 3) := by decide +kernel
theorem dX11_worksBy_115 : decode cX11_worksBy 115 = .ok (.iconst 2, 1) := by decide +kernel
theorem dX11_worksBy_116 : decode cX11_worksBy 116 = .ok (.iadd, 1) := by decide +kernel
theorem dX11_worksBy_117 : decode cX11_worksBy 117 = .ok (.iaload, 1) := by decide +kernel
theorem dX11_worksBy_118 : decode cX11_worksBy 118 = .ok (.ireturn, 1) := by decide +kernel
theorem dX11_worksBy_119 : decode cX11_worksBy 119 = .ok (.aload_n 0, 1) := by decide +kernel
theorem dX11_worksBy_120 : decode cX11_worksBy 120 = .ok (.invokevirtual 180, 3) := by decide +kernel
theorem dX11_worksBy_123 : decode cX11_worksBy 123 = .ok (.ireturn, 1) := by decide +kernel
theorem dX11_worksBy_124 : decode cX11_worksBy 124 = .ok (.aload_n 0, 1) := by decide +kernel
theorem dX11_worksBy_125 : decode cX11_worksBy 125 = .ok (.invokevirtual 183, 3) := by decide +kernel
theorem dX11_worksBy_128 : decode cX11_worksBy 128 = .ok (.ireturn, 1) := by decide +kernel
theorem dX11_worksBy_129 : decode cX11_worksBy 129 = .ok (.aload_n 0, 1) := by decide +kernel
theorem dX11_worksBy_130 : decode cX11_worksBy 130 = .ok (.getfield 13, 3) := by decide +kernel
theorem dX11_worksBy_133 : decode cX11_worksBy 133 = .ok (.iconst 4, 1) := by decide +kernel
theorem dX11_worksBy_134 : decode cX11_worksBy 134 = .ok (.iaload, 1) := by decide +kernel
theorem dX11_worksBy_135 : decode cX11_worksBy 135 = .ok (.ireturn, 1) := by decide +kernel
theorem dX11_works_0 : decode cX11_works 0 = .ok (.iload_n 1, 1) := by decide +kernel
theorem dX11_works_1 : decode cX11_works 1 = .ok (.iconst 0, 1) := by decide +kernel
theorem dX11_works_2 : decode cX11_works 2 = .ok (.bipush 9, 2) := by decide +kernel
theorem dX11_works_4 : decode cX11_works 4 = .ok (.invokestatic 50, 3) := by decide +kernel
theorem dX11_works_7 : decode cX11_works 7 = .ok (.ifCond .eq 11, 3) := by decide +kernel
theorem dX11_works_10 : decode cX11_works 10 = .ok (.aload_n 0, 1) := by decide +kernel
theorem dX11_works_11 : decode cX11_works 11 = .ok (.iload_n 1, 1) := by decide +kernel
theorem dX11_works_12 : decode cX11_works 12 = .ok (.invokevirtual 186, 3) := by decide +kernel
theorem dX11_works_15 : decode cX11_works 15 = .ok (.goto 7, 3) := by decide +kernel
theorem dX11_works_18 : decode cX11_works 18 = .ok (.aload_n 0, 1) := by decide +kernel
theorem dX11_works_19 : decode cX11_works 19 = .ok (.invokevirtual 130, 3) := by decide +kernel
theorem dX11_works_22 : decode cX11_works 22 = .ok (.ireturn, 1) := by decide +kernel
theorem dX11_type_0 : decode cX11_type 0 = .ok (.iload_n 1, 1) := by decide +kernel
theorem dX11_type_1 : decode cX11_type 1 = .ok (.iconst 0, 1) := by decide +kernel
theorem dX11_type_2 : decode cX11_type 2 = .ok (.bipush 127, 2) := by decide +kernel
theorem dX11_type_4 : decode cX11_type 4 = .ok (.invokestatic 50, 3) := by decide +kernel
theorem dX11_type_7 : decode cX11_type 7 = .ok (.ifCond .ne 8, 3) := by decide +kernel
theorem dX11_type_10 : decode cX11_type 10 = .ok (.aload_n 0, 1) := by decide +kernel
theorem dX11_type_11 : decode cX11_type 11 = .ok (.invokevirtual 130, 3) := by decide +kernel
theorem dX11_type_14 : decode cX11_type 14 = .ok (.ireturn, 1) := by decide +kernel
theorem dX11_type_15 : decode cX11_type 15 = .ok (.aload_n 0, 1) := by decide +kernel
theorem dX11_type_16 : decode cX11_type 16 = .ok (.getfield 189, 3) := by decide +kernel
theorem dX11_type_19 : decode cX11_type 19 = .ok (.bipush 120, 2) := by decide +kernel
theorem dX11_type_21 : decode cX11_type 21 = .ok (.if_icmp .ne 8, 3) := by decide +kernel
theorem dX11_type_24 : decode cX11_type 24 = .ok (.aload_n 0, 1) := by decide +kernel
theorem dX11_type_25 : decode cX11_type 25 = .ok (.invokevirtual 140, 3) := by decide +kernel
theorem dX11_type_28 : decode cX11_type 28 = .ok (.ireturn, 1) := by decide +kernel
theorem dX11_type_29 : decode cX11_type 29 = .ok (.aload_n 0, 1) := by decide +kernel
theorem dX11_type_30 : decode cX11_type 30 = .ok (.getfield 22, 3) := by decide +kernel
theorem dX11_type_33 : decode cX11_type 33 = .ok (.aload_n 0, 1) := by decide +kernel
theorem dX11_type_34 : decode cX11_type 34 = .ok (.getfield 189, 3) := by decide +kernel
theorem dX11_type_37 : decode cX11_type 37 = .ok (.iload_n 1, 1) := by decide +kernel
theorem dX11_type_38 : decode cX11_type 38 = .ok (.iastore, 1) := by decide +kernel
theorem dX11_type_39 : decode cX11_type 39 = .ok (.aload_n 0, 1) := by decide +kernel
theorem dX11_type_40 : decode cX11_type 40 = .ok (.dup, 1) := by decide +kernel
theorem dX11_type_41 : decode cX11_type 41 = .ok (.getfield 189, 3) := by decide +kernel
theorem dX11_type_44 : decode cX11_type 44 = .ok (.iconst 1, 1) := by decide +kernel
theorem dX11_type_45 : decode cX11_type 45 = .ok (.iadd, 1) := by decide +kernel
theorem dX11_type_46 : decode cX11_type 46 = .ok (.putfield 189, 3) := by decide +kernel
theorem dX11_type_49 : decode cX11_type 49 = .ok (.aload_n 0, 1) := by decide +kernel
theorem dX11_type_50 : decode cX11_type 50 = .ok (.getfield 189, 3) := by decide +kernel
theorem dX11_type_53 : decode cX11_type 53 = .ok (.ireturn, 1) := by decide +kernel
theorem dX11_clear_0 : decode cX11_clear 0 = .ok (.aload_n 0, 1) := by decide +kernel
theorem dX11_clear_1 : decode cX11_clear 1 = .ok (.getfield 189, 3) := by decide +kernel
theorem dX11_clear_4 : decode cX11_clear 4 = .ok (.istore_n 1, 1) := by decide +kernel
theorem dX11_clear_5 : decode cX11_clear 5 = .ok (.aload_n 0, 1) := by decide +kernel
theorem dX11_clear_6 : decode cX11_clear 6 = .ok (.iconst 0, 1) := by decide +kernel
theorem dX11_clear_7 : decode cX11_clear 7 = .ok (.putfield 189, 3) := by decide +kernel
theorem dX11_clear_10 : decode cX11_clear 10 = .ok (.iload_n 1, 1) := by decide +kernel
theorem dX11_clear_11 : decode cX11_clear 11 = .ok (.ireturn, 1) := by decide +kernel
theorem dX11_here_0 : decode cX11_here 0 = .ok (.aload_n 0, 1) := by decide +kernel
theorem dX11_here_1 : decode cX11_here 1 = .ok (.getfield 192, 3) := by decide +kernel
theorem dX11_here_4 : decode cX11_here 4 = .ok (.aload_n 0, 1) := by decide +kernel
theorem dX11_here_5 : decode cX11_here 5 = .ok (.getfield 189, 3) := by decide +kernel
theorem dX11_here_8 : decode cX11_here 8 = .ok (.if_icmp .ge 30, 3) := by decide +kernel
theorem dX11_here_11 : decode cX11_here 11 = .ok (.aload_n 0, 1) := by decide +kernel
theorem dX11_here_12 : decode cX11_here 12 = .ok (.getfield 22, 3) := by decide +kernel
theorem dX11_here_15 : decode cX11_here 15 = .ok (.aload_n 0, 1) := by decide +kernel
theorem dX11_here_16 : decode cX11_here 16 = .ok (.getfield 192, 3) := by decide +kernel
theorem dX11_here_19 : decode cX11_here 19 = .ok (.iaload, 1) := by decide +kernel
theorem dX11_here_20 : decode cX11_here 20 = .ok (.bipush 32, 2) := by decide +kernel
theorem dX11_here_22 : decode cX11_here 22 = .ok (.if_icmp .ne 16, 3) := by decide +kernel
theorem dX11_here_25 : decode cX11_here 25 = .ok (.aload_n 0, 1) := by decide +kernel
theorem dX11_here_26 : decode cX11_here 26 = .ok (.dup, 1) := by decide +kernel
theorem dX11_here_27 : decode cX11_here 27 = .ok (.getfield 192, 3) := by decide +kernel
theorem dX11_here_30 : decode cX11_here 30 = .ok (.iconst 1, 1) := by decide +kernel
theorem dX11_here_31 : decode cX11_here 31 = .ok (.iadd, 1) := by decide +kernel
theorem dX11_here_32 : decode cX11_here 32 = .ok (.putfield 192, 3) := by decide +kernel
theorem dX11_here_35 : decode cX11_here 35 = .ok (.goto (-35), 3) := by decide +kernel
theorem dX11_here_38 : decode cX11_here 38 = .ok (.aload_n 0, 1) := by decide +kernel
theorem dX11_here_39 : decode cX11_here 39 = .ok (.getfield 192, 3) := by decide +kernel
theorem dX11_here_42 : decode cX11_here 42 = .ok (.aload_n 0, 1) := by decide +kernel
theorem dX11_here_43 : decode cX11_here 43 = .ok (.getfield 189, 3) := by decide +kernel
theorem dX11_here_46 : decode cX11_here 46 = .ok (.if_icmp .ge 15, 3) := by decide +kernel
theorem dX11_here_49 : decode cX11_here 49 = .ok (.aload_n 0, 1) := by decide +kernel
theorem dX11_here_50 : decode cX11_here 50 = .ok (.getfield 22, 3) := by decide +kernel
theorem dX11_here_53 : decode cX11_here 53 = .ok (.aload_n 0, 1) := by decide +kernel
theorem dX11_here_54 : decode cX11_here 54 = .ok (.getfield 192, 3) := by decide +kernel
theorem dX11_here_57 : decode cX11_here 57 = .ok (.iaload, 1) := by decide +kernel
theorem dX11_here_58 : decode cX11_here 58 = .ok (.goto 4, 3) := by decide +kernel
theorem dX11_here_61 : decode cX11_here 61 = .ok (.iconst (-1), 1) := by decide +kernel
theorem dX11_here_62 : decode cX11_here 62 = .ok (.ireturn, 1) := by decide +kernel
theorem dX11_figure_0 : decode cX11_figure 0 = .ok (.aload_n 0, 1) := by decide +kernel
theorem dX11_figure_1 : decode cX11_figure 1 = .ok (.getfield 195, 3) := by decide +kernel
theorem dX11_figure_4 : decode cX11_figure 4 = .ok (.ifCond .eq 7, 3) := by decide +kernel
theorem dX11_figure_7 : decode cX11_figure 7 = .ok (.iconst (-1), 1) := by decide +kernel
theorem dX11_figure_8 : decode cX11_figure 8 = .ok (.goto 7, 3) := by decide +kernel
theorem dX11_figure_11 : decode cX11_figure 11 = .ok (.aload_n 0, 1) := by decide +kernel
theorem dX11_figure_12 : decode cX11_figure 12 = .ok (.invokevirtual 199, 3) := by decide +kernel
theorem dX11_figure_15 : decode cX11_figure 15 = .ok (.istore_n 1, 1) := by decide +kernel
theorem dX11_figure_16 : decode cX11_figure 16 = .ok (.aload_n 0, 1) := by decide +kernel
theorem dX11_figure_17 : decode cX11_figure 17 = .ok (.aload_n 0, 1) := by decide +kernel
theorem dX11_figure_18 : decode cX11_figure 18 = .ok (.getfield 195, 3) := by decide +kernel
theorem dX11_figure_21 : decode cX11_figure 21 = .ok (.ifCond .ne 14, 3) := by decide +kernel
theorem dX11_figure_24 : decode cX11_figure 24 = .ok (.iload_n 1, 1) := by decide +kernel
theorem dX11_figure_25 : decode cX11_figure 25 = .ok (.bipush 48, 2) := by decide +kernel
theorem dX11_figure_27 : decode cX11_figure 27 = .ok (.bipush 57, 2) := by decide +kernel
theorem dX11_figure_29 : decode cX11_figure 29 = .ok (.invokestatic 50, 3) := by decide +kernel
theorem dX11_figure_32 : decode cX11_figure 32 = .ok (.ifCond .ne 7, 3) := by decide +kernel
theorem dX11_figure_35 : decode cX11_figure 35 = .ok (.iconst 1, 1) := by decide +kernel
theorem dX11_figure_36 : decode cX11_figure 36 = .ok (.goto 4, 3) := by decide +kernel
theorem dX11_figure_39 : decode cX11_figure 39 = .ok (.iconst 0, 1) := by decide +kernel
theorem dX11_figure_40 : decode cX11_figure 40 = .ok (.putfield 195, 3) := by decide +kernel
theorem dX11_figure_43 : decode cX11_figure 43 = .ok (.aload_n 0, 1) := by decide +kernel
theorem dX11_figure_44 : decode cX11_figure 44 = .ok (.dup, 1) := by decide +kernel
theorem dX11_figure_45 : decode cX11_figure 45 = .ok (.getfield 192, 3) := by decide +kernel
theorem dX11_figure_48 : decode cX11_figure 48 = .ok (.aload_n 0, 1) := by decide +kernel
theorem dX11_figure_49 : decode cX11_figure 49 = .ok (.getfield 195, 3) := by decide +kernel
theorem dX11_figure_52 : decode cX11_figure 52 = .ok (.ifCond .eq 7, 3) := by decide +kernel
theorem dX11_figure_55 : decode cX11_figure 55 = .ok (.iconst 0, 1) := by decide +kernel
theorem dX11_figure_56 : decode cX11_figure 56 = .ok (.goto 4, 3) := by decide +kernel
theorem dX11_figure_59 : decode cX11_figure 59 = .ok (.iconst 1, 1) := by decide +kernel
theorem dX11_figure_60 : decode cX11_figure 60 = .ok (.iadd, 1) := by decide +kernel
theorem dX11_figure_61 : decode cX11_figure 61 = .ok (.putfield 192, 3) := by decide +kernel
theorem dX11_figure_64 : decode cX11_figure 64 = .ok (.iload_n 1, 1) := by decide +kernel
theorem dX11_figure_65 : decode cX11_figure 65 = .ok (.bipush 48, 2) := by decide +kernel
theorem dX11_figure_67 : decode cX11_figure 67 = .ok (.isub, 1) := by decide +kernel
theorem dX11_figure_68 : decode cX11_figure 68 = .ok (.ireturn, 1) := by decide +kernel
theorem dX11_comes_0 : decode cX11_comes 0 = .ok (.aload_n 0, 1) := by decide +kernel
theorem dX11_comes_1 : decode cX11_comes 1 = .ok (.getfield 25, 3) := by decide +kernel
theorem dX11_comes_4 : decode cX11_comes 4 = .ok (.aload_n 0, 1) := by decide +kernel
theorem dX11_comes_5 : decode cX11_comes 5 = .ok (.getfield 202, 3) := by decide +kernel
theorem dX11_comes_8 : decode cX11_comes 8 = .ok (.iload_n 1, 1) := by decide +kernel
theorem dX11_comes_9 : decode cX11_comes 9 = .ok (.iastore, 1) := by decide +kernel
theorem dX11_comes_10 : decode cX11_comes 10 = .ok (.aload_n 0, 1) := by decide +kernel
theorem dX11_comes_11 : decode cX11_comes 11 = .ok (.getfield 37, 3) := by decide +kernel
theorem dX11_comes_14 : decode cX11_comes 14 = .ok (.aload_n 0, 1) := by decide +kernel
theorem dX11_comes_15 : decode cX11_comes 15 = .ok (.getfield 202, 3) := by decide +kernel
theorem dX11_comes_18 : decode cX11_comes 18 = .ok (.iconst (-1), 1) := by decide +kernel
theorem dX11_comes_19 : decode cX11_comes 19 = .ok (.iastore, 1) := by decide +kernel
theorem dX11_comes_20 : decode cX11_comes 20 = .ok (.aload_n 0, 1) := by decide +kernel
theorem dX11_comes_21 : decode cX11_comes 21 = .ok (.getfield 28, 3) := by decide +kernel
theorem dX11_comes_24 : decode cX11_comes 24 = .ok (.aload_n 0, 1) := by decide +kernel
theorem dX11_comes_25 : decode cX11_comes 25 = .ok (.getfield 202, 3) := by decide +kernel
theorem dX11_comes_28 : decode cX11_comes 28 = .ok (.iload_n 1, 1) := by decide +kernel
theorem dX11_comes_29 : decode cX11_comes 29 = .ok (.bipush 112, 2) := by decide +kernel
theorem dX11_comes_31 : decode cX11_comes 31 = .ok (.if_icmp .eq 15, 3) := by decide +kernel
theorem dX11_comes_34 : decode cX11_comes 34 = .ok (.iload_n 1, 1) := by decide +kernel
theorem dX11_comes_35 : decode cX11_comes 35 = .ok (.bipush 116, 2) := by decide +kernel
theorem dX11_comes_37 : decode cX11_comes 37 = .ok (.if_icmp .eq 9, 3) := by decide +kernel
theorem dX11_comes_40 : decode cX11_comes 40 = .ok (.iload_n 1, 1) := by decide +kernel
theorem dX11_comes_41 : decode cX11_comes 41 = .ok (.bipush 109, 2) := by decide +kernel
theorem dX11_comes_43 : decode cX11_comes 43 = .ok (.if_icmp .ne 10, 3) := by decide +kernel
theorem dX11_comes_46 : decode cX11_comes 46 = .ok (.aload_n 0, 1) := by decide +kernel
theorem dX11_comes_47 : decode cX11_comes 47 = .ok (.invokevirtual 205, 3) := by decide +kernel
theorem dX11_comes_50 : decode cX11_comes 50 = .ok (.goto 4, 3) := by decide +kernel
theorem dX11_comes_53 : decode cX11_comes 53 = .ok (.iconst 0, 1) := by decide +kernel
theorem dX11_comes_54 : decode cX11_comes 54 = .ok (.iastore, 1) := by decide +kernel
theorem dX11_comes_55 : decode cX11_comes 55 = .ok (.aload_n 0, 1) := by decide +kernel
theorem dX11_comes_56 : decode cX11_comes 56 = .ok (.getfield 31, 3) := by decide +kernel
theorem dX11_comes_59 : decode cX11_comes 59 = .ok (.aload_n 0, 1) := by decide +kernel
theorem dX11_comes_60 : decode cX11_comes 60 = .ok (.getfield 202, 3) := by decide +kernel
theorem dX11_comes_63 : decode cX11_comes 63 = .ok (.iload_n 1, 1) := by decide +kernel
theorem dX11_comes_64 : decode cX11_comes 64 = .ok (.bipush 112, 2) := by decide +kernel
theorem dX11_comes_66 : decode cX11_comes 66 = .ok (.if_icmp .eq 9, 3) := by decide +kernel
theorem dX11_comes_69 : decode cX11_comes 69 = .ok (.iload_n 1, 1) := by decide +kernel
theorem dX11_comes_70 : decode cX11_comes 70 = .ok (.bipush 109, 2) := by decide +kernel
theorem dX11_comes_72 : decode cX11_comes 72 = .ok (.if_icmp .ne 10, 3) := by decide +kernel
theorem dX11_comes_75 : decode cX11_comes 75 = .ok (.aload_n 0, 1) := by decide +kernel
theorem dX11_comes_76 : decode cX11_comes 76 = .ok (.invokevirtual 205, 3) := by decide +kernel
theorem dX11_comes_79 : decode cX11_comes 79 = .ok (.goto 4, 3) := by decide +kernel
theorem dX11_comes_82 : decode cX11_comes 82 = .ok (.iconst 0, 1) := by decide +kernel
theorem dX11_comes_83 : decode cX11_comes 83 = .ok (.iastore, 1) := by decide +kernel
theorem dX11_comes_84 : decode cX11_comes 84 = .ok (.aload_n 0, 1) := by decide +kernel
theorem dX11_comes_85 : decode cX11_comes 85 = .ok (.getfield 34, 3) := by decide +kernel
theorem dX11_comes_88 : decode cX11_comes 88 = .ok (.aload_n 0, 1) := by decide +kernel
theorem dX11_comes_89 : decode cX11_comes 89 = .ok (.getfield 202, 3) := by decide +kernel
theorem dX11_comes_92 : decode cX11_comes 92 = .ok (.iload_n 1, 1) := by decide +kernel
theorem dX11_comes_93 : decode cX11_comes 93 = .ok (.bipush 109, 2) := by decide +kernel
theorem dX11_comes_95 : decode cX11_comes 95 = .ok (.if_icmp .ne 10, 3) := by decide +kernel
theorem dX11_comes_98 : decode cX11_comes 98 = .ok (.aload_n 0, 1) := by decide +kernel
theorem dX11_comes_99 : decode cX11_comes 99 = .ok (.invokevirtual 205, 3) := by decide +kernel
theorem dX11_comes_102 : decode cX11_comes 102 = .ok (.goto 4, 3) := by decide +kernel
theorem dX11_comes_105 : decode cX11_comes 105 = .ok (.iconst 0, 1) := by decide +kernel
theorem dX11_comes_106 : decode cX11_comes 106 = .ok (.iastore, 1) := by decide +kernel
theorem dX11_comes_107 : decode cX11_comes 107 = .ok (.aload_n 0, 1) := by decide +kernel
theorem dX11_comes_108 : decode cX11_comes 108 = .ok (.dup, 1) := by decide +kernel
theorem dX11_comes_109 : decode cX11_comes 109 = .ok (.getfield 202, 3) := by decide +kernel
theorem dX11_comes_112 : decode cX11_comes 112 = .ok (.iconst 1, 1) := by decide +kernel
theorem dX11_comes_113 : decode cX11_comes 113 = .ok (.iadd, 1) := by decide +kernel
theorem dX11_comes_114 : decode cX11_comes 114 = .ok (.putfield 202, 3) := by decide +kernel
theorem dX11_comes_117 : decode cX11_comes 117 = .ok (.return_, 1) := by decide +kernel
theorem dX11_reads_0 : decode cX11_reads 0 = .ok (.aload_n 0, 1) := by decide +kernel
theorem dX11_reads_1 : decode cX11_reads 1 = .ok (.iconst 0, 1) := by decide +kernel
theorem dX11_reads_2 : decode cX11_reads 2 = .ok (.putfield 192, 3) := by decide +kernel
theorem dX11_reads_5 : decode cX11_reads 5 = .ok (.aload_n 0, 1) := by decide +kernel
theorem dX11_reads_6 : decode cX11_reads 6 = .ok (.iconst 0, 1) := by decide +kernel
theorem dX11_reads_7 : decode cX11_reads 7 = .ok (.putfield 195, 3) := by decide +kernel
theorem dX11_reads_10 : decode cX11_reads 10 = .ok (.aload_n 0, 1) := by decide +kernel
theorem dX11_reads_11 : decode cX11_reads 11 = .ok (.iconst 0, 1) := by decide +kernel
theorem dX11_reads_12 : decode cX11_reads 12 = .ok (.putfield 202, 3) := by decide +kernel
theorem dX11_reads_15 : decode cX11_reads 15 = .ok (.iconst 0, 1) := by decide +kernel
theorem dX11_reads_16 : decode cX11_reads 16 = .ok (.istore_n 1, 1) := by decide +kernel
theorem dX11_reads_17 : decode cX11_reads 17 = .ok (.aload_n 0, 1) := by decide +kernel
theorem dX11_reads_18 : decode cX11_reads 18 = .ok (.getfield 195, 3) := by decide +kernel
theorem dX11_reads_21 : decode cX11_reads 21 = .ok (.ifCond .ne 189, 3) := by decide +kernel
theorem dX11_reads_24 : decode cX11_reads 24 = .ok (.aload_n 0, 1) := by decide +kernel
theorem dX11_reads_25 : decode cX11_reads 25 = .ok (.invokevirtual 199, 3) := by decide +kernel
theorem dX11_reads_28 : decode cX11_reads 28 = .ok (.iconst (-1), 1) := by decide +kernel
theorem dX11_reads_29 : decode cX11_reads 29 = .ok (.if_icmp .ne 14, 3) := by decide +kernel
theorem dX11_reads_32 : decode cX11_reads 32 = .ok (.iload_n 1, 1) := by decide +kernel
theorem dX11_reads_33 : decode cX11_reads 33 = .ok (.ifCond .gt 10, 3) := by decide +kernel
theorem dX11_reads_36 : decode cX11_reads 36 = .ok (.aload_n 0, 1) := by decide +kernel
theorem dX11_reads_37 : decode cX11_reads 37 = .ok (.getfield 202, 3) := by decide +kernel
theorem dX11_reads_40 : decode cX11_reads 40 = .ok (.ifCond .ne 170, 3) := by decide +kernel
theorem dX11_reads_43 : decode cX11_reads 43 = .ok (.aload_n 0, 1) := by decide +kernel
theorem dX11_reads_44 : decode cX11_reads 44 = .ok (.invokevirtual 199, 3) := by decide +kernel
theorem dX11_reads_47 : decode cX11_reads 47 = .ok (.istore_n 2, 1) := by decide +kernel
theorem dX11_reads_48 : decode cX11_reads 48 = .ok (.iload_n 2, 1) := by decide +kernel
theorem dX11_reads_49 : decode cX11_reads 49 = .ok (.bipush 40, 2) := by decide +kernel
theorem dX11_reads_51 : decode cX11_reads 51 = .ok (.if_icmp .ne 12, 3) := by decide +kernel
theorem dX11_reads_54 : decode cX11_reads 54 = .ok (.iload_n 1, 1) := by decide +kernel
theorem dX11_reads_55 : decode cX11_reads 55 = .ok (.iconst 4, 1) := by decide +kernel
theorem dX11_reads_56 : decode cX11_reads 56 = .ok (.if_icmp .ge 7, 3) := by decide +kernel
theorem dX11_reads_59 : decode cX11_reads 59 = .ok (.iconst 1, 1) := by decide +kernel
theorem dX11_reads_60 : decode cX11_reads 60 = .ok (.goto 4, 3) := by decide +kernel
theorem dX11_reads_63 : decode cX11_reads 63 = .ok (.iconst 0, 1) := by decide +kernel
theorem dX11_reads_64 : decode cX11_reads 64 = .ok (.istore_n 3, 1) := by decide +kernel
theorem dX11_reads_65 : decode cX11_reads 65 = .ok (.iload_n 2, 1) := by decide +kernel
theorem dX11_reads_66 : decode cX11_reads 66 = .ok (.bipush 41, 2) := by decide +kernel
theorem dX11_reads_68 : decode cX11_reads 68 = .ok (.if_icmp .ne 11, 3) := by decide +kernel
theorem dX11_reads_71 : decode cX11_reads 71 = .ok (.iload_n 1, 1) := by decide +kernel
theorem dX11_reads_72 : decode cX11_reads 72 = .ok (.ifCond .le 7, 3) := by decide +kernel
theorem dX11_reads_75 : decode cX11_reads 75 = .ok (.iconst 1, 1) := by decide +kernel
theorem dX11_reads_76 : decode cX11_reads 76 = .ok (.goto 4, 3) := by decide +kernel
theorem dX11_reads_79 : decode cX11_reads 79 = .ok (.iconst 0, 1) := by decide +kernel
theorem dX11_reads_80 : decode cX11_reads 80 = .ok (.istore 4, 2) := by decide +kernel
theorem dX11_reads_82 : decode cX11_reads 82 = .ok (.iload_n 3, 1) := by decide +kernel
theorem dX11_reads_83 : decode cX11_reads 83 = .ok (.ifCond .ne 26, 3) := by decide +kernel
theorem dX11_reads_86 : decode cX11_reads 86 = .ok (.iload 4, 2) := by decide +kernel
theorem dX11_reads_88 : decode cX11_reads 88 = .ok (.ifCond .ne 21, 3) := by decide +kernel
theorem dX11_reads_91 : decode cX11_reads 91 = .ok (.iload_n 2, 1) := by decide +kernel
theorem dX11_reads_92 : decode cX11_reads 92 = .ok (.bipush 112, 2) := by decide +kernel
theorem dX11_reads_94 : decode cX11_reads 94 = .ok (.if_icmp .eq 15, 3) := by decide +kernel
theorem dX11_reads_97 : decode cX11_reads 97 = .ok (.iload_n 2, 1) := by decide +kernel
theorem dX11_reads_98 : decode cX11_reads 98 = .ok (.bipush 116, 2) := by decide +kernel
theorem dX11_reads_100 : decode cX11_reads 100 = .ok (.if_icmp .eq 9, 3) := by decide +kernel
theorem dX11_reads_103 : decode cX11_reads 103 = .ok (.iload_n 2, 1) := by decide +kernel
theorem dX11_reads_104 : decode cX11_reads 104 = .ok (.bipush 109, 2) := by decide +kernel
theorem dX11_reads_106 : decode cX11_reads 106 = .ok (.if_icmp .ne 96, 3) := by decide +kernel
theorem dX11_reads_109 : decode cX11_reads 109 = .ok (.aload_n 0, 1) := by decide +kernel
theorem dX11_reads_110 : decode cX11_reads 110 = .ok (.dup, 1) := by decide +kernel
theorem dX11_reads_111 : decode cX11_reads 111 = .ok (.getfield 192, 3) := by decide +kernel
theorem dX11_reads_114 : decode cX11_reads 114 = .ok (.iconst 1, 1) := by decide +kernel
theorem dX11_reads_115 : decode cX11_reads 115 = .ok (.iadd, 1) := by decide +kernel
theorem dX11_reads_116 : decode cX11_reads 116 = .ok (.putfield 192, 3) := by decide +kernel
theorem dX11_reads_119 : decode cX11_reads 119 = .ok (.iload_n 3, 1) := by decide +kernel
theorem dX11_reads_120 : decode cX11_reads 120 = .ok (.ifCond .eq 16, 3) := by decide +kernel
theorem dX11_reads_123 : decode cX11_reads 123 = .ok (.aload_n 0, 1) := by decide +kernel
theorem dX11_reads_124 : decode cX11_reads 124 = .ok (.getfield 40, 3) := by decide +kernel
theorem dX11_reads_127 : decode cX11_reads 127 = .ok (.iload_n 1, 1) := by decide +kernel
theorem dX11_reads_128 : decode cX11_reads 128 = .ok (.aload_n 0, 1) := by decide +kernel
theorem dX11_reads_129 : decode cX11_reads 129 = .ok (.getfield 202, 3) := by decide +kernel
theorem dX11_reads_132 : decode cX11_reads 132 = .ok (.iastore, 1) := by decide +kernel
theorem dX11_reads_133 : decode cX11_reads 133 = .ok (.iinc 1 1, 3) := by decide +kernel
theorem dX11_reads_136 : decode cX11_reads 136 = .ok (.iload 4, 2) := by decide +kernel
theorem dX11_reads_138 : decode cX11_reads 138 = .ok (.ifCond .eq 21, 3) := by decide +kernel
theorem dX11_reads_141 : decode cX11_reads 141 = .ok (.iinc 1 (-1), 3) := by decide +kernel
theorem dX11_reads_144 : decode cX11_reads 144 = .ok (.aload_n 0, 1) := by decide +kernel
theorem dX11_reads_145 : decode cX11_reads 145 = .ok (.getfield 37, 3) := by decide +kernel
theorem dX11_reads_148 : decode cX11_reads 148 = .ok (.aload_n 0, 1) := by decide +kernel
theorem dX11_reads_149 : decode cX11_reads 149 = .ok (.getfield 40, 3) := by decide +kernel
theorem dX11_reads_152 : decode cX11_reads 152 = .ok (.iload_n 1, 1) := by decide +kernel
theorem dX11_reads_153 : decode cX11_reads 153 = .ok (.iaload, 1) := by decide +kernel
theorem dX11_reads_154 : decode cX11_reads 154 = .ok (.aload_n 0, 1) := by decide +kernel
theorem dX11_reads_155 : decode cX11_reads 155 = .ok (.getfield 202, 3) := by decide +kernel
theorem dX11_reads_158 : decode cX11_reads 158 = .ok (.iastore, 1) := by decide +kernel
theorem dX11_reads_159 : decode cX11_reads 159 = .ok (.iload 4, 2) := by decide +kernel
theorem dX11_reads_161 : decode cX11_reads 161 = .ok (.ifCond .eq 12, 3) := by decide +kernel
theorem dX11_reads_164 : decode cX11_reads 164 = .ok (.aload_n 0, 1) := by decide +kernel
theorem dX11_reads_165 : decode cX11_reads 165 = .ok (.getfield 40, 3) := by decide +kernel
theorem dX11_reads_168 : decode cX11_reads 168 = .ok (.iload_n 1, 1) := by decide +kernel
theorem dX11_reads_169 : decode cX11_reads 169 = .ok (.iaload, 1) := by decide +kernel
theorem dX11_reads_170 : decode cX11_reads 170 = .ok (.goto 4, 3) := by decide +kernel
end
section
theorem dX11_reads_173 : decode cX11_reads 173 = .ok (.iconst (-1), 1) := by decide +kernel
theorem dX11_reads_174 : decode cX11_reads 174 = .ok (.istore 5, 2) := by decide +kernel
theorem dX11_reads_176 : decode cX11_reads 176 = .ok (.aload_n 0, 1) := by decide +kernel
theorem dX11_reads_177 : decode cX11_reads 177 = .ok (.iload_n 2, 1) := by decide +kernel
theorem dX11_reads_178 : decode cX11_reads 178 = .ok (.invokevirtual 208, 3) := by decide +kernel
theorem dX11_reads_181 : decode cX11_reads 181 = .ok (.iload 4, 2) := by decide +kernel
theorem dX11_reads_183 : decode cX11_reads 183 = .ok (.ifCond .eq 16, 3) := by decide +kernel
theorem dX11_reads_186 : decode cX11_reads 186 = .ok (.aload_n 0, 1) := by decide +kernel
theorem dX11_reads_187 : decode cX11_reads 187 = .ok (.getfield 37, 3) := by decide +kernel
theorem dX11_reads_190 : decode cX11_reads 190 = .ok (.iload 5, 2) := by decide +kernel
theorem dX11_reads_192 : decode cX11_reads 192 = .ok (.aload_n 0, 1) := by decide +kernel
theorem dX11_reads_193 : decode cX11_reads 193 = .ok (.getfield 202, 3) := by decide +kernel
theorem dX11_reads_196 : decode cX11_reads 196 = .ok (.iconst 1, 1) := by decide +kernel
theorem dX11_reads_197 : decode cX11_reads 197 = .ok (.isub, 1) := by decide +kernel
theorem dX11_reads_198 : decode cX11_reads 198 = .ok (.iastore, 1) := by decide +kernel
theorem dX11_reads_199 : decode cX11_reads 199 = .ok (.goto 8, 3) := by decide +kernel
theorem dX11_reads_202 : decode cX11_reads 202 = .ok (.aload_n 0, 1) := by decide +kernel
theorem dX11_reads_203 : decode cX11_reads 203 = .ok (.iconst 1, 1) := by decide +kernel
theorem dX11_reads_204 : decode cX11_reads 204 = .ok (.putfield 195, 3) := by decide +kernel
theorem dX11_reads_207 : decode cX11_reads 207 = .ok (.goto (-190), 3) := by decide +kernel
theorem dX11_reads_210 : decode cX11_reads 210 = .ok (.aload_n 0, 1) := by decide +kernel
theorem dX11_reads_211 : decode cX11_reads 211 = .ok (.getfield 195, 3) := by decide +kernel
theorem dX11_reads_214 : decode cX11_reads 214 = .ok (.ifCond .ne 7, 3) := by decide +kernel
theorem dX11_reads_217 : decode cX11_reads 217 = .ok (.iconst 1, 1) := by decide +kernel
theorem dX11_reads_218 : decode cX11_reads 218 = .ok (.goto 4, 3) := by decide +kernel
theorem dX11_reads_221 : decode cX11_reads 221 = .ok (.iconst 0, 1) := by decide +kernel
theorem dX11_reads_222 : decode cX11_reads 222 = .ok (.ireturn, 1) := by decide +kernel
theorem dX11_doesOne_0 : decode cX11_doesOne 0 = .ok (.aload_n 0, 1) := by decide +kernel
theorem dX11_doesOne_1 : decode cX11_doesOne 1 = .ok (.getfield 28, 3) := by decide +kernel
theorem dX11_doesOne_4 : decode cX11_doesOne 4 = .ok (.iload_n 1, 1) := by decide +kernel
theorem dX11_doesOne_5 : decode cX11_doesOne 5 = .ok (.iaload, 1) := by decide +kernel
theorem dX11_doesOne_6 : decode cX11_doesOne 6 = .ok (.istore_n 2, 1) := by decide +kernel
theorem dX11_doesOne_7 : decode cX11_doesOne 7 = .ok (.aload_n 0, 1) := by decide +kernel
theorem dX11_doesOne_8 : decode cX11_doesOne 8 = .ok (.getfield 31, 3) := by decide +kernel
theorem dX11_doesOne_11 : decode cX11_doesOne 11 = .ok (.iload_n 1, 1) := by decide +kernel
theorem dX11_doesOne_12 : decode cX11_doesOne 12 = .ok (.iaload, 1) := by decide +kernel
theorem dX11_doesOne_13 : decode cX11_doesOne 13 = .ok (.istore_n 3, 1) := by decide +kernel
theorem dX11_doesOne_14 : decode cX11_doesOne 14 = .ok (.aload_n 0, 1) := by decide +kernel
theorem dX11_doesOne_15 : decode cX11_doesOne 15 = .ok (.getfield 25, 3) := by decide +kernel
theorem dX11_doesOne_18 : decode cX11_doesOne 18 = .ok (.iload_n 1, 1) := by decide +kernel
theorem dX11_doesOne_19 : decode cX11_doesOne 19 = .ok (.iaload, 1) := by decide +kernel
theorem dX11_doesOne_20 : decode cX11_doesOne 20 = .ok (.bipush 112, 2) := by decide +kernel
theorem dX11_doesOne_22 : decode cX11_doesOne 22 = .ok (.if_icmp .ne 27, 3) := by decide +kernel
theorem dX11_doesOne_25 : decode cX11_doesOne 25 = .ok (.aload_n 0, 1) := by decide +kernel
theorem dX11_doesOne_26 : decode cX11_doesOne 26 = .ok (.iload_n 2, 1) := by decide +kernel
theorem dX11_doesOne_27 : decode cX11_doesOne 27 = .ok (.invokevirtual 136, 3) := by decide +kernel
theorem dX11_doesOne_30 : decode cX11_doesOne 30 = .ok (.ifCond .eq 17, 3) := by decide +kernel
theorem dX11_doesOne_33 : decode cX11_doesOne 33 = .ok (.aload_n 0, 1) := by decide +kernel
theorem dX11_doesOne_34 : decode cX11_doesOne 34 = .ok (.iload_n 2, 1) := by decide +kernel
theorem dX11_doesOne_35 : decode cX11_doesOne 35 = .ok (.iload_n 3, 1) := by decide +kernel
theorem dX11_doesOne_36 : decode cX11_doesOne 36 = .ok (.iconst (-1), 1) := by decide +kernel
theorem dX11_doesOne_37 : decode cX11_doesOne 37 = .ok (.invokevirtual 98, 3) := by decide +kernel
theorem dX11_doesOne_40 : decode cX11_doesOne 40 = .ok (.ifCond .eq 7, 3) := by decide +kernel
theorem dX11_doesOne_43 : decode cX11_doesOne 43 = .ok (.iconst 1, 1) := by decide +kernel
theorem dX11_doesOne_44 : decode cX11_doesOne 44 = .ok (.goto 4, 3) := by decide +kernel
theorem dX11_doesOne_47 : decode cX11_doesOne 47 = .ok (.iconst 0, 1) := by decide +kernel
theorem dX11_doesOne_48 : decode cX11_doesOne 48 = .ok (.ireturn, 1) := by decide +kernel
theorem dX11_doesOne_49 : decode cX11_doesOne 49 = .ok (.aload_n 0, 1) := by decide +kernel
theorem dX11_doesOne_50 : decode cX11_doesOne 50 = .ok (.getfield 25, 3) := by decide +kernel
theorem dX11_doesOne_53 : decode cX11_doesOne 53 = .ok (.iload_n 1, 1) := by decide +kernel
theorem dX11_doesOne_54 : decode cX11_doesOne 54 = .ok (.iaload, 1) := by decide +kernel
theorem dX11_doesOne_55 : decode cX11_doesOne 55 = .ok (.bipush 116, 2) := by decide +kernel
theorem dX11_doesOne_57 : decode cX11_doesOne 57 = .ok (.if_icmp .ne 27, 3) := by decide +kernel
theorem dX11_doesOne_60 : decode cX11_doesOne 60 = .ok (.aload_n 0, 1) := by decide +kernel
theorem dX11_doesOne_61 : decode cX11_doesOne 61 = .ok (.iload_n 2, 1) := by decide +kernel
theorem dX11_doesOne_62 : decode cX11_doesOne 62 = .ok (.invokevirtual 136, 3) := by decide +kernel
theorem dX11_doesOne_65 : decode cX11_doesOne 65 = .ok (.ifCond .eq 17, 3) := by decide +kernel
theorem dX11_doesOne_68 : decode cX11_doesOne 68 = .ok (.aload_n 0, 1) := by decide +kernel
theorem dX11_doesOne_69 : decode cX11_doesOne 69 = .ok (.iload_n 2, 1) := by decide +kernel
theorem dX11_doesOne_70 : decode cX11_doesOne 70 = .ok (.iconst (-1), 1) := by decide +kernel
theorem dX11_doesOne_71 : decode cX11_doesOne 71 = .ok (.invokevirtual 95, 3) := by decide +kernel
theorem dX11_doesOne_74 : decode cX11_doesOne 74 = .ok (.iconst (-1), 1) := by decide +kernel
theorem dX11_doesOne_75 : decode cX11_doesOne 75 = .ok (.if_icmp .eq 7, 3) := by decide +kernel
theorem dX11_doesOne_78 : decode cX11_doesOne 78 = .ok (.iconst 1, 1) := by decide +kernel
theorem dX11_doesOne_79 : decode cX11_doesOne 79 = .ok (.goto 4, 3) := by decide +kernel
theorem dX11_doesOne_82 : decode cX11_doesOne 82 = .ok (.iconst 0, 1) := by decide +kernel
theorem dX11_doesOne_83 : decode cX11_doesOne 83 = .ok (.ireturn, 1) := by decide +kernel
theorem dX11_doesOne_84 : decode cX11_doesOne 84 = .ok (.aload_n 0, 1) := by decide +kernel
theorem dX11_doesOne_85 : decode cX11_doesOne 85 = .ok (.iload_n 2, 1) := by decide +kernel
theorem dX11_doesOne_86 : decode cX11_doesOne 86 = .ok (.invokevirtual 136, 3) := by decide +kernel
theorem dX11_doesOne_89 : decode cX11_doesOne 89 = .ok (.ifCond .eq 41, 3) := by decide +kernel
theorem dX11_doesOne_92 : decode cX11_doesOne 92 = .ok (.aload_n 0, 1) := by decide +kernel
theorem dX11_doesOne_93 : decode cX11_doesOne 93 = .ok (.iload_n 3, 1) := by decide +kernel
theorem dX11_doesOne_94 : decode cX11_doesOne 94 = .ok (.invokevirtual 136, 3) := by decide +kernel
theorem dX11_doesOne_97 : decode cX11_doesOne 97 = .ok (.ifCond .eq 33, 3) := by decide +kernel
theorem dX11_doesOne_100 : decode cX11_doesOne 100 = .ok (.iload_n 2, 1) := by decide +kernel
theorem dX11_doesOne_101 : decode cX11_doesOne 101 = .ok (.iload_n 3, 1) := by decide +kernel
theorem dX11_doesOne_102 : decode cX11_doesOne 102 = .ok (.if_icmp .eq 28, 3) := by decide +kernel
theorem dX11_doesOne_105 : decode cX11_doesOne 105 = .ok (.aload_n 0, 1) := by decide +kernel
theorem dX11_doesOne_106 : decode cX11_doesOne 106 = .ok (.iload_n 2, 1) := by decide +kernel
theorem dX11_doesOne_107 : decode cX11_doesOne 107 = .ok (.iload_n 3, 1) := by decide +kernel
theorem dX11_doesOne_108 : decode cX11_doesOne 108 = .ok (.aload_n 0, 1) := by decide +kernel
theorem dX11_doesOne_109 : decode cX11_doesOne 109 = .ok (.getfield 34, 3) := by decide +kernel
theorem dX11_doesOne_112 : decode cX11_doesOne 112 = .ok (.iload_n 1, 1) := by decide +kernel
theorem dX11_doesOne_113 : decode cX11_doesOne 113 = .ok (.iaload, 1) := by decide +kernel
theorem dX11_doesOne_114 : decode cX11_doesOne 114 = .ok (.invokevirtual 155, 3) := by decide +kernel
theorem dX11_doesOne_117 : decode cX11_doesOne 117 = .ok (.aload_n 0, 1) := by decide +kernel
theorem dX11_doesOne_118 : decode cX11_doesOne 118 = .ok (.getfield 34, 3) := by decide +kernel
theorem dX11_doesOne_121 : decode cX11_doesOne 121 = .ok (.iload_n 1, 1) := by decide +kernel
theorem dX11_doesOne_122 : decode cX11_doesOne 122 = .ok (.iaload, 1) := by decide +kernel
theorem dX11_doesOne_123 : decode cX11_doesOne 123 = .ok (.if_icmp .ne 7, 3) := by decide +kernel
theorem dX11_doesOne_126 : decode cX11_doesOne 126 = .ok (.iconst 1, 1) := by decide +kernel
theorem dX11_doesOne_127 : decode cX11_doesOne 127 = .ok (.goto 4, 3) := by decide +kernel
theorem dX11_doesOne_130 : decode cX11_doesOne 130 = .ok (.iconst 0, 1) := by decide +kernel
theorem dX11_doesOne_131 : decode cX11_doesOne 131 = .ok (.ireturn, 1) := by decide +kernel
theorem dX11_doesAll_0 : decode cX11_doesAll 0 = .ok (.iconst 0, 1) := by decide +kernel
theorem dX11_doesAll_1 : decode cX11_doesAll 1 = .ok (.istore_n 1, 1) := by decide +kernel
theorem dX11_doesAll_2 : decode cX11_doesAll 2 = .ok (.iconst 0, 1) := by decide +kernel
theorem dX11_doesAll_3 : decode cX11_doesAll 3 = .ok (.istore_n 2, 1) := by decide +kernel
theorem dX11_doesAll_4 : decode cX11_doesAll 4 = .ok (.iconst 0, 1) := by decide +kernel
theorem dX11_doesAll_5 : decode cX11_doesAll 5 = .ok (.istore_n 3, 1) := by decide +kernel
theorem dX11_doesAll_6 : decode cX11_doesAll 6 = .ok (.iconst 0, 1) := by decide +kernel
theorem dX11_doesAll_7 : decode cX11_doesAll 7 = .ok (.istore 4, 2) := by decide +kernel
theorem dX11_doesAll_9 : decode cX11_doesAll 9 = .ok (.aload_n 0, 1) := by decide +kernel
theorem dX11_doesAll_10 : decode cX11_doesAll 10 = .ok (.bipush 6, 2) := by decide +kernel
theorem dX11_doesAll_12 : decode cX11_doesAll 12 = .ok (.invokevirtual 72, 3) := by decide +kernel
theorem dX11_doesAll_15 : decode cX11_doesAll 15 = .ok (.aload_n 0, 1) := by decide +kernel
theorem dX11_doesAll_16 : decode cX11_doesAll 16 = .ok (.iconst 0, 1) := by decide +kernel
theorem dX11_doesAll_17 : decode cX11_doesAll 17 = .ok (.invokevirtual 152, 3) := by decide +kernel
theorem dX11_doesAll_20 : decode cX11_doesAll 20 = .ok (.aload_n 0, 1) := by decide +kernel
theorem dX11_doesAll_21 : decode cX11_doesAll 21 = .ok (.getfield 43, 3) := by decide +kernel
theorem dX11_doesAll_24 : decode cX11_doesAll 24 = .ok (.iconst 0, 1) := by decide +kernel
theorem dX11_doesAll_25 : decode cX11_doesAll 25 = .ok (.iconst 0, 1) := by decide +kernel
theorem dX11_doesAll_26 : decode cX11_doesAll 26 = .ok (.iastore, 1) := by decide +kernel
theorem dX11_doesAll_27 : decode cX11_doesAll 27 = .ok (.iload 4, 2) := by decide +kernel
theorem dX11_doesAll_29 : decode cX11_doesAll 29 = .ok (.aload_n 0, 1) := by decide +kernel
theorem dX11_doesAll_30 : decode cX11_doesAll 30 = .ok (.getfield 202, 3) := by decide +kernel
theorem dX11_doesAll_33 : decode cX11_doesAll 33 = .ok (.if_icmp .ge 150, 3) := by decide +kernel
theorem dX11_doesAll_36 : decode cX11_doesAll 36 = .ok (.aload_n 0, 1) := by decide +kernel
theorem dX11_doesAll_37 : decode cX11_doesAll 37 = .ok (.getfield 25, 3) := by decide +kernel
theorem dX11_doesAll_40 : decode cX11_doesAll 40 = .ok (.iload 4, 2) := by decide +kernel
theorem dX11_doesAll_42 : decode cX11_doesAll 42 = .ok (.iaload, 1) := by decide +kernel
theorem dX11_doesAll_43 : decode cX11_doesAll 43 = .ok (.bipush 40, 2) := by decide +kernel
theorem dX11_doesAll_45 : decode cX11_doesAll 45 = .ok (.if_icmp .ne 38, 3) := by decide +kernel
theorem dX11_doesAll_48 : decode cX11_doesAll 48 = .ok (.aload_n 0, 1) := by decide +kernel
theorem dX11_doesAll_49 : decode cX11_doesAll 49 = .ok (.bipush 6, 2) := by decide +kernel
theorem dX11_doesAll_51 : decode cX11_doesAll 51 = .ok (.invokevirtual 72, 3) := by decide +kernel
theorem dX11_doesAll_54 : decode cX11_doesAll 54 = .ok (.aload_n 0, 1) := by decide +kernel
theorem dX11_doesAll_55 : decode cX11_doesAll 55 = .ok (.getfield 40, 3) := by decide +kernel
theorem dX11_doesAll_58 : decode cX11_doesAll 58 = .ok (.iload_n 1, 1) := by decide +kernel
theorem dX11_doesAll_59 : decode cX11_doesAll 59 = .ok (.iload 4, 2) := by decide +kernel
theorem dX11_doesAll_61 : decode cX11_doesAll 61 = .ok (.iastore, 1) := by decide +kernel
theorem dX11_doesAll_62 : decode cX11_doesAll 62 = .ok (.iinc 1 1, 3) := by decide +kernel
theorem dX11_doesAll_65 : decode cX11_doesAll 65 = .ok (.aload_n 0, 1) := by decide +kernel
theorem dX11_doesAll_66 : decode cX11_doesAll 66 = .ok (.iload_n 1, 1) := by decide +kernel
theorem dX11_doesAll_67 : decode cX11_doesAll 67 = .ok (.invokevirtual 152, 3) := by decide +kernel
theorem dX11_doesAll_70 : decode cX11_doesAll 70 = .ok (.aload_n 0, 1) := by decide +kernel
theorem dX11_doesAll_71 : decode cX11_doesAll 71 = .ok (.getfield 43, 3) := by decide +kernel
theorem dX11_doesAll_74 : decode cX11_doesAll 74 = .ok (.iload_n 1, 1) := by decide +kernel
theorem dX11_doesAll_75 : decode cX11_doesAll 75 = .ok (.iload_n 2, 1) := by decide +kernel
theorem dX11_doesAll_76 : decode cX11_doesAll 76 = .ok (.iastore, 1) := by decide +kernel
theorem dX11_doesAll_77 : decode cX11_doesAll 77 = .ok (.iinc 4 1, 3) := by decide +kernel
theorem dX11_doesAll_80 : decode cX11_doesAll 80 = .ok (.goto (-53), 3) := by decide +kernel
theorem dX11_doesAll_83 : decode cX11_doesAll 83 = .ok (.aload_n 0, 1) := by decide +kernel
theorem dX11_doesAll_84 : decode cX11_doesAll 84 = .ok (.getfield 25, 3) := by decide +kernel
theorem dX11_doesAll_87 : decode cX11_doesAll 87 = .ok (.iload 4, 2) := by decide +kernel
theorem dX11_doesAll_89 : decode cX11_doesAll 89 = .ok (.iaload, 1) := by decide +kernel
theorem dX11_doesAll_90 : decode cX11_doesAll 90 = .ok (.bipush 41, 2) := by decide +kernel
theorem dX11_doesAll_92 : decode cX11_doesAll 92 = .ok (.if_icmp .ne 18, 3) := by decide +kernel
theorem dX11_doesAll_95 : decode cX11_doesAll 95 = .ok (.aload_n 0, 1) := by decide +kernel
theorem dX11_doesAll_96 : decode cX11_doesAll 96 = .ok (.bipush 6, 2) := by decide +kernel
theorem dX11_doesAll_98 : decode cX11_doesAll 98 = .ok (.invokevirtual 82, 3) := by decide +kernel
theorem dX11_doesAll_101 : decode cX11_doesAll 101 = .ok (.iinc 1 (-1), 3) := by decide +kernel
theorem dX11_doesAll_104 : decode cX11_doesAll 104 = .ok (.iinc 4 1, 3) := by decide +kernel
theorem dX11_doesAll_107 : decode cX11_doesAll 107 = .ok (.goto (-80), 3) := by decide +kernel
theorem dX11_doesAll_110 : decode cX11_doesAll 110 = .ok (.aload_n 0, 1) := by decide +kernel
theorem dX11_doesAll_111 : decode cX11_doesAll 111 = .ok (.iload 4, 2) := by decide +kernel
theorem dX11_doesAll_113 : decode cX11_doesAll 113 = .ok (.invokevirtual 211, 3) := by decide +kernel
theorem dX11_doesAll_116 : decode cX11_doesAll 116 = .ok (.ifCond .eq 15, 3) := by decide +kernel
theorem dX11_doesAll_119 : decode cX11_doesAll 119 = .ok (.iinc 2 1, 3) := by decide +kernel
theorem dX11_doesAll_122 : decode cX11_doesAll 122 = .ok (.iinc 3 1, 3) := by decide +kernel
theorem dX11_doesAll_125 : decode cX11_doesAll 125 = .ok (.iinc 4 1, 3) := by decide +kernel
theorem dX11_doesAll_128 : decode cX11_doesAll 128 = .ok (.goto (-101), 3) := by decide +kernel
theorem dX11_doesAll_131 : decode cX11_doesAll 131 = .ok (.aload_n 0, 1) := by decide +kernel
theorem dX11_doesAll_132 : decode cX11_doesAll 132 = .ok (.bipush 6, 2) := by decide +kernel
theorem dX11_doesAll_134 : decode cX11_doesAll 134 = .ok (.invokevirtual 79, 3) := by decide +kernel
theorem dX11_doesAll_137 : decode cX11_doesAll 137 = .ok (.aload_n 0, 1) := by decide +kernel
theorem dX11_doesAll_138 : decode cX11_doesAll 138 = .ok (.iload_n 1, 1) := by decide +kernel
theorem dX11_doesAll_139 : decode cX11_doesAll 139 = .ok (.invokevirtual 159, 3) := by decide +kernel
theorem dX11_doesAll_142 : decode cX11_doesAll 142 = .ok (.aload_n 0, 1) := by decide +kernel
theorem dX11_doesAll_143 : decode cX11_doesAll 143 = .ok (.getfield 43, 3) := by decide +kernel
theorem dX11_doesAll_146 : decode cX11_doesAll 146 = .ok (.iload_n 1, 1) := by decide +kernel
theorem dX11_doesAll_147 : decode cX11_doesAll 147 = .ok (.iaload, 1) := by decide +kernel
theorem dX11_doesAll_148 : decode cX11_doesAll 148 = .ok (.istore_n 2, 1) := by decide +kernel
theorem dX11_doesAll_149 : decode cX11_doesAll 149 = .ok (.iload_n 1, 1) := by decide +kernel
theorem dX11_doesAll_150 : decode cX11_doesAll 150 = .ok (.ifCond .ne 9, 3) := by decide +kernel
theorem dX11_doesAll_153 : decode cX11_doesAll 153 = .ok (.sipush (-1000), 3) := by decide +kernel
theorem dX11_doesAll_156 : decode cX11_doesAll 156 = .ok (.iload_n 3, 1) := by decide +kernel
theorem dX11_doesAll_157 : decode cX11_doesAll 157 = .ok (.isub, 1) := by decide +kernel
theorem dX11_doesAll_158 : decode cX11_doesAll 158 = .ok (.ireturn, 1) := by decide +kernel
theorem dX11_doesAll_159 : decode cX11_doesAll 159 = .ok (.iinc 3 1, 3) := by decide +kernel
theorem dX11_doesAll_162 : decode cX11_doesAll 162 = .ok (.iinc 1 (-1), 3) := by decide +kernel
theorem dX11_doesAll_165 : decode cX11_doesAll 165 = .ok (.aload_n 0, 1) := by decide +kernel
theorem dX11_doesAll_166 : decode cX11_doesAll 166 = .ok (.getfield 37, 3) := by decide +kernel
theorem dX11_doesAll_169 : decode cX11_doesAll 169 = .ok (.aload_n 0, 1) := by decide +kernel
theorem dX11_doesAll_170 : decode cX11_doesAll 170 = .ok (.getfield 40, 3) := by decide +kernel
theorem dX11_doesAll_173 : decode cX11_doesAll 173 = .ok (.iload_n 1, 1) := by decide +kernel
theorem dX11_doesAll_174 : decode cX11_doesAll 174 = .ok (.iaload, 1) := by decide +kernel
theorem dX11_doesAll_175 : decode cX11_doesAll 175 = .ok (.iaload, 1) := by decide +kernel
theorem dX11_doesAll_176 : decode cX11_doesAll 176 = .ok (.iconst 1, 1) := by decide +kernel
theorem dX11_doesAll_177 : decode cX11_doesAll 177 = .ok (.iadd, 1) := by decide +kernel
theorem dX11_doesAll_178 : decode cX11_doesAll 178 = .ok (.istore 4, 2) := by decide +kernel
theorem dX11_doesAll_180 : decode cX11_doesAll 180 = .ok (.goto (-153), 3) := by decide +kernel
theorem dX11_doesAll_183 : decode cX11_doesAll 183 = .ok (.aload_n 0, 1) := by decide +kernel
theorem dX11_doesAll_184 : decode cX11_doesAll 184 = .ok (.bipush 6, 2) := by decide +kernel
theorem dX11_doesAll_186 : decode cX11_doesAll 186 = .ok (.invokevirtual 82, 3) := by decide +kernel
theorem dX11_doesAll_189 : decode cX11_doesAll 189 = .ok (.iload_n 2, 1) := by decide +kernel
theorem dX11_doesAll_190 : decode cX11_doesAll 190 = .ok (.ireturn, 1) := by decide +kernel
theorem dX11_does_0 : decode cX11_does 0 = .ok (.aload_n 0, 1) := by decide +kernel
theorem dX11_does_1 : decode cX11_does 1 = .ok (.invokevirtual 214, 3) := by decide +kernel
theorem dX11_does_4 : decode cX11_does 4 = .ok (.ifCond .ne 11, 3) := by decide +kernel
theorem dX11_does_7 : decode cX11_does 7 = .ok (.bipush (-10), 2) := by decide +kernel
theorem dX11_does_9 : decode cX11_does 9 = .ok (.aload_n 0, 1) := by decide +kernel
theorem dX11_does_10 : decode cX11_does 10 = .ok (.getfield 192, 3) := by decide +kernel
theorem dX11_does_13 : decode cX11_does 13 = .ok (.isub, 1) := by decide +kernel
theorem dX11_does_14 : decode cX11_does 14 = .ok (.ireturn, 1) := by decide +kernel
theorem dX11_does_15 : decode cX11_does 15 = .ok (.aload_n 0, 1) := by decide +kernel
theorem dX11_does_16 : decode cX11_does 16 = .ok (.invokevirtual 133, 3) := by decide +kernel
theorem dX11_does_19 : decode cX11_does 19 = .ok (.aload_n 0, 1) := by decide +kernel
theorem dX11_does_20 : decode cX11_does 20 = .ok (.invokevirtual 218, 3) := by decide +kernel
theorem dX11_does_23 : decode cX11_does 23 = .ok (.istore_n 1, 1) := by decide +kernel
theorem dX11_does_24 : decode cX11_does 24 = .ok (.aload_n 0, 1) := by decide +kernel
theorem dX11_does_25 : decode cX11_does 25 = .ok (.invokevirtual 127, 3) := by decide +kernel
theorem dX11_does_28 : decode cX11_does 28 = .ok (.iload_n 1, 1) := by decide +kernel
theorem dX11_does_29 : decode cX11_does 29 = .ok (.ireturn, 1) := by decide +kernel
theorem dX11_toldOf_0 : decode cX11_toldOf 0 = .ok (.iload_n 1, 1) := by decide +kernel
theorem dX11_toldOf_1 : decode cX11_toldOf 1 = .ok (.iconst 3, 1) := by decide +kernel
theorem dX11_toldOf_2 : decode cX11_toldOf 2 = .ok (.if_icmp .ge 12, 3) := by decide +kernel
theorem dX11_toldOf_5 : decode cX11_toldOf 5 = .ok (.aload_n 0, 1) := by decide +kernel
theorem dX11_toldOf_6 : decode cX11_toldOf 6 = .ok (.getfield 7, 3) := by decide +kernel
theorem dX11_toldOf_9 : decode cX11_toldOf 9 = .ok (.iload_n 1, 1) := by decide +kernel
theorem dX11_toldOf_10 : decode cX11_toldOf 10 = .ok (.iaload, 1) := by decide +kernel
theorem dX11_toldOf_11 : decode cX11_toldOf 11 = .ok (.goto 19, 3) := by decide +kernel
theorem dX11_toldOf_14 : decode cX11_toldOf 14 = .ok (.iload_n 1, 1) := by decide +kernel
theorem dX11_toldOf_15 : decode cX11_toldOf 15 = .ok (.iconst 3, 1) := by decide +kernel
theorem dX11_toldOf_16 : decode cX11_toldOf 16 = .ok (.if_icmp .ne 10, 3) := by decide +kernel
theorem dX11_toldOf_19 : decode cX11_toldOf 19 = .ok (.aload_n 0, 1) := by decide +kernel
theorem dX11_toldOf_20 : decode cX11_toldOf 20 = .ok (.getfield 189, 3) := by decide +kernel
theorem dX11_toldOf_23 : decode cX11_toldOf 23 = .ok (.goto 7, 3) := by decide +kernel
theorem dX11_toldOf_26 : decode cX11_toldOf 26 = .ok (.aload_n 0, 1) := by decide +kernel
theorem dX11_toldOf_27 : decode cX11_toldOf 27 = .ok (.getfield 61, 3) := by decide +kernel
theorem dX11_toldOf_30 : decode cX11_toldOf 30 = .ok (.ireturn, 1) := by decide +kernel
theorem dX11_told_0 : decode cX11_told 0 = .ok (.iload_n 1, 1) := by decide +kernel
theorem dX11_told_1 : decode cX11_told 1 = .ok (.iconst 0, 1) := by decide +kernel
theorem dX11_told_2 : decode cX11_told 2 = .ok (.iconst 4, 1) := by decide +kernel
theorem dX11_told_3 : decode cX11_told 3 = .ok (.invokestatic 50, 3) := by decide +kernel
theorem dX11_told_6 : decode cX11_told 6 = .ok (.ifCond .eq 11, 3) := by decide +kernel
theorem dX11_told_9 : decode cX11_told 9 = .ok (.aload_n 0, 1) := by decide +kernel
theorem dX11_told_10 : decode cX11_told 10 = .ok (.iload_n 1, 1) := by decide +kernel
theorem dX11_told_11 : decode cX11_told 11 = .ok (.invokevirtual 221, 3) := by decide +kernel
theorem dX11_told_14 : decode cX11_told 14 = .ok (.goto 7, 3) := by decide +kernel
theorem dX11_told_17 : decode cX11_told 17 = .ok (.aload_n 0, 1) := by decide +kernel
theorem dX11_told_18 : decode cX11_told 18 = .ok (.invokevirtual 130, 3) := by decide +kernel
theorem dX11_told_21 : decode cX11_told 21 = .ok (.ireturn, 1) := by decide +kernel
theorem dX11_digest_0 : decode cX11_digest 0 = .ok (.ldc2_w 224, 3) := by decide +kernel
theorem dX11_digest_3 : decode cX11_digest 3 = .ok (.lstore_n 1, 1) := by decide +kernel
theorem dX11_digest_4 : decode cX11_digest 4 = .ok (.iconst 0, 1) := by decide +kernel
theorem dX11_digest_5 : decode cX11_digest 5 = .ok (.istore_n 3, 1) := by decide +kernel
theorem dX11_digest_6 : decode cX11_digest 6 = .ok (.iload_n 3, 1) := by decide +kernel
theorem dX11_digest_7 : decode cX11_digest 7 = .ok (.iconst 5, 1) := by decide +kernel
theorem dX11_digest_8 : decode cX11_digest 8 = .ok (.if_icmp .ge 22, 3) := by decide +kernel
theorem dX11_digest_11 : decode cX11_digest 11 = .ok (.ldc2_w 226, 3) := by decide +kernel
theorem dX11_digest_14 : decode cX11_digest 14 = .ok (.lload_n 1, 1) := by decide +kernel
theorem dX11_digest_15 : decode cX11_digest 15 = .ok (.lmul, 1) := by decide +kernel
theorem dX11_digest_16 : decode cX11_digest 16 = .ok (.aload_n 0, 1) := by decide +kernel
theorem dX11_digest_17 : decode cX11_digest 17 = .ok (.iload_n 3, 1) := by decide +kernel
theorem dX11_digest_18 : decode cX11_digest 18 = .ok (.invokevirtual 221, 3) := by decide +kernel
theorem dX11_digest_21 : decode cX11_digest 21 = .ok (.i2l, 1) := by decide +kernel
theorem dX11_digest_22 : decode cX11_digest 22 = .ok (.ladd, 1) := by decide +kernel
theorem dX11_digest_23 : decode cX11_digest 23 = .ok (.lstore_n 1, 1) := by decide +kernel
theorem dX11_digest_24 : decode cX11_digest 24 = .ok (.iinc 3 1, 3) := by decide +kernel
theorem dX11_digest_27 : decode cX11_digest 27 = .ok (.goto (-21), 3) := by decide +kernel
theorem dX11_digest_30 : decode cX11_digest 30 = .ok (.iconst 0, 1) := by decide +kernel
theorem dX11_digest_31 : decode cX11_digest 31 = .ok (.istore_n 3, 1) := by decide +kernel
theorem dX11_digest_32 : decode cX11_digest 32 = .ok (.iload_n 3, 1) := by decide +kernel
theorem dX11_digest_33 : decode cX11_digest 33 = .ok (.bipush 10, 2) := by decide +kernel
theorem dX11_digest_35 : decode cX11_digest 35 = .ok (.if_icmp .ge 22, 3) := by decide +kernel
theorem dX11_digest_38 : decode cX11_digest 38 = .ok (.ldc2_w 226, 3) := by decide +kernel
theorem dX11_digest_41 : decode cX11_digest 41 = .ok (.lload_n 1, 1) := by decide +kernel
theorem dX11_digest_42 : decode cX11_digest 42 = .ok (.lmul, 1) := by decide +kernel
theorem dX11_digest_43 : decode cX11_digest 43 = .ok (.aload_n 0, 1) := by decide +kernel
theorem dX11_digest_44 : decode cX11_digest 44 = .ok (.iload_n 3, 1) := by decide +kernel
theorem dX11_digest_45 : decode cX11_digest 45 = .ok (.invokevirtual 186, 3) := by decide +kernel
theorem dX11_digest_48 : decode cX11_digest 48 = .ok (.i2l, 1) := by decide +kernel
theorem dX11_digest_49 : decode cX11_digest 49 = .ok (.ladd, 1) := by decide +kernel
theorem dX11_digest_50 : decode cX11_digest 50 = .ok (.lstore_n 1, 1) := by decide +kernel
theorem dX11_digest_51 : decode cX11_digest 51 = .ok (.iinc 3 1, 3) := by decide +kernel
theorem dX11_digest_54 : decode cX11_digest 54 = .ok (.goto (-22), 3) := by decide +kernel
theorem dX11_digest_57 : decode cX11_digest 57 = .ok (.iconst 0, 1) := by decide +kernel
theorem dX11_digest_58 : decode cX11_digest 58 = .ok (.istore_n 3, 1) := by decide +kernel
theorem dX11_digest_59 : decode cX11_digest 59 = .ok (.iload_n 3, 1) := by decide +kernel
theorem dX11_digest_60 : decode cX11_digest 60 = .ok (.aload_n 0, 1) := by decide +kernel
theorem dX11_digest_61 : decode cX11_digest 61 = .ok (.getfield 13, 3) := by decide +kernel
theorem dX11_digest_64 : decode cX11_digest 64 = .ok (.iconst 0, 1) := by decide +kernel
theorem dX11_digest_65 : decode cX11_digest 65 = .ok (.iaload, 1) := by decide +kernel
theorem dX11_digest_66 : decode cX11_digest 66 = .ok (.if_icmp .ge 192, 3) := by decide +kernel
theorem dX11_digest_69 : decode cX11_digest 69 = .ok (.iconst 0, 1) := by decide +kernel
theorem dX11_digest_70 : decode cX11_digest 70 = .ok (.istore 4, 2) := by decide +kernel
theorem dX11_digest_72 : decode cX11_digest 72 = .ok (.iload 4, 2) := by decide +kernel
theorem dX11_digest_74 : decode cX11_digest 74 = .ok (.bipush 8, 2) := by decide +kernel
theorem dX11_digest_76 : decode cX11_digest 76 = .ok (.if_icmp .ge 24, 3) := by decide +kernel
theorem dX11_digest_79 : decode cX11_digest 79 = .ok (.ldc2_w 226, 3) := by decide +kernel
theorem dX11_digest_82 : decode cX11_digest 82 = .ok (.lload_n 1, 1) := by decide +kernel
theorem dX11_digest_83 : decode cX11_digest 83 = .ok (.lmul, 1) := by decide +kernel
theorem dX11_digest_84 : decode cX11_digest 84 = .ok (.aload_n 0, 1) := by decide +kernel
theorem dX11_digest_85 : decode cX11_digest 85 = .ok (.iload_n 3, 1) := by decide +kernel
theorem dX11_digest_86 : decode cX11_digest 86 = .ok (.iload 4, 2) := by decide +kernel
theorem dX11_digest_88 : decode cX11_digest 88 = .ok (.invokevirtual 174, 3) := by decide +kernel
theorem dX11_digest_91 : decode cX11_digest 91 = .ok (.i2l, 1) := by decide +kernel
theorem dX11_digest_92 : decode cX11_digest 92 = .ok (.ladd, 1) := by decide +kernel
theorem dX11_digest_93 : decode cX11_digest 93 = .ok (.lstore_n 1, 1) := by decide +kernel
theorem dX11_digest_94 : decode cX11_digest 94 = .ok (.iinc 4 1, 3) := by decide +kernel
theorem dX11_digest_97 : decode cX11_digest 97 = .ok (.goto (-25), 3) := by decide +kernel
theorem dX11_digest_100 : decode cX11_digest 100 = .ok (.iconst 0, 1) := by decide +kernel
theorem dX11_digest_101 : decode cX11_digest 101 = .ok (.istore 4, 2) := by decide +kernel
theorem dX11_digest_103 : decode cX11_digest 103 = .ok (.iload 4, 2) := by decide +kernel
theorem dX11_digest_105 : decode cX11_digest 105 = .ok (.aload_n 0, 1) := by decide +kernel
theorem dX11_digest_106 : decode cX11_digest 106 = .ok (.getfield 13, 3) := by decide +kernel
theorem dX11_digest_109 : decode cX11_digest 109 = .ok (.iload_n 3, 1) := by decide +kernel
theorem dX11_digest_110 : decode cX11_digest 110 = .ok (.invokestatic 54, 3) := by decide +kernel
theorem dX11_digest_113 : decode cX11_digest 113 = .ok (.iconst 0, 1) := by decide +kernel
theorem dX11_digest_114 : decode cX11_digest 114 = .ok (.iadd, 1) := by decide +kernel
theorem dX11_digest_115 : decode cX11_digest 115 = .ok (.iaload, 1) := by decide +kernel
theorem dX11_digest_116 : decode cX11_digest 116 = .ok (.if_icmp .ge 32, 3) := by decide +kernel
theorem dX11_digest_119 : decode cX11_digest 119 = .ok (.ldc2_w 226, 3) := by decide +kernel
theorem dX11_digest_122 : decode cX11_digest 122 = .ok (.lload_n 1, 1) := by decide +kernel
theorem dX11_digest_123 : decode cX11_digest 123 = .ok (.lmul, 1) := by decide +kernel
theorem dX11_digest_124 : decode cX11_digest 124 = .ok (.aload_n 0, 1) := by decide +kernel
theorem dX11_digest_125 : decode cX11_digest 125 = .ok (.getfield 13, 3) := by decide +kernel
theorem dX11_digest_128 : decode cX11_digest 128 = .ok (.iload_n 3, 1) := by decide +kernel
theorem dX11_digest_129 : decode cX11_digest 129 = .ok (.invokestatic 54, 3) := by decide +kernel
theorem dX11_digest_132 : decode cX11_digest 132 = .ok (.bipush 14, 2) := by decide +kernel
theorem dX11_digest_134 : decode cX11_digest 134 = .ok (.iadd, 1) := by decide +kernel
theorem dX11_digest_135 : decode cX11_digest 135 = .ok (.iload 4, 2) := by decide +kernel
theorem dX11_digest_137 : decode cX11_digest 137 = .ok (.iadd, 1) := by decide +kernel
theorem dX11_digest_138 : decode cX11_digest 138 = .ok (.iaload, 1) := by decide +kernel
theorem dX11_digest_139 : decode cX11_digest 139 = .ok (.i2l, 1) := by decide +kernel
theorem dX11_digest_140 : decode cX11_digest 140 = .ok (.ladd, 1) := by decide +kernel
theorem dX11_digest_141 : decode cX11_digest 141 = .ok (.lstore_n 1, 1) := by decide +kernel
theorem dX11_digest_142 : decode cX11_digest 142 = .ok (.iinc 4 1, 3) := by decide +kernel
theorem dX11_digest_145 : decode cX11_digest 145 = .ok (.goto (-42), 3) := by decide +kernel
theorem dX11_digest_148 : decode cX11_digest 148 = .ok (.ldc2_w 226, 3) := by decide +kernel
theorem dX11_digest_151 : decode cX11_digest 151 = .ok (.ldc2_w 226, 3) := by decide +kernel
theorem dX11_digest_154 : decode cX11_digest 154 = .ok (.ldc2_w 226, 3) := by decide +kernel
theorem dX11_digest_157 : decode cX11_digest 157 = .ok (.lload_n 1, 1) := by decide +kernel
theorem dX11_digest_158 : decode cX11_digest 158 = .ok (.lmul, 1) := by decide +kernel
theorem dX11_digest_159 : decode cX11_digest 159 = .ok (.aload_n 0, 1) := by decide +kernel
theorem dX11_digest_160 : decode cX11_digest 160 = .ok (.getfield 13, 3) := by decide +kernel
theorem dX11_digest_163 : decode cX11_digest 163 = .ok (.iload_n 3, 1) := by decide +kernel
theorem dX11_digest_164 : decode cX11_digest 164 = .ok (.invokestatic 54, 3) := by decide +kernel
theorem dX11_digest_167 : decode cX11_digest 167 = .ok (.iconst 5, 1) := by decide +kernel
theorem dX11_digest_168 : decode cX11_digest 168 = .ok (.iadd, 1) := by decide +kernel
theorem dX11_digest_169 : decode cX11_digest 169 = .ok (.iaload, 1) := by decide +kernel
theorem dX11_digest_170 : decode cX11_digest 170 = .ok (.i2l, 1) := by decide +kernel
theorem dX11_digest_171 : decode cX11_digest 171 = .ok (.ladd, 1) := by decide +kernel
theorem dX11_digest_172 : decode cX11_digest 172 = .ok (.lmul, 1) := by decide +kernel
theorem dX11_digest_173 : decode cX11_digest 173 = .ok (.aload_n 0, 1) := by decide +kernel
theorem dX11_digest_174 : decode cX11_digest 174 = .ok (.getfield 13, 3) := by decide +kernel
theorem dX11_digest_177 : decode cX11_digest 177 = .ok (.iload_n 3, 1) := by decide +kernel
theorem dX11_digest_178 : decode cX11_digest 178 = .ok (.invokestatic 54, 3) := by decide +kernel
theorem dX11_digest_181 : decode cX11_digest 181 = .ok (.bipush 6, 2) := by decide +kernel
theorem dX11_digest_183 : decode cX11_digest 183 = .ok (.iadd, 1) := by decide +kernel
theorem dX11_digest_184 : decode cX11_digest 184 = .ok (.iaload, 1) := by decide +kernel
theorem dX11_digest_185 : decode cX11_digest 185 = .ok (.i2l, 1) := by decide +kernel
theorem dX11_digest_186 : decode cX11_digest 186 = .ok (.ladd, 1) := by decide +kernel
theorem dX11_digest_187 : decode cX11_digest 187 = .ok (.lmul, 1) := by decide +kernel
theorem dX11_digest_188 : decode cX11_digest 188 = .ok (.aload_n 0, 1) := by decide +kernel
theorem dX11_digest_189 : decode cX11_digest 189 = .ok (.getfield 13, 3) := by decide +kernel
theorem dX11_digest_192 : decode cX11_digest 192 = .ok (.iload_n 3, 1) := by decide +kernel
theorem dX11_digest_193 : decode cX11_digest 193 = .ok (.invokestatic 54, 3) := by decide +kernel
theorem dX11_digest_196 : decode cX11_digest 196 = .ok (.bipush 7, 2) := by decide +kernel
theorem dX11_digest_198 : decode cX11_digest 198 = .ok (.iadd, 1) := by decide +kernel
theorem dX11_digest_199 : decode cX11_digest 199 = .ok (.iaload, 1) := by decide +kernel
theorem dX11_digest_200 : decode cX11_digest 200 = .ok (.i2l, 1) := by decide +kernel
theorem dX11_digest_201 : decode cX11_digest 201 = .ok (.ladd, 1) := by decide +kernel
theorem dX11_digest_202 : decode cX11_digest 202 = .ok (.lstore_n 1, 1) := by decide +kernel
theorem dX11_digest_203 : decode cX11_digest 203 = .ok (.iconst 0, 1) := by decide +kernel
theorem dX11_digest_204 : decode cX11_digest 204 = .ok (.istore 4, 2) := by decide +kernel
theorem dX11_digest_206 : decode cX11_digest 206 = .ok (.iload 4, 2) := by decide +kernel
theorem dX11_digest_208 : decode cX11_digest 208 = .ok (.aload_n 0, 1) := by decide +kernel
theorem dX11_digest_209 : decode cX11_digest 209 = .ok (.getfield 13, 3) := by decide +kernel
theorem dX11_digest_212 : decode cX11_digest 212 = .ok (.iload_n 3, 1) := by decide +kernel
theorem dX11_digest_213 : decode cX11_digest 213 = .ok (.invokestatic 54, 3) := by decide +kernel
theorem dX11_digest_216 : decode cX11_digest 216 = .ok (.bipush 7, 2) := by decide +kernel
theorem dX11_digest_218 : decode cX11_digest 218 = .ok (.iadd, 1) := by decide +kernel
theorem dX11_digest_219 : decode cX11_digest 219 = .ok (.iaload, 1) := by decide +kernel
theorem dX11_digest_220 : decode cX11_digest 220 = .ok (.if_icmp .ge 32, 3) := by decide +kernel
theorem dX11_digest_223 : decode cX11_digest 223 = .ok (.ldc2_w 226, 3) := by decide +kernel
theorem dX11_digest_226 : decode cX11_digest 226 = .ok (.lload_n 1, 1) := by decide +kernel
theorem dX11_digest_227 : decode cX11_digest 227 = .ok (.lmul, 1) := by decide +kernel
theorem dX11_digest_228 : decode cX11_digest 228 = .ok (.aload_n 0, 1) := by decide +kernel
theorem dX11_digest_229 : decode cX11_digest 229 = .ok (.getfield 13, 3) := by decide +kernel
theorem dX11_digest_232 : decode cX11_digest 232 = .ok (.iload_n 3, 1) := by decide +kernel
theorem dX11_digest_233 : decode cX11_digest 233 = .ok (.invokestatic 54, 3) := by decide +kernel
theorem dX11_digest_236 : decode cX11_digest 236 = .ok (.bipush 8, 2) := by decide +kernel
theorem dX11_digest_238 : decode cX11_digest 238 = .ok (.iadd, 1) := by decide +kernel
theorem dX11_digest_239 : decode cX11_digest 239 = .ok (.iload 4, 2) := by decide +kernel
theorem dX11_digest_241 : decode cX11_digest 241 = .ok (.iadd, 1) := by decide +kernel
theorem dX11_digest_242 : decode cX11_digest 242 = .ok (.iaload, 1) := by decide +kernel
theorem dX11_digest_243 : decode cX11_digest 243 = .ok (.i2l, 1) := by decide +kernel
theorem dX11_digest_244 : decode cX11_digest 244 = .ok (.ladd, 1) := by decide +kernel
theorem dX11_digest_245 : decode cX11_digest 245 = .ok (.lstore_n 1, 1) := by decide +kernel
theorem dX11_digest_246 : decode cX11_digest 246 = .ok (.iinc 4 1, 3) := by decide +kernel
theorem dX11_digest_249 : decode cX11_digest 249 = .ok (.goto (-43), 3) := by decide +kernel
theorem dX11_digest_252 : decode cX11_digest 252 = .ok (.iinc 3 1, 3) := by decide +kernel
theorem dX11_digest_255 : decode cX11_digest 255 = .ok (.goto (-196), 3) := by decide +kernel
theorem dX11_digest_258 : decode cX11_digest 258 = .ok (.iconst 0, 1) := by decide +kernel
theorem dX11_digest_259 : decode cX11_digest 259 = .ok (.istore_n 3, 1) := by decide +kernel
theorem dX11_digest_260 : decode cX11_digest 260 = .ok (.iload_n 3, 1) := by decide +kernel
theorem dX11_digest_261 : decode cX11_digest 261 = .ok (.aload_n 0, 1) := by decide +kernel
theorem dX11_digest_262 : decode cX11_digest 262 = .ok (.getfield 13, 3) := by decide +kernel
theorem dX11_digest_265 : decode cX11_digest 265 = .ok (.iconst 1, 1) := by decide +kernel
theorem dX11_digest_266 : decode cX11_digest 266 = .ok (.iaload, 1) := by decide +kernel
theorem dX11_digest_267 : decode cX11_digest 267 = .ok (.if_icmp .ge 40, 3) := by decide +kernel
theorem dX11_digest_270 : decode cX11_digest 270 = .ok (.iconst 0, 1) := by decide +kernel
theorem dX11_digest_271 : decode cX11_digest 271 = .ok (.istore 4, 2) := by decide +kernel
theorem dX11_digest_273 : decode cX11_digest 273 = .ok (.iload 4, 2) := by decide +kernel
theorem dX11_digest_275 : decode cX11_digest 275 = .ok (.bipush 7, 2) := by decide +kernel
theorem dX11_digest_277 : decode cX11_digest 277 = .ok (.if_icmp .ge 24, 3) := by decide +kernel
theorem dX11_digest_280 : decode cX11_digest 280 = .ok (.ldc2_w 226, 3) := by decide +kernel
theorem dX11_digest_283 : decode cX11_digest 283 = .ok (.lload_n 1, 1) := by decide +kernel
theorem dX11_digest_284 : decode cX11_digest 284 = .ok (.lmul, 1) := by decide +kernel
theorem dX11_digest_285 : decode cX11_digest 285 = .ok (.aload_n 0, 1) := by decide +kernel
theorem dX11_digest_286 : decode cX11_digest 286 = .ok (.iload_n 3, 1) := by decide +kernel
theorem dX11_digest_287 : decode cX11_digest 287 = .ok (.iload 4, 2) := by decide +kernel
theorem dX11_digest_289 : decode cX11_digest 289 = .ok (.invokevirtual 177, 3) := by decide +kernel
theorem dX11_digest_292 : decode cX11_digest 292 = .ok (.i2l, 1) := by decide +kernel
theorem dX11_digest_293 : decode cX11_digest 293 = .ok (.ladd, 1) := by decide +kernel
theorem dX11_digest_294 : decode cX11_digest 294 = .ok (.lstore_n 1, 1) := by decide +kernel
theorem dX11_digest_295 : decode cX11_digest 295 = .ok (.iinc 4 1, 3) := by decide +kernel
theorem dX11_digest_298 : decode cX11_digest 298 = .ok (.goto (-25), 3) := by decide +kernel
theorem dX11_digest_301 : decode cX11_digest 301 = .ok (.iinc 3 1, 3) := by decide +kernel
theorem dX11_digest_304 : decode cX11_digest 304 = .ok (.goto (-44), 3) := by decide +kernel
theorem dX11_digest_307 : decode cX11_digest 307 = .ok (.iconst 0, 1) := by decide +kernel
theorem dX11_digest_308 : decode cX11_digest 308 = .ok (.istore_n 3, 1) := by decide +kernel
theorem dX11_digest_309 : decode cX11_digest 309 = .ok (.iload_n 3, 1) := by decide +kernel
theorem dX11_digest_310 : decode cX11_digest 310 = .ok (.bipush 6, 2) := by decide +kernel
theorem dX11_digest_312 : decode cX11_digest 312 = .ok (.if_icmp .ge 44, 3) := by decide +kernel
theorem dX11_digest_315 : decode cX11_digest 315 = .ok (.iconst 0, 1) := by decide +kernel
theorem dX11_digest_316 : decode cX11_digest 316 = .ok (.istore 4, 2) := by decide +kernel
theorem dX11_digest_318 : decode cX11_digest 318 = .ok (.iload 4, 2) := by decide +kernel
theorem dX11_digest_320 : decode cX11_digest 320 = .ok (.iconst 5, 1) := by decide +kernel
theorem dX11_digest_321 : decode cX11_digest 321 = .ok (.if_icmp .ge 29, 3) := by decide +kernel
theorem dX11_digest_324 : decode cX11_digest 324 = .ok (.ldc2_w 226, 3) := by decide +kernel
theorem dX11_digest_327 : decode cX11_digest 327 = .ok (.lload_n 1, 1) := by decide +kernel
theorem dX11_digest_328 : decode cX11_digest 328 = .ok (.lmul, 1) := by decide +kernel
theorem dX11_digest_329 : decode cX11_digest 329 = .ok (.aload_n 0, 1) := by decide +kernel
theorem dX11_digest_330 : decode cX11_digest 330 = .ok (.getfield 13, 3) := by decide +kernel
theorem dX11_digest_333 : decode cX11_digest 333 = .ok (.iload_n 3, 1) := by decide +kernel
theorem dX11_digest_334 : decode cX11_digest 334 = .ok (.invokestatic 58, 3) := by decide +kernel
theorem dX11_digest_337 : decode cX11_digest 337 = .ok (.iload 4, 2) := by decide +kernel
theorem dX11_digest_339 : decode cX11_digest 339 = .ok (.iadd, 1) := by decide +kernel
theorem dX11_digest_340 : decode cX11_digest 340 = .ok (.iaload, 1) := by decide +kernel
theorem dX11_digest_341 : decode cX11_digest 341 = .ok (.i2l, 1) := by decide +kernel
theorem dX11_digest_342 : decode cX11_digest 342 = .ok (.ladd, 1) := by decide +kernel
theorem dX11_digest_343 : decode cX11_digest 343 = .ok (.lstore_n 1, 1) := by decide +kernel
theorem dX11_digest_344 : decode cX11_digest 344 = .ok (.iinc 4 1, 3) := by decide +kernel
theorem dX11_digest_347 : decode cX11_digest 347 = .ok (.goto (-29), 3) := by decide +kernel
theorem dX11_digest_350 : decode cX11_digest 350 = .ok (.iinc 3 1, 3) := by decide +kernel
theorem dX11_digest_353 : decode cX11_digest 353 = .ok (.goto (-44), 3) := by decide +kernel
theorem dX11_digest_356 : decode cX11_digest 356 = .ok (.iconst 0, 1) := by decide +kernel
theorem dX11_digest_357 : decode cX11_digest 357 = .ok (.istore_n 3, 1) := by decide +kernel
theorem dX11_digest_358 : decode cX11_digest 358 = .ok (.iload_n 3, 1) := by decide +kernel
theorem dX11_digest_359 : decode cX11_digest 359 = .ok (.aload_n 0, 1) := by decide +kernel
theorem dX11_digest_360 : decode cX11_digest 360 = .ok (.getfield 13, 3) := by decide +kernel
theorem dX11_digest_363 : decode cX11_digest 363 = .ok (.iconst 4, 1) := by decide +kernel
theorem dX11_digest_364 : decode cX11_digest 364 = .ok (.iaload, 1) := by decide +kernel
theorem dX11_digest_365 : decode cX11_digest 365 = .ok (.if_icmp .ge 27, 3) := by decide +kernel
theorem dX11_digest_368 : decode cX11_digest 368 = .ok (.ldc2_w 226, 3) := by decide +kernel
theorem dX11_digest_371 : decode cX11_digest 371 = .ok (.lload_n 1, 1) := by decide +kernel
theorem dX11_digest_372 : decode cX11_digest 372 = .ok (.lmul, 1) := by decide +kernel
theorem dX11_digest_373 : decode cX11_digest 373 = .ok (.aload_n 0, 1) := by decide +kernel
theorem dX11_digest_374 : decode cX11_digest 374 = .ok (.getfield 13, 3) := by decide +kernel
theorem dX11_digest_377 : decode cX11_digest 377 = .ok (.sipush 300, 3) := by decide +kernel
theorem dX11_digest_380 : decode cX11_digest 380 = .ok (.iload_n 3, 1) := by decide +kernel
theorem dX11_digest_381 : decode cX11_digest 381 = .ok (.iadd, 1) := by decide +kernel
theorem dX11_digest_382 : decode cX11_digest 382 = .ok (.iaload, 1) := by decide +kernel
theorem dX11_digest_383 : decode cX11_digest 383 = .ok (.i2l, 1) := by decide +kernel
theorem dX11_digest_384 : decode cX11_digest 384 = .ok (.ladd, 1) := by decide +kernel
theorem dX11_digest_385 : decode cX11_digest 385 = .ok (.lstore_n 1, 1) := by decide +kernel
theorem dX11_digest_386 : decode cX11_digest 386 = .ok (.iinc 3 1, 3) := by decide +kernel
theorem dX11_digest_389 : decode cX11_digest 389 = .ok (.goto (-31), 3) := by decide +kernel
theorem dX11_digest_392 : decode cX11_digest 392 = .ok (.ldc2_w 226, 3) := by decide +kernel
theorem dX11_digest_395 : decode cX11_digest 395 = .ok (.lload_n 1, 1) := by decide +kernel
theorem dX11_digest_396 : decode cX11_digest 396 = .ok (.lmul, 1) := by decide +kernel
theorem dX11_digest_397 : decode cX11_digest 397 = .ok (.aload_n 0, 1) := by decide +kernel
theorem dX11_digest_398 : decode cX11_digest 398 = .ok (.invokevirtual 228, 3) := by decide +kernel
theorem dX11_digest_401 : decode cX11_digest 401 = .ok (.i2l, 1) := by decide +kernel
theorem dX11_digest_402 : decode cX11_digest 402 = .ok (.ladd, 1) := by decide +kernel
theorem dX11_digest_403 : decode cX11_digest 403 = .ok (.lreturn, 1) := by decide +kernel
theorem dL_law_0 : decode cL_law 0 = .ok (.new 7, 3) := by decide +kernel
theorem dL_law_3 : decode cL_law 3 = .ok (.dup, 1) := by decide +kernel
theorem dL_law_4 : decode cL_law 4 = .ok (.invokespecial 9, 3) := by decide +kernel
theorem dL_law_7 : decode cL_law 7 = .ok (.astore_n 1, 1) := by decide +kernel
theorem dL_law_8 : decode cL_law 8 = .ok (.new 10, 3) := by decide +kernel
theorem dL_law_11 : decode cL_law 11 = .ok (.dup, 1) := by decide +kernel
theorem dL_law_12 : decode cL_law 12 = .ok (.invokespecial 12, 3) := by decide +kernel
theorem dL_law_15 : decode cL_law 15 = .ok (.astore_n 2, 1) := by decide +kernel
theorem dL_law_16 : decode cL_law 16 = .ok (.iconst 0, 1) := by decide +kernel
theorem dL_law_17 : decode cL_law 17 = .ok (.istore_n 3, 1) := by decide +kernel
theorem dL_law_18 : decode cL_law 18 = .ok (.iload_n 3, 1) := by decide +kernel
theorem dL_law_19 : decode cL_law 19 = .ok (.aload_n 0, 1) := by decide +kernel
theorem dL_law_20 : decode cL_law 20 = .ok (.arraylength, 1) := by decide +kernel
theorem dL_law_21 : decode cL_law 21 = .ok (.bipush 6, 2) := by decide +kernel
theorem dL_law_23 : decode cL_law 23 = .ok (.isub, 1) := by decide +kernel
theorem dL_law_24 : decode cL_law 24 = .ok (.if_icmp .gt 947, 3) := by decide +kernel
theorem dL_law_27 : decode cL_law 27 = .ok (.aload_n 0, 1) := by decide +kernel
theorem dL_law_28 : decode cL_law 28 = .ok (.iload_n 3, 1) := by decide +kernel
theorem dL_law_29 : decode cL_law 29 = .ok (.iaload, 1) := by decide +kernel
theorem dL_law_30 : decode cL_law 30 = .ok (.bipush 31, 2) := by decide +kernel
theorem dL_law_32 : decode cL_law 32 = .ok (.iand, 1) := by decide +kernel
theorem dL_law_33 : decode cL_law 33 = .ok (.tableswitch 932 0 27 #[127, 150, 183, 246, 279, 302, 335, 358, 411, 464, 487, 520, 553, 576, 609, 642, 655, 688, 721, 754, 787, 810, 833, 856, 869, 882, 895, 918], 127) := by decide +kernel
theorem dL_law_160 : decode cL_law 160 = .ok (.aload_n 1, 1) := by decide +kernel
theorem dL_law_161 : decode cL_law 161 = .ok (.aload_n 0, 1) := by decide +kernel
theorem dL_law_162 : decode cL_law 162 = .ok (.iload_n 3, 1) := by decide +kernel
theorem dL_law_163 : decode cL_law 163 = .ok (.iconst 1, 1) := by decide +kernel
theorem dL_law_164 : decode cL_law 164 = .ok (.iadd, 1) := by decide +kernel
theorem dL_law_165 : decode cL_law 165 = .ok (.iaload, 1) := by decide +kernel
theorem dL_law_166 : decode cL_law 166 = .ok (.invokevirtual 13, 3) := by decide +kernel
theorem dL_law_169 : decode cL_law 169 = .ok (.aload_n 2, 1) := by decide +kernel
theorem dL_law_170 : decode cL_law 170 = .ok (.aload_n 0, 1) := by decide +kernel
theorem dL_law_171 : decode cL_law 171 = .ok (.iload_n 3, 1) := by decide +kernel
theorem dL_law_172 : decode cL_law 172 = .ok (.iconst 1, 1) := by decide +kernel
theorem dL_law_173 : decode cL_law 173 = .ok (.iadd, 1) := by decide +kernel
theorem dL_law_174 : decode cL_law 174 = .ok (.iaload, 1) := by decide +kernel
theorem dL_law_175 : decode cL_law 175 = .ok (.invokevirtual 17, 3) := by decide +kernel
theorem dL_law_178 : decode cL_law 178 = .ok (.if_icmp .eq 787, 3) := by decide +kernel
theorem dL_law_181 : decode cL_law 181 = .ok (.iconst 0, 1) := by decide +kernel
theorem dL_law_182 : decode cL_law 182 = .ok (.ireturn, 1) := by decide +kernel
theorem dL_law_183 : decode cL_law 183 = .ok (.aload_n 1, 1) := by decide +kernel
theorem dL_law_184 : decode cL_law 184 = .ok (.aload_n 0, 1) := by decide +kernel
theorem dL_law_185 : decode cL_law 185 = .ok (.iload_n 3, 1) := by decide +kernel
theorem dL_law_186 : decode cL_law 186 = .ok (.iconst 1, 1) := by decide +kernel
theorem dL_law_187 : decode cL_law 187 = .ok (.iadd, 1) := by decide +kernel
theorem dL_law_188 : decode cL_law 188 = .ok (.iaload, 1) := by decide +kernel
theorem dL_law_189 : decode cL_law 189 = .ok (.aload_n 0, 1) := by decide +kernel
theorem dL_law_190 : decode cL_law 190 = .ok (.iload_n 3, 1) := by decide +kernel
theorem dL_law_191 : decode cL_law 191 = .ok (.iconst 2, 1) := by decide +kernel
theorem dL_law_192 : decode cL_law 192 = .ok (.iadd, 1) := by decide +kernel
theorem dL_law_193 : decode cL_law 193 = .ok (.iaload, 1) := by decide +kernel
theorem dL_law_194 : decode cL_law 194 = .ok (.invokevirtual 18, 3) := by decide +kernel
theorem dL_law_197 : decode cL_law 197 = .ok (.aload_n 2, 1) := by decide +kernel
theorem dL_law_198 : decode cL_law 198 = .ok (.aload_n 0, 1) := by decide +kernel
theorem dL_law_199 : decode cL_law 199 = .ok (.iload_n 3, 1) := by decide +kernel
theorem dL_law_200 : decode cL_law 200 = .ok (.iconst 1, 1) := by decide +kernel
theorem dL_law_201 : decode cL_law 201 = .ok (.iadd, 1) := by decide +kernel
theorem dL_law_202 : decode cL_law 202 = .ok (.iaload, 1) := by decide +kernel
theorem dL_law_203 : decode cL_law 203 = .ok (.aload_n 0, 1) := by decide +kernel
theorem dL_law_204 : decode cL_law 204 = .ok (.iload_n 3, 1) := by decide +kernel
theorem dL_law_205 : decode cL_law 205 = .ok (.iconst 2, 1) := by decide +kernel
theorem dL_law_206 : decode cL_law 206 = .ok (.iadd, 1) := by decide +kernel
theorem dL_law_207 : decode cL_law 207 = .ok (.iaload, 1) := by decide +kernel
theorem dL_law_208 : decode cL_law 208 = .ok (.invokevirtual 22, 3) := by decide +kernel
theorem dL_law_211 : decode cL_law 211 = .ok (.if_icmp .eq 754, 3) := by decide +kernel
theorem dL_law_214 : decode cL_law 214 = .ok (.iconst 0, 1) := by decide +kernel
theorem dL_law_215 : decode cL_law 215 = .ok (.ireturn, 1) := by decide +kernel
theorem dL_law_216 : decode cL_law 216 = .ok (.aload_n 1, 1) := by decide +kernel
theorem dL_law_217 : decode cL_law 217 = .ok (.aload_n 0, 1) := by decide +kernel
theorem dL_law_218 : decode cL_law 218 = .ok (.iload_n 3, 1) := by decide +kernel
theorem dL_law_219 : decode cL_law 219 = .ok (.iconst 1, 1) := by decide +kernel
theorem dL_law_220 : decode cL_law 220 = .ok (.iadd, 1) := by decide +kernel
theorem dL_law_221 : decode cL_law 221 = .ok (.iaload, 1) := by decide +kernel
theorem dL_law_222 : decode cL_law 222 = .ok (.aload_n 0, 1) := by decide +kernel
theorem dL_law_223 : decode cL_law 223 = .ok (.iload_n 3, 1) := by decide +kernel
theorem dL_law_224 : decode cL_law 224 = .ok (.iconst 2, 1) := by decide +kernel
theorem dL_law_225 : decode cL_law 225 = .ok (.iadd, 1) := by decide +kernel
theorem dL_law_226 : decode cL_law 226 = .ok (.iaload, 1) := by decide +kernel
theorem dL_law_227 : decode cL_law 227 = .ok (.aload_n 0, 1) := by decide +kernel
theorem dL_law_228 : decode cL_law 228 = .ok (.iload_n 3, 1) := by decide +kernel
theorem dL_law_229 : decode cL_law 229 = .ok (.iconst 3, 1) := by decide +kernel
theorem dL_law_230 : decode cL_law 230 = .ok (.iadd, 1) := by decide +kernel
theorem dL_law_231 : decode cL_law 231 = .ok (.iaload, 1) := by decide +kernel
theorem dL_law_232 : decode cL_law 232 = .ok (.aload_n 0, 1) := by decide +kernel
theorem dL_law_233 : decode cL_law 233 = .ok (.iload_n 3, 1) := by decide +kernel
theorem dL_law_234 : decode cL_law 234 = .ok (.iconst 4, 1) := by decide +kernel
theorem dL_law_235 : decode cL_law 235 = .ok (.iadd, 1) := by decide +kernel
theorem dL_law_236 : decode cL_law 236 = .ok (.iaload, 1) := by decide +kernel
theorem dL_law_237 : decode cL_law 237 = .ok (.aload_n 0, 1) := by decide +kernel
theorem dL_law_238 : decode cL_law 238 = .ok (.iload_n 3, 1) := by decide +kernel
theorem dL_law_239 : decode cL_law 239 = .ok (.iconst 5, 1) := by decide +kernel
theorem dL_law_240 : decode cL_law 240 = .ok (.iadd, 1) := by decide +kernel
theorem dL_law_241 : decode cL_law 241 = .ok (.iaload, 1) := by decide +kernel
theorem dL_law_242 : decode cL_law 242 = .ok (.invokevirtual 23, 3) := by decide +kernel
theorem dL_law_245 : decode cL_law 245 = .ok (.aload_n 2, 1) := by decide +kernel
theorem dL_law_246 : decode cL_law 246 = .ok (.aload_n 0, 1) := by decide +kernel
theorem dL_law_247 : decode cL_law 247 = .ok (.iload_n 3, 1) := by decide +kernel
theorem dL_law_248 : decode cL_law 248 = .ok (.iconst 1, 1) := by decide +kernel
theorem dL_law_249 : decode cL_law 249 = .ok (.iadd, 1) := by decide +kernel
theorem dL_law_250 : decode cL_law 250 = .ok (.iaload, 1) := by decide +kernel
theorem dL_law_251 : decode cL_law 251 = .ok (.aload_n 0, 1) := by decide +kernel
theorem dL_law_252 : decode cL_law 252 = .ok (.iload_n 3, 1) := by decide +kernel
theorem dL_law_253 : decode cL_law 253 = .ok (.iconst 2, 1) := by decide +kernel
theorem dL_law_254 : decode cL_law 254 = .ok (.iadd, 1) := by decide +kernel
theorem dL_law_255 : decode cL_law 255 = .ok (.iaload, 1) := by decide +kernel
theorem dL_law_256 : decode cL_law 256 = .ok (.aload_n 0, 1) := by decide +kernel
theorem dL_law_257 : decode cL_law 257 = .ok (.iload_n 3, 1) := by decide +kernel
theorem dL_law_258 : decode cL_law 258 = .ok (.iconst 3, 1) := by decide +kernel
theorem dL_law_259 : decode cL_law 259 = .ok (.iadd, 1) := by decide +kernel
theorem dL_law_260 : decode cL_law 260 = .ok (.iaload, 1) := by decide +kernel
theorem dL_law_261 : decode cL_law 261 = .ok (.aload_n 0, 1) := by decide +kernel
theorem dL_law_262 : decode cL_law 262 = .ok (.iload_n 3, 1) := by decide +kernel
theorem dL_law_263 : decode cL_law 263 = .ok (.iconst 4, 1) := by decide +kernel
theorem dL_law_264 : decode cL_law 264 = .ok (.iadd, 1) := by decide +kernel
theorem dL_law_265 : decode cL_law 265 = .ok (.iaload, 1) := by decide +kernel
theorem dL_law_266 : decode cL_law 266 = .ok (.aload_n 0, 1) := by decide +kernel
theorem dL_law_267 : decode cL_law 267 = .ok (.iload_n 3, 1) := by decide +kernel
theorem dL_law_268 : decode cL_law 268 = .ok (.iconst 5, 1) := by decide +kernel
theorem dL_law_269 : decode cL_law 269 = .ok (.iadd, 1) := by decide +kernel
theorem dL_law_270 : decode cL_law 270 = .ok (.iaload, 1) := by decide +kernel
theorem dL_law_271 : decode cL_law 271 = .ok (.invokevirtual 27, 3) := by decide +kernel
theorem dL_law_274 : decode cL_law 274 = .ok (.if_icmp .eq 691, 3) := by decide +kernel
theorem dL_law_277 : decode cL_law 277 = .ok (.iconst 0, 1) := by decide +kernel
theorem dL_law_278 : decode cL_law 278 = .ok (.ireturn, 1) := by decide +kernel
theorem dL_law_279 : decode cL_law 279 = .ok (.aload_n 1, 1) := by decide +kernel
theorem dL_law_280 : decode cL_law 280 = .ok (.aload_n 0, 1) := by decide +kernel
theorem dL_law_281 : decode cL_law 281 = .ok (.iload_n 3, 1) := by decide +kernel
theorem dL_law_282 : decode cL_law 282 = .ok (.iconst 1, 1) := by decide +kernel
theorem dL_law_283 : decode cL_law 283 = .ok (.iadd, 1) := by decide +kernel
theorem dL_law_284 : decode cL_law 284 = .ok (.iaload, 1) := by decide +kernel
theorem dL_law_285 : decode cL_law 285 = .ok (.aload_n 0, 1) := by decide +kernel
theorem dL_law_286 : decode cL_law 286 = .ok (.iload_n 3, 1) := by decide +kernel
theorem dL_law_287 : decode cL_law 287 = .ok (.iconst 2, 1) := by decide +kernel
theorem dL_law_288 : decode cL_law 288 = .ok (.iadd, 1) := by decide +kernel
theorem dL_law_289 : decode cL_law 289 = .ok (.iaload, 1) := by decide +kernel
theorem dL_law_290 : decode cL_law 290 = .ok (.invokevirtual 28, 3) := by decide +kernel
theorem dL_law_293 : decode cL_law 293 = .ok (.aload_n 2, 1) := by decide +kernel
theorem dL_law_294 : decode cL_law 294 = .ok (.aload_n 0, 1) := by decide +kernel
theorem dL_law_295 : decode cL_law 295 = .ok (.iload_n 3, 1) := by decide +kernel
theorem dL_law_296 : decode cL_law 296 = .ok (.iconst 1, 1) := by decide +kernel
theorem dL_law_297 : decode cL_law 297 = .ok (.iadd, 1) := by decide +kernel
theorem dL_law_298 : decode cL_law 298 = .ok (.iaload, 1) := by decide +kernel
theorem dL_law_299 : decode cL_law 299 = .ok (.aload_n 0, 1) := by decide +kernel
theorem dL_law_300 : decode cL_law 300 = .ok (.iload_n 3, 1) := by decide +kernel
theorem dL_law_301 : decode cL_law 301 = .ok (.iconst 2, 1) := by decide +kernel
theorem dL_law_302 : decode cL_law 302 = .ok (.iadd, 1) := by decide +kernel
theorem dL_law_303 : decode cL_law 303 = .ok (.iaload, 1) := by decide +kernel
theorem dL_law_304 : decode cL_law 304 = .ok (.invokevirtual 31, 3) := by decide +kernel
theorem dL_law_307 : decode cL_law 307 = .ok (.if_icmp .eq 658, 3) := by decide +kernel
theorem dL_law_310 : decode cL_law 310 = .ok (.iconst 0, 1) := by decide +kernel
theorem dL_law_311 : decode cL_law 311 = .ok (.ireturn, 1) := by decide +kernel
theorem dL_law_312 : decode cL_law 312 = .ok (.aload_n 1, 1) := by decide +kernel
theorem dL_law_313 : decode cL_law 313 = .ok (.aload_n 0, 1) := by decide +kernel
theorem dL_law_314 : decode cL_law 314 = .ok (.iload_n 3, 1) := by decide +kernel
theorem dL_law_315 : decode cL_law 315 = .ok (.iconst 1, 1) := by decide +kernel
theorem dL_law_316 : decode cL_law 316 = .ok (.iadd, 1) := by decide +kernel
theorem dL_law_317 : decode cL_law 317 = .ok (.iaload, 1) := by decide +kernel
theorem dL_law_318 : decode cL_law 318 = .ok (.invokevirtual 32, 3) := by decide +kernel
theorem dL_law_321 : decode cL_law 321 = .ok (.aload_n 2, 1) := by decide +kernel
theorem dL_law_322 : decode cL_law 322 = .ok (.aload_n 0, 1) := by decide +kernel
theorem dL_law_323 : decode cL_law 323 = .ok (.iload_n 3, 1) := by decide +kernel
theorem dL_law_324 : decode cL_law 324 = .ok (.iconst 1, 1) := by decide +kernel
theorem dL_law_325 : decode cL_law 325 = .ok (.iadd, 1) := by decide +kernel
theorem dL_law_326 : decode cL_law 326 = .ok (.iaload, 1) := by decide +kernel
theorem dL_law_327 : decode cL_law 327 = .ok (.invokevirtual 35, 3) := by decide +kernel
theorem dL_law_330 : decode cL_law 330 = .ok (.if_icmp .eq 635, 3) := by decide +kernel
theorem dL_law_333 : decode cL_law 333 = .ok (.iconst 0, 1) := by decide +kernel
theorem dL_law_334 : decode cL_law 334 = .ok (.ireturn, 1) := by decide +kernel
theorem dL_law_335 : decode cL_law 335 = .ok (.aload_n 1, 1) := by decide +kernel
theorem dL_law_336 : decode cL_law 336 = .ok (.aload_n 0, 1) := by decide +kernel
theorem dL_law_337 : decode cL_law 337 = .ok (.iload_n 3, 1) := by decide +kernel
theorem dL_law_338 : decode cL_law 338 = .ok (.iconst 1, 1) := by decide +kernel
theorem dL_law_339 : decode cL_law 339 = .ok (.iadd, 1) := by decide +kernel
theorem dL_law_340 : decode cL_law 340 = .ok (.iaload, 1) := by decide +kernel
theorem dL_law_341 : decode cL_law 341 = .ok (.aload_n 0, 1) := by decide +kernel
theorem dL_law_342 : decode cL_law 342 = .ok (.iload_n 3, 1) := by decide +kernel
theorem dL_law_343 : decode cL_law 343 = .ok (.iconst 2, 1) := by decide +kernel
theorem dL_law_344 : decode cL_law 344 = .ok (.iadd, 1) := by decide +kernel
theorem dL_law_345 : decode cL_law 345 = .ok (.iaload, 1) := by decide +kernel
theorem dL_law_346 : decode cL_law 346 = .ok (.invokevirtual 36, 3) := by decide +kernel
theorem dL_law_349 : decode cL_law 349 = .ok (.aload_n 2, 1) := by decide +kernel
theorem dL_law_350 : decode cL_law 350 = .ok (.aload_n 0, 1) := by decide +kernel
theorem dL_law_351 : decode cL_law 351 = .ok (.iload_n 3, 1) := by decide +kernel
theorem dL_law_352 : decode cL_law 352 = .ok (.iconst 1, 1) := by decide +kernel
theorem dL_law_353 : decode cL_law 353 = .ok (.iadd, 1) := by decide +kernel
theorem dL_law_354 : decode cL_law 354 = .ok (.iaload, 1) := by decide +kernel
theorem dL_law_355 : decode cL_law 355 = .ok (.aload_n 0, 1) := by decide +kernel
theorem dL_law_356 : decode cL_law 356 = .ok (.iload_n 3, 1) := by decide +kernel
theorem dL_law_357 : decode cL_law 357 = .ok (.iconst 2, 1) := by decide +kernel
theorem dL_law_358 : decode cL_law 358 = .ok (.iadd, 1) := by decide +kernel
theorem dL_law_359 : decode cL_law 359 = .ok (.iaload, 1) := by decide +kernel
theorem dL_law_360 : decode cL_law 360 = .ok (.invokevirtual 39, 3) := by decide +kernel
theorem dL_law_363 : decode cL_law 363 = .ok (.if_icmp .eq 602, 3) := by decide +kernel
theorem dL_law_366 : decode cL_law 366 = .ok (.iconst 0, 1) := by decide +kernel
theorem dL_law_367 : decode cL_law 367 = .ok (.ireturn, 1) := by decide +kernel
theorem dL_law_368 : decode cL_law 368 = .ok (.aload_n 1, 1) := by decide +kernel
theorem dL_law_369 : decode cL_law 369 = .ok (.aload_n 0, 1) := by decide +kernel
theorem dL_law_370 : decode cL_law 370 = .ok (.iload_n 3, 1) := by decide +kernel
theorem dL_law_371 : decode cL_law 371 = .ok (.iconst 1, 1) := by decide +kernel
theorem dL_law_372 : decode cL_law 372 = .ok (.iadd, 1) := by decide +kernel
theorem dL_law_373 : decode cL_law 373 = .ok (.iaload, 1) := by decide +kernel
theorem dL_law_374 : decode cL_law 374 = .ok (.invokevirtual 40, 3) := by decide +kernel
theorem dL_law_377 : decode cL_law 377 = .ok (.aload_n 2, 1) := by decide +kernel
theorem dL_law_378 : decode cL_law 378 = .ok (.aload_n 0, 1) := by decide +kernel
theorem dL_law_379 : decode cL_law 379 = .ok (.iload_n 3, 1) := by decide +kernel
theorem dL_law_380 : decode cL_law 380 = .ok (.iconst 1, 1) := by decide +kernel
theorem dL_law_381 : decode cL_law 381 = .ok (.iadd, 1) := by decide +kernel
theorem dL_law_382 : decode cL_law 382 = .ok (.iaload, 1) := by decide +kernel
theorem dL_law_383 : decode cL_law 383 = .ok (.invokevirtual 43, 3) := by decide +kernel
theorem dL_law_386 : decode cL_law 386 = .ok (.if_icmp .eq 579, 3) := by decide +kernel
theorem dL_law_389 : decode cL_law 389 = .ok (.iconst 0, 1) := by decide +kernel
theorem dL_law_390 : decode cL_law 390 = .ok (.ireturn, 1) := by decide +kernel
theorem dL_law_391 : decode cL_law 391 = .ok (.aload_n 1, 1) := by decide +kernel
theorem dL_law_392 : decode cL_law 392 = .ok (.aload_n 0, 1) := by decide +kernel
theorem dL_law_393 : decode cL_law 393 = .ok (.iload_n 3, 1) := by decide +kernel
theorem dL_law_394 : decode cL_law 394 = .ok (.iconst 1, 1) := by decide +kernel
theorem dL_law_395 : decode cL_law 395 = .ok (.iadd, 1) := by decide +kernel
theorem dL_law_396 : decode cL_law 396 = .ok (.iaload, 1) := by decide +kernel
theorem dL_law_397 : decode cL_law 397 = .ok (.aload_n 0, 1) := by decide +kernel
theorem dL_law_398 : decode cL_law 398 = .ok (.iload_n 3, 1) := by decide +kernel
theorem dL_law_399 : decode cL_law 399 = .ok (.iconst 2, 1) := by decide +kernel
theorem dL_law_400 : decode cL_law 400 = .ok (.iadd, 1) := by decide +kernel
theorem dL_law_401 : decode cL_law 401 = .ok (.iaload, 1) := by decide +kernel
theorem dL_law_402 : decode cL_law 402 = .ok (.aload_n 0, 1) := by decide +kernel
theorem dL_law_403 : decode cL_law 403 = .ok (.iload_n 3, 1) := by decide +kernel
theorem dL_law_404 : decode cL_law 404 = .ok (.iconst 3, 1) := by decide +kernel
theorem dL_law_405 : decode cL_law 405 = .ok (.iadd, 1) := by decide +kernel
theorem dL_law_406 : decode cL_law 406 = .ok (.iaload, 1) := by decide +kernel
theorem dL_law_407 : decode cL_law 407 = .ok (.aload_n 0, 1) := by decide +kernel
theorem dL_law_408 : decode cL_law 408 = .ok (.iload_n 3, 1) := by decide +kernel
theorem dL_law_409 : decode cL_law 409 = .ok (.iconst 4, 1) := by decide +kernel
theorem dL_law_410 : decode cL_law 410 = .ok (.iadd, 1) := by decide +kernel
theorem dL_law_411 : decode cL_law 411 = .ok (.iaload, 1) := by decide +kernel
theorem dL_law_412 : decode cL_law 412 = .ok (.invokevirtual 44, 3) := by decide +kernel
theorem dL_law_415 : decode cL_law 415 = .ok (.aload_n 2, 1) := by decide +kernel
theorem dL_law_416 : decode cL_law 416 = .ok (.aload_n 0, 1) := by decide +kernel
theorem dL_law_417 : decode cL_law 417 = .ok (.iload_n 3, 1) := by decide +kernel
theorem dL_law_418 : decode cL_law 418 = .ok (.iconst 1, 1) := by decide +kernel
theorem dL_law_419 : decode cL_law 419 = .ok (.iadd, 1) := by decide +kernel
theorem dL_law_420 : decode cL_law 420 = .ok (.iaload, 1) := by decide +kernel
theorem dL_law_421 : decode cL_law 421 = .ok (.aload_n 0, 1) := by decide +kernel
theorem dL_law_422 : decode cL_law 422 = .ok (.iload_n 3, 1) := by decide +kernel
theorem dL_law_423 : decode cL_law 423 = .ok (.iconst 2, 1) := by decide +kernel
theorem dL_law_424 : decode cL_law 424 = .ok (.iadd, 1) := by decide +kernel
theorem dL_law_425 : decode cL_law 425 = .ok (.iaload, 1) := by decide +kernel
theorem dL_law_426 : decode cL_law 426 = .ok (.aload_n 0, 1) := by decide +kernel
theorem dL_law_427 : decode cL_law 427 = .ok (.iload_n 3, 1) := by decide +kernel
theorem dL_law_428 : decode cL_law 428 = .ok (.iconst 3, 1) := by decide +kernel
theorem dL_law_429 : decode cL_law 429 = .ok (.iadd, 1) := by decide +kernel
theorem dL_law_430 : decode cL_law 430 = .ok (.iaload, 1) := by decide +kernel
theorem dL_law_431 : decode cL_law 431 = .ok (.aload_n 0, 1) := by decide +kernel
theorem dL_law_432 : decode cL_law 432 = .ok (.iload_n 3, 1) := by decide +kernel
theorem dL_law_433 : decode cL_law 433 = .ok (.iconst 4, 1) := by decide +kernel
theorem dL_law_434 : decode cL_law 434 = .ok (.iadd, 1) := by decide +kernel
theorem dL_law_435 : decode cL_law 435 = .ok (.iaload, 1) := by decide +kernel
theorem dL_law_436 : decode cL_law 436 = .ok (.invokevirtual 48, 3) := by decide +kernel
theorem dL_law_439 : decode cL_law 439 = .ok (.if_icmp .eq 526, 3) := by decide +kernel
theorem dL_law_442 : decode cL_law 442 = .ok (.iconst 0, 1) := by decide +kernel
theorem dL_law_443 : decode cL_law 443 = .ok (.ireturn, 1) := by decide +kernel
theorem dL_law_444 : decode cL_law 444 = .ok (.aload_n 1, 1) := by decide +kernel
theorem dL_law_445 : decode cL_law 445 = .ok (.aload_n 0, 1) := by decide +kernel
theorem dL_law_446 : decode cL_law 446 = .ok (.iload_n 3, 1) := by decide +kernel
theorem dL_law_447 : decode cL_law 447 = .ok (.iconst 1, 1) := by decide +kernel
theorem dL_law_448 : decode cL_law 448 = .ok (.iadd, 1) := by decide +kernel
theorem dL_law_449 : decode cL_law 449 = .ok (.iaload, 1) := by decide +kernel
theorem dL_law_450 : decode cL_law 450 = .ok (.aload_n 0, 1) := by decide +kernel
theorem dL_law_451 : decode cL_law 451 = .ok (.iload_n 3, 1) := by decide +kernel
theorem dL_law_452 : decode cL_law 452 = .ok (.iconst 2, 1) := by decide +kernel
theorem dL_law_453 : decode cL_law 453 = .ok (.iadd, 1) := by decide +kernel
theorem dL_law_454 : decode cL_law 454 = .ok (.iaload, 1) := by decide +kernel
theorem dL_law_455 : decode cL_law 455 = .ok (.aload_n 0, 1) := by decide +kernel
theorem dL_law_456 : decode cL_law 456 = .ok (.iload_n 3, 1) := by decide +kernel
theorem dL_law_457 : decode cL_law 457 = .ok (.iconst 3, 1) := by decide +kernel
theorem dL_law_458 : decode cL_law 458 = .ok (.iadd, 1) := by decide +kernel
theorem dL_law_459 : decode cL_law 459 = .ok (.iaload, 1) := by decide +kernel
theorem dL_law_460 : decode cL_law 460 = .ok (.aload_n 0, 1) := by decide +kernel
theorem dL_law_461 : decode cL_law 461 = .ok (.iload_n 3, 1) := by decide +kernel
theorem dL_law_462 : decode cL_law 462 = .ok (.iconst 4, 1) := by decide +kernel
theorem dL_law_463 : decode cL_law 463 = .ok (.iadd, 1) := by decide +kernel
theorem dL_law_464 : decode cL_law 464 = .ok (.iaload, 1) := by decide +kernel
theorem dL_law_465 : decode cL_law 465 = .ok (.invokevirtual 49, 3) := by decide +kernel
theorem dL_law_468 : decode cL_law 468 = .ok (.aload_n 2, 1) := by decide +kernel
theorem dL_law_469 : decode cL_law 469 = .ok (.aload_n 0, 1) := by decide +kernel
theorem dL_law_470 : decode cL_law 470 = .ok (.iload_n 3, 1) := by decide +kernel
theorem dL_law_471 : decode cL_law 471 = .ok (.iconst 1, 1) := by decide +kernel
theorem dL_law_472 : decode cL_law 472 = .ok (.iadd, 1) := by decide +kernel
theorem dL_law_473 : decode cL_law 473 = .ok (.iaload, 1) := by decide +kernel
theorem dL_law_474 : decode cL_law 474 = .ok (.aload_n 0, 1) := by decide +kernel
theorem dL_law_475 : decode cL_law 475 = .ok (.iload_n 3, 1) := by decide +kernel
theorem dL_law_476 : decode cL_law 476 = .ok (.iconst 2, 1) := by decide +kernel
theorem dL_law_477 : decode cL_law 477 = .ok (.iadd, 1) := by decide +kernel
theorem dL_law_478 : decode cL_law 478 = .ok (.iaload, 1) := by decide +kernel
theorem dL_law_479 : decode cL_law 479 = .ok (.aload_n 0, 1) := by decide +kernel
theorem dL_law_480 : decode cL_law 480 = .ok (.iload_n 3, 1) := by decide +kernel
theorem dL_law_481 : decode cL_law 481 = .ok (.iconst 3, 1) := by decide +kernel
theorem dL_law_482 : decode cL_law 482 = .ok (.iadd, 1) := by decide +kernel
theorem dL_law_483 : decode cL_law 483 = .ok (.iaload, 1) := by decide +kernel
theorem dL_law_484 : decode cL_law 484 = .ok (.aload_n 0, 1) := by decide +kernel
theorem dL_law_485 : decode cL_law 485 = .ok (.iload_n 3, 1) := by decide +kernel
theorem dL_law_486 : decode cL_law 486 = .ok (.iconst 4, 1) := by decide +kernel
theorem dL_law_487 : decode cL_law 487 = .ok (.iadd, 1) := by decide +kernel
theorem dL_law_488 : decode cL_law 488 = .ok (.iaload, 1) := by decide +kernel
theorem dL_law_489 : decode cL_law 489 = .ok (.invokevirtual 52, 3) := by decide +kernel
theorem dL_law_492 : decode cL_law 492 = .ok (.if_icmp .eq 473, 3) := by decide +kernel
theorem dL_law_495 : decode cL_law 495 = .ok (.iconst 0, 1) := by decide +kernel
theorem dL_law_496 : decode cL_law 496 = .ok (.ireturn, 1) := by decide +kernel
theorem dL_law_497 : decode cL_law 497 = .ok (.aload_n 1, 1) := by decide +kernel
theorem dL_law_498 : decode cL_law 498 = .ok (.aload_n 0, 1) := by decide +kernel
theorem dL_law_499 : decode cL_law 499 = .ok (.iload_n 3, 1) := by decide +kernel
theorem dL_law_500 : decode cL_law 500 = .ok (.iconst 1, 1) := by decide +kernel
theorem dL_law_501 : decode cL_law 501 = .ok (.iadd, 1) := by decide +kernel
theorem dL_law_502 : decode cL_law 502 = .ok (.iaload, 1) := by decide +kernel
theorem dL_law_503 : decode cL_law 503 = .ok (.invokevirtual 53, 3) := by decide +kernel
theorem dL_law_506 : decode cL_law 506 = .ok (.aload_n 2, 1) := by decide +kernel
theorem dL_law_507 : decode cL_law 507 = .ok (.aload_n 0, 1) := by decide +kernel
theorem dL_law_508 : decode cL_law 508 = .ok (.iload_n 3, 1) := by decide +kernel
theorem dL_law_509 : decode cL_law 509 = .ok (.iconst 1, 1) := by decide +kernel
theorem dL_law_510 : decode cL_law 510 = .ok (.iadd, 1) := by decide +kernel
theorem dL_law_511 : decode cL_law 511 = .ok (.iaload, 1) := by decide +kernel
theorem dL_law_512 : decode cL_law 512 = .ok (.invokevirtual 56, 3) := by decide +kernel
theorem dL_law_515 : decode cL_law 515 = .ok (.if_icmp .eq 450, 3) := by decide +kernel
theorem dL_law_518 : decode cL_law 518 = .ok (.iconst 0, 1) := by decide +kernel
theorem dL_law_519 : decode cL_law 519 = .ok (.ireturn, 1) := by decide +kernel
theorem dL_law_520 : decode cL_law 520 = .ok (.aload_n 1, 1) := by decide +kernel
theorem dL_law_521 : decode cL_law 521 = .ok (.aload_n 0, 1) := by decide +kernel
theorem dL_law_522 : decode cL_law 522 = .ok (.iload_n 3, 1) := by decide +kernel
theorem dL_law_523 : decode cL_law 523 = .ok (.iconst 1, 1) := by decide +kernel
theorem dL_law_524 : decode cL_law 524 = .ok (.iadd, 1) := by decide +kernel
theorem dL_law_525 : decode cL_law 525 = .ok (.iaload, 1) := by decide +kernel
theorem dL_law_526 : decode cL_law 526 = .ok (.aload_n 0, 1) := by decide +kernel
theorem dL_law_527 : decode cL_law 527 = .ok (.iload_n 3, 1) := by decide +kernel
theorem dL_law_528 : decode cL_law 528 = .ok (.iconst 2, 1) := by decide +kernel
theorem dL_law_529 : decode cL_law 529 = .ok (.iadd, 1) := by decide +kernel
theorem dL_law_530 : decode cL_law 530 = .ok (.iaload, 1) := by decide +kernel
theorem dL_law_531 : decode cL_law 531 = .ok (.invokevirtual 57, 3) := by decide +kernel
theorem dL_law_534 : decode cL_law 534 = .ok (.aload_n 2, 1) := by decide +kernel
theorem dL_law_535 : decode cL_law 535 = .ok (.aload_n 0, 1) := by decide +kernel
theorem dL_law_536 : decode cL_law 536 = .ok (.iload_n 3, 1) := by decide +kernel
theorem dL_law_537 : decode cL_law 537 = .ok (.iconst 1, 1) := by decide +kernel
theorem dL_law_538 : decode cL_law 538 = .ok (.iadd, 1) := by decide +kernel
theorem dL_law_539 : decode cL_law 539 = .ok (.iaload, 1) := by decide +kernel
theorem dL_law_540 : decode cL_law 540 = .ok (.aload_n 0, 1) := by decide +kernel
theorem dL_law_541 : decode cL_law 541 = .ok (.iload_n 3, 1) := by decide +kernel
theorem dL_law_542 : decode cL_law 542 = .ok (.iconst 2, 1) := by decide +kernel
theorem dL_law_543 : decode cL_law 543 = .ok (.iadd, 1) := by decide +kernel
theorem dL_law_544 : decode cL_law 544 = .ok (.iaload, 1) := by decide +kernel
theorem dL_law_545 : decode cL_law 545 = .ok (.invokevirtual 60, 3) := by decide +kernel
theorem dL_law_548 : decode cL_law 548 = .ok (.if_icmp .eq 417, 3) := by decide +kernel
theorem dL_law_551 : decode cL_law 551 = .ok (.iconst 0, 1) := by decide +kernel
theorem dL_law_552 : decode cL_law 552 = .ok (.ireturn, 1) := by decide +kernel
theorem dL_law_553 : decode cL_law 553 = .ok (.aload_n 1, 1) := by decide +kernel
theorem dL_law_554 : decode cL_law 554 = .ok (.aload_n 0, 1) := by decide +kernel
theorem dL_law_555 : decode cL_law 555 = .ok (.iload_n 3, 1) := by decide +kernel
theorem dL_law_556 : decode cL_law 556 = .ok (.iconst 1, 1) := by decide +kernel
theorem dL_law_557 : decode cL_law 557 = .ok (.iadd, 1) := by decide +kernel
theorem dL_law_558 : decode cL_law 558 = .ok (.iaload, 1) := by decide +kernel
theorem dL_law_559 : decode cL_law 559 = .ok (.aload_n 0, 1) := by decide +kernel
theorem dL_law_560 : decode cL_law 560 = .ok (.iload_n 3, 1) := by decide +kernel
theorem dL_law_561 : decode cL_law 561 = .ok (.iconst 2, 1) := by decide +kernel
theorem dL_law_562 : decode cL_law 562 = .ok (.iadd, 1) := by decide +kernel
theorem dL_law_563 : decode cL_law 563 = .ok (.iaload, 1) := by decide +kernel
theorem dL_law_564 : decode cL_law 564 = .ok (.invokevirtual 61, 3) := by decide +kernel
theorem dL_law_567 : decode cL_law 567 = .ok (.aload_n 2, 1) := by decide +kernel
theorem dL_law_568 : decode cL_law 568 = .ok (.aload_n 0, 1) := by decide +kernel
theorem dL_law_569 : decode cL_law 569 = .ok (.iload_n 3, 1) := by decide +kernel
theorem dL_law_570 : decode cL_law 570 = .ok (.iconst 1, 1) := by decide +kernel
theorem dL_law_571 : decode cL_law 571 = .ok (.iadd, 1) := by decide +kernel
theorem dL_law_572 : decode cL_law 572 = .ok (.iaload, 1) := by decide +kernel
theorem dL_law_573 : decode cL_law 573 = .ok (.aload_n 0, 1) := by decide +kernel
theorem dL_law_574 : decode cL_law 574 = .ok (.iload_n 3, 1) := by decide +kernel
theorem dL_law_575 : decode cL_law 575 = .ok (.iconst 2, 1) := by decide +kernel
theorem dL_law_576 : decode cL_law 576 = .ok (.iadd, 1) := by decide +kernel
theorem dL_law_577 : decode cL_law 577 = .ok (.iaload, 1) := by decide +kernel
theorem dL_law_578 : decode cL_law 578 = .ok (.invokevirtual 64, 3) := by decide +kernel
theorem dL_law_581 : decode cL_law 581 = .ok (.if_icmp .eq 384, 3) := by decide +kernel
theorem dL_law_584 : decode cL_law 584 = .ok (.iconst 0, 1) := by decide +kernel
theorem dL_law_585 : decode cL_law 585 = .ok (.ireturn, 1) := by decide +kernel
theorem dL_law_586 : decode cL_law 586 = .ok (.aload_n 1, 1) := by decide +kernel
theorem dL_law_587 : decode cL_law 587 = .ok (.aload_n 0, 1) := by decide +kernel
theorem dL_law_588 : decode cL_law 588 = .ok (.iload_n 3, 1) := by decide +kernel
theorem dL_law_589 : decode cL_law 589 = .ok (.iconst 1, 1) := by decide +kernel
theorem dL_law_590 : decode cL_law 590 = .ok (.iadd, 1) := by decide +kernel
theorem dL_law_591 : decode cL_law 591 = .ok (.iaload, 1) := by decide +kernel
theorem dL_law_592 : decode cL_law 592 = .ok (.invokevirtual 65, 3) := by decide +kernel
theorem dL_law_595 : decode cL_law 595 = .ok (.aload_n 2, 1) := by decide +kernel
theorem dL_law_596 : decode cL_law 596 = .ok (.aload_n 0, 1) := by decide +kernel
theorem dL_law_597 : decode cL_law 597 = .ok (.iload_n 3, 1) := by decide +kernel
theorem dL_law_598 : decode cL_law 598 = .ok (.iconst 1, 1) := by decide +kernel
theorem dL_law_599 : decode cL_law 599 = .ok (.iadd, 1) := by decide +kernel
theorem dL_law_600 : decode cL_law 600 = .ok (.iaload, 1) := by decide +kernel
theorem dL_law_601 : decode cL_law 601 = .ok (.invokevirtual 68, 3) := by decide +kernel
theorem dL_law_604 : decode cL_law 604 = .ok (.if_icmp .eq 361, 3) := by decide +kernel
theorem dL_law_607 : decode cL_law 607 = .ok (.iconst 0, 1) := by decide +kernel
theorem dL_law_608 : decode cL_law 608 = .ok (.ireturn, 1) := by decide +kernel
theorem dL_law_609 : decode cL_law 609 = .ok (.aload_n 1, 1) := by decide +kernel
theorem dL_law_610 : decode cL_law 610 = .ok (.aload_n 0, 1) := by decide +kernel
theorem dL_law_611 : decode cL_law 611 = .ok (.iload_n 3, 1) := by decide +kernel
theorem dL_law_612 : decode cL_law 612 = .ok (.iconst 1, 1) := by decide +kernel
theorem dL_law_613 : decode cL_law 613 = .ok (.iadd, 1) := by decide +kernel
theorem dL_law_614 : decode cL_law 614 = .ok (.iaload, 1) := by decide +kernel
theorem dL_law_615 : decode cL_law 615 = .ok (.aload_n 0, 1) := by decide +kernel
theorem dL_law_616 : decode cL_law 616 = .ok (.iload_n 3, 1) := by decide +kernel
theorem dL_law_617 : decode cL_law 617 = .ok (.iconst 2, 1) := by decide +kernel
theorem dL_law_618 : decode cL_law 618 = .ok (.iadd, 1) := by decide +kernel
theorem dL_law_619 : decode cL_law 619 = .ok (.iaload, 1) := by decide +kernel
theorem dL_law_620 : decode cL_law 620 = .ok (.invokevirtual 69, 3) := by decide +kernel
theorem dL_law_623 : decode cL_law 623 = .ok (.aload_n 2, 1) := by decide +kernel
theorem dL_law_624 : decode cL_law 624 = .ok (.aload_n 0, 1) := by decide +kernel
theorem dL_law_625 : decode cL_law 625 = .ok (.iload_n 3, 1) := by decide +kernel
theorem dL_law_626 : decode cL_law 626 = .ok (.iconst 1, 1) := by decide +kernel
theorem dL_law_627 : decode cL_law 627 = .ok (.iadd, 1) := by decide +kernel
theorem dL_law_628 : decode cL_law 628 = .ok (.iaload, 1) := by decide +kernel
theorem dL_law_629 : decode cL_law 629 = .ok (.aload_n 0, 1) := by decide +kernel
theorem dL_law_630 : decode cL_law 630 = .ok (.iload_n 3, 1) := by decide +kernel
theorem dL_law_631 : decode cL_law 631 = .ok (.iconst 2, 1) := by decide +kernel
theorem dL_law_632 : decode cL_law 632 = .ok (.iadd, 1) := by decide +kernel
theorem dL_law_633 : decode cL_law 633 = .ok (.iaload, 1) := by decide +kernel
theorem dL_law_634 : decode cL_law 634 = .ok (.invokevirtual 72, 3) := by decide +kernel
theorem dL_law_637 : decode cL_law 637 = .ok (.if_icmp .eq 328, 3) := by decide +kernel
theorem dL_law_640 : decode cL_law 640 = .ok (.iconst 0, 1) := by decide +kernel
theorem dL_law_641 : decode cL_law 641 = .ok (.ireturn, 1) := by decide +kernel
theorem dL_law_642 : decode cL_law 642 = .ok (.aload_n 1, 1) := by decide +kernel
theorem dL_law_643 : decode cL_law 643 = .ok (.aload_n 0, 1) := by decide +kernel
theorem dL_law_644 : decode cL_law 644 = .ok (.iload_n 3, 1) := by decide +kernel
theorem dL_law_645 : decode cL_law 645 = .ok (.iconst 1, 1) := by decide +kernel
theorem dL_law_646 : decode cL_law 646 = .ok (.iadd, 1) := by decide +kernel
theorem dL_law_647 : decode cL_law 647 = .ok (.iaload, 1) := by decide +kernel
theorem dL_law_648 : decode cL_law 648 = .ok (.aload_n 0, 1) := by decide +kernel
theorem dL_law_649 : decode cL_law 649 = .ok (.iload_n 3, 1) := by decide +kernel
theorem dL_law_650 : decode cL_law 650 = .ok (.iconst 2, 1) := by decide +kernel
theorem dL_law_651 : decode cL_law 651 = .ok (.iadd, 1) := by decide +kernel
theorem dL_law_652 : decode cL_law 652 = .ok (.iaload, 1) := by decide +kernel
theorem dL_law_653 : decode cL_law 653 = .ok (.invokevirtual 73, 3) := by decide +kernel
theorem dL_law_656 : decode cL_law 656 = .ok (.aload_n 2, 1) := by decide +kernel
theorem dL_law_657 : decode cL_law 657 = .ok (.aload_n 0, 1) := by decide +kernel
theorem dL_law_658 : decode cL_law 658 = .ok (.iload_n 3, 1) := by decide +kernel
theorem dL_law_659 : decode cL_law 659 = .ok (.iconst 1, 1) := by decide +kernel
theorem dL_law_660 : decode cL_law 660 = .ok (.iadd, 1) := by decide +kernel
theorem dL_law_661 : decode cL_law 661 = .ok (.iaload, 1) := by decide +kernel
theorem dL_law_662 : decode cL_law 662 = .ok (.aload_n 0, 1) := by decide +kernel
theorem dL_law_663 : decode cL_law 663 = .ok (.iload_n 3, 1) := by decide +kernel
theorem dL_law_664 : decode cL_law 664 = .ok (.iconst 2, 1) := by decide +kernel
theorem dL_law_665 : decode cL_law 665 = .ok (.iadd, 1) := by decide +kernel
theorem dL_law_666 : decode cL_law 666 = .ok (.iaload, 1) := by decide +kernel
theorem dL_law_667 : decode cL_law 667 = .ok (.invokevirtual 76, 3) := by decide +kernel
theorem dL_law_670 : decode cL_law 670 = .ok (.if_icmp .eq 295, 3) := by decide +kernel
theorem dL_law_673 : decode cL_law 673 = .ok (.iconst 0, 1) := by decide +kernel
theorem dL_law_674 : decode cL_law 674 = .ok (.ireturn, 1) := by decide +kernel
theorem dL_law_675 : decode cL_law 675 = .ok (.aload_n 1, 1) := by decide +kernel
theorem dL_law_676 : decode cL_law 676 = .ok (.invokevirtual 77, 3) := by decide +kernel
theorem dL_law_679 : decode cL_law 679 = .ok (.aload_n 2, 1) := by decide +kernel
theorem dL_law_680 : decode cL_law 680 = .ok (.invokevirtual 81, 3) := by decide +kernel
theorem dL_law_683 : decode cL_law 683 = .ok (.if_icmp .eq 282, 3) := by decide +kernel
theorem dL_law_686 : decode cL_law 686 = .ok (.iconst 0, 1) := by decide +kernel
theorem dL_law_687 : decode cL_law 687 = .ok (.ireturn, 1) := by decide +kernel
theorem dL_law_688 : decode cL_law 688 = .ok (.aload_n 1, 1) := by decide +kernel
theorem dL_law_689 : decode cL_law 689 = .ok (.aload_n 0, 1) := by decide +kernel
theorem dL_law_690 : decode cL_law 690 = .ok (.iload_n 3, 1) := by decide +kernel
theorem dL_law_691 : decode cL_law 691 = .ok (.iconst 1, 1) := by decide +kernel
theorem dL_law_692 : decode cL_law 692 = .ok (.iadd, 1) := by decide +kernel
theorem dL_law_693 : decode cL_law 693 = .ok (.iaload, 1) := by decide +kernel
theorem dL_law_694 : decode cL_law 694 = .ok (.aload_n 0, 1) := by decide +kernel
theorem dL_law_695 : decode cL_law 695 = .ok (.iload_n 3, 1) := by decide +kernel
theorem dL_law_696 : decode cL_law 696 = .ok (.iconst 2, 1) := by decide +kernel
theorem dL_law_697 : decode cL_law 697 = .ok (.iadd, 1) := by decide +kernel
theorem dL_law_698 : decode cL_law 698 = .ok (.iaload, 1) := by decide +kernel
theorem dL_law_699 : decode cL_law 699 = .ok (.invokevirtual 82, 3) := by decide +kernel
theorem dL_law_702 : decode cL_law 702 = .ok (.aload_n 2, 1) := by decide +kernel
theorem dL_law_703 : decode cL_law 703 = .ok (.aload_n 0, 1) := by decide +kernel
theorem dL_law_704 : decode cL_law 704 = .ok (.iload_n 3, 1) := by decide +kernel
theorem dL_law_705 : decode cL_law 705 = .ok (.iconst 1, 1) := by decide +kernel
theorem dL_law_706 : decode cL_law 706 = .ok (.iadd, 1) := by decide +kernel
theorem dL_law_707 : decode cL_law 707 = .ok (.iaload, 1) := by decide +kernel
theorem dL_law_708 : decode cL_law 708 = .ok (.aload_n 0, 1) := by decide +kernel
theorem dL_law_709 : decode cL_law 709 = .ok (.iload_n 3, 1) := by decide +kernel
theorem dL_law_710 : decode cL_law 710 = .ok (.iconst 2, 1) := by decide +kernel
theorem dL_law_711 : decode cL_law 711 = .ok (.iadd, 1) := by decide +kernel
theorem dL_law_712 : decode cL_law 712 = .ok (.iaload, 1) := by decide +kernel
theorem dL_law_713 : decode cL_law 713 = .ok (.invokevirtual 85, 3) := by decide +kernel
theorem dL_law_716 : decode cL_law 716 = .ok (.if_icmp .eq 249, 3) := by decide +kernel
theorem dL_law_719 : decode cL_law 719 = .ok (.iconst 0, 1) := by decide +kernel
theorem dL_law_720 : decode cL_law 720 = .ok (.ireturn, 1) := by decide +kernel
theorem dL_law_721 : decode cL_law 721 = .ok (.aload_n 1, 1) := by decide +kernel
theorem dL_law_722 : decode cL_law 722 = .ok (.aload_n 0, 1) := by decide +kernel
theorem dL_law_723 : decode cL_law 723 = .ok (.iload_n 3, 1) := by decide +kernel
theorem dL_law_724 : decode cL_law 724 = .ok (.iconst 1, 1) := by decide +kernel
theorem dL_law_725 : decode cL_law 725 = .ok (.iadd, 1) := by decide +kernel
theorem dL_law_726 : decode cL_law 726 = .ok (.iaload, 1) := by decide +kernel
theorem dL_law_727 : decode cL_law 727 = .ok (.aload_n 0, 1) := by decide +kernel
theorem dL_law_728 : decode cL_law 728 = .ok (.iload_n 3, 1) := by decide +kernel
theorem dL_law_729 : decode cL_law 729 = .ok (.iconst 2, 1) := by decide +kernel
theorem dL_law_730 : decode cL_law 730 = .ok (.iadd, 1) := by decide +kernel
theorem dL_law_731 : decode cL_law 731 = .ok (.iaload, 1) := by decide +kernel
theorem dL_law_732 : decode cL_law 732 = .ok (.invokevirtual 86, 3) := by decide +kernel
theorem dL_law_735 : decode cL_law 735 = .ok (.aload_n 2, 1) := by decide +kernel
theorem dL_law_736 : decode cL_law 736 = .ok (.aload_n 0, 1) := by decide +kernel
theorem dL_law_737 : decode cL_law 737 = .ok (.iload_n 3, 1) := by decide +kernel
theorem dL_law_738 : decode cL_law 738 = .ok (.iconst 1, 1) := by decide +kernel
theorem dL_law_739 : decode cL_law 739 = .ok (.iadd, 1) := by decide +kernel
theorem dL_law_740 : decode cL_law 740 = .ok (.iaload, 1) := by decide +kernel
theorem dL_law_741 : decode cL_law 741 = .ok (.aload_n 0, 1) := by decide +kernel
theorem dL_law_742 : decode cL_law 742 = .ok (.iload_n 3, 1) := by decide +kernel
theorem dL_law_743 : decode cL_law 743 = .ok (.iconst 2, 1) := by decide +kernel
theorem dL_law_744 : decode cL_law 744 = .ok (.iadd, 1) := by decide +kernel
theorem dL_law_745 : decode cL_law 745 = .ok (.iaload, 1) := by decide +kernel
theorem dL_law_746 : decode cL_law 746 = .ok (.invokevirtual 89, 3) := by decide +kernel
theorem dL_law_749 : decode cL_law 749 = .ok (.if_icmp .eq 216, 3) := by decide +kernel
theorem dL_law_752 : decode cL_law 752 = .ok (.iconst 0, 1) := by decide +kernel
theorem dL_law_753 : decode cL_law 753 = .ok (.ireturn, 1) := by decide +kernel
theorem dL_law_754 : decode cL_law 754 = .ok (.aload_n 1, 1) := by decide +kernel
theorem dL_law_755 : decode cL_law 755 = .ok (.aload_n 0, 1) := by decide +kernel
theorem dL_law_756 : decode cL_law 756 = .ok (.iload_n 3, 1) := by decide +kernel
theorem dL_law_757 : decode cL_law 757 = .ok (.iconst 1, 1) := by decide +kernel
theorem dL_law_758 : decode cL_law 758 = .ok (.iadd, 1) := by decide +kernel
theorem dL_law_759 : decode cL_law 759 = .ok (.iaload, 1) := by decide +kernel
theorem dL_law_760 : decode cL_law 760 = .ok (.aload_n 0, 1) := by decide +kernel
theorem dL_law_761 : decode cL_law 761 = .ok (.iload_n 3, 1) := by decide +kernel
theorem dL_law_762 : decode cL_law 762 = .ok (.iconst 2, 1) := by decide +kernel
theorem dL_law_763 : decode cL_law 763 = .ok (.iadd, 1) := by decide +kernel
theorem dL_law_764 : decode cL_law 764 = .ok (.iaload, 1) := by decide +kernel
theorem dL_law_765 : decode cL_law 765 = .ok (.invokevirtual 90, 3) := by decide +kernel
theorem dL_law_768 : decode cL_law 768 = .ok (.aload_n 2, 1) := by decide +kernel
theorem dL_law_769 : decode cL_law 769 = .ok (.aload_n 0, 1) := by decide +kernel
theorem dL_law_770 : decode cL_law 770 = .ok (.iload_n 3, 1) := by decide +kernel
theorem dL_law_771 : decode cL_law 771 = .ok (.iconst 1, 1) := by decide +kernel
theorem dL_law_772 : decode cL_law 772 = .ok (.iadd, 1) := by decide +kernel
theorem dL_law_773 : decode cL_law 773 = .ok (.iaload, 1) := by decide +kernel
theorem dL_law_774 : decode cL_law 774 = .ok (.aload_n 0, 1) := by decide +kernel
theorem dL_law_775 : decode cL_law 775 = .ok (.iload_n 3, 1) := by decide +kernel
theorem dL_law_776 : decode cL_law 776 = .ok (.iconst 2, 1) := by decide +kernel
theorem dL_law_777 : decode cL_law 777 = .ok (.iadd, 1) := by decide +kernel
theorem dL_law_778 : decode cL_law 778 = .ok (.iaload, 1) := by decide +kernel
theorem dL_law_779 : decode cL_law 779 = .ok (.invokevirtual 93, 3) := by decide +kernel
theorem dL_law_782 : decode cL_law 782 = .ok (.if_icmp .eq 183, 3) := by decide +kernel
theorem dL_law_785 : decode cL_law 785 = .ok (.iconst 0, 1) := by decide +kernel
theorem dL_law_786 : decode cL_law 786 = .ok (.ireturn, 1) := by decide +kernel
theorem dL_law_787 : decode cL_law 787 = .ok (.aload_n 1, 1) := by decide +kernel
theorem dL_law_788 : decode cL_law 788 = .ok (.aload_n 0, 1) := by decide +kernel
theorem dL_law_789 : decode cL_law 789 = .ok (.iload_n 3, 1) := by decide +kernel
theorem dL_law_790 : decode cL_law 790 = .ok (.iconst 1, 1) := by decide +kernel
theorem dL_law_791 : decode cL_law 791 = .ok (.iadd, 1) := by decide +kernel
theorem dL_law_792 : decode cL_law 792 = .ok (.iaload, 1) := by decide +kernel
theorem dL_law_793 : decode cL_law 793 = .ok (.aload_n 0, 1) := by decide +kernel
theorem dL_law_794 : decode cL_law 794 = .ok (.iload_n 3, 1) := by decide +kernel
theorem dL_law_795 : decode cL_law 795 = .ok (.iconst 2, 1) := by decide +kernel
theorem dL_law_796 : decode cL_law 796 = .ok (.iadd, 1) := by decide +kernel
theorem dL_law_797 : decode cL_law 797 = .ok (.iaload, 1) := by decide +kernel
theorem dL_law_798 : decode cL_law 798 = .ok (.invokevirtual 94, 3) := by decide +kernel
theorem dL_law_801 : decode cL_law 801 = .ok (.aload_n 2, 1) := by decide +kernel
theorem dL_law_802 : decode cL_law 802 = .ok (.aload_n 0, 1) := by decide +kernel
theorem dL_law_803 : decode cL_law 803 = .ok (.iload_n 3, 1) := by decide +kernel
theorem dL_law_804 : decode cL_law 804 = .ok (.iconst 1, 1) := by decide +kernel
theorem dL_law_805 : decode cL_law 805 = .ok (.iadd, 1) := by decide +kernel
theorem dL_law_806 : decode cL_law 806 = .ok (.iaload, 1) := by decide +kernel
theorem dL_law_807 : decode cL_law 807 = .ok (.aload_n 0, 1) := by decide +kernel
theorem dL_law_808 : decode cL_law 808 = .ok (.iload_n 3, 1) := by decide +kernel
theorem dL_law_809 : decode cL_law 809 = .ok (.iconst 2, 1) := by decide +kernel
theorem dL_law_810 : decode cL_law 810 = .ok (.iadd, 1) := by decide +kernel
theorem dL_law_811 : decode cL_law 811 = .ok (.iaload, 1) := by decide +kernel
theorem dL_law_812 : decode cL_law 812 = .ok (.invokevirtual 97, 3) := by decide +kernel
theorem dL_law_815 : decode cL_law 815 = .ok (.if_icmp .eq 150, 3) := by decide +kernel
theorem dL_law_818 : decode cL_law 818 = .ok (.iconst 0, 1) := by decide +kernel
theorem dL_law_819 : decode cL_law 819 = .ok (.ireturn, 1) := by decide +kernel
theorem dL_law_820 : decode cL_law 820 = .ok (.aload_n 1, 1) := by decide +kernel
theorem dL_law_821 : decode cL_law 821 = .ok (.aload_n 0, 1) := by decide +kernel
theorem dL_law_822 : decode cL_law 822 = .ok (.iload_n 3, 1) := by decide +kernel
theorem dL_law_823 : decode cL_law 823 = .ok (.iconst 1, 1) := by decide +kernel
theorem dL_law_824 : decode cL_law 824 = .ok (.iadd, 1) := by decide +kernel
theorem dL_law_825 : decode cL_law 825 = .ok (.iaload, 1) := by decide +kernel
theorem dL_law_826 : decode cL_law 826 = .ok (.invokevirtual 98, 3) := by decide +kernel
theorem dL_law_829 : decode cL_law 829 = .ok (.aload_n 2, 1) := by decide +kernel
theorem dL_law_830 : decode cL_law 830 = .ok (.aload_n 0, 1) := by decide +kernel
theorem dL_law_831 : decode cL_law 831 = .ok (.iload_n 3, 1) := by decide +kernel
theorem dL_law_832 : decode cL_law 832 = .ok (.iconst 1, 1) := by decide +kernel
theorem dL_law_833 : decode cL_law 833 = .ok (.iadd, 1) := by decide +kernel
theorem dL_law_834 : decode cL_law 834 = .ok (.iaload, 1) := by decide +kernel
theorem dL_law_835 : decode cL_law 835 = .ok (.invokevirtual 101, 3) := by decide +kernel
theorem dL_law_838 : decode cL_law 838 = .ok (.if_icmp .eq 127, 3) := by decide +kernel
theorem dL_law_841 : decode cL_law 841 = .ok (.iconst 0, 1) := by decide +kernel
theorem dL_law_842 : decode cL_law 842 = .ok (.ireturn, 1) := by decide +kernel
theorem dL_law_843 : decode cL_law 843 = .ok (.aload_n 1, 1) := by decide +kernel
theorem dL_law_844 : decode cL_law 844 = .ok (.aload_n 0, 1) := by decide +kernel
theorem dL_law_845 : decode cL_law 845 = .ok (.iload_n 3, 1) := by decide +kernel
theorem dL_law_846 : decode cL_law 846 = .ok (.iconst 1, 1) := by decide +kernel
theorem dL_law_847 : decode cL_law 847 = .ok (.iadd, 1) := by decide +kernel
theorem dL_law_848 : decode cL_law 848 = .ok (.iaload, 1) := by decide +kernel
theorem dL_law_849 : decode cL_law 849 = .ok (.invokevirtual 102, 3) := by decide +kernel
theorem dL_law_852 : decode cL_law 852 = .ok (.aload_n 2, 1) := by decide +kernel
theorem dL_law_853 : decode cL_law 853 = .ok (.aload_n 0, 1) := by decide +kernel
theorem dL_law_854 : decode cL_law 854 = .ok (.iload_n 3, 1) := by decide +kernel
theorem dL_law_855 : decode cL_law 855 = .ok (.iconst 1, 1) := by decide +kernel
theorem dL_law_856 : decode cL_law 856 = .ok (.iadd, 1) := by decide +kernel
theorem dL_law_857 : decode cL_law 857 = .ok (.iaload, 1) := by decide +kernel
theorem dL_law_858 : decode cL_law 858 = .ok (.invokevirtual 105, 3) := by decide +kernel
theorem dL_law_861 : decode cL_law 861 = .ok (.if_icmp .eq 104, 3) := by decide +kernel
theorem dL_law_864 : decode cL_law 864 = .ok (.iconst 0, 1) := by decide +kernel
theorem dL_law_865 : decode cL_law 865 = .ok (.ireturn, 1) := by decide +kernel
theorem dL_law_866 : decode cL_law 866 = .ok (.aload_n 1, 1) := by decide +kernel
theorem dL_law_867 : decode cL_law 867 = .ok (.aload_n 0, 1) := by decide +kernel
theorem dL_law_868 : decode cL_law 868 = .ok (.iload_n 3, 1) := by decide +kernel
theorem dL_law_869 : decode cL_law 869 = .ok (.iconst 1, 1) := by decide +kernel
theorem dL_law_870 : decode cL_law 870 = .ok (.iadd, 1) := by decide +kernel
theorem dL_law_871 : decode cL_law 871 = .ok (.iaload, 1) := by decide +kernel
theorem dL_law_872 : decode cL_law 872 = .ok (.invokevirtual 106, 3) := by decide +kernel
theorem dL_law_875 : decode cL_law 875 = .ok (.aload_n 2, 1) := by decide +kernel
theorem dL_law_876 : decode cL_law 876 = .ok (.aload_n 0, 1) := by decide +kernel
theorem dL_law_877 : decode cL_law 877 = .ok (.iload_n 3, 1) := by decide +kernel
theorem dL_law_878 : decode cL_law 878 = .ok (.iconst 1, 1) := by decide +kernel
theorem dL_law_879 : decode cL_law 879 = .ok (.iadd, 1) := by decide +kernel
theorem dL_law_880 : decode cL_law 880 = .ok (.iaload, 1) := by decide +kernel
theorem dL_law_881 : decode cL_law 881 = .ok (.invokevirtual 109, 3) := by decide +kernel
theorem dL_law_884 : decode cL_law 884 = .ok (.if_icmp .eq 81, 3) := by decide +kernel
theorem dL_law_887 : decode cL_law 887 = .ok (.iconst 0, 1) := by decide +kernel
theorem dL_law_888 : decode cL_law 888 = .ok (.ireturn, 1) := by decide +kernel
theorem dL_law_889 : decode cL_law 889 = .ok (.aload_n 1, 1) := by decide +kernel
theorem dL_law_890 : decode cL_law 890 = .ok (.invokevirtual 110, 3) := by decide +kernel
theorem dL_law_893 : decode cL_law 893 = .ok (.aload_n 2, 1) := by decide +kernel
theorem dL_law_894 : decode cL_law 894 = .ok (.invokevirtual 113, 3) := by decide +kernel
theorem dL_law_897 : decode cL_law 897 = .ok (.if_icmp .eq 68, 3) := by decide +kernel
theorem dL_law_900 : decode cL_law 900 = .ok (.iconst 0, 1) := by decide +kernel
theorem dL_law_901 : decode cL_law 901 = .ok (.ireturn, 1) := by decide +kernel
theorem dL_law_902 : decode cL_law 902 = .ok (.aload_n 1, 1) := by decide +kernel
theorem dL_law_903 : decode cL_law 903 = .ok (.invokevirtual 114, 3) := by decide +kernel
theorem dL_law_906 : decode cL_law 906 = .ok (.aload_n 2, 1) := by decide +kernel
theorem dL_law_907 : decode cL_law 907 = .ok (.invokevirtual 117, 3) := by decide +kernel
theorem dL_law_910 : decode cL_law 910 = .ok (.if_icmp .eq 55, 3) := by decide +kernel
theorem dL_law_913 : decode cL_law 913 = .ok (.iconst 0, 1) := by decide +kernel
theorem dL_law_914 : decode cL_law 914 = .ok (.ireturn, 1) := by decide +kernel
theorem dL_law_915 : decode cL_law 915 = .ok (.aload_n 1, 1) := by decide +kernel
theorem dL_law_916 : decode cL_law 916 = .ok (.invokevirtual 118, 3) := by decide +kernel
theorem dL_law_919 : decode cL_law 919 = .ok (.aload_n 2, 1) := by decide +kernel
theorem dL_law_920 : decode cL_law 920 = .ok (.invokevirtual 121, 3) := by decide +kernel
theorem dL_law_923 : decode cL_law 923 = .ok (.if_icmp .eq 42, 3) := by decide +kernel
theorem dL_law_926 : decode cL_law 926 = .ok (.iconst 0, 1) := by decide +kernel
theorem dL_law_927 : decode cL_law 927 = .ok (.ireturn, 1) := by decide +kernel
theorem dL_law_928 : decode cL_law 928 = .ok (.aload_n 1, 1) := by decide +kernel
theorem dL_law_929 : decode cL_law 929 = .ok (.aload_n 0, 1) := by decide +kernel
theorem dL_law_930 : decode cL_law 930 = .ok (.iload_n 3, 1) := by decide +kernel
theorem dL_law_931 : decode cL_law 931 = .ok (.iconst 1, 1) := by decide +kernel
theorem dL_law_932 : decode cL_law 932 = .ok (.iadd, 1) := by decide +kernel
theorem dL_law_933 : decode cL_law 933 = .ok (.iaload, 1) := by decide +kernel
theorem dL_law_934 : decode cL_law 934 = .ok (.invokevirtual 122, 3) := by decide +kernel
theorem dL_law_937 : decode cL_law 937 = .ok (.aload_n 2, 1) := by decide +kernel
theorem dL_law_938 : decode cL_law 938 = .ok (.aload_n 0, 1) := by decide +kernel
theorem dL_law_939 : decode cL_law 939 = .ok (.iload_n 3, 1) := by decide +kernel
theorem dL_law_940 : decode cL_law 940 = .ok (.iconst 1, 1) := by decide +kernel
theorem dL_law_941 : decode cL_law 941 = .ok (.iadd, 1) := by decide +kernel
theorem dL_law_942 : decode cL_law 942 = .ok (.iaload, 1) := by decide +kernel
theorem dL_law_943 : decode cL_law 943 = .ok (.invokevirtual 125, 3) := by decide +kernel
theorem dL_law_946 : decode cL_law 946 = .ok (.if_icmp .eq 19, 3) := by decide +kernel
theorem dL_law_949 : decode cL_law 949 = .ok (.iconst 0, 1) := by decide +kernel
theorem dL_law_950 : decode cL_law 950 = .ok (.ireturn, 1) := by decide +kernel
theorem dL_law_951 : decode cL_law 951 = .ok (.aload_n 1, 1) := by decide +kernel
theorem dL_law_952 : decode cL_law 952 = .ok (.invokevirtual 126, 3) := by decide +kernel
theorem dL_law_955 : decode cL_law 955 = .ok (.aload_n 2, 1) := by decide +kernel
theorem dL_law_956 : decode cL_law 956 = .ok (.invokevirtual 130, 3) := by decide +kernel
theorem dL_law_959 : decode cL_law 959 = .ok (.lcmp, 1) := by decide +kernel
theorem dL_law_960 : decode cL_law 960 = .ok (.ifCond .eq 5, 3) := by decide +kernel
theorem dL_law_963 : decode cL_law 963 = .ok (.iconst 0, 1) := by decide +kernel
theorem dL_law_964 : decode cL_law 964 = .ok (.ireturn, 1) := by decide +kernel
theorem dL_law_965 : decode cL_law 965 = .ok (.iinc 3 6, 3) := by decide +kernel
theorem dL_law_968 : decode cL_law 968 = .ok (.goto (-950), 3) := by decide +kernel
theorem dL_law_971 : decode cL_law 971 = .ok (.iconst 1, 1) := by decide +kernel
theorem dL_law_972 : decode cL_law 972 = .ok (.ireturn, 1) := by decide +kernel
end
section
/-! ===== methods that make no cell: contracts by what they answer ===== -/
def q_i (lim : Nat) (σ : gj_H) (P : Int32 → gj_V → Prop) : gj_Q := fun r l s v => l = lim ∧ s = σ ∧ ∃ x : Int32, r = some (.int x) ∧ P x v
def q_l (lim : Nat) (σ : gj_H) (P : Int64 → gj_V → Prop) : gj_Q := fun r l s v => l = lim ∧ s = σ ∧ ∃ x : Int64, r = some (.long x) ∧ P x v
def q_v (lim : Nat) (σ : gj_H) (P : gj_V → Prop) : gj_Q := fun r l s v => l = lim ∧ s = σ ∧ r = none ∧ P v
section GV
variable {X : gj_X} {d d' : Nat} {M N : gj_M} {Q : gj_Q} {lim : Nat} {σ : gj_H} {v : gj_V} {pc q index n b ci : Nat} {L : List (Option Value)} {st0 As rest : List Value} {t : List (Option (Option Nat))}
theorem c_Vi {P : Int32 → gj_V → Prop} (hE : gj_E X d' N (.ref b :: As) lim σ v (q_i lim σ P)) (hk : gj_CkV M.2.1.cls index N n) (hs : σ b = some (.inl (ci, t))) (hcl : (vwCl[ci]?).map (fun z => z.1) = some N.2.1.cls) (hd' : d' < d) (hn : As.length = n) (hst : st0 = As.reverse ++ .ref b :: rest) (hrm : (rest.map fun v => v.category).sum ≤ 8) (hz : N.2.2.2.2.1 = 0) (hz2 : N.2.2.2.2.2 = 0) (hd : decode M.1 pc = .ok (.invokevirtual index, 3)) (hq : pc + 3 = q)
    (kk : ∀ (x : Int32) (v' : gj_V), P x v' → gj_G X d M Q lim σ v' 0 0 q L (.int x :: rest)) : gj_G X d M Q lim σ v 0 0 pc L st0 := by
  refine g_callV hk hs hcl hd' hn hst hrm (by rw [hz]; exact Nat.zero_le _) (by rw [hz2]; exact Nat.zero_le _) hd hq hE ?_
  rintro r l' s' v' ⟨rfl, rfl, x, rfl, h⟩
  rw [hz, hz2]
  exact kk x v' h
theorem c_Vv {P : gj_V → Prop} (hE : gj_E X d' N (.ref b :: As) lim σ v (q_v lim σ P)) (hk : gj_CkV M.2.1.cls index N n) (hs : σ b = some (.inl (ci, t))) (hcl : (vwCl[ci]?).map (fun z => z.1) = some N.2.1.cls) (hd' : d' < d) (hn : As.length = n) (hst : st0 = As.reverse ++ .ref b :: rest) (hrm : (rest.map fun v => v.category).sum ≤ 8) (hz : N.2.2.2.2.1 = 0) (hz2 : N.2.2.2.2.2 = 0) (hd : decode M.1 pc = .ok (.invokevirtual index, 3)) (hq : pc + 3 = q)
    (kk : ∀ (v' : gj_V), P v' → gj_G X d M Q lim σ v' 0 0 q L rest) : gj_G X d M Q lim σ v 0 0 pc L st0 := by
  refine g_callV hk hs hcl hd' hn hst hrm (by rw [hz]; exact Nat.zero_le _) (by rw [hz2]; exact Nat.zero_le _) hd hq hE ?_
  rintro r l' s' v' ⟨rfl, rfl, rfl, h⟩
  rw [hz, hz2]
  exact kk v' h
theorem c_Vl {P : Int64 → gj_V → Prop} (hE : gj_E X d' N (.ref b :: As) lim σ v (q_l lim σ P)) (hk : gj_CkV M.2.1.cls index N n) (hs : σ b = some (.inl (ci, t))) (hcl : (vwCl[ci]?).map (fun z => z.1) = some N.2.1.cls) (hd' : d' < d) (hn : As.length = n) (hst : st0 = As.reverse ++ .ref b :: rest) (hrm : (rest.map fun v => v.category).sum ≤ 8) (hz : N.2.2.2.2.1 = 0) (hz2 : N.2.2.2.2.2 = 0) (hd : decode M.1 pc = .ok (.invokevirtual index, 3)) (hq : pc + 3 = q)
    (kk : ∀ (x : Int64) (v' : gj_V), P x v' → gj_G X d M Q lim σ v' 0 0 q L (.long x :: rest)) : gj_G X d M Q lim σ v 0 0 pc L st0 := by
  refine g_callV hk hs hcl hd' hn hst hrm (by rw [hz]; exact Nat.zero_le _) (by rw [hz2]; exact Nat.zero_le _) hd hq hE ?_
  rintro r l' s' v' ⟨rfl, rfl, x, rfl, h⟩
  rw [hz, hz2]
  exact kk x v' h
theorem c_Si {P : Int32 → gj_V → Prop} (hE : gj_E X d' N As lim σ v (q_i lim σ P)) (hk : gj_CkS M.2.1.cls index N n) (hd' : d' < d) (hn : As.length = n) (hst : st0 = As.reverse ++ rest) (hrm : (rest.map fun v => v.category).sum ≤ 8) (hz : N.2.2.2.2.1 = 0) (hz2 : N.2.2.2.2.2 = 0) (hd : decode M.1 pc = .ok (.invokestatic index, 3)) (hq : pc + 3 = q)
    (kk : ∀ (x : Int32) (v' : gj_V), P x v' → gj_G X d M Q lim σ v' 0 0 q L (.int x :: rest)) : gj_G X d M Q lim σ v 0 0 pc L st0 := by
  refine g_callS hk hd' hn hst hrm (by rw [hz]; exact Nat.zero_le _) (by rw [hz2]; exact Nat.zero_le _) hd hq hE ?_
  rintro r l' s' v' ⟨rfl, rfl, x, rfl, h⟩
  rw [hz, hz2]
  exact kk x v' h
theorem c_Sv {P : gj_V → Prop} (hE : gj_E X d' N As lim σ v (q_v lim σ P)) (hk : gj_CkS M.2.1.cls index N n) (hd' : d' < d) (hn : As.length = n) (hst : st0 = As.reverse ++ rest) (hrm : (rest.map fun v => v.category).sum ≤ 8) (hz : N.2.2.2.2.1 = 0) (hz2 : N.2.2.2.2.2 = 0) (hd : decode M.1 pc = .ok (.invokestatic index, 3)) (hq : pc + 3 = q)
    (kk : ∀ (v' : gj_V), P v' → gj_G X d M Q lim σ v' 0 0 q L rest) : gj_G X d M Q lim σ v 0 0 pc L st0 := by
  refine g_callS hk hd' hn hst hrm (by rw [hz]; exact Nat.zero_le _) (by rw [hz2]; exact Nat.zero_le _) hd hq hE ?_
  rintro r l' s' v' ⟨rfl, rfl, rfl, h⟩
  rw [hz, hz2]
  exact kk v' h
theorem c_Sl {P : Int64 → gj_V → Prop} (hE : gj_E X d' N As lim σ v (q_l lim σ P)) (hk : gj_CkS M.2.1.cls index N n) (hd' : d' < d) (hn : As.length = n) (hst : st0 = As.reverse ++ rest) (hrm : (rest.map fun v => v.category).sum ≤ 8) (hz : N.2.2.2.2.1 = 0) (hz2 : N.2.2.2.2.2 = 0) (hd : decode M.1 pc = .ok (.invokestatic index, 3)) (hq : pc + 3 = q)
    (kk : ∀ (x : Int64) (v' : gj_V), P x v' → gj_G X d M Q lim σ v' 0 0 q L (.long x :: rest)) : gj_G X d M Q lim σ v 0 0 pc L st0 := by
  refine g_callS hk hd' hn hst hrm (by rw [hz]; exact Nat.zero_le _) (by rw [hz2]; exact Nat.zero_le _) hd hq hE ?_
  rintro r l' s' v' ⟨rfl, rfl, x, rfl, h⟩
  rw [hz, hz2]
  exact kk x v' h
theorem r_i {P : Int32 → gj_V → Prop} {x : Int32} (hd : decode M.1 pc = .ok (.ireturn, 1)) (hr : M.2.2.2.1 = some .int) (hkc : 0 = M.2.2.2.2.1) (hks : 0 = M.2.2.2.2.2) (h : P x v) : gj_G X d M (q_i lim σ P) lim σ v 0 0 pc L [.int x] := g_iret hr hkc hks hd ⟨rfl, rfl, x, rfl, h⟩
theorem r_z {P : Int32 → gj_V → Prop} {x : Int32} (hd : decode M.1 pc = .ok (.ireturn, 1)) (hr : M.2.2.2.1 = some .boolean) (hkc : 0 = M.2.2.2.2.1) (hks : 0 = M.2.2.2.2.2) (hz : narrow .boolean (.int x) = .int x) (h : P x v) : gj_G X d M (q_i lim σ P) lim σ v 0 0 pc L [.int x] := g_zret hr hz hkc hks hd ⟨rfl, rfl, x, rfl, h⟩
theorem r_l {P : Int64 → gj_V → Prop} {x : Int64} (hd : decode M.1 pc = .ok (.lreturn, 1)) (hr : M.2.2.2.1 = some .long) (hkc : 0 = M.2.2.2.2.1) (hks : 0 = M.2.2.2.2.2) (h : P x v) : gj_G X d M (q_l lim σ P) lim σ v 0 0 pc L [.long x] := g_lret hr hkc hks hd ⟨rfl, rfl, x, rfl, h⟩
theorem r_v {P : gj_V → Prop} (hd : decode M.1 pc = .ok (.return_, 1)) (hr : M.2.2.2.1 = none) (hkc : 0 = M.2.2.2.2.1) (hks : 0 = M.2.2.2.2.2) (h : P v) : gj_G X d M (q_v lim σ P) lim σ v 0 0 pc L [] := g_vret hr hkc hks hd ⟨rfl, rfl, rfl, h⟩
/-- a contract's answer may be said more weakly -/
theorem gj_E.mono {Q Q' : gj_Q} {as : List Value} (h : gj_E X d M as lim σ v Q) (hq : ∀ r l s v, Q r l s v → Q' r l s v) : gj_E X d M as lim σ v Q' := by
  unfold gj_E Met at h ⊢
  refine MetFree.mono h (fun _ _ h => h) (fun _ _ _ _ _ h => h) (fun a st o t _ hh => ?_)
  obtain ⟨⟨⟨r, l', s', v', e1, e2, e3⟩, e4⟩, e5⟩ := hh
  exact ⟨⟨⟨r, l', s', v', e1, hq _ _ _ _ e2, e3⟩, e4⟩, e5⟩
theorem gj_E_at {as : List Value} {k : Nat} (hl : L = gj_ent as ++ List.replicate k none) (hy : plainName M.2.1.cls = true) (hL : Nat.ble (lg_sl as).length M.2.2.1 = true) (h : gj_G X d M Q lim σ v 0 0 0 L []) : gj_E X d M as lim σ v Q := by
  refine gj_E_of hy hL ?_ h
  intro i w hw
  subst hl
  by_cases hi : i < (gj_ent as).length
  · rw [List.getElem?_append_left hi] at hw
    exact hw
  · rw [List.getElem?_append_right (by omega), List.getElem?_replicate] at hw
    split at hw <;> simp at hw
end GV
/-- locals forgotten, place by place -/
def gj_wk : List (Option Value) → List (Option Value) → Prop
  | [], _ => True
  | none :: r, _ :: s => gj_wk r s
  | none :: r, [] => gj_wk r []
  | some x :: r, y :: s => y = some x ∧ gj_wk r s
  | some _ :: _, [] => False
theorem gj_wk_spec : ∀ (L' L : List (Option Value)), gj_wk L' L → ∀ (i : Nat) (w : Value), L'[i]? = some (some w) → L[i]? = some (some w)
  | [], L, _, i, w, h => by simp at h
  | none :: r, y :: s, h, i, w, hw => by
    rcases i with _ | i
    · simp at hw
    · have := gj_wk_spec r s h i w (by simpa using hw)
      simpa using this
  | none :: r, [], h, i, w, hw => by
    rcases i with _ | i
    · simp at hw
    · have := gj_wk_spec r [] h i w (by simpa using hw)
      simp at this
  | some x :: r, y :: s, h, i, w, hw => by
    obtain ⟨h1, h2⟩ := h
    rcases i with _ | i
    · simp at hw
      subst hw
      simp [h1]
    · have := gj_wk_spec r s h2 i w (by simpa using hw)
      simpa using this
  | some x :: r, [], h, i, w, hw => False.elim h
theorem g_wk {X : gj_X} {d : Nat} {M : gj_M} {Q : gj_Q} {lim : Nat} {σ : gj_H} {v : gj_V} {kc ks pc : Nat} {L L' : List (Option Value)} {st : List Value} (h : gj_wk L' L) (k : gj_G X d M Q lim σ v kc ks pc L' st) : gj_G X d M Q lim σ v kc ks pc L st := g_weak (gj_wk_spec L' L h) k
/-! numbers -/
theorem gn_lit (n : Nat) : (OfNat.ofNat n : Int32) = nI n := rfl
theorem gn_b0 {c : Prop} [Decidable c] (h : (if c then (1 : Int32) else 0) = 0) : ¬ c := by
  intro hc
  rw [if_pos hc] at h
  exact absurd h (by decide)
theorem gn_b1 {c : Prop} [Decidable c] (h : ¬ (if c then (1 : Int32) else 0) = 0) : c := by
  by_cases hc : c
  · exact hc
  · rw [if_neg hc] at h
    exact absurd rfl h
theorem gn_bz {c : Prop} [Decidable c] : narrow .boolean (.int (if c then (1 : Int32) else 0)) = .int (if c then (1 : Int32) else 0) := by
  by_cases hc : c
  · rw [if_pos hc]; decide
  · rw [if_neg hc]; decide
theorem gn_w0 {c : Prop} [Decidable c] (h : (if c then (0 : Int32) else 1) = 0) : c := by
  by_cases hc : c
  · exact hc
  · rw [if_neg hc] at h
    exact absurd h (by decide)
theorem gn_w1 {c : Prop} [Decidable c] (h : ¬ (if c then (0 : Int32) else 1) = 0) : ¬ c := by
  intro hc
  rw [if_pos hc] at h
  exact absurd rfl h
/-! the heap's values -/
theorem gu_s (v : gj_V) (a : Nat) (f : Nat → Int32) : gj_up v a f a = f := va_up_self v a f
theorem gu_n (v : gj_V) {a b : Nat} (f : Nat → Int32) (h : b ≠ a) : gj_up v a f b = v b := va_up_ne v f h
theorem gu_2 (v : gj_V) (a k : Nat) (x : Int32) : gj_up2 v a k x = gj_up v a (upd (v a) k x) := rfl
theorem gu_u (v : gj_V) (a : Nat) (f g : Nat → Int32) : gj_up (gj_up v a f) a g = gj_up v a g := by
  funext b
  by_cases h : b = a
  · subst h; rw [gu_s, gu_s]
  · rw [gu_n _ _ h, gu_n _ _ h, gu_n _ _ h]
theorem gu_id (v : gj_V) (a : Nat) : gj_up v a (v a) = v := by
  funext b
  by_cases h : b = a
  · subst h; rw [gu_s]
  · rw [gu_n _ _ h]
theorem ud_s (f : Nat → Int32) (k : Nat) (x : Int32) : upd f k x k = x := by simp [upd]
theorem ud_n (f : Nat → Int32) {k j : Nat} (x : Int32) (h : j ≠ k) : upd f k x j = f j := by simp [upd, h]
end
section
/-! ===== Gate, Worker, Station: their objects are rows of ints ===== -/
def ag_in (f : Nat → Int32) : Nat → Int32 := upd (upd (upd f 0 (f 0 + 1)) 1 (f 1 + 1)) 2 (if f 2 < f 1 + 1 then f 1 + 1 else f 2)
def ag_out (f : Nat → Int32) : Nat → Int32 := upd f 1 (f 1 - 1)
def ag_thr (f : Nat → Int32) : Nat → Int32 := upd (upd f 1 (f 1 - 1)) 3 (f 3 + 1)
def ag_cp (n : Nat) (f g : Nat → Int32) : Nat → Int32 := fun k => if k < n then g k else f k
abbrev sh_gate : gj_S := .inl (2, [none, none, none, none])
abbrev sh_work : gj_S := .inl (9, [none, none, none, none])
abbrev sh_stat : gj_S := .inl (7, [none, none, none, none, none, none, none, none, none, none, none, none])

set_option maxRecDepth 100000 in
set_option maxHeartbeats 4000000 in
theorem p_X2_enter {X : gj_X} {lim : Nat} {σ : gj_H} {v : gj_V} {a : Nat} (hs : σ a = some sh_gate) : gj_E X 0 m_X2_enter [.ref a] lim σ v (q_v lim σ (fun v' => v' = gj_up v a (ag_in (v a)))) := by
  refine gj_E_at (L := [some (.ref a)]) (k := 0) rfl (by decide) rfl ?_
  refine g_aload_n (q := 1) dX2_enter_0 rfl rfl ?_
  refine g_dup (q := 2) dX2_enter_1 rfl rfl ?_
  refine g_getI (q := 5) f_X2_7 (by assumption) rfl dX2_enter_2 rfl ?_
  refine g_iconst (q := 6) (x := 1) dX2_enter_5 (by decide) rfl ?_
  refine g_iadd (q := 7) dX2_enter_6 rfl ?_
  refine g_putI (q := 10) f_X2_7 (by assumption) rfl rfl rfl dX2_enter_7 rfl ?_
  refine g_aload_n (q := 11) dX2_enter_10 rfl rfl ?_
  refine g_dup (q := 12) dX2_enter_11 rfl rfl ?_
  refine g_getI (q := 15) f_X2_13 (by assumption) rfl dX2_enter_12 rfl ?_
  refine g_iconst (q := 16) (x := 1) dX2_enter_15 (by decide) rfl ?_
  refine g_iadd (q := 17) dX2_enter_16 rfl ?_
  refine g_putI (q := 20) f_X2_13 (by assumption) rfl rfl rfl dX2_enter_17 rfl ?_
  refine g_aload_n (q := 21) dX2_enter_20 rfl rfl ?_
  refine g_aload_n (q := 22) dX2_enter_21 rfl rfl ?_
  refine g_getI (q := 25) f_X2_16 (by assumption) rfl dX2_enter_22 rfl ?_
  refine g_aload_n (q := 26) dX2_enter_25 rfl rfl ?_
  refine g_getI (q := 29) f_X2_13 (by assumption) rfl dX2_enter_26 rfl ?_
  refine g_max (q := 32) k_X2_19 (Nat.le_of_ble_eq_true rfl) (Nat.le_refl 0) (Nat.le_refl 0) dX2_enter_29 rfl ?_
  refine g_putI (q := 35) f_X2_16 (by assumption) rfl rfl rfl dX2_enter_32 rfl ?_
  refine r_v dX2_enter_35 rfl rfl rfl ?_
  show _ = _
  simp only [gu_2, gu_u, gu_s]
  congr 1

set_option maxRecDepth 100000 in
set_option maxHeartbeats 4000000 in
theorem p_X2_leave {X : gj_X} {lim : Nat} {σ : gj_H} {v : gj_V} {a : Nat} (hs : σ a = some sh_gate) : gj_E X 0 m_X2_leave [.ref a] lim σ v (q_v lim σ (fun v' => v' = gj_up v a (ag_out (v a)))) := by
  refine gj_E_at (L := [some (.ref a)]) (k := 0) rfl (by decide) rfl ?_
  refine g_aload_n (q := 1) dX2_leave_0 rfl rfl ?_
  refine g_dup (q := 2) dX2_leave_1 rfl rfl ?_
  refine g_getI (q := 5) f_X2_13 (by assumption) rfl dX2_leave_2 rfl ?_
  refine g_iconst (q := 6) (x := 1) dX2_leave_5 (by decide) rfl ?_
  refine g_isub (q := 7) dX2_leave_6 rfl ?_
  refine g_putI (q := 10) f_X2_13 (by assumption) rfl rfl rfl dX2_leave_7 rfl ?_
  refine r_v dX2_leave_10 rfl rfl rfl ?_
  show _ = _
  simp only [gu_2, gu_u, gu_s]
  rfl

set_option maxRecDepth 100000 in
set_option maxHeartbeats 4000000 in
theorem p_X2_leaveThrown {X : gj_X} {lim : Nat} {σ : gj_H} {v : gj_V} {a : Nat} (hs : σ a = some sh_gate) : gj_E X 0 m_X2_leaveThrown [.ref a] lim σ v (q_v lim σ (fun v' => v' = gj_up v a (ag_thr (v a)))) := by
  refine gj_E_at (L := [some (.ref a)]) (k := 0) rfl (by decide) rfl ?_
  refine g_aload_n (q := 1) dX2_leaveThrown_0 rfl rfl ?_
  refine g_dup (q := 2) dX2_leaveThrown_1 rfl rfl ?_
  refine g_getI (q := 5) f_X2_13 (by assumption) rfl dX2_leaveThrown_2 rfl ?_
  refine g_iconst (q := 6) (x := 1) dX2_leaveThrown_5 (by decide) rfl ?_
  refine g_isub (q := 7) dX2_leaveThrown_6 rfl ?_
  refine g_putI (q := 10) f_X2_13 (by assumption) rfl rfl rfl dX2_leaveThrown_7 rfl ?_
  refine g_aload_n (q := 11) dX2_leaveThrown_10 rfl rfl ?_
  refine g_dup (q := 12) dX2_leaveThrown_11 rfl rfl ?_
  refine g_getI (q := 15) f_X2_25 (by assumption) rfl dX2_leaveThrown_12 rfl ?_
  refine g_iconst (q := 16) (x := 1) dX2_leaveThrown_15 (by decide) rfl ?_
  refine g_iadd (q := 17) dX2_leaveThrown_16 rfl ?_
  refine g_putI (q := 20) f_X2_25 (by assumption) rfl rfl rfl dX2_leaveThrown_17 rfl ?_
  refine r_v dX2_leaveThrown_20 rfl rfl rfl ?_
  show _ = _
  simp only [gu_2, gu_u, gu_s]
  rfl

set_option maxRecDepth 100000 in
set_option maxHeartbeats 4000000 in
theorem p_X2_startAnew {X : gj_X} {lim : Nat} {σ : gj_H} {v : gj_V} {a : Nat} (hs : σ a = some sh_gate) : gj_E X 0 m_X2_startAnew [.ref a] lim σ v (q_v lim σ (fun v' => v' = gj_up v a (ag_cp 4 (v a) (fun _ => 0)))) := by
  refine gj_E_at (L := [some (.ref a)]) (k := 0) rfl (by decide) rfl ?_
  refine g_aload_n (q := 1) dX2_startAnew_0 rfl rfl ?_
  refine g_iconst (q := 2) (x := 0) dX2_startAnew_1 (by decide) rfl ?_
  refine g_putI (q := 5) f_X2_7 (by assumption) rfl rfl rfl dX2_startAnew_2 rfl ?_
  refine g_aload_n (q := 6) dX2_startAnew_5 rfl rfl ?_
  refine g_iconst (q := 7) (x := 0) dX2_startAnew_6 (by decide) rfl ?_
  refine g_putI (q := 10) f_X2_13 (by assumption) rfl rfl rfl dX2_startAnew_7 rfl ?_
  refine g_aload_n (q := 11) dX2_startAnew_10 rfl rfl ?_
  refine g_iconst (q := 12) (x := 0) dX2_startAnew_11 (by decide) rfl ?_
  refine g_putI (q := 15) f_X2_16 (by assumption) rfl rfl rfl dX2_startAnew_12 rfl ?_
  refine g_aload_n (q := 16) dX2_startAnew_15 rfl rfl ?_
  refine g_iconst (q := 17) (x := 0) dX2_startAnew_16 (by decide) rfl ?_
  refine g_putI (q := 20) f_X2_25 (by assumption) rfl rfl rfl dX2_startAnew_17 rfl ?_
  refine r_v dX2_startAnew_20 rfl rfl rfl ?_
  show _ = _
  simp only [gu_2, gu_u, gu_s]
  congr 1
  funext k
  rcases k with _ | _ | _ | _ | k <;> simp [upd, ag_cp]
  all_goals (intro h; exact absurd h (by omega))

set_option maxRecDepth 100000 in
set_option maxHeartbeats 4000000 in
theorem p_X2_copyFrom {X : gj_X} {lim : Nat} {σ : gj_H} {v : gj_V} {a b : Nat} (hs : σ a = some sh_gate) (hs2 : σ b = some sh_gate) (hab : b ≠ a) : gj_E X 0 m_X2_copyFrom [.ref a, .ref b] lim σ v (q_v lim σ (fun v' => v' = gj_up v a (ag_cp 4 (v a) (v b)))) := by
  refine gj_E_at (L := [some (.ref a), some (.ref b)]) (k := 0) rfl (by decide) rfl ?_
  refine g_aload_n (q := 1) dX2_copyFrom_0 rfl rfl ?_
  refine g_aload_n (q := 2) dX2_copyFrom_1 rfl rfl ?_
  refine g_getI (q := 5) f_X2_7 (by assumption) rfl dX2_copyFrom_2 rfl ?_
  refine g_putI (q := 8) f_X2_7 (by assumption) rfl rfl rfl dX2_copyFrom_5 rfl ?_
  refine g_aload_n (q := 9) dX2_copyFrom_8 rfl rfl ?_
  refine g_aload_n (q := 10) dX2_copyFrom_9 rfl rfl ?_
  refine g_getI (q := 13) f_X2_13 (by assumption) rfl dX2_copyFrom_10 rfl ?_
  refine g_putI (q := 16) f_X2_13 (by assumption) rfl rfl rfl dX2_copyFrom_13 rfl ?_
  refine g_aload_n (q := 17) dX2_copyFrom_16 rfl rfl ?_
  refine g_aload_n (q := 18) dX2_copyFrom_17 rfl rfl ?_
  refine g_getI (q := 21) f_X2_16 (by assumption) rfl dX2_copyFrom_18 rfl ?_
  refine g_putI (q := 24) f_X2_16 (by assumption) rfl rfl rfl dX2_copyFrom_21 rfl ?_
  refine g_aload_n (q := 25) dX2_copyFrom_24 rfl rfl ?_
  refine g_aload_n (q := 26) dX2_copyFrom_25 rfl rfl ?_
  refine g_getI (q := 29) f_X2_25 (by assumption) rfl dX2_copyFrom_26 rfl ?_
  refine g_putI (q := 32) f_X2_25 (by assumption) rfl rfl rfl dX2_copyFrom_29 rfl ?_
  refine r_v dX2_copyFrom_32 rfl rfl rfl ?_
  show _ = _
  simp only [gu_2, gu_u, gu_s, gu_n _ _ hab]
  congr 1
  funext k
  rcases k with _ | _ | _ | _ | k <;> simp [upd, ag_cp]
  all_goals (intro h; exact absurd h (by omega))

def aw_no (f : Nat → Int32) : Nat → Int32 := upd (upd (upd f 0 (-1)) 1 (-1)) 2 (-1)
def aw_for (f : Nat → Int32) (b w k : Int32) : Nat → Int32 := upd (upd (upd f 0 b) 1 w) 2 (if w = 0 then k else -1)
def aw_told (f : Nat → Int32) (k : Nat) : Int32 := match k with
  | 0 => if f 1 = -1 then 0 else 1
  | 1 => f 0
  | 2 => f 1
  | 3 => f 2
  | _ => f 3

set_option maxRecDepth 100000 in
set_option maxHeartbeats 4000000 in
theorem p_X9_waits {X : gj_X} {lim : Nat} {σ : gj_H} {v : gj_V} {a : Nat} (hs : σ a = some sh_work) : gj_E X 0 m_X9_waits [.ref a] lim σ v (q_i lim σ (fun x v' => x = (if v a 1 = -1 then 0 else 1) ∧ v' = v)) := by
  refine gj_E_at (L := [some (.ref a)]) (k := 0) rfl (by decide) rfl ?_
  refine g_aload_n (q := 1) dX9_waits_0 rfl rfl ?_
  refine g_getI (q := 4) f_X9_9 (by assumption) rfl dX9_waits_1 rfl ?_
  refine g_iconst (q := 5) (x := (-1)) dX9_waits_4 (by decide) rfl ?_
  refine g_icmpeq (t := 12) (q := 8) dX9_waits_5 (by decide) rfl (fun h5 => ?_) (fun h5 => ?_)
  · refine g_iconst (q := 13) (x := 0) dX9_waits_12 (by decide) rfl ?_
    refine r_z dX9_waits_13 rfl rfl rfl (by decide) ?_
    simp_all
  · refine g_iconst (q := 9) (x := 1) dX9_waits_8 (by decide) rfl ?_
    refine g_goto (q := 13) dX9_waits_9 (by decide) ?_
    refine r_z dX9_waits_13 rfl rfl rfl (by decide) ?_
    simp_all

set_option maxRecDepth 100000 in
set_option maxHeartbeats 4000000 in
theorem p_X9_wishNoMore {X : gj_X} {lim : Nat} {σ : gj_H} {v : gj_V} {a : Nat} (hs : σ a = some sh_work) : gj_E X 0 m_X9_wishNoMore [.ref a] lim σ v (q_v lim σ (fun v' => v' = gj_up v a (aw_no (v a)))) := by
  refine gj_E_at (L := [some (.ref a)]) (k := 0) rfl (by decide) rfl ?_
  refine g_aload_n (q := 1) dX9_wishNoMore_0 rfl rfl ?_
  refine g_iconst (q := 2) (x := (-1)) dX9_wishNoMore_1 (by decide) rfl ?_
  refine g_putI (q := 5) f_X9_15 (by assumption) rfl rfl rfl dX9_wishNoMore_2 rfl ?_
  refine g_aload_n (q := 6) dX9_wishNoMore_5 rfl rfl ?_
  refine g_iconst (q := 7) (x := (-1)) dX9_wishNoMore_6 (by decide) rfl ?_
  refine g_putI (q := 10) f_X9_9 (by assumption) rfl rfl rfl dX9_wishNoMore_7 rfl ?_
  refine g_aload_n (q := 11) dX9_wishNoMore_10 rfl rfl ?_
  refine g_iconst (q := 12) (x := (-1)) dX9_wishNoMore_11 (by decide) rfl ?_
  refine g_putI (q := 15) f_X9_18 (by assumption) rfl rfl rfl dX9_wishNoMore_12 rfl ?_
  refine r_v dX9_wishNoMore_15 rfl rfl rfl ?_
  show _ = _
  simp only [gu_2, gu_u, gu_s]
  rfl

set_option maxRecDepth 100000 in
set_option maxHeartbeats 4000000 in
theorem p_X9_wishFor {X : gj_X} {lim : Nat} {σ : gj_H} {v : gj_V} {a : Nat} {x y z : Int32} (hs : σ a = some sh_work) : gj_E X 0 m_X9_wishFor [.ref a, .int x, .int y, .int z] lim σ v (q_v lim σ (fun v' => v' = gj_up v a (aw_for (v a) x y z))) := by
  refine gj_E_at (L := [some (.ref a), some (.int x), some (.int y), some (.int z)]) (k := 0) rfl (by decide) rfl ?_
  refine g_aload_n (q := 1) dX9_wishFor_0 rfl rfl ?_
  refine g_iload_n (q := 2) dX9_wishFor_1 rfl rfl ?_
  refine g_putI (q := 5) f_X9_15 (by assumption) rfl rfl rfl dX9_wishFor_2 rfl ?_
  refine g_aload_n (q := 6) dX9_wishFor_5 rfl rfl ?_
  refine g_iload_n (q := 7) dX9_wishFor_6 rfl rfl ?_
  refine g_putI (q := 10) f_X9_9 (by assumption) rfl rfl rfl dX9_wishFor_7 rfl ?_
  refine g_aload_n (q := 11) dX9_wishFor_10 rfl rfl ?_
  refine g_iload_n (q := 12) dX9_wishFor_11 rfl rfl ?_
  refine g_ifne (t := 19) (q := 15) dX9_wishFor_12 (by decide) rfl (fun h12 => ?_) (fun h12 => ?_)
  · refine g_iconst (q := 20) (x := (-1)) dX9_wishFor_19 (by decide) rfl ?_
    refine g_putI (q := 23) f_X9_18 (by assumption) rfl rfl rfl dX9_wishFor_20 rfl ?_
    refine r_v dX9_wishFor_23 rfl rfl rfl ?_
    show _ = _
    simp only [gu_2, gu_u, gu_s]
    simp [aw_for, h12]
  · refine g_iload_n (q := 16) dX9_wishFor_15 rfl rfl ?_
    refine g_goto (q := 20) dX9_wishFor_16 (by decide) ?_
    refine g_putI (q := 23) f_X9_18 (by assumption) rfl rfl rfl dX9_wishFor_20 rfl ?_
    refine r_v dX9_wishFor_23 rfl rfl rfl ?_
    show _ = _
    simp only [gu_2, gu_u, gu_s]
    simp [aw_for, h12]

set_option maxRecDepth 100000 in
set_option maxHeartbeats 4000000 in
theorem p_X9_startAnew {X : gj_X} {lim : Nat} {σ : gj_H} {v : gj_V} {a : Nat} (hs : σ a = some sh_work) : gj_E X 1 m_X9_startAnew [.ref a] lim σ v (q_v lim σ (fun v' => v' = gj_up v a (upd (aw_no (v a)) 3 (-1)))) := by
  refine gj_E_at (L := [some (.ref a)]) (k := 0) rfl (by decide) rfl ?_
  refine g_aload_n (q := 1) dX9_startAnew_0 rfl rfl ?_
  refine c_Vv (q := 4) (p_X9_wishNoMore hs) k_X9_28 (by assumption) rfl (by decide) rfl rfl (Nat.le_of_ble_eq_true rfl) rfl rfl dX9_startAnew_1 rfl ?_
  rintro v1 rfl
  refine g_aload_n (q := 5) dX9_startAnew_4 rfl rfl ?_
  refine g_iconst (q := 6) (x := (-1)) dX9_startAnew_5 (by decide) rfl ?_
  refine g_putI (q := 9) f_X9_25 (by assumption) rfl rfl rfl dX9_startAnew_6 rfl ?_
  refine r_v dX9_startAnew_9 rfl rfl rfl ?_
  show _ = _
  simp only [gu_2, gu_u, gu_s]

set_option maxRecDepth 100000 in
set_option maxHeartbeats 4000000 in
theorem p_X9_copyFrom {X : gj_X} {lim : Nat} {σ : gj_H} {v : gj_V} {a b : Nat} (hs : σ a = some sh_work) (hs2 : σ b = some sh_work) (hab : b ≠ a) : gj_E X 0 m_X9_copyFrom [.ref a, .ref b] lim σ v (q_v lim σ (fun v' => v' = gj_up v a (ag_cp 4 (v a) (v b)))) := by
  refine gj_E_at (L := [some (.ref a), some (.ref b)]) (k := 0) rfl (by decide) rfl ?_
  refine g_aload_n (q := 1) dX9_copyFrom_0 rfl rfl ?_
  refine g_aload_n (q := 2) dX9_copyFrom_1 rfl rfl ?_
  refine g_getI (q := 5) f_X9_15 (by assumption) rfl dX9_copyFrom_2 rfl ?_
  refine g_putI (q := 8) f_X9_15 (by assumption) rfl rfl rfl dX9_copyFrom_5 rfl ?_
  refine g_aload_n (q := 9) dX9_copyFrom_8 rfl rfl ?_
  refine g_aload_n (q := 10) dX9_copyFrom_9 rfl rfl ?_
  refine g_getI (q := 13) f_X9_9 (by assumption) rfl dX9_copyFrom_10 rfl ?_
  refine g_putI (q := 16) f_X9_9 (by assumption) rfl rfl rfl dX9_copyFrom_13 rfl ?_
  refine g_aload_n (q := 17) dX9_copyFrom_16 rfl rfl ?_
  refine g_aload_n (q := 18) dX9_copyFrom_17 rfl rfl ?_
  refine g_getI (q := 21) f_X9_18 (by assumption) rfl dX9_copyFrom_18 rfl ?_
  refine g_putI (q := 24) f_X9_18 (by assumption) rfl rfl rfl dX9_copyFrom_21 rfl ?_
  refine g_aload_n (q := 25) dX9_copyFrom_24 rfl rfl ?_
  refine g_aload_n (q := 26) dX9_copyFrom_25 rfl rfl ?_
  refine g_getI (q := 29) f_X9_25 (by assumption) rfl dX9_copyFrom_26 rfl ?_
  refine g_putI (q := 32) f_X9_25 (by assumption) rfl rfl rfl dX9_copyFrom_29 rfl ?_
  refine r_v dX9_copyFrom_32 rfl rfl rfl ?_
  show _ = _
  simp only [gu_2, gu_u, gu_s, gu_n _ _ hab]
  congr 1
  funext k
  rcases k with _ | _ | _ | _ | k <;> simp [upd, ag_cp]
  all_goals (intro h; exact absurd h (by omega))

set_option maxRecDepth 100000 in
set_option maxHeartbeats 4000000 in
theorem p_X9_workerTold {X : gj_X} {lim : Nat} {σ : gj_H} {v : gj_V} {a k : Nat} (hs : σ a = some sh_work) (hk : k < 5) : gj_E X 1 m_X9_workerTold [.ref a, .int (nI k)] lim σ v (q_i lim σ (fun x v' => x = aw_told (v a) k ∧ v' = v)) := by
  refine gj_E_at (L := [some (.ref a), some (.int (nI k))]) (k := 0) rfl (by decide) rfl ?_
  rcases (show k = 0 ∨ k = 1 ∨ k = 2 ∨ k = 3 ∨ k = 4 by omega) with rfl | rfl | rfl | rfl | rfl
  · refine g_iload_n (q := 1) dX9_workerTold_0 rfl rfl ?_
    refine g_tableIn (t := 32) (o := 31) dX9_workerTold_1 (by decide) (by decide) (by decide) (by decide) ?_
    refine g_aload_n (q := 33) dX9_workerTold_32 rfl rfl ?_
    refine c_Vi (q := 36) (p_X9_waits hs) k_X9_21 (by assumption) rfl (by decide) rfl rfl (Nat.le_of_ble_eq_true rfl) rfl rfl dX9_workerTold_33 rfl ?_
    rintro x v1 ⟨rfl, rfl⟩
    refine g_ifeq (t := 43) (q := 39) dX9_workerTold_36 (by decide) rfl (fun h36 => ?_) (fun h36 => ?_)
    · have h36 := gn_w0 h36
      refine g_iconst (q := 44) (x := 0) dX9_workerTold_43 (by decide) rfl ?_
      refine r_i dX9_workerTold_44 rfl rfl rfl ?_
      simp_all [aw_told]
    · have h36 := gn_w1 h36
      refine g_iconst (q := 40) (x := 1) dX9_workerTold_39 (by decide) rfl ?_
      refine g_goto (q := 44) dX9_workerTold_40 (by decide) ?_
      refine r_i dX9_workerTold_44 rfl rfl rfl ?_
      simp_all [aw_told]
  · refine g_iload_n (q := 1) dX9_workerTold_0 rfl rfl ?_
    refine g_tableIn (t := 45) (o := 44) dX9_workerTold_1 (by decide) (by decide) (by decide) (by decide) ?_
    refine g_aload_n (q := 46) dX9_workerTold_45 rfl rfl ?_
    refine g_getI (q := 49) f_X9_15 (by assumption) rfl dX9_workerTold_46 rfl ?_
    refine r_i dX9_workerTold_49 rfl rfl rfl ?_
    simp_all [aw_told]
  · refine g_iload_n (q := 1) dX9_workerTold_0 rfl rfl ?_
    refine g_tableIn (t := 50) (o := 49) dX9_workerTold_1 (by decide) (by decide) (by decide) (by decide) ?_
    refine g_aload_n (q := 51) dX9_workerTold_50 rfl rfl ?_
    refine g_getI (q := 54) f_X9_9 (by assumption) rfl dX9_workerTold_51 rfl ?_
    refine r_i dX9_workerTold_54 rfl rfl rfl ?_
    simp_all [aw_told]
  · refine g_iload_n (q := 1) dX9_workerTold_0 rfl rfl ?_
    refine g_tableIn (t := 55) (o := 54) dX9_workerTold_1 (by decide) (by decide) (by decide) (by decide) ?_
    refine g_aload_n (q := 56) dX9_workerTold_55 rfl rfl ?_
    refine g_getI (q := 59) f_X9_18 (by assumption) rfl dX9_workerTold_56 rfl ?_
    refine r_i dX9_workerTold_59 rfl rfl rfl ?_
    simp_all [aw_told]
  · refine g_iload_n (q := 1) dX9_workerTold_0 rfl rfl ?_
    refine g_tableOut (t := 60) dX9_workerTold_1 (by decide) (by decide) ?_
    refine g_aload_n (q := 61) dX9_workerTold_60 rfl rfl ?_
    refine g_getI (q := 64) f_X9_25 (by assumption) rfl dX9_workerTold_61 rfl ?_
    refine r_i dX9_workerTold_64 rfl rfl rfl ?_
    simp_all [aw_told]

def as_idle (f : Nat → Int32) : Nat → Int32 := upd (upd (upd f 6 0) 7 0) 8 (-1)
def as_set (f : Nat → Int32) (x0 x1 x2 x3 x4 : Int32) : Nat → Int32 := upd (upd (upd (as_idle (upd (upd (upd (upd (upd (upd f 0 x0) 1 x1) 2 x2) 3 x3) 4 x4) 5 (-1))) 9 0) 10 0) 11 0
def as_load (f : Nat → Int32) (x : Int32) : Nat → Int32 := if x = -5 then upd f 11 (f 11 + 1) else upd (upd (upd f 6 1) 7 (f 3)) 8 ((x + f 4) - (x + f 4) / 10 * 10)
def as_on (f : Nat → Int32) : Nat → Int32 := if f 6 = 1 then (if f 7 - 1 = 0 then upd (upd f 7 (f 7 - 1)) 6 2 else upd f 7 (f 7 - 1)) else f
def as_told (f : Nat → Int32) (k : Nat) : Int32 := match k with
  | 0 => f 6
  | 1 => f 7
  | 2 => f 8
  | 3 => f 9
  | 4 => f 10
  | 5 => f 11
  | _ => f 5

set_option maxRecDepth 100000 in
set_option maxHeartbeats 4000000 in
theorem p_X7_becomeIdle {X : gj_X} {lim : Nat} {σ : gj_H} {v : gj_V} {a : Nat} (hs : σ a = some sh_stat) : gj_E X 0 m_X7_becomeIdle [.ref a] lim σ v (q_v lim σ (fun v' => v' = gj_up v a (as_idle (v a)))) := by
  refine gj_E_at (L := [some (.ref a)]) (k := 0) rfl (by decide) rfl ?_
  refine g_aload_n (q := 1) dX7_becomeIdle_0 rfl rfl ?_
  refine g_iconst (q := 2) (x := 0) dX7_becomeIdle_1 (by decide) rfl ?_
  refine g_putI (q := 5) f_X7_42 (by assumption) rfl rfl rfl dX7_becomeIdle_2 rfl ?_
  refine g_aload_n (q := 6) dX7_becomeIdle_5 rfl rfl ?_
  refine g_iconst (q := 7) (x := 0) dX7_becomeIdle_6 (by decide) rfl ?_
  refine g_putI (q := 10) f_X7_45 (by assumption) rfl rfl rfl dX7_becomeIdle_7 rfl ?_
  refine g_aload_n (q := 11) dX7_becomeIdle_10 rfl rfl ?_
  refine g_iconst (q := 12) (x := (-1)) dX7_becomeIdle_11 (by decide) rfl ?_
  refine g_putI (q := 15) f_X7_48 (by assumption) rfl rfl rfl dX7_becomeIdle_12 rfl ?_
  refine r_v dX7_becomeIdle_15 rfl rfl rfl ?_
  show _ = _
  simp only [gu_2, gu_u, gu_s]
  rfl

set_option maxRecDepth 100000 in
set_option maxHeartbeats 4000000 in
theorem p_X7_setUp {X : gj_X} {lim : Nat} {σ : gj_H} {v : gj_V} {a : Nat} {x0 x1 x2 x3 x4 : Int32} (hs : σ a = some sh_stat) : gj_E X 1 m_X7_setUp [.ref a, .int x0, .int x1, .int x2, .int x3, .int x4] lim σ v (q_v lim σ (fun v' => v' = gj_up v a (as_set (v a) x0 x1 x2 x3 x4))) := by
  refine gj_E_at (L := [some (.ref a), some (.int x0), some (.int x1), some (.int x2), some (.int x3), some (.int x4)]) (k := 0) rfl (by decide) rfl ?_
  refine g_aload_n (q := 1) dX7_setUp_0 rfl rfl ?_
  refine g_iload_n (q := 2) dX7_setUp_1 rfl rfl ?_
  refine g_putI (q := 5) f_X7_9 (by assumption) rfl rfl rfl dX7_setUp_2 rfl ?_
  refine g_aload_n (q := 6) dX7_setUp_5 rfl rfl ?_
  refine g_iload_n (q := 7) dX7_setUp_6 rfl rfl ?_
  refine g_putI (q := 10) f_X7_15 (by assumption) rfl rfl rfl dX7_setUp_7 rfl ?_
  refine g_aload_n (q := 11) dX7_setUp_10 rfl rfl ?_
  refine g_iload_n (q := 12) dX7_setUp_11 rfl rfl ?_
  refine g_putI (q := 15) f_X7_18 (by assumption) rfl rfl rfl dX7_setUp_12 rfl ?_
  refine g_aload_n (q := 16) dX7_setUp_15 rfl rfl ?_
  refine g_iload (q := 18) dX7_setUp_16 rfl rfl ?_
  refine g_putI (q := 21) f_X7_21 (by assumption) rfl rfl rfl dX7_setUp_18 rfl ?_
  refine g_aload_n (q := 22) dX7_setUp_21 rfl rfl ?_
  refine g_iload (q := 24) dX7_setUp_22 rfl rfl ?_
  refine g_putI (q := 27) f_X7_24 (by assumption) rfl rfl rfl dX7_setUp_24 rfl ?_
  refine g_aload_n (q := 28) dX7_setUp_27 rfl rfl ?_
  refine g_iconst (q := 29) (x := (-1)) dX7_setUp_28 (by decide) rfl ?_
  refine g_putI (q := 32) f_X7_27 (by assumption) rfl rfl rfl dX7_setUp_29 rfl ?_
  refine g_aload_n (q := 33) dX7_setUp_32 rfl rfl ?_
  refine c_Vv (q := 36) (p_X7_becomeIdle hs) k_X7_30 (by assumption) rfl (by decide) rfl rfl (Nat.le_of_ble_eq_true rfl) rfl rfl dX7_setUp_33 rfl ?_
  rintro v1 rfl
  refine g_aload_n (q := 37) dX7_setUp_36 rfl rfl ?_
  refine g_iconst (q := 38) (x := 0) dX7_setUp_37 (by decide) rfl ?_
  refine g_putI (q := 41) f_X7_33 (by assumption) rfl rfl rfl dX7_setUp_38 rfl ?_
  refine g_aload_n (q := 42) dX7_setUp_41 rfl rfl ?_
  refine g_iconst (q := 43) (x := 0) dX7_setUp_42 (by decide) rfl ?_
  refine g_putI (q := 46) f_X7_36 (by assumption) rfl rfl rfl dX7_setUp_43 rfl ?_
  refine g_aload_n (q := 47) dX7_setUp_46 rfl rfl ?_
  refine g_iconst (q := 48) (x := 0) dX7_setUp_47 (by decide) rfl ?_
  refine g_putI (q := 51) f_X7_39 (by assumption) rfl rfl rfl dX7_setUp_48 rfl ?_
  refine r_v dX7_setUp_51 rfl rfl rfl ?_
  show _ = _
  simp only [gu_2, gu_u, gu_s]
  rfl

set_option maxRecDepth 100000 in
set_option maxHeartbeats 4000000 in
theorem p_X7_load {X : gj_X} {lim : Nat} {σ : gj_H} {v : gj_V} {a : Nat} {x : Int32} (hs : σ a = some sh_stat) : gj_E X 0 m_X7_load [.ref a, .int x] lim σ v (q_v lim σ (fun v' => v' = gj_up v a (as_load (v a) x))) := by
  refine gj_E_at (L := [some (.ref a), some (.int x)]) (k := 0) rfl (by decide) rfl ?_
  refine g_iload_n (q := 1) dX7_load_0 rfl rfl ?_
  refine g_bipush (q := 3) (x := (-5)) dX7_load_1 (by decide) rfl ?_
  refine g_icmpne (t := 17) (q := 6) dX7_load_3 (by decide) rfl (fun h3 => ?_) (fun h3 => ?_)
  · refine g_aload_n (q := 18) dX7_load_17 rfl rfl ?_
    refine g_iconst (q := 19) (x := 1) dX7_load_18 (by decide) rfl ?_
    refine g_putI (q := 22) f_X7_42 (by assumption) rfl rfl rfl dX7_load_19 rfl ?_
    refine g_aload_n (q := 23) dX7_load_22 rfl rfl ?_
    refine g_aload_n (q := 24) dX7_load_23 rfl rfl ?_
    refine g_getI (q := 27) f_X7_21 (by assumption) rfl dX7_load_24 rfl ?_
    refine g_putI (q := 30) f_X7_45 (by assumption) rfl rfl rfl dX7_load_27 rfl ?_
    refine g_aload_n (q := 31) dX7_load_30 rfl rfl ?_
    refine g_iload_n (q := 32) dX7_load_31 rfl rfl ?_
    refine g_aload_n (q := 33) dX7_load_32 rfl rfl ?_
    refine g_getI (q := 36) f_X7_24 (by assumption) rfl dX7_load_33 rfl ?_
    refine g_iadd (q := 37) dX7_load_36 rfl ?_
    refine g_bipush (q := 39) (x := 10) dX7_load_37 (by decide) rfl ?_
    refine g_irem (q := 40) dX7_load_39 (by decide) rfl ?_
    refine g_putI (q := 43) f_X7_48 (by assumption) rfl rfl rfl dX7_load_40 rfl ?_
    refine r_v dX7_load_43 rfl rfl rfl ?_
    show _ = _
    simp only [gu_2, gu_u, gu_s]
    simp [as_load, h3, upd]
  · refine g_aload_n (q := 7) dX7_load_6 rfl rfl ?_
    refine g_dup (q := 8) dX7_load_7 rfl rfl ?_
    refine g_getI (q := 11) f_X7_39 (by assumption) rfl dX7_load_8 rfl ?_
    refine g_iconst (q := 12) (x := 1) dX7_load_11 (by decide) rfl ?_
    refine g_iadd (q := 13) dX7_load_12 rfl ?_
    refine g_putI (q := 16) f_X7_39 (by assumption) rfl rfl rfl dX7_load_13 rfl ?_
    refine r_v dX7_load_16 rfl rfl rfl ?_
    show _ = _
    simp only [gu_2, gu_u, gu_s]
    simp [as_load, h3, upd]

set_option maxRecDepth 100000 in
set_option maxHeartbeats 4000000 in
theorem p_X7_workOn {X : gj_X} {lim : Nat} {σ : gj_H} {v : gj_V} {a : Nat} (hs : σ a = some sh_stat) : gj_E X 0 m_X7_workOn [.ref a] lim σ v (q_v lim σ (fun v' => v' = gj_up v a (as_on (v a)))) := by
  refine gj_E_at (L := [some (.ref a)]) (k := 0) rfl (by decide) rfl ?_
  refine g_aload_n (q := 1) dX7_workOn_0 rfl rfl ?_
  refine g_getI (q := 4) f_X7_42 (by assumption) rfl dX7_workOn_1 rfl ?_
  refine g_iconst (q := 5) (x := 1) dX7_workOn_4 (by decide) rfl ?_
  refine g_icmpne (t := 30) (q := 8) dX7_workOn_5 (by decide) rfl (fun h5 => ?_) (fun h5 => ?_)
  · refine r_v dX7_workOn_30 rfl rfl rfl ?_
    show _ = _
    try simp only [gu_2, gu_u, gu_s, ud_s] at *
    simp_all [as_on, gu_id]
  · refine g_aload_n (q := 9) dX7_workOn_8 rfl rfl ?_
    refine g_dup (q := 10) dX7_workOn_9 rfl rfl ?_
    refine g_getI (q := 13) f_X7_45 (by assumption) rfl dX7_workOn_10 rfl ?_
    refine g_iconst (q := 14) (x := 1) dX7_workOn_13 (by decide) rfl ?_
    refine g_isub (q := 15) dX7_workOn_14 rfl ?_
    refine g_putI (q := 18) f_X7_45 (by assumption) rfl rfl rfl dX7_workOn_15 rfl ?_
    refine g_aload_n (q := 19) dX7_workOn_18 rfl rfl ?_
    refine g_getI (q := 22) f_X7_45 (by assumption) rfl dX7_workOn_19 rfl ?_
    refine g_ifne (t := 30) (q := 25) dX7_workOn_22 (by decide) rfl (fun h22 => ?_) (fun h22 => ?_)
    · refine r_v dX7_workOn_30 rfl rfl rfl ?_
      show _ = _
      try simp only [gu_2, gu_u, gu_s, ud_s] at *
      simp_all [as_on, gu_id]
    · refine g_aload_n (q := 26) dX7_workOn_25 rfl rfl ?_
      refine g_iconst (q := 27) (x := 2) dX7_workOn_26 (by decide) rfl ?_
      refine g_putI (q := 30) f_X7_42 (by assumption) rfl rfl rfl dX7_workOn_27 rfl ?_
      refine r_v dX7_workOn_30 rfl rfl rfl ?_
      show _ = _
      try simp only [gu_2, gu_u, gu_s, ud_s] at *
      simp_all [as_on, gu_id]

set_option maxRecDepth 100000 in
set_option maxHeartbeats 4000000 in
theorem p_X7_stationTold {X : gj_X} {lim : Nat} {σ : gj_H} {v : gj_V} {a k : Nat} (hs : σ a = some sh_stat) (hk : k < 7) : gj_E X 0 m_X7_stationTold [.ref a, .int (nI k)] lim σ v (q_i lim σ (fun x v' => x = as_told (v a) k ∧ v' = v)) := by
  refine gj_E_at (L := [some (.ref a), some (.int (nI k))]) (k := 0) rfl (by decide) rfl ?_
  rcases (show k = 0 ∨ k = 1 ∨ k = 2 ∨ k = 3 ∨ k = 4 ∨ k = 5 ∨ k = 6 by omega) with rfl | rfl | rfl | rfl | rfl | rfl | rfl
  · refine g_iload_n (q := 1) dX7_stationTold_0 rfl rfl ?_
    refine g_tableIn (t := 40) (o := 39) dX7_stationTold_1 (by decide) (by decide) (by decide) (by decide) ?_
    refine g_aload_n (q := 41) dX7_stationTold_40 rfl rfl ?_
    refine g_getI (q := 44) f_X7_42 (by assumption) rfl dX7_stationTold_41 rfl ?_
    refine r_i dX7_stationTold_44 rfl rfl rfl ?_
    simp_all [as_told]
  · refine g_iload_n (q := 1) dX7_stationTold_0 rfl rfl ?_
    refine g_tableIn (t := 45) (o := 44) dX7_stationTold_1 (by decide) (by decide) (by decide) (by decide) ?_
    refine g_aload_n (q := 46) dX7_stationTold_45 rfl rfl ?_
    refine g_getI (q := 49) f_X7_45 (by assumption) rfl dX7_stationTold_46 rfl ?_
    refine r_i dX7_stationTold_49 rfl rfl rfl ?_
    simp_all [as_told]
  · refine g_iload_n (q := 1) dX7_stationTold_0 rfl rfl ?_
    refine g_tableIn (t := 50) (o := 49) dX7_stationTold_1 (by decide) (by decide) (by decide) (by decide) ?_
    refine g_aload_n (q := 51) dX7_stationTold_50 rfl rfl ?_
    refine g_getI (q := 54) f_X7_48 (by assumption) rfl dX7_stationTold_51 rfl ?_
    refine r_i dX7_stationTold_54 rfl rfl rfl ?_
    simp_all [as_told]
  · refine g_iload_n (q := 1) dX7_stationTold_0 rfl rfl ?_
    refine g_tableIn (t := 55) (o := 54) dX7_stationTold_1 (by decide) (by decide) (by decide) (by decide) ?_
    refine g_aload_n (q := 56) dX7_stationTold_55 rfl rfl ?_
    refine g_getI (q := 59) f_X7_33 (by assumption) rfl dX7_stationTold_56 rfl ?_
    refine r_i dX7_stationTold_59 rfl rfl rfl ?_
    simp_all [as_told]
  · refine g_iload_n (q := 1) dX7_stationTold_0 rfl rfl ?_
    refine g_tableIn (t := 60) (o := 59) dX7_stationTold_1 (by decide) (by decide) (by decide) (by decide) ?_
    refine g_aload_n (q := 61) dX7_stationTold_60 rfl rfl ?_
    refine g_getI (q := 64) f_X7_36 (by assumption) rfl dX7_stationTold_61 rfl ?_
    refine r_i dX7_stationTold_64 rfl rfl rfl ?_
    simp_all [as_told]
  · refine g_iload_n (q := 1) dX7_stationTold_0 rfl rfl ?_
    refine g_tableIn (t := 65) (o := 64) dX7_stationTold_1 (by decide) (by decide) (by decide) (by decide) ?_
    refine g_aload_n (q := 66) dX7_stationTold_65 rfl rfl ?_
    refine g_getI (q := 69) f_X7_39 (by assumption) rfl dX7_stationTold_66 rfl ?_
    refine r_i dX7_stationTold_69 rfl rfl rfl ?_
    simp_all [as_told]
  · refine g_iload_n (q := 1) dX7_stationTold_0 rfl rfl ?_
    refine g_tableOut (t := 70) dX7_stationTold_1 (by decide) (by decide) ?_
    refine g_aload_n (q := 71) dX7_stationTold_70 rfl rfl ?_
    refine g_getI (q := 74) f_X7_27 (by assumption) rfl dX7_stationTold_71 rfl ?_
    refine r_i dX7_stationTold_74 rfl rfl rfl ?_
    simp_all [as_told]

set_option maxRecDepth 100000 in
set_option maxHeartbeats 4000000 in
theorem p_X7_copyFrom {X : gj_X} {lim : Nat} {σ : gj_H} {v : gj_V} {a b : Nat} (hs : σ a = some sh_stat) (hs2 : σ b = some sh_stat) (hab : b ≠ a) : gj_E X 0 m_X7_copyFrom [.ref a, .ref b] lim σ v (q_v lim σ (fun v' => v' = gj_up v a (ag_cp 12 (v a) (v b)))) := by
  refine gj_E_at (L := [some (.ref a), some (.ref b)]) (k := 0) rfl (by decide) rfl ?_
  refine g_aload_n (q := 1) dX7_copyFrom_0 rfl rfl ?_
  refine g_aload_n (q := 2) dX7_copyFrom_1 rfl rfl ?_
  refine g_getI (q := 5) f_X7_9 (by assumption) rfl dX7_copyFrom_2 rfl ?_
  refine g_putI (q := 8) f_X7_9 (by assumption) rfl rfl rfl dX7_copyFrom_5 rfl ?_
  refine g_aload_n (q := 9) dX7_copyFrom_8 rfl rfl ?_
  refine g_aload_n (q := 10) dX7_copyFrom_9 rfl rfl ?_
  refine g_getI (q := 13) f_X7_15 (by assumption) rfl dX7_copyFrom_10 rfl ?_
  refine g_putI (q := 16) f_X7_15 (by assumption) rfl rfl rfl dX7_copyFrom_13 rfl ?_
  refine g_aload_n (q := 17) dX7_copyFrom_16 rfl rfl ?_
  refine g_aload_n (q := 18) dX7_copyFrom_17 rfl rfl ?_
  refine g_getI (q := 21) f_X7_18 (by assumption) rfl dX7_copyFrom_18 rfl ?_
  refine g_putI (q := 24) f_X7_18 (by assumption) rfl rfl rfl dX7_copyFrom_21 rfl ?_
  refine g_aload_n (q := 25) dX7_copyFrom_24 rfl rfl ?_
  refine g_aload_n (q := 26) dX7_copyFrom_25 rfl rfl ?_
  refine g_getI (q := 29) f_X7_21 (by assumption) rfl dX7_copyFrom_26 rfl ?_
  refine g_putI (q := 32) f_X7_21 (by assumption) rfl rfl rfl dX7_copyFrom_29 rfl ?_
  refine g_aload_n (q := 33) dX7_copyFrom_32 rfl rfl ?_
  refine g_aload_n (q := 34) dX7_copyFrom_33 rfl rfl ?_
  refine g_getI (q := 37) f_X7_24 (by assumption) rfl dX7_copyFrom_34 rfl ?_
  refine g_putI (q := 40) f_X7_24 (by assumption) rfl rfl rfl dX7_copyFrom_37 rfl ?_
  refine g_aload_n (q := 41) dX7_copyFrom_40 rfl rfl ?_
  refine g_aload_n (q := 42) dX7_copyFrom_41 rfl rfl ?_
  refine g_getI (q := 45) f_X7_27 (by assumption) rfl dX7_copyFrom_42 rfl ?_
  refine g_putI (q := 48) f_X7_27 (by assumption) rfl rfl rfl dX7_copyFrom_45 rfl ?_
  refine g_aload_n (q := 49) dX7_copyFrom_48 rfl rfl ?_
  refine g_aload_n (q := 50) dX7_copyFrom_49 rfl rfl ?_
  refine g_getI (q := 53) f_X7_42 (by assumption) rfl dX7_copyFrom_50 rfl ?_
  refine g_putI (q := 56) f_X7_42 (by assumption) rfl rfl rfl dX7_copyFrom_53 rfl ?_
  refine g_aload_n (q := 57) dX7_copyFrom_56 rfl rfl ?_
  refine g_aload_n (q := 58) dX7_copyFrom_57 rfl rfl ?_
  refine g_getI (q := 61) f_X7_45 (by assumption) rfl dX7_copyFrom_58 rfl ?_
  refine g_putI (q := 64) f_X7_45 (by assumption) rfl rfl rfl dX7_copyFrom_61 rfl ?_
  refine g_aload_n (q := 65) dX7_copyFrom_64 rfl rfl ?_
  refine g_aload_n (q := 66) dX7_copyFrom_65 rfl rfl ?_
  refine g_getI (q := 69) f_X7_48 (by assumption) rfl dX7_copyFrom_66 rfl ?_
  refine g_putI (q := 72) f_X7_48 (by assumption) rfl rfl rfl dX7_copyFrom_69 rfl ?_
  refine g_aload_n (q := 73) dX7_copyFrom_72 rfl rfl ?_
  refine g_aload_n (q := 74) dX7_copyFrom_73 rfl rfl ?_
  refine g_getI (q := 77) f_X7_33 (by assumption) rfl dX7_copyFrom_74 rfl ?_
  refine g_putI (q := 80) f_X7_33 (by assumption) rfl rfl rfl dX7_copyFrom_77 rfl ?_
  refine g_aload_n (q := 81) dX7_copyFrom_80 rfl rfl ?_
  refine g_aload_n (q := 82) dX7_copyFrom_81 rfl rfl ?_
  refine g_getI (q := 85) f_X7_36 (by assumption) rfl dX7_copyFrom_82 rfl ?_
  refine g_putI (q := 88) f_X7_36 (by assumption) rfl rfl rfl dX7_copyFrom_85 rfl ?_
  refine g_aload_n (q := 89) dX7_copyFrom_88 rfl rfl ?_
  refine g_aload_n (q := 90) dX7_copyFrom_89 rfl rfl ?_
  refine g_getI (q := 93) f_X7_39 (by assumption) rfl dX7_copyFrom_90 rfl ?_
  refine g_putI (q := 96) f_X7_39 (by assumption) rfl rfl rfl dX7_copyFrom_93 rfl ?_
  refine r_v dX7_copyFrom_96 rfl rfl rfl ?_
  show _ = _
  simp only [gu_2, gu_u, gu_s, gu_n _ _ hab]
  congr 1
  funext k
  rcases k with _ | _ | _ | _ | _ | _ | _ | _ | _ | _ | _ | _ | k <;> simp [upd, ag_cp]
  all_goals (intro h; exact absurd h (by omega))
end
section
/-! ===== Row: a short list ===== -/
theorem gn_inc (k : Nat) : nI k + Int32.ofInt 1 = nI (k + 1) := nI_1 k
theorem gn_ix {i : Int32} {n : Nat} (hn : n < 2147483648) (h1 : ¬ i < 0) (h2 : ¬ nI n ≤ i) : ∃ j : Nat, j < n ∧ i = nI j := by
  rcases pk_ix i (n := n) hn with h | h | h
  · exact absurd h h1
  · exact absurd h h2
  · exact h
theorem gn_lt {n k : Nat} (h : ¬ nI n ≤ nI k) (hk : k < 2147483648) : k < n := Nat.lt_of_not_le fun hle => h (nI_le hle hk)
theorem gn_le {n k : Nat} (h : nI n ≤ nI k) (hn : n < 2147483648) : n ≤ k := Nat.le_of_not_lt fun hlt => nI_ge hlt hn h
abbrev sh_row (r : Nat) : gj_S := .inl (5, [some (some (r + 1)), none])
abbrev sh_i (n : Nat) : gj_S := .inr (.inl n)
def rsh (σ : gj_H) (r : Nat) : Prop := σ r = some (sh_row r) ∧ σ (r + 1) = some (sh_i 6)
def rr (v : gj_V) (r : Nat) (l : List Int32) : Prop := v r 1 = nI l.length ∧ l.length ≤ 6 ∧ ∀ i, i < l.length → v (r + 1) i = l.getD i 0
def fr2 (v v' : gj_V) (r : Nat) : Prop := ∀ a, a ≠ r → a ≠ r + 1 → v' a = v a
def l_at (l : List Int32) (i : Int32) : Int32 := if i < 0 then -1 else if nI l.length ≤ i then -1 else l.getD i.toNatClampNeg 0
def l_pl (l : List Int32) (w : Int32) : Int32 := if l.idxOf w < l.length then nI (l.idxOf w) else -1
theorem rr.keep {v v' : gj_V} {r : Nat} {l : List Int32} (h : rr v r l) (h1 : v' r = v r) (h2 : v' (r + 1) = v (r + 1)) : rr v' r l := by
  unfold rr at *
  rw [h1, h2]
  exact h
theorem gd_app (l : List Int32) (x : Int32) (i : Nat) (h : i < l.length + 1) : (l ++ [x]).getD i 0 = if i = l.length then x else l.getD i 0 := by
  simp only [List.getD_eq_getElem?_getD]
  by_cases hi : i = l.length
  · subst hi; simp
  · rw [if_neg hi, List.getElem?_append_left (by omega)]
theorem gd_cons (l : List Int32) (x : Int32) (i : Nat) : (x :: l).getD i 0 = if i = 0 then x else l.getD (i - 1) 0 := by
  rcases i with _ | i <;> simp
theorem gd_erase (l : List Int32) (k i : Nat) : (l.eraseIdx k).getD i 0 = if i < k then l.getD i 0 else l.getD (i + 1) 0 := by
  simp only [List.getD_eq_getElem?_getD, List.getElem?_eraseIdx]
  split <;> rfl
theorem gd_idx (l : List Int32) (w : Int32) (k : Nat) (hk : k < l.length) (h1 : l.getD k 0 = w) (h2 : ∀ j, j < k → l.getD j 0 ≠ w) : l.idxOf w = k := by
  have hg : l[k]? = some w := by
    rw [List.getElem?_eq_getElem hk]
    rw [List.getD_eq_getElem?_getD, List.getElem?_eq_getElem hk] at h1
    simpa using h1
  have hle : l.idxOf w ≤ k := by
    apply Nat.le_of_not_lt
    intro hlt
    have := List.not_of_lt_findIdx (p := (· == w)) (xs := l) (i := k) hlt
    rw [List.getElem?_eq_getElem hk] at hg
    simp at hg
    simp [hg] at this
  rcases Nat.lt_or_eq_of_le hle with hlt | he
  · exfalso
    have hl : l.idxOf w < l.length := Nat.lt_trans hlt hk
    have h3 := List.getElem_idxOf hl
    apply h2 _ hlt
    rw [List.getD_eq_getElem?_getD, List.getElem?_eq_getElem hl]
    simpa using h3
  · exact he
theorem gd_noidx (l : List Int32) (w : Int32) (h2 : ∀ j, j < l.length → l.getD j 0 ≠ w) : ¬ l.idxOf w < l.length := by
  intro hl
  have h3 := List.getElem_idxOf hl
  apply h2 _ hl
  rw [List.getD_eq_getElem?_getD, List.getElem?_eq_getElem hl]
  simpa using h3

set_option maxRecDepth 100000 in
set_option maxHeartbeats 4000000 in
theorem p_X5_at {X : gj_X} {lim : Nat} {σ : gj_H} {v : gj_V} {r : Nat} {i : Int32} {l : List Int32} (hs : rsh σ r) (hr : rr v r l) : gj_E X 0 m_X5_at [.ref r, .int i] lim σ v (q_i lim σ (fun x v' => x = l_at l i ∧ v' = v)) := by
  obtain ⟨hs1, hs2⟩ := hs
  obtain ⟨e1, e2, e3⟩ := hr
  refine gj_E_at (L := [some (.ref r), some (.int i)]) (k := 0) rfl (by decide) rfl ?_
  refine g_iload_n (q := 1) dX5_at_0 rfl rfl ?_
  refine g_iflt (t := 21) (q := 4) dX5_at_1 (by decide) rfl (fun h1 => ?_) (fun h1 => ?_)
  · refine g_iconst (q := 22) (x := (-1)) dX5_at_21 (by decide) rfl ?_
    refine r_i dX5_at_22 rfl rfl rfl ?_
    refine ⟨?_, rfl⟩
    first | (rw [l_at, if_pos h1]; done) | (rw [l_at, if_neg h1, if_pos h9]; done) | (rw [l_at, if_neg h1, if_neg h9, nI_clamp (by omega)]; exact e3 j hj)
  · refine g_iload_n (q := 5) dX5_at_4 rfl rfl ?_
    refine g_aload_n (q := 6) dX5_at_5 rfl rfl ?_
    refine g_getI (q := 9) f_X5_15 (by assumption) rfl dX5_at_6 rfl ?_
    refine g_icmpge (t := 21) (q := 12) dX5_at_9 (by decide) rfl (fun h9 => ?_) (fun h9 => ?_)
    · rw [e1] at h9
      refine g_iconst (q := 22) (x := (-1)) dX5_at_21 (by decide) rfl ?_
      refine r_i dX5_at_22 rfl rfl rfl ?_
      refine ⟨?_, rfl⟩
      first | (rw [l_at, if_pos h1]; done) | (rw [l_at, if_neg h1, if_pos h9]; done) | (rw [l_at, if_neg h1, if_neg h9, nI_clamp (by omega)]; exact e3 j hj)
    · rw [e1] at h9
      obtain ⟨j, hj, rfl⟩ := gn_ix (by omega) h1 h9
      refine g_aload_n (q := 13) dX5_at_12 rfl rfl ?_
      refine g_getR (q := 16) f_X5_9 (by assumption) rfl dX5_at_13 rfl ?_
      refine g_iload_n (q := 17) dX5_at_16 rfl rfl ?_
      refine g_iald (q := 18) (by assumption) rfl (Nat.lt_of_lt_of_le hj e2) (by decide) dX5_at_17 rfl ?_
      refine g_goto (q := 22) dX5_at_18 (by decide) ?_
      refine r_i dX5_at_22 rfl rfl rfl ?_
      refine ⟨?_, rfl⟩
      first | (rw [l_at, if_pos h1]; done) | (rw [l_at, if_neg h1, if_pos h9]; done) | (rw [l_at, if_neg h1, if_neg h9, nI_clamp (by omega)]; exact e3 j hj)

set_option maxRecDepth 100000 in
set_option maxHeartbeats 4000000 in
theorem p_X5_placeOf {X : gj_X} {lim : Nat} {σ : gj_H} {v : gj_V} {r : Nat} {w : Int32} {l : List Int32} (hs : rsh σ r) (hr : rr v r l) : gj_E X 0 m_X5_placeOf [.ref r, .int w] lim σ v (q_i lim σ (fun x v' => x = l_pl l w ∧ v' = v)) := by
  obtain ⟨hs1, hs2⟩ := hs
  obtain ⟨e1, e2, e3⟩ := hr
  refine gj_E_at (L := [some (.ref r), some (.int w), none]) (k := 1) rfl (by decide) rfl ?_
  have loop : ∀ n k, k ≤ l.length → l.length - k < n → (∀ j, j < k → l.getD j 0 ≠ w) → gj_G X 0 m_X5_placeOf (q_i lim σ (fun x v' => x = l_pl l w ∧ v' = v)) lim σ v 0 0 2 [some (.ref r), some (.int w), some (.int (nI k))] [] := by
    intro n
    induction n with
    | zero => intro k _ h; omega
    | succ n ih =>
      intro k hk0 hm hn
      refine g_iload_n (q := 3) dX5_placeOf_2 rfl rfl ?_
      refine g_aload_n (q := 4) dX5_placeOf_3 rfl rfl ?_
      refine g_getI (q := 7) f_X5_15 (by assumption) rfl dX5_placeOf_4 rfl ?_
      refine g_icmpge (t := 28) (q := 10) dX5_placeOf_7 (by decide) rfl (fun h7 => ?_) (fun h7 => ?_)
      · rw [e1] at h7
        refine g_iconst (q := 29) (x := (-1)) dX5_placeOf_28 (by decide) rfl ?_
        refine r_i dX5_placeOf_29 rfl rfl rfl ?_
        refine ⟨?_, rfl⟩
        rw [l_pl, if_neg (gd_noidx l w (fun j hj => hn j (Nat.lt_of_lt_of_le hj (gn_le h7 (by omega)))))]
      · rw [e1] at h7
        have hk : k < l.length := gn_lt h7 (by omega)
        refine g_aload_n (q := 11) dX5_placeOf_10 rfl rfl ?_
        refine g_getR (q := 14) f_X5_9 (by assumption) rfl dX5_placeOf_11 rfl ?_
        refine g_iload_n (q := 15) dX5_placeOf_14 rfl rfl ?_
        refine g_iald (q := 16) (by assumption) rfl (Nat.lt_of_lt_of_le hk e2) (by decide) dX5_placeOf_15 rfl ?_
        refine g_iload_n (q := 17) dX5_placeOf_16 rfl rfl ?_
        refine g_icmpne (t := 22) (q := 20) dX5_placeOf_17 (by decide) rfl (fun h17 => ?_) (fun h17 => ?_)
        · refine g_iinc (q := 25) (y := nI (k + 1)) dX5_placeOf_22 rfl (gn_inc k) rfl rfl rfl rfl ?_
          dsimp only [List.set]
          refine g_goto (q := 2) dX5_placeOf_25 (by decide) ?_
          exact ih (k + 1) (by omega) (by omega) (fun j hj => by
            by_cases e : j = k
            · subst e; rw [← e3 j hk]; exact h17
            · exact hn j (by omega))
        · refine g_iload_n (q := 21) dX5_placeOf_20 rfl rfl ?_
          refine r_i dX5_placeOf_21 rfl rfl rfl ?_
          refine ⟨?_, rfl⟩
          have e4 := gd_idx l w k hk (by rw [← e3 k hk]; exact h17) hn
          rw [l_pl, e4, if_pos hk]
  refine g_iconst (q := 1) (x := 0) dX5_placeOf_0 (by decide) rfl ?_
  refine g_istore_n (q := 2) dX5_placeOf_1 rfl rfl rfl rfl ?_
  dsimp only [List.set]
  exact loop (l.length + 1) 0 (by omega) (by omega) (fun j hj => by omega)

set_option maxRecDepth 100000 in
set_option maxHeartbeats 4000000 in
theorem p_X5_addLast {X : gj_X} {lim : Nat} {σ : gj_H} {v : gj_V} {r : Nat} {x : Int32} {l : List Int32} (hs : rsh σ r) (hr : rr v r l) (hl : l.length < 6) : gj_E X 0 m_X5_addLast [.ref r, .int x] lim σ v (q_v lim σ (fun v' => rr v' r (l ++ [x]) ∧ fr2 v v' r)) := by
  obtain ⟨hs1, hs2⟩ := hs
  obtain ⟨e1, e2, e3⟩ := hr
  refine gj_E_at (L := [some (.ref r), some (.int x)]) (k := 0) rfl (by decide) rfl ?_
  refine g_aload_n (q := 1) dX5_addLast_0 rfl rfl ?_
  refine g_getI (q := 4) f_X5_15 (by assumption) rfl dX5_addLast_1 rfl ?_
  refine g_bipush (q := 6) (x := 6) dX5_addLast_4 (by decide) rfl ?_
  refine g_icmpge (t := 29) (q := 9) dX5_addLast_6 (by decide) rfl (fun h6 => ?_) (fun h6 => ?_)
  · rw [e1] at h6
    exact absurd h6 (nI_ge (a := l.length) (b := 6) hl (by decide))
  · refine g_aload_n (q := 10) dX5_addLast_9 rfl rfl ?_
    refine g_getR (q := 13) f_X5_9 (by assumption) rfl dX5_addLast_10 rfl ?_
    refine g_aload_n (q := 14) dX5_addLast_13 rfl rfl ?_
    refine g_getI (q := 17) f_X5_15 (by assumption) rfl dX5_addLast_14 rfl ?_
    refine g_iload_n (q := 18) dX5_addLast_17 rfl rfl ?_
    refine g_iast (q := 19) (by assumption) e1 hl (by decide) dX5_addLast_18 rfl ?_
    refine g_aload_n (q := 20) dX5_addLast_19 rfl rfl ?_
    refine g_dup (q := 21) dX5_addLast_20 rfl rfl ?_
    refine g_getI (q := 24) f_X5_15 (by assumption) rfl dX5_addLast_21 rfl ?_
    refine g_iconst (q := 25) (x := 1) dX5_addLast_24 (by decide) rfl ?_
    refine g_iadd (q := 26) dX5_addLast_25 rfl ?_
    refine g_putI (q := 29) f_X5_15 (by assumption) rfl rfl rfl dX5_addLast_26 rfl ?_
    refine r_v dX5_addLast_29 rfl rfl rfl ?_
    refine ⟨⟨?_, by simp; omega, fun i hi => ?_⟩, fun a h1 h2 => ?_⟩
    · simp [gu_2, gu_s, gu_n, ud_s, e1, nI_1]
    · rw [gd_app l x i (by simpa using hi)]
      simp only [gu_2]
      rw [gu_n _ _ (by omega), gu_s]
      by_cases e : i = l.length
      · subst e; simp [ud_s]
      · rw [ud_n _ _ e, if_neg e]; exact e3 i (by simp at hi; omega)
    · simp only [gu_2]
      rw [gu_n _ _ h1, gu_n _ _ h2]

set_option maxRecDepth 100000 in
set_option maxHeartbeats 4000000 in
theorem p_X5_addFirst {X : gj_X} {lim : Nat} {σ : gj_H} {v : gj_V} {r : Nat} {x : Int32} {l : List Int32} (hs : rsh σ r) (hr : rr v r l) (hl : l.length < 6) : gj_E X 0 m_X5_addFirst [.ref r, .int x] lim σ v (q_v lim σ (fun v' => rr v' r (x :: l) ∧ fr2 v v' r)) := by
  obtain ⟨hs1, hs2⟩ := hs
  obtain ⟨e1, e2, e3⟩ := hr
  refine gj_E_at (L := [some (.ref r), some (.int x)]) (k := 0) rfl (by decide) rfl ?_
  refine g_aload_n (q := 1) dX5_addFirst_0 rfl rfl ?_
  refine g_getI (q := 4) f_X5_15 (by assumption) rfl dX5_addFirst_1 rfl ?_
  refine g_bipush (q := 6) (x := 6) dX5_addFirst_4 (by decide) rfl ?_
  refine g_icmpge (t := 43) (q := 9) dX5_addFirst_6 (by decide) rfl (fun h6 => ?_) (fun h6 => ?_)
  · rw [e1] at h6
    exact absurd h6 (nI_ge (a := l.length) (b := 6) hl (by decide))
  · refine g_aload_n (q := 10) dX5_addFirst_9 rfl rfl ?_
    refine g_getR (q := 13) f_X5_9 (by assumption) rfl dX5_addFirst_10 rfl ?_
    refine g_iconst (q := 14) (x := 0) dX5_addFirst_13 (by decide) rfl ?_
    refine g_aload_n (q := 15) dX5_addFirst_14 rfl rfl ?_
    refine g_getR (q := 18) f_X5_9 (by assumption) rfl dX5_addFirst_15 rfl ?_
    refine g_iconst (q := 19) (x := 1) dX5_addFirst_18 (by decide) rfl ?_
    refine g_aload_n (q := 20) dX5_addFirst_19 rfl rfl ?_
    refine g_getI (q := 23) f_X5_15 (by assumption) rfl dX5_addFirst_20 rfl ?_
    refine g_acopy (q := 26) k_X5_19 hs2 hs2 (sp := 0) (dp := 1) (k := l.length) rfl rfl e1 (by omega) (by omega) (by decide) (by decide) (Nat.le_of_ble_eq_true rfl) dX5_addFirst_23 rfl ?_
    refine g_aload_n (q := 27) dX5_addFirst_26 rfl rfl ?_
    refine g_getR (q := 30) f_X5_9 (by assumption) rfl dX5_addFirst_27 rfl ?_
    refine g_iconst (q := 31) (x := 0) dX5_addFirst_30 (by decide) rfl ?_
    refine g_iload_n (q := 32) dX5_addFirst_31 rfl rfl ?_
    refine g_iast (q := 33) (by assumption) (k := 0) rfl (by decide) (by decide) dX5_addFirst_32 rfl ?_
    refine g_aload_n (q := 34) dX5_addFirst_33 rfl rfl ?_
    refine g_dup (q := 35) dX5_addFirst_34 rfl rfl ?_
    refine g_getI (q := 38) f_X5_15 (by assumption) rfl dX5_addFirst_35 rfl ?_
    refine g_iconst (q := 39) (x := 1) dX5_addFirst_38 (by decide) rfl ?_
    refine g_iadd (q := 40) dX5_addFirst_39 rfl ?_
    refine g_putI (q := 43) f_X5_15 (by assumption) rfl rfl rfl dX5_addFirst_40 rfl ?_
    refine r_v dX5_addFirst_43 rfl rfl rfl ?_
    refine ⟨⟨?_, by simp; omega, fun i hi => ?_⟩, fun a h1 h2 => ?_⟩
    · simp [gu_2, gu_s, gu_n, ud_s, e1, nI_1]
    · rw [gd_cons l x i]
      simp only [gu_2, gu_s, gu_u]
      rw [gu_n _ _ (by omega), gu_s]
      by_cases e : i = 0
      · subst e; simp [ud_s]
      · rw [ud_n _ _ e, if_neg e]
        have hi2 : i < l.length + 1 := by simpa using hi
        rw [va_cpy, if_pos (by omega), Nat.zero_add]
        exact e3 (i - 1) (by omega)
    · simp only [gu_2]
      rw [gu_n _ _ h1, gu_n _ _ h2, gu_n _ _ h2]

set_option maxRecDepth 100000 in
set_option maxHeartbeats 4000000 in
theorem p_X5_removeAt {X : gj_X} {lim : Nat} {σ : gj_H} {v : gj_V} {r k : Nat} {l : List Int32} (hs : rsh σ r) (hr : rr v r l) (hk : k < l.length) : gj_E X 0 m_X5_removeAt [.ref r, .int (nI k)] lim σ v (q_i lim σ (fun x v' => x = l.getD k 0 ∧ rr v' r (l.eraseIdx k) ∧ fr2 v v' r)) := by
  obtain ⟨hs1, hs2⟩ := hs
  obtain ⟨e1, e2, e3⟩ := hr
  refine gj_E_at (L := [some (.ref r), some (.int (nI k)), none]) (k := 1) rfl (by decide) rfl ?_
  refine g_iload_n (q := 1) dX5_removeAt_0 rfl rfl ?_
  refine g_iflt (t := 12) (q := 4) dX5_removeAt_1 (by decide) rfl (fun h1 => ?_) (fun h1 => ?_)
  · exact absurd h1 (nI_pos (by omega))
  · refine g_iload_n (q := 5) dX5_removeAt_4 rfl rfl ?_
    refine g_aload_n (q := 6) dX5_removeAt_5 rfl rfl ?_
    refine g_getI (q := 9) f_X5_15 (by assumption) rfl dX5_removeAt_6 rfl ?_
    refine g_icmplt (t := 14) (q := 12) dX5_removeAt_9 (by decide) rfl (fun h9 => ?_) (fun h9 => ?_)
    · refine g_aload_n (q := 15) dX5_removeAt_14 rfl rfl ?_
      refine g_getR (q := 18) f_X5_9 (by assumption) rfl dX5_removeAt_15 rfl ?_
      refine g_iload_n (q := 19) dX5_removeAt_18 rfl rfl ?_
      refine g_iald (q := 20) (by assumption) rfl (by omega) (by decide) dX5_removeAt_19 rfl ?_
      refine g_istore_n (q := 21) dX5_removeAt_20 rfl rfl rfl rfl ?_
      dsimp only [List.set]
      refine g_aload_n (q := 22) dX5_removeAt_21 rfl rfl ?_
      refine g_dup (q := 23) dX5_removeAt_22 rfl rfl ?_
      refine g_getI (q := 26) f_X5_15 (by assumption) rfl dX5_removeAt_23 rfl ?_
      refine g_iconst (q := 27) (x := 1) dX5_removeAt_26 (by decide) rfl ?_
      refine g_isub (q := 28) dX5_removeAt_27 rfl ?_
      refine g_putI (q := 31) f_X5_15 (by assumption) rfl rfl rfl dX5_removeAt_28 rfl ?_
      refine g_aload_n (q := 32) dX5_removeAt_31 rfl rfl ?_
      refine g_getR (q := 35) f_X5_9 (by assumption) rfl dX5_removeAt_32 rfl ?_
      refine g_iload_n (q := 36) dX5_removeAt_35 rfl rfl ?_
      refine g_iconst (q := 37) (x := 1) dX5_removeAt_36 (by decide) rfl ?_
      refine g_iadd (q := 38) dX5_removeAt_37 rfl ?_
      refine g_aload_n (q := 39) dX5_removeAt_38 rfl rfl ?_
      refine g_getR (q := 42) f_X5_9 (by assumption) rfl dX5_removeAt_39 rfl ?_
      refine g_iload_n (q := 43) dX5_removeAt_42 rfl rfl ?_
      refine g_aload_n (q := 44) dX5_removeAt_43 rfl rfl ?_
      refine g_getI (q := 47) f_X5_15 (by assumption) rfl dX5_removeAt_44 rfl ?_
      refine g_iload_n (q := 48) dX5_removeAt_47 rfl rfl ?_
      refine g_isub (q := 49) dX5_removeAt_48 rfl ?_
      refine g_acopy (q := 52) k_X5_19 hs2 hs2 (sp := k + 1) (dp := k) (k := l.length - 1 - k) (nI_1 k) rfl (by simp only [gu_2, gu_s, ud_s, e1]; rw [show (1 : Int32) = nI 1 from rfl, pk_sub (by omega), pk_sub (by omega)]) (by omega) (by omega) (by decide) (by decide) (Nat.le_of_ble_eq_true rfl) dX5_removeAt_49 rfl ?_
      refine g_iload_n (q := 53) dX5_removeAt_52 rfl rfl ?_
      refine r_i dX5_removeAt_53 rfl rfl rfl ?_
      have hlen : (l.eraseIdx k).length = l.length - 1 := by rw [List.length_eraseIdx, if_pos hk]
      refine ⟨e3 k hk, ⟨?_, by omega, fun i hi => ?_⟩, fun a h1 h2 => ?_⟩
      · rw [gu_n _ _ (by omega), gu_2, gu_s, ud_s, e1, hlen]
        rw [show (1 : Int32) = nI 1 from rfl, pk_sub (by omega)]
      · rw [gu_s, gd_erase]
        simp only [gu_2, gu_n _ _ (show r + 1 ≠ r by omega), va_cpy]
        rw [hlen] at hi
        by_cases e : i < k
        · rw [if_neg (by omega), if_pos e]; exact e3 i (by omega)
        · rw [if_pos (by omega), if_neg e, show k + 1 + (i - k) = i + 1 by omega]; exact e3 (i + 1) (by omega)
      · rw [gu_n _ _ h2, gu_2, gu_n _ _ h1]
    · rw [e1] at h9
      exact absurd (nI_lt hk (by omega)) h9

set_option maxRecDepth 100000 in
set_option maxHeartbeats 4000000 in
theorem p_X5_removeAt_none {X : gj_X} {lim : Nat} {σ : gj_H} {v : gj_V} {r : Nat} (hs : rsh σ r) (hr : rr v r []) : gj_E X 0 m_X5_removeAt [.ref r, .int 0] lim σ v (q_i lim σ (fun x v' => x = -1 ∧ v' = v)) := by
  obtain ⟨hs1, hs2⟩ := hs
  obtain ⟨e1, e2, e3⟩ := hr
  refine gj_E_at (L := [some (.ref r), some (.int 0), none]) (k := 1) rfl (by decide) rfl ?_
  refine g_iload_n (q := 1) dX5_removeAt_0 rfl rfl ?_
  refine g_iflt (t := 12) (q := 4) dX5_removeAt_1 (by decide) rfl (fun h1 => ?_) (fun h1 => ?_)
  · exact absurd h1 (by decide)
  · refine g_iload_n (q := 5) dX5_removeAt_4 rfl rfl ?_
    refine g_aload_n (q := 6) dX5_removeAt_5 rfl rfl ?_
    refine g_getI (q := 9) f_X5_15 (by assumption) rfl dX5_removeAt_6 rfl ?_
    refine g_icmplt (t := 14) (q := 12) dX5_removeAt_9 (by decide) rfl (fun h9 => ?_) (fun h9 => ?_)
    · rw [e1] at h9
      exact absurd h9 (by decide)
    · refine g_iconst (q := 13) (x := (-1)) dX5_removeAt_12 (by decide) rfl ?_
      refine r_i dX5_removeAt_13 rfl rfl rfl ?_
      exact ⟨rfl, rfl⟩

set_option maxRecDepth 100000 in
set_option maxHeartbeats 4000000 in
theorem p_X5_copyFrom {X : gj_X} {lim : Nat} {σ : gj_H} {v : gj_V} {r z : Nat} {l : List Int32} (hs : rsh σ r) (hz : rsh σ z) (hr : rr v z l) (hne : z ≠ r ∧ z ≠ r + 1 ∧ z + 1 ≠ r) : gj_E X 0 m_X5_copyFrom [.ref r, .ref z] lim σ v (q_v lim σ (fun v' => rr v' r l ∧ fr2 v v' r)) := by
  obtain ⟨hs1, hs2⟩ := hs
  obtain ⟨e1, e2, e3⟩ := hr
  obtain ⟨hz1, hz2⟩ := hz
  refine gj_E_at (L := [some (.ref r), some (.ref z)]) (k := 0) rfl (by decide) rfl ?_
  refine g_aload_n (q := 1) dX5_copyFrom_0 rfl rfl ?_
  refine g_getR (q := 4) f_X5_9 (by assumption) rfl dX5_copyFrom_1 rfl ?_
  refine g_iconst (q := 5) (x := 0) dX5_copyFrom_4 (by decide) rfl ?_
  refine g_aload_n (q := 6) dX5_copyFrom_5 rfl rfl ?_
  refine g_getR (q := 9) f_X5_9 (by assumption) rfl dX5_copyFrom_6 rfl ?_
  refine g_iconst (q := 10) (x := 0) dX5_copyFrom_9 (by decide) rfl ?_
  refine g_bipush (q := 12) (x := 6) dX5_copyFrom_10 (by decide) rfl ?_
  refine g_acopy (q := 15) k_X5_19 hz2 hs2 (sp := 0) (dp := 0) (k := 6) rfl rfl rfl (by decide) (by decide) (by decide) (by decide) (Nat.le_of_ble_eq_true rfl) dX5_copyFrom_12 rfl ?_
  refine g_aload_n (q := 16) dX5_copyFrom_15 rfl rfl ?_
  refine g_aload_n (q := 17) dX5_copyFrom_16 rfl rfl ?_
  refine g_getI (q := 20) f_X5_15 (by assumption) rfl dX5_copyFrom_17 rfl ?_
  refine g_putI (q := 23) f_X5_15 (by assumption) rfl rfl rfl dX5_copyFrom_20 rfl ?_
  refine r_v dX5_copyFrom_23 rfl rfl rfl ?_
  refine ⟨⟨?_, e2, fun i hi => ?_⟩, fun a h1 h2 => ?_⟩
  · simp [gu_2, gu_s, ud_s, gu_n _ _ hne.2.1, e1]
  · rw [gu_2, gu_n _ _ (by omega), gu_s, va_cpy, if_pos (by omega), Nat.sub_zero, Nat.zero_add]; exact e3 i hi
  · rw [gu_2, gu_n _ _ h1, gu_n _ _ h2]
end
