-- ===== PART A: goes FIRST, ahead of the names: the tables' words, and 'selects' of the private methods out of them =====
/-- a private method of a class that the tables say can be made, by its rows of tables_1 -/
def lw_okq (q : MethodName × Nat) : Prop := (q.1.cls ≠ "java/lang/invoke/MethodHandle" ∧ q.1.cls ≠ "java/lang/invoke/VarHandle") ∧ Cond.instantiable q.1.cls q.2 ∈ tables_1 ∧ Cond.privateMethod q.1 ∈ tables_1 ∧ Cond.instanceMethod q.1 ∈ tables_1
theorem lw_p0 : lw_okq (⟨"SoleWear", "isDancer", "(I)Z"⟩, 12) := ⟨⟨by decide +kernel, by decide +kernel⟩, List.mem_of_getElem? (i := 18) (by decide +kernel), List.mem_of_getElem? (i := 286) (by decide +kernel), List.mem_of_getElem? (i := 287) (by decide +kernel)⟩
theorem lw_p1 : lw_okq (⟨"SoleWear", "clearTally", "()V"⟩, 12) := ⟨⟨by decide +kernel, by decide +kernel⟩, List.mem_of_getElem? (i := 18) (by decide +kernel), List.mem_of_getElem? (i := 483) (by decide +kernel), List.mem_of_getElem? (i := 484) (by decide +kernel)⟩
theorem lw_p2 : lw_okq (⟨"SoleWear", "sheetOf", "(I)LSoleWear$Row;"⟩, 12) := ⟨⟨by decide +kernel, by decide +kernel⟩, List.mem_of_getElem? (i := 18) (by decide +kernel), List.mem_of_getElem? (i := 509) (by decide +kernel), List.mem_of_getElem? (i := 510) (by decide +kernel)⟩
theorem lw_p3 : lw_okq (⟨"SoleWear", "tallyDifferences", "(LSoleWear$Row;)V"⟩, 12) := ⟨⟨by decide +kernel, by decide +kernel⟩, List.mem_of_getElem? (i := 18) (by decide +kernel), List.mem_of_getElem? (i := 518) (by decide +kernel), List.mem_of_getElem? (i := 519) (by decide +kernel)⟩
theorem lw_p4 : lw_okq (⟨"SoleWear$Reader", "chain", "(LSoleWear$Tape;III)Z"⟩, 4) := ⟨⟨by decide +kernel, by decide +kernel⟩, List.mem_of_getElem? (i := 123) (by decide +kernel), List.mem_of_getElem? (i := 629) (by decide +kernel), List.mem_of_getElem? (i := 630) (by decide +kernel)⟩
theorem lw_p5 : lw_okq (⟨"SoleWear$Reader", "piece", "(LSoleWear$Tape;II)Z"⟩, 4) := ⟨⟨by decide +kernel, by decide +kernel⟩, List.mem_of_getElem? (i := 123) (by decide +kernel), List.mem_of_getElem? (i := 633) (by decide +kernel), List.mem_of_getElem? (i := 634) (by decide +kernel)⟩
theorem lw_p6 : lw_okq (⟨"SoleWear$Reader", "put", "(I)V"⟩, 4) := ⟨⟨by decide +kernel, by decide +kernel⟩, List.mem_of_getElem? (i := 123) (by decide +kernel), List.mem_of_getElem? (i := 641) (by decide +kernel), List.mem_of_getElem? (i := 642) (by decide +kernel)⟩
theorem lw_p7 : lw_okq (⟨"SoleWear$Reader", "nameOf", "(LSoleWear$Tape;)I"⟩, 4) := ⟨⟨by decide +kernel, by decide +kernel⟩, List.mem_of_getElem? (i := 123) (by decide +kernel), List.mem_of_getElem? (i := 649) (by decide +kernel), List.mem_of_getElem? (i := 650) (by decide +kernel)⟩
theorem lw_p8 : lw_okq (⟨"SoleWear", "slotOf", "(I)LSoleWear$Slot;"⟩, 12) := ⟨⟨by decide +kernel, by decide +kernel⟩, List.mem_of_getElem? (i := 18) (by decide +kernel), List.mem_of_getElem? (i := 712) (by decide +kernel), List.mem_of_getElem? (i := 713) (by decide +kernel)⟩
theorem lw_p9 : lw_okq (⟨"SoleWearModel", "comes", "(IIII)I"⟩, 35) := ⟨⟨by decide +kernel, by decide +kernel⟩, List.mem_of_getElem? (i := 754) (by decide +kernel), List.mem_of_getElem? (i := 881) (by decide +kernel), List.mem_of_getElem? (i := 882) (by decide +kernel)⟩
theorem lw_p10 : lw_okq (⟨"SoleWearModel", "put", "(III)V"⟩, 35) := ⟨⟨by decide +kernel, by decide +kernel⟩, List.mem_of_getElem? (i := 754) (by decide +kernel), List.mem_of_getElem? (i := 885) (by decide +kernel), List.mem_of_getElem? (i := 886) (by decide +kernel)⟩
theorem lw_p11 : lw_okq (⟨"SoleWearModel", "isDancer", "(I)Z"⟩, 35) := ⟨⟨by decide +kernel, by decide +kernel⟩, List.mem_of_getElem? (i := 754) (by decide +kernel), List.mem_of_getElem? (i := 893) (by decide +kernel), List.mem_of_getElem? (i := 894) (by decide +kernel)⟩
theorem lw_p12 : lw_okq (⟨"SoleWearModel", "of", "(II)I"⟩, 35) := ⟨⟨by decide +kernel, by decide +kernel⟩, List.mem_of_getElem? (i := 754) (by decide +kernel), List.mem_of_getElem? (i := 897) (by decide +kernel), List.mem_of_getElem? (i := 898) (by decide +kernel)⟩
theorem lw_p13 : lw_okq (⟨"SoleWearModel", "goesOf", "(I)I"⟩, 35) := ⟨⟨by decide +kernel, by decide +kernel⟩, List.mem_of_getElem? (i := 754) (by decide +kernel), List.mem_of_getElem? (i := 901) (by decide +kernel), List.mem_of_getElem? (i := 902) (by decide +kernel)⟩
theorem lw_p14 : lw_okq (⟨"SoleWearModel", "floorUnder", "(I)I"⟩, 35) := ⟨⟨by decide +kernel, by decide +kernel⟩, List.mem_of_getElem? (i := 754) (by decide +kernel), List.mem_of_getElem? (i := 908) (by decide +kernel), List.mem_of_getElem? (i := 909) (by decide +kernel)⟩
theorem lw_p15 : lw_okq (⟨"SoleWearModel", "wearsOn", "(II)I"⟩, 35) := ⟨⟨by decide +kernel, by decide +kernel⟩, List.mem_of_getElem? (i := 754) (by decide +kernel), List.mem_of_getElem? (i := 912) (by decide +kernel), List.mem_of_getElem? (i := 913) (by decide +kernel)⟩
def lw_privs_1 : List (MethodName × Nat) := [(⟨"SoleWear", "isDancer", "(I)Z"⟩, 12), (⟨"SoleWear", "clearTally", "()V"⟩, 12), (⟨"SoleWear", "sheetOf", "(I)LSoleWear$Row;"⟩, 12), (⟨"SoleWear", "tallyDifferences", "(LSoleWear$Row;)V"⟩, 12), (⟨"SoleWear$Reader", "chain", "(LSoleWear$Tape;III)Z"⟩, 4), (⟨"SoleWear$Reader", "piece", "(LSoleWear$Tape;II)Z"⟩, 4), (⟨"SoleWear$Reader", "put", "(I)V"⟩, 4), (⟨"SoleWear$Reader", "nameOf", "(LSoleWear$Tape;)I"⟩, 4), (⟨"SoleWear", "slotOf", "(I)LSoleWear$Slot;"⟩, 12), (⟨"SoleWearModel", "comes", "(IIII)I"⟩, 35), (⟨"SoleWearModel", "put", "(III)V"⟩, 35), (⟨"SoleWearModel", "isDancer", "(I)Z"⟩, 35), (⟨"SoleWearModel", "of", "(II)I"⟩, 35), (⟨"SoleWearModel", "goesOf", "(I)I"⟩, 35), (⟨"SoleWearModel", "floorUnder", "(I)I"⟩, 35), (⟨"SoleWearModel", "wearsOn", "(II)I"⟩, 35)]
theorem lw_r1 : ∀ q ∈ lw_privs_1, lw_okq q := List.forall_mem_cons.mpr ⟨lw_p0, List.forall_mem_cons.mpr ⟨lw_p1, List.forall_mem_cons.mpr ⟨lw_p2, List.forall_mem_cons.mpr ⟨lw_p3, List.forall_mem_cons.mpr ⟨lw_p4, List.forall_mem_cons.mpr ⟨lw_p5, List.forall_mem_cons.mpr ⟨lw_p6, List.forall_mem_cons.mpr ⟨lw_p7, List.forall_mem_cons.mpr ⟨lw_p8, List.forall_mem_cons.mpr ⟨lw_p9, List.forall_mem_cons.mpr ⟨lw_p10, List.forall_mem_cons.mpr ⟨lw_p11, List.forall_mem_cons.mpr ⟨lw_p12, List.forall_mem_cons.mpr ⟨lw_p13, List.forall_mem_cons.mpr ⟨lw_p14, List.forall_mem_cons.mpr ⟨lw_p15, fun _ h => absurd h List.not_mem_nil⟩⟩⟩⟩⟩⟩⟩⟩⟩⟩⟩⟩⟩⟩⟩⟩
theorem lw_p16 : lw_okq (⟨"SoleWearModel", "counts", "(I)I"⟩, 35) := ⟨⟨by decide +kernel, by decide +kernel⟩, List.mem_of_getElem? (i := 754) (by decide +kernel), List.mem_of_getElem? (i := 916) (by decide +kernel), List.mem_of_getElem? (i := 917) (by decide +kernel)⟩
theorem lw_p17 : lw_okq (⟨"SoleWearModel", "worksOut", "(I)I"⟩, 35) := ⟨⟨by decide +kernel, by decide +kernel⟩, List.mem_of_getElem? (i := 754) (by decide +kernel), List.mem_of_getElem? (i := 920) (by decide +kernel), List.mem_of_getElem? (i := 921) (by decide +kernel)⟩
theorem lw_p18 : lw_okq (⟨"SoleWearModel", "leavesOn", "(II)I"⟩, 35) := ⟨⟨by decide +kernel, by decide +kernel⟩, List.mem_of_getElem? (i := 754) (by decide +kernel), List.mem_of_getElem? (i := 927) (by decide +kernel), List.mem_of_getElem? (i := 928) (by decide +kernel)⟩
theorem lw_p19 : lw_okq (⟨"SoleWearModel", "worthOf", "(I)I"⟩, 35) := ⟨⟨by decide +kernel, by decide +kernel⟩, List.mem_of_getElem? (i := 754) (by decide +kernel), List.mem_of_getElem? (i := 931) (by decide +kernel), List.mem_of_getElem? (i := 932) (by decide +kernel)⟩
theorem lw_p20 : lw_okq (⟨"SoleWearModel", "becomes", "(II)I"⟩, 35) := ⟨⟨by decide +kernel, by decide +kernel⟩, List.mem_of_getElem? (i := 754) (by decide +kernel), List.mem_of_getElem? (i := 947) (by decide +kernel), List.mem_of_getElem? (i := 948) (by decide +kernel)⟩
theorem lw_p21 : lw_okq (⟨"SoleWearModel", "those", "(I)I"⟩, 35) := ⟨⟨by decide +kernel, by decide +kernel⟩, List.mem_of_getElem? (i := 754) (by decide +kernel), List.mem_of_getElem? (i := 974) (by decide +kernel), List.mem_of_getElem? (i := 975) (by decide +kernel)⟩
theorem lw_p22 : lw_okq (⟨"SoleWearModel", "waysTo", "(II)I"⟩, 35) := ⟨⟨by decide +kernel, by decide +kernel⟩, List.mem_of_getElem? (i := 754) (by decide +kernel), List.mem_of_getElem? (i := 982) (by decide +kernel), List.mem_of_getElem? (i := 983) (by decide +kernel)⟩
theorem lw_p23 : lw_okq (⟨"SoleWearModel", "draw", "()I"⟩, 35) := ⟨⟨by decide +kernel, by decide +kernel⟩, List.mem_of_getElem? (i := 754) (by decide +kernel), List.mem_of_getElem? (i := 995) (by decide +kernel), List.mem_of_getElem? (i := 996) (by decide +kernel)⟩
theorem lw_p24 : lw_okq (⟨"SoleWearModel", "sumOf", "(I)I"⟩, 35) := ⟨⟨by decide +kernel, by decide +kernel⟩, List.mem_of_getElem? (i := 754) (by decide +kernel), List.mem_of_getElem? (i := 1008) (by decide +kernel), List.mem_of_getElem? (i := 1009) (by decide +kernel)⟩
theorem lw_p25 : lw_okq (⟨"SoleWearModel", "goesOn", "(I)V"⟩, 35) := ⟨⟨by decide +kernel, by decide +kernel⟩, List.mem_of_getElem? (i := 754) (by decide +kernel), List.mem_of_getElem? (i := 1012) (by decide +kernel), List.mem_of_getElem? (i := 1013) (by decide +kernel)⟩
theorem lw_p26 : lw_okq (⟨"SoleWearModel", "hour", "()V"⟩, 35) := ⟨⟨by decide +kernel, by decide +kernel⟩, List.mem_of_getElem? (i := 754) (by decide +kernel), List.mem_of_getElem? (i := 1016) (by decide +kernel), List.mem_of_getElem? (i := 1017) (by decide +kernel)⟩
theorem lw_p27 : lw_okq (⟨"SoleWearModel", "steps", "(I)V"⟩, 35) := ⟨⟨by decide +kernel, by decide +kernel⟩, List.mem_of_getElem? (i := 754) (by decide +kernel), List.mem_of_getElem? (i := 1020) (by decide +kernel), List.mem_of_getElem? (i := 1021) (by decide +kernel)⟩
theorem lw_p28 : lw_okq (⟨"SoleWearModel", "marks", "()I"⟩, 35) := ⟨⟨by decide +kernel, by decide +kernel⟩, List.mem_of_getElem? (i := 754) (by decide +kernel), List.mem_of_getElem? (i := 1031) (by decide +kernel), List.mem_of_getElem? (i := 1032) (by decide +kernel)⟩
theorem lw_p29 : lw_okq (⟨"SoleWearModel", "bare", "()I"⟩, 35) := ⟨⟨by decide +kernel, by decide +kernel⟩, List.mem_of_getElem? (i := 754) (by decide +kernel), List.mem_of_getElem? (i := 1035) (by decide +kernel), List.mem_of_getElem? (i := 1036) (by decide +kernel)⟩
theorem lw_p30 : lw_okq (⟨"SoleWearModel", "thinks", "()V"⟩, 35) := ⟨⟨by decide +kernel, by decide +kernel⟩, List.mem_of_getElem? (i := 754) (by decide +kernel), List.mem_of_getElem? (i := 1043) (by decide +kernel), List.mem_of_getElem? (i := 1044) (by decide +kernel)⟩
theorem lw_p31 : lw_okq (⟨"SoleWearModel", "putsBack", "()V"⟩, 35) := ⟨⟨by decide +kernel, by decide +kernel⟩, List.mem_of_getElem? (i := 754) (by decide +kernel), List.mem_of_getElem? (i := 1047) (by decide +kernel), List.mem_of_getElem? (i := 1048) (by decide +kernel)⟩
def lw_privs_2 : List (MethodName × Nat) := [(⟨"SoleWearModel", "counts", "(I)I"⟩, 35), (⟨"SoleWearModel", "worksOut", "(I)I"⟩, 35), (⟨"SoleWearModel", "leavesOn", "(II)I"⟩, 35), (⟨"SoleWearModel", "worthOf", "(I)I"⟩, 35), (⟨"SoleWearModel", "becomes", "(II)I"⟩, 35), (⟨"SoleWearModel", "those", "(I)I"⟩, 35), (⟨"SoleWearModel", "waysTo", "(II)I"⟩, 35), (⟨"SoleWearModel", "draw", "()I"⟩, 35), (⟨"SoleWearModel", "sumOf", "(I)I"⟩, 35), (⟨"SoleWearModel", "goesOn", "(I)V"⟩, 35), (⟨"SoleWearModel", "hour", "()V"⟩, 35), (⟨"SoleWearModel", "steps", "(I)V"⟩, 35), (⟨"SoleWearModel", "marks", "()I"⟩, 35), (⟨"SoleWearModel", "bare", "()I"⟩, 35), (⟨"SoleWearModel", "thinks", "()V"⟩, 35), (⟨"SoleWearModel", "putsBack", "()V"⟩, 35)]
theorem lw_r2 : ∀ q ∈ lw_privs_2, lw_okq q := List.forall_mem_cons.mpr ⟨lw_p16, List.forall_mem_cons.mpr ⟨lw_p17, List.forall_mem_cons.mpr ⟨lw_p18, List.forall_mem_cons.mpr ⟨lw_p19, List.forall_mem_cons.mpr ⟨lw_p20, List.forall_mem_cons.mpr ⟨lw_p21, List.forall_mem_cons.mpr ⟨lw_p22, List.forall_mem_cons.mpr ⟨lw_p23, List.forall_mem_cons.mpr ⟨lw_p24, List.forall_mem_cons.mpr ⟨lw_p25, List.forall_mem_cons.mpr ⟨lw_p26, List.forall_mem_cons.mpr ⟨lw_p27, List.forall_mem_cons.mpr ⟨lw_p28, List.forall_mem_cons.mpr ⟨lw_p29, List.forall_mem_cons.mpr ⟨lw_p30, List.forall_mem_cons.mpr ⟨lw_p31, fun _ h => absurd h List.not_mem_nil⟩⟩⟩⟩⟩⟩⟩⟩⟩⟩⟩⟩⟩⟩⟩⟩
theorem lw_p32 : lw_okq (⟨"SoleWearModel", "go", "()V"⟩, 35) := ⟨⟨by decide +kernel, by decide +kernel⟩, List.mem_of_getElem? (i := 754) (by decide +kernel), List.mem_of_getElem? (i := 1103) (by decide +kernel), List.mem_of_getElem? (i := 1104) (by decide +kernel)⟩
theorem lw_p33 : lw_okq (⟨"SoleWearModel", "isLetter", "(I)Z"⟩, 35) := ⟨⟨by decide +kernel, by decide +kernel⟩, List.mem_of_getElem? (i := 754) (by decide +kernel), List.mem_of_getElem? (i := 1107) (by decide +kernel), List.mem_of_getElem? (i := 1108) (by decide +kernel)⟩
theorem lw_p34 : lw_okq (⟨"SoleWearModel", "isFigure", "(I)Z"⟩, 35) := ⟨⟨by decide +kernel, by decide +kernel⟩, List.mem_of_getElem? (i := 754) (by decide +kernel), List.mem_of_getElem? (i := 1111) (by decide +kernel), List.mem_of_getElem? (i := 1112) (by decide +kernel)⟩
theorem lw_p35 : lw_okq (⟨"SoleWearModel", "takesKey", "()Z"⟩, 35) := ⟨⟨by decide +kernel, by decide +kernel⟩, List.mem_of_getElem? (i := 754) (by decide +kernel), List.mem_of_getElem? (i := 1115) (by decide +kernel), List.mem_of_getElem? (i := 1116) (by decide +kernel)⟩
theorem lw_p36 : lw_okq (⟨"SoleWearModel", "takesE", "()Z"⟩, 35) := ⟨⟨by decide +kernel, by decide +kernel⟩, List.mem_of_getElem? (i := 754) (by decide +kernel), List.mem_of_getElem? (i := 1119) (by decide +kernel), List.mem_of_getElem? (i := 1120) (by decide +kernel)⟩
theorem lw_p37 : lw_okq (⟨"SoleWearModel", "takesPart", "()Z"⟩, 35) := ⟨⟨by decide +kernel, by decide +kernel⟩, List.mem_of_getElem? (i := 754) (by decide +kernel), List.mem_of_getElem? (i := 1123) (by decide +kernel), List.mem_of_getElem? (i := 1124) (by decide +kernel)⟩
theorem lw_p38 : lw_okq (⟨"SoleWearModel", "nameOf", "(I)I"⟩, 35) := ⟨⟨by decide +kernel, by decide +kernel⟩, List.mem_of_getElem? (i := 754) (by decide +kernel), List.mem_of_getElem? (i := 1127) (by decide +kernel), List.mem_of_getElem? (i := 1128) (by decide +kernel)⟩
theorem lw_p39 : lw_okq (⟨"SoleWearModel", "settle", "(I)V"⟩, 35) := ⟨⟨by decide +kernel, by decide +kernel⟩, List.mem_of_getElem? (i := 754) (by decide +kernel), List.mem_of_getElem? (i := 1131) (by decide +kernel), List.mem_of_getElem? (i := 1132) (by decide +kernel)⟩
theorem lw_p40 : lw_okq (⟨"SoleWearModel", "notsOpen", "()I"⟩, 35) := ⟨⟨by decide +kernel, by decide +kernel⟩, List.mem_of_getElem? (i := 754) (by decide +kernel), List.mem_of_getElem? (i := 1138) (by decide +kernel), List.mem_of_getElem? (i := 1139) (by decide +kernel)⟩
theorem lw_p41 : lw_okq (⟨"SoleWearModel", "signHere", "()I"⟩, 35) := ⟨⟨by decide +kernel, by decide +kernel⟩, List.mem_of_getElem? (i := 754) (by decide +kernel), List.mem_of_getElem? (i := 1142) (by decide +kernel), List.mem_of_getElem? (i := 1143) (by decide +kernel)⟩
def lw_privs_3 : List (MethodName × Nat) := [(⟨"SoleWearModel", "go", "()V"⟩, 35), (⟨"SoleWearModel", "isLetter", "(I)Z"⟩, 35), (⟨"SoleWearModel", "isFigure", "(I)Z"⟩, 35), (⟨"SoleWearModel", "takesKey", "()Z"⟩, 35), (⟨"SoleWearModel", "takesE", "()Z"⟩, 35), (⟨"SoleWearModel", "takesPart", "()Z"⟩, 35), (⟨"SoleWearModel", "nameOf", "(I)I"⟩, 35), (⟨"SoleWearModel", "settle", "(I)V"⟩, 35), (⟨"SoleWearModel", "notsOpen", "()I"⟩, 35), (⟨"SoleWearModel", "signHere", "()I"⟩, 35)]
theorem lw_r3 : ∀ q ∈ lw_privs_3, lw_okq q := List.forall_mem_cons.mpr ⟨lw_p32, List.forall_mem_cons.mpr ⟨lw_p33, List.forall_mem_cons.mpr ⟨lw_p34, List.forall_mem_cons.mpr ⟨lw_p35, List.forall_mem_cons.mpr ⟨lw_p36, List.forall_mem_cons.mpr ⟨lw_p37, List.forall_mem_cons.mpr ⟨lw_p38, List.forall_mem_cons.mpr ⟨lw_p39, List.forall_mem_cons.mpr ⟨lw_p40, List.forall_mem_cons.mpr ⟨lw_p41, fun _ h => absurd h List.not_mem_nil⟩⟩⟩⟩⟩⟩⟩⟩⟩⟩
def lw_privs : List (MethodName × Nat) := lw_privs_1 ++ (lw_privs_2 ++ (lw_privs_3))
def lw_tbl : List Cond := k2_sels lw_privs ++ tables_1
theorem lw_privs_ok : ∀ q ∈ lw_privs, lw_okq q := by
  show ∀ q ∈ lw_privs_1 ++ (lw_privs_2 ++ (lw_privs_3)), lw_okq q
  exact List.forall_mem_append.mpr ⟨lw_r1, List.forall_mem_append.mpr ⟨lw_r2, lw_r3⟩⟩

/-! ===== BEGIN words of one list among another's, by their places ===== -/
theorem goodIn_r {big : List Cond} (ws : List Cond) (ps : List Nat) (hp : ws = ps.filterMap (fun i => big[i]?)) (h : ws.all goodWord = true) : GoodIn big ws := by
  intro w hw
  have h1 := List.all_eq_true.mp h w hw
  rw [hp] at hw
  obtain ⟨i, -, hi⟩ := List.mem_filterMap.mp hw
  have hm : w ∈ big := by first | exact List.mem_of_getElem? hi | exact List.getElem?_mem hi
  exact ⟨hm, good_of_word h1⟩
theorem goodIn_app {big a b : List Cond} (ha : GoodIn big a) (hb : GoodIn big b) : GoodIn big (a ++ b) := fun w h => (List.mem_append.mp h).elim (ha w) (hb w)
theorem goodIn_ca {big a b : List Cond} {c : Cond} (ha : GoodIn big (c :: a)) (hb : GoodIn big b) : GoodIn big (c :: (a ++ b)) := fun w h => (List.mem_cons.mp h).elim (fun e => ha w (List.mem_cons.mpr (Or.inl e))) (fun h => (List.mem_append.mp h).elim (fun h => ha w (List.mem_cons.mpr (Or.inr h))) (hb w))
theorem goodIn_sub {big ws : List Cond} (hm : ∀ w ∈ ws, w ∈ big) (h : ws.all goodWord = true) : GoodIn big ws := fun w hw => ⟨hm w hw, good_of_word (List.all_eq_true.mp h w hw)⟩
/-! ===== END ===== -/


def RX0 : String := "SoleWear$House"
def TX0 : u_T := fun k => match k with
  | 0 => ("SoleWear$House", "dancers", "I", false)
  | 1 => ("SoleWear$House", "kind", "[I", true)
  | 2 => ("SoleWear$House", "at", "[I", true)
  | 3 => ("SoleWear$House", "sole", "[I", true)
  | 4 => ("SoleWear$House", "steps", "[I", true)
  | 5 => ("SoleWear$House", "danced", "[I", true)
  | 6 => ("SoleWear$House", "floor", "[I", true)
  | 7 => ("SoleWear$House", "leads", "[I", true)
  | 8 => ("SoleWear$House", "marks", "[I", true)
  | 9 => ("SoleWear$House", "watch", "I", false)
  | 10 => ("SoleWear$House", "seen", "I", false)
  | 11 => ("SoleWear$House", "looked", "I", false)
  | 12 => ("SoleWear$House", "hour", "I", false)
  | 13 => ("SoleWear$House", "z", "I", false)
  | 14 => ("SoleWear$House", "texts", "I", false)
  | _ => ("SoleWear$House", "counting", "[I", true)
def tyX0 : Nat → FieldType := fun k => match k with
  | 0 => .int
  | 1 => .array .int
  | 2 => .array .int
  | 3 => .array .int
  | 4 => .array .int
  | 5 => .array .int
  | 6 => .array .int
  | 7 => .array .int
  | 8 => .array .int
  | 9 => .int
  | 10 => .int
  | 11 => .int
  | 12 => .int
  | 13 => .int
  | 14 => .int
  | _ => .array .int
abbrev wsX00 : List Cond := u_ws RX0 TX0 16
theorem nmX0 : ∀ a, a < 16 → ∀ b, b < 16 → a ≠ b → (TX0 a).2.1 ≠ (TX0 b).2.1 := by decide +kernel
theorem tyX0_ok : ∀ k, k < 16 → parseFieldDescriptor (TX0 k).2.2.1 = some (tyX0 k) := by decide +kernel
abbrev cX0_init : ByteArray := prog_2_method_1_code
def yX0_init : MethodName := ⟨RX0, "<init>", "()V"⟩
abbrev cX0_become : ByteArray := prog_2_method_2_code
def yX0_become : MethodName := ⟨RX0, "become", "(LSoleWear$House;)V"⟩
abbrev cX0_join : ByteArray := prog_2_method_3_code
def yX0_join : MethodName := ⟨RX0, "join", "(IIII)I"⟩
abbrev cX0_joinByLot : ByteArray := prog_2_method_4_code
def yX0_joinByLot : MethodName := ⟨RX0, "joinByLot", "()I"⟩
abbrev cX0_draw : ByteArray := prog_2_method_5_code
def yX0_draw : MethodName := ⟨RX0, "draw", "()I"⟩
abbrev cX0_goesNext : ByteArray := prog_2_method_6_code
def yX0_goesNext : MethodName := ⟨RX0, "goesNext", "(I)I"⟩
abbrev cX0_wearsHere : ByteArray := prog_2_method_7_code
def yX0_wearsHere : MethodName := ⟨RX0, "wearsHere", "(ILSoleWear$Laws;)I"⟩
abbrev cX0_leavesHere : ByteArray := prog_2_method_8_code
def yX0_leavesHere : MethodName := ⟨RX0, "leavesHere", "(I)I"⟩
abbrev cX0_walk : ByteArray := prog_2_method_9_code
def yX0_walk : MethodName := ⟨RX0, "walk", "(ILSoleWear$Laws;)I"⟩
abbrev cX0_passHour : ByteArray := prog_2_method_10_code
def yX0_passHour : MethodName := ⟨RX0, "passHour", "(LSoleWear$Laws;)I"⟩
abbrev cX0_passHours : ByteArray := prog_2_method_11_code
def yX0_passHours : MethodName := ⟨RX0, "passHours", "(ILSoleWear$Laws;)I"⟩
abbrev cX0_dancersAt : ByteArray := prog_2_method_12_code
def yX0_dancersAt : MethodName := ⟨RX0, "dancersAt", "(I)I"⟩
abbrev cX0_barefoot : ByteArray := prog_2_method_13_code
def yX0_barefoot : MethodName := ⟨RX0, "barefoot", "()I"⟩
abbrev cX0_roomsWithMarks : ByteArray := prog_2_method_14_code
def yX0_roomsWithMarks : MethodName := ⟨RX0, "roomsWithMarks", "()I"⟩
abbrev cX0_allMarks : ByteArray := prog_2_method_15_code
def yX0_allMarks : MethodName := ⟨RX0, "allMarks", "()I"⟩
abbrev cX0_allSoles : ByteArray := prog_2_method_16_code
def yX0_allSoles : MethodName := ⟨RX0, "allSoles", "()I"⟩
abbrev cX0_ringFrom : ByteArray := prog_2_method_17_code
def yX0_ringFrom : MethodName := ⟨RX0, "ringFrom", "(I)I"⟩
abbrev cX0_waysBetween : ByteArray := prog_2_method_18_code
def yX0_waysBetween : MethodName := ⟨RX0, "waysBetween", "(II)I"⟩
def RX1 : String := "SoleWear$Kinds"
def TX1 : u_T := fun k => match k with
  | _ => ("", "", "", false)
def tyX1 : Nat → FieldType := fun k => match k with
  | _ => .int
abbrev wsX10 : List Cond := u_ws RX1 TX1 0
theorem nmX1 : ∀ a, a < 0 → ∀ b, b < 0 → a ≠ b → (TX1 a).2.1 ≠ (TX1 b).2.1 := by decide +kernel
theorem tyX1_ok : ∀ k, k < 0 → parseFieldDescriptor (TX1 k).2.2.1 = some (tyX1 k) := by decide +kernel
abbrev cX1_isOf : ByteArray := prog_3_method_2_code
def yX1_isOf : MethodName := ⟨RX1, "isOf", "(II)Z"⟩
abbrev cX1_wears : ByteArray := prog_3_method_3_code
def yX1_wears : MethodName := ⟨RX1, "wears", "(II)I"⟩
abbrev cX1_goes : ByteArray := prog_3_method_4_code
def yX1_goes : MethodName := ⟨RX1, "goes", "(III)I"⟩
abbrev cX1_leaves : ByteArray := prog_3_method_5_code
def yX1_leaves : MethodName := ⟨RX1, "leaves", "(II)I"⟩
abbrev cX1_worth : ByteArray := prog_3_method_6_code
def yX1_worth : MethodName := ⟨RX1, "worth", "(II)I"⟩
def RX2 : String := "SoleWear$Laws"
def TX2 : u_T := fun k => match k with
  | 0 => ("SoleWear$Laws", "codes", "[[I", true)
  | 1 => ("SoleWear$Laws", "sizes", "[I", true)
  | 2 => ("SoleWear$Laws", "keys", "[I", true)
  | 3 => ("SoleWear$Laws", "pieces", "[I", true)
  | _ => ("SoleWear$Laws", "stack", "[I", true)
def tyX2 : Nat → FieldType := fun k => match k with
  | 0 => .array (.array .int)
  | 1 => .array .int
  | 2 => .array .int
  | 3 => .array .int
  | _ => .array .int
abbrev wsX20 : List Cond := u_ws RX2 TX2 5
theorem nmX2 : ∀ a, a < 5 → ∀ b, b < 5 → a ≠ b → (TX2 a).2.1 ≠ (TX2 b).2.1 := by decide +kernel
theorem tyX2_ok : ∀ k, k < 5 → parseFieldDescriptor (TX2 k).2.2.1 = some (tyX2 k) := by decide +kernel
abbrev cX2_init : ByteArray := prog_4_method_1_code
def yX2_init : MethodName := ⟨RX2, "<init>", "()V"⟩
abbrev cX2_put : ByteArray := prog_4_method_2_code
def yX2_put : MethodName := ⟨RX2, "put", "(ILSoleWear$Reader;)V"⟩
abbrev cX2_gives : ByteArray := prog_4_method_3_code
def yX2_gives : MethodName := ⟨RX2, "gives", "(IIII)I"⟩
abbrev cX2_valueOf : ByteArray := prog_4_method_4_code
def yX2_valueOf : MethodName := ⟨RX2, "valueOf", "(IIII)I"⟩
abbrev cX2_joined : ByteArray := prog_4_method_5_code
def yX2_joined : MethodName := ⟨RX2, "joined", "(III)I"⟩
def RX3 : String := "SoleWear$Reader"
def TX3 : u_T := fun k => match k with
  | 0 => ("SoleWear$Reader", "codes", "[I", true)
  | 1 => ("SoleWear$Reader", "size", "I", false)
  | 2 => ("SoleWear$Reader", "pieces", "I", false)
  | _ => ("SoleWear$Reader", "key", "I", false)
def tyX3 : Nat → FieldType := fun k => match k with
  | 0 => .array .int
  | 1 => .int
  | 2 => .int
  | _ => .int
abbrev wsX30 : List Cond := u_ws RX3 TX3 4
theorem nmX3 : ∀ a, a < 4 → ∀ b, b < 4 → a ≠ b → (TX3 a).2.1 ≠ (TX3 b).2.1 := by decide +kernel
theorem tyX3_ok : ∀ k, k < 4 → parseFieldDescriptor (TX3 k).2.2.1 = some (tyX3 k) := by decide +kernel
abbrev cX3_init : ByteArray := prog_5_method_1_code
def yX3_init : MethodName := ⟨RX3, "<init>", "()V"⟩
abbrev cX3_takes : ByteArray := prog_5_method_2_code
def yX3_takes : MethodName := ⟨RX3, "takes", "(LSoleWear$Tape;)Z"⟩
abbrev cX3_keyOf : ByteArray := prog_5_method_3_code
def yX3_keyOf : MethodName := ⟨RX3, "keyOf", "(LSoleWear$Tape;)I"⟩
abbrev cX3_chain : ByteArray := prog_5_method_4_code
def yX3_chain : MethodName := ⟨RX3, "chain", "(LSoleWear$Tape;III)Z"⟩
abbrev cX3_joinOf : ByteArray := prog_5_method_5_code
def yX3_joinOf : MethodName := ⟨RX3, "joinOf", "(LSoleWear$Tape;I)I"⟩
abbrev cX3_piece : ByteArray := prog_5_method_6_code
def yX3_piece : MethodName := ⟨RX3, "piece", "(LSoleWear$Tape;II)Z"⟩
abbrev cX3_nameOf : ByteArray := prog_5_method_7_code
def yX3_nameOf : MethodName := ⟨RX3, "nameOf", "(LSoleWear$Tape;)I"⟩
abbrev cX3_put : ByteArray := prog_5_method_8_code
def yX3_put : MethodName := ⟨RX3, "put", "(I)V"⟩
def RX4 : String := "SoleWear$Row"
def TX4 : u_T := fun k => match k with
  | 0 => ("SoleWear$Row", "sort", "I", false)
  | 1 => ("SoleWear$Row", "size", "I", false)
  | _ => ("SoleWear$Row", "places", "[I", true)
def tyX4 : Nat → FieldType := fun k => match k with
  | 0 => .int
  | 1 => .int
  | _ => .array .int
abbrev wsX40 : List Cond := u_ws RX4 TX4 3
theorem nmX4 : ∀ a, a < 3 → ∀ b, b < 3 → a ≠ b → (TX4 a).2.1 ≠ (TX4 b).2.1 := by decide +kernel
theorem tyX4_ok : ∀ k, k < 3 → parseFieldDescriptor (TX4 k).2.2.1 = some (tyX4 k) := by decide +kernel
abbrev cX4_init : ByteArray := prog_6_method_1_code
def yX4_init : MethodName := ⟨RX4, "<init>", "()V"⟩
abbrev cX4_isMissing : ByteArray := prog_6_method_2_code
def yX4_isMissing : MethodName := ⟨RX4, "isMissing", "()Z"⟩
abbrev cX4_isNumber : ByteArray := prog_6_method_3_code
def yX4_isNumber : MethodName := ⟨RX4, "isNumber", "(I)Z"⟩
abbrev cX4_hasPlaces : ByteArray := prog_6_method_4_code
def yX4_hasPlaces : MethodName := ⟨RX4, "hasPlaces", "(II)Z"⟩
abbrev cX4_becomeZeros : ByteArray := prog_6_method_5_code
def yX4_becomeZeros : MethodName := ⟨RX4, "becomeZeros", "(II)V"⟩
abbrev cX4_become : ByteArray := prog_6_method_6_code
def yX4_become : MethodName := ⟨RX4, "become", "(LSoleWear$Row;)V"⟩
def RX5 : String := "SoleWear$Slot"
def TX5 : u_T := fun k => match k with
  | 0 => ("SoleWear$Slot", "thing", "I", false)
  | 1 => ("SoleWear$Slot", "kind", "I", false)
  | 2 => ("SoleWear$Slot", "sole", "I", false)
  | 3 => ("SoleWear$Slot", "number", "I", false)
  | _ => ("SoleWear$Slot", "row", "LSoleWear$Row;", true)
def tyX5 : Nat → FieldType := fun k => match k with
  | 0 => .int
  | 1 => .int
  | 2 => .int
  | 3 => .int
  | _ => .object "SoleWear$Row"
abbrev wsX50 : List Cond := u_ws RX5 TX5 5
theorem nmX5 : ∀ a, a < 5 → ∀ b, b < 5 → a ≠ b → (TX5 a).2.1 ≠ (TX5 b).2.1 := by decide +kernel
theorem tyX5_ok : ∀ k, k < 5 → parseFieldDescriptor (TX5 k).2.2.1 = some (tyX5 k) := by decide +kernel
abbrev cX5_init : ByteArray := prog_7_method_1_code
def yX5_init : MethodName := ⟨RX5, "<init>", "()V"⟩
def RX6 : String := "SoleWear$Tape"
def TX6 : u_T := fun k => match k with
  | 0 => ("SoleWear$Tape", "bytes", "[I", true)
  | 1 => ("SoleWear$Tape", "length", "I", false)
  | 2 => ("SoleWear$Tape", "start", "I", false)
  | 3 => ("SoleWear$Tape", "behind", "I", false)
  | _ => ("SoleWear$Tape", "sort", "I", false)
def tyX6 : Nat → FieldType := fun k => match k with
  | 0 => .array .int
  | 1 => .int
  | 2 => .int
  | 3 => .int
  | _ => .int
abbrev wsX60 : List Cond := u_ws RX6 TX6 5
theorem nmX6 : ∀ a, a < 5 → ∀ b, b < 5 → a ≠ b → (TX6 a).2.1 ≠ (TX6 b).2.1 := by decide +kernel
theorem tyX6_ok : ∀ k, k < 5 → parseFieldDescriptor (TX6 k).2.2.1 = some (tyX6 k) := by decide +kernel
abbrev cX6_init : ByteArray := prog_8_method_1_code
def yX6_init : MethodName := ⟨RX6, "<init>", "()V"⟩
abbrev cX6_addFour : ByteArray := prog_8_method_2_code
def yX6_addFour : MethodName := ⟨RX6, "addFour", "(I)V"⟩
abbrev cX6_begin : ByteArray := prog_8_method_3_code
def yX6_begin : MethodName := ⟨RX6, "begin", "()V"⟩
abbrev cX6_step : ByteArray := prog_8_method_4_code
def yX6_step : MethodName := ⟨RX6, "step", "()V"⟩
abbrev cX6_sortOf : ByteArray := prog_8_method_5_code
def yX6_sortOf : MethodName := ⟨RX6, "sortOf", "(I)I"⟩
abbrev cX6_isWord : ByteArray := prog_8_method_6_code
def yX6_isWord : MethodName := ⟨RX6, "isWord", "(Ljava/lang/String;)Z"⟩
abbrev cX6_isSign : ByteArray := prog_8_method_7_code
def yX6_isSign : MethodName := ⟨RX6, "isSign", "(C)Z"⟩
abbrev cX6_number : ByteArray := prog_8_method_8_code
def yX6_number : MethodName := ⟨RX6, "number", "()I"⟩
def RX7 : String := "SoleWear"
def TX7 : u_T := fun k => match k with
  | 0 => ("SoleWear", "now", "LSoleWear$House;", true)
  | 1 => ("SoleWear", "image", "LSoleWear$House;", true)
  | 2 => ("SoleWear", "hasImage", "Z", false)
  | 3 => ("SoleWear", "thought", "LSoleWear$House;", true)
  | 4 => ("SoleWear", "tally", "[I", true)
  | 5 => ("SoleWear", "tape", "LSoleWear$Tape;", true)
  | 6 => ("SoleWear", "reader", "LSoleWear$Reader;", true)
  | 7 => ("SoleWear", "laws", "LSoleWear$Laws;", true)
  | 8 => ("SoleWear", "sheets", "[LSoleWear$Row;", true)
  | 9 => ("SoleWear", "slots", "[LSoleWear$Slot;", true)
  | 10 => ("SoleWear", "waiting", "[I", true)
  | _ => ("SoleWear", "waits", "I", false)
def tyX7 : Nat → FieldType := fun k => match k with
  | 0 => .object "SoleWear$House"
  | 1 => .object "SoleWear$House"
  | 2 => .boolean
  | 3 => .object "SoleWear$House"
  | 4 => .array .int
  | 5 => .object "SoleWear$Tape"
  | 6 => .object "SoleWear$Reader"
  | 7 => .object "SoleWear$Laws"
  | 8 => .array (.object "SoleWear$Row")
  | 9 => .array (.object "SoleWear$Slot")
  | 10 => .array .int
  | _ => .int
abbrev wsX70 : List Cond := u_ws RX7 TX7 12
theorem nmX7 : ∀ a, a < 12 → ∀ b, b < 12 → a ≠ b → (TX7 a).2.1 ≠ (TX7 b).2.1 := by decide +kernel
theorem tyX7_ok : ∀ k, k < 12 → parseFieldDescriptor (TX7 k).2.2.1 = some (tyX7 k) := by decide +kernel
abbrev cX7_init : ByteArray := prog_1_method_1_code
def yX7_init : MethodName := ⟨RX7, "<init>", "()V"⟩
abbrev cX7_dancer : ByteArray := prog_1_method_2_code
def yX7_dancer : MethodName := ⟨RX7, "dancer", "(IIII)I"⟩
abbrev cX7_told : ByteArray := prog_1_method_3_code
def yX7_told : MethodName := ⟨RX7, "told", "(II)I"⟩
abbrev cX7_as : ByteArray := prog_1_method_4_code
def yX7_as : MethodName := ⟨RX7, "as", "(II)I"⟩
abbrev cX7_turns : ByteArray := prog_1_method_5_code
def yX7_turns : MethodName := ⟨RX7, "turns", "(II)I"⟩
abbrev cX7_set : ByteArray := prog_1_method_6_code
def yX7_set : MethodName := ⟨RX7, "set", "(III)I"⟩
abbrev cX7_room : ByteArray := prog_1_method_7_code
def yX7_room : MethodName := ⟨RX7, "room", "(III)I"⟩
abbrev cX7_sweep : ByteArray := prog_1_method_8_code
def yX7_sweep : MethodName := ⟨RX7, "sweep", "(I)I"⟩
abbrev cX7_watch : ByteArray := prog_1_method_9_code
def yX7_watch : MethodName := ⟨RX7, "watch", "(I)I"⟩
abbrev cX7_at : ByteArray := prog_1_method_10_code
def yX7_at : MethodName := ⟨RX7, "at", "(I)I"⟩
abbrev cX7_round : ByteArray := prog_1_method_11_code
def yX7_round : MethodName := ⟨RX7, "round", "(I)I"⟩
abbrev cX7_to : ByteArray := prog_1_method_12_code
def yX7_to : MethodName := ⟨RX7, "to", "(II)I"⟩
abbrev cX7_deal : ByteArray := prog_1_method_13_code
def yX7_deal : MethodName := ⟨RX7, "deal", "(I)I"⟩
abbrev cX7_seed : ByteArray := prog_1_method_14_code
def yX7_seed : MethodName := ⟨RX7, "seed", "(I)I"⟩
abbrev cX7_hours : ByteArray := prog_1_method_15_code
def yX7_hours : MethodName := ⟨RX7, "hours", "(I)I"⟩
abbrev cX7_house : ByteArray := prog_1_method_16_code
def yX7_house : MethodName := ⟨RX7, "house", "(I)I"⟩
abbrev cX7_behind : ByteArray := prog_1_method_17_code
def yX7_behind : MethodName := ⟨RX7, "behind", "(II)I"⟩
abbrev cX7_through : ByteArray := prog_1_method_18_code
def yX7_through : MethodName := ⟨RX7, "through", "()I"⟩
abbrev cX7_post : ByteArray := prog_1_method_19_code
def yX7_post : MethodName := ⟨RX7, "post", "(II)I"⟩
abbrev cX7_began : ByteArray := prog_1_method_20_code
def yX7_began : MethodName := ⟨RX7, "began", "(II)I"⟩
abbrev cX7_mended : ByteArray := prog_1_method_21_code
def yX7_mended : MethodName := ⟨RX7, "mended", "(II)I"⟩
abbrev cX7_meets : ByteArray := prog_1_method_22_code
def yX7_meets : MethodName := ⟨RX7, "meets", "(III)I"⟩
abbrev cX7_leads : ByteArray := prog_1_method_23_code
def yX7_leads : MethodName := ⟨RX7, "leads", "(III)I"⟩
abbrev cX7_whose : ByteArray := prog_1_method_24_code
def yX7_whose : MethodName := ⟨RX7, "whose", "(II)I"⟩
abbrev cX7_fee : ByteArray := prog_1_method_25_code
def yX7_fee : MethodName := ⟨RX7, "fee", "()I"⟩
abbrev cX7_fine : ByteArray := prog_1_method_26_code
def yX7_fine : MethodName := ⟨RX7, "fine", "(I)I"⟩
abbrev cX7_feed : ByteArray := prog_1_method_27_code
def yX7_feed : MethodName := ⟨RX7, "feed", "(III)I"⟩
abbrev cX7_trim : ByteArray := prog_1_method_28_code
def yX7_trim : MethodName := ⟨RX7, "trim", "(I)I"⟩
abbrev cX7_text : ByteArray := prog_1_method_29_code
def yX7_text : MethodName := ⟨RX7, "text", "()I"⟩
abbrev cX7_textTold : ByteArray := prog_1_method_30_code
def yX7_textTold : MethodName := ⟨RX7, "textTold", "(II)I"⟩
abbrev cX7_why : ByteArray := prog_1_method_31_code
def yX7_why : MethodName := ⟨RX7, "why", "(I)I"⟩
abbrev cX7_sheet : ByteArray := prog_1_method_32_code
def yX7_sheet : MethodName := ⟨RX7, "sheet", "(III)I"⟩
abbrev cX7_mark : ByteArray := prog_1_method_33_code
def yX7_mark : MethodName := ⟨RX7, "mark", "(III)I"⟩
abbrev cX7_pour : ByteArray := prog_1_method_34_code
def yX7_pour : MethodName := ⟨RX7, "pour", "(I)I"⟩
abbrev cX7_reads : ByteArray := prog_1_method_35_code
def yX7_reads : MethodName := ⟨RX7, "reads", "(I)I"⟩
abbrev cX7_copy : ByteArray := prog_1_method_36_code
def yX7_copy : MethodName := ⟨RX7, "copy", "(IIIII)I"⟩
abbrev cX7_lay : ByteArray := prog_1_method_37_code
def yX7_lay : MethodName := ⟨RX7, "lay", "(III)I"⟩
abbrev cX7_ask : ByteArray := prog_1_method_38_code
def yX7_ask : MethodName := ⟨RX7, "ask", "(II)I"⟩
abbrev cX7_item : ByteArray := prog_1_method_39_code
def yX7_item : MethodName := ⟨RX7, "item", "(II)I"⟩
abbrev cX7_rest : ByteArray := prog_1_method_40_code
def yX7_rest : MethodName := ⟨RX7, "rest", "(II)I"⟩
abbrev cX7_tell : ByteArray := prog_1_method_41_code
def yX7_tell : MethodName := ⟨RX7, "tell", "(I)I"⟩
abbrev cX7_check : ByteArray := prog_1_method_42_code
def yX7_check : MethodName := ⟨RX7, "check", "(I)I"⟩
abbrev cX7_keep : ByteArray := prog_1_method_43_code
def yX7_keep : MethodName := ⟨RX7, "keep", "()I"⟩
abbrev cX7_back : ByteArray := prog_1_method_44_code
def yX7_back : MethodName := ⟨RX7, "back", "()I"⟩
abbrev cX7_count : ByteArray := prog_1_method_45_code
def yX7_count : MethodName := ⟨RX7, "count", "(I)I"⟩
abbrev cX7_isDancer : ByteArray := prog_1_method_46_code
def yX7_isDancer : MethodName := ⟨RX7, "isDancer", "(I)Z"⟩
abbrev cX7_sheetOf : ByteArray := prog_1_method_47_code
def yX7_sheetOf : MethodName := ⟨RX7, "sheetOf", "(I)LSoleWear$Row;"⟩
abbrev cX7_slotOf : ByteArray := prog_1_method_48_code
def yX7_slotOf : MethodName := ⟨RX7, "slotOf", "(I)LSoleWear$Slot;"⟩
abbrev cX7_clearTally : ByteArray := prog_1_method_49_code
def yX7_clearTally : MethodName := ⟨RX7, "clearTally", "()V"⟩
abbrev cX7_tallyDifferences : ByteArray := prog_1_method_50_code
def yX7_tallyDifferences : MethodName := ⟨RX7, "tallyDifferences", "(LSoleWear$Row;)V"⟩
abbrev cX7_isKind : ByteArray := prog_1_method_51_code
def yX7_isKind : MethodName := ⟨RX7, "isKind", "(I)Z"⟩
abbrev cX7_isRoom : ByteArray := prog_1_method_52_code
def yX7_isRoom : MethodName := ⟨RX7, "isRoom", "(I)Z"⟩
abbrev cX7_isSole : ByteArray := prog_1_method_53_code
def yX7_isSole : MethodName := ⟨RX7, "isSole", "(I)Z"⟩
abbrev cX7_isSteps : ByteArray := prog_1_method_54_code
def yX7_isSteps : MethodName := ⟨RX7, "isSteps", "(I)Z"⟩
abbrev cX7_isShortRun : ByteArray := prog_1_method_55_code
def yX7_isShortRun : MethodName := ⟨RX7, "isShortRun", "(I)Z"⟩
abbrev cX7_isOneOfTwo : ByteArray := prog_1_method_56_code
def yX7_isOneOfTwo : MethodName := ⟨RX7, "isOneOfTwo", "(I)Z"⟩
abbrev cX7_held : ByteArray := prog_1_method_57_code
def yX7_held : MethodName := ⟨RX7, "held", "(II)I"⟩
abbrev cX7_changed : ByteArray := prog_1_method_58_code
def yX7_changed : MethodName := ⟨RX7, "changed", "([III)I"⟩
def RX8 : String := "SoleWearModel"
def TX8 : u_T := fun k => match k with
  | 0 => ("SoleWearModel", "now", "[I", true)
  | 1 => ("SoleWearModel", "image", "[I", true)
  | 2 => ("SoleWearModel", "aside", "[I", true)
  | 3 => ("SoleWearModel", "hasImage", "Z", false)
  | 4 => ("SoleWearModel", "before", "[I", true)
  | 5 => ("SoleWearModel", "counted", "[I", true)
  | 6 => ("SoleWearModel", "differ", "[J", true)
  | 7 => ("SoleWearModel", "tape", "[I", true)
  | 8 => ("SoleWearModel", "taped", "I", false)
  | 9 => ("SoleWearModel", "next", "I", false)
  | 10 => ("SoleWearModel", "from", "I", false)
  | 11 => ("SoleWearModel", "token", "I", false)
  | 12 => ("SoleWearModel", "value", "I", false)
  | 13 => ("SoleWearModel", "ended", "I", false)
  | 14 => ("SoleWearModel", "key", "I", false)
  | 15 => ("SoleWearModel", "keys", "[C", true)
  | 16 => ("SoleWearModel", "keyAt", "[I", true)
  | 17 => ("SoleWearModel", "code", "[I", true)
  | 18 => ("SoleWearModel", "codes", "I", false)
  | 19 => ("SoleWearModel", "atoms", "I", false)
  | 20 => ("SoleWearModel", "waits", "[I", true)
  | 21 => ("SoleWearModel", "held", "I", false)
  | 22 => ("SoleWearModel", "tested", "[Z", true)
  | 23 => ("SoleWearModel", "stack", "[I", true)
  | 24 => ("SoleWearModel", "facts", "[I", true)
  | 25 => ("SoleWearModel", "sorts", "[I", true)
  | 26 => ("SoleWearModel", "sizes", "[I", true)
  | 27 => ("SoleWearModel", "cells", "[I", true)
  | 28 => ("SoleWearModel", "holds", "[I", true)
  | 29 => ("SoleWearModel", "holdsA", "[I", true)
  | 30 => ("SoleWearModel", "holdsB", "[I", true)
  | 31 => ("SoleWearModel", "heldCells", "[I", true)
  | 32 => ("SoleWearModel", "moved", "[I", true)
  | 33 => ("SoleWearModel", "tells", "[I", true)
  | _ => ("SoleWearModel", "waiting", "I", false)
def tyX8 : Nat → FieldType := fun k => match k with
  | 0 => .array .int
  | 1 => .array .int
  | 2 => .array .int
  | 3 => .boolean
  | 4 => .array .int
  | 5 => .array .int
  | 6 => .array .long
  | 7 => .array .int
  | 8 => .int
  | 9 => .int
  | 10 => .int
  | 11 => .int
  | 12 => .int
  | 13 => .int
  | 14 => .int
  | 15 => .array .char
  | 16 => .array .int
  | 17 => .array .int
  | 18 => .int
  | 19 => .int
  | 20 => .array .int
  | 21 => .int
  | 22 => .array .boolean
  | 23 => .array .int
  | 24 => .array .int
  | 25 => .array .int
  | 26 => .array .int
  | 27 => .array .int
  | 28 => .array .int
  | 29 => .array .int
  | 30 => .array .int
  | 31 => .array .int
  | 32 => .array .int
  | 33 => .array .int
  | _ => .int
abbrev wsX80 : List Cond := u_ws RX8 TX8 35
theorem nmX8 : ∀ a, a < 35 → ∀ b, b < 35 → a ≠ b → (TX8 a).2.1 ≠ (TX8 b).2.1 := by decide +kernel
theorem tyX8_ok : ∀ k, k < 35 → parseFieldDescriptor (TX8 k).2.2.1 = some (tyX8 k) := by decide +kernel
abbrev cX8_init : ByteArray := prog_10_method_1_code
def yX8_init : MethodName := ⟨RX8, "<init>", "()V"⟩
abbrev cX8_in : ByteArray := prog_10_method_2_code
def yX8_in : MethodName := ⟨RX8, "in", "(III)Z"⟩
abbrev cX8_within : ByteArray := prog_10_method_3_code
def yX8_within : MethodName := ⟨RX8, "within", "(III)I"⟩
abbrev cX8_copyAll : ByteArray := prog_10_method_4_code
def yX8_copyAll : MethodName := ⟨RX8, "copyAll", "([I[I)V"⟩
abbrev cX8_isDancer : ByteArray := prog_10_method_5_code
def yX8_isDancer : MethodName := ⟨RX8, "isDancer", "(I)Z"⟩
abbrev cX8_isRoom : ByteArray := prog_10_method_6_code
def yX8_isRoom : MethodName := ⟨RX8, "isRoom", "(I)Z"⟩
abbrev cX8_of : ByteArray := prog_10_method_7_code
def yX8_of : MethodName := ⟨RX8, "of", "(II)I"⟩
abbrev cX8_put : ByteArray := prog_10_method_8_code
def yX8_put : MethodName := ⟨RX8, "put", "(III)V"⟩
abbrev cX8_becomes : ByteArray := prog_10_method_9_code
def yX8_becomes : MethodName := ⟨RX8, "becomes", "(II)I"⟩
abbrev cX8_comes : ByteArray := prog_10_method_10_code
def yX8_comes : MethodName := ⟨RX8, "comes", "(IIII)I"⟩
abbrev cX8_isOf : ByteArray := prog_10_method_11_code
def yX8_isOf : MethodName := ⟨RX8, "isOf", "(II)Z"⟩
abbrev cX8_dancer : ByteArray := prog_10_method_12_code
def yX8_dancer : MethodName := ⟨RX8, "dancer", "(IIII)I"⟩
abbrev cX8_wearsOn : ByteArray := prog_10_method_13_code
def yX8_wearsOn : MethodName := ⟨RX8, "wearsOn", "(II)I"⟩
abbrev cX8_goesOf : ByteArray := prog_10_method_14_code
def yX8_goesOf : MethodName := ⟨RX8, "goesOf", "(I)I"⟩
abbrev cX8_leavesOn : ByteArray := prog_10_method_15_code
def yX8_leavesOn : MethodName := ⟨RX8, "leavesOn", "(II)I"⟩
abbrev cX8_worthOf : ByteArray := prog_10_method_16_code
def yX8_worthOf : MethodName := ⟨RX8, "worthOf", "(I)I"⟩
abbrev cX8_floorUnder : ByteArray := prog_10_method_17_code
def yX8_floorUnder : MethodName := ⟨RX8, "floorUnder", "(I)I"⟩
abbrev cX8_told : ByteArray := prog_10_method_18_code
def yX8_told : MethodName := ⟨RX8, "told", "(II)I"⟩
abbrev cX8_isUnder : ByteArray := prog_10_method_19_code
def yX8_isUnder : MethodName := ⟨RX8, "isUnder", "(II)Z"⟩
abbrev cX8_as : ByteArray := prog_10_method_20_code
def yX8_as : MethodName := ⟨RX8, "as", "(II)I"⟩
abbrev cX8_turns : ByteArray := prog_10_method_21_code
def yX8_turns : MethodName := ⟨RX8, "turns", "(II)I"⟩
abbrev cX8_set : ByteArray := prog_10_method_22_code
def yX8_set : MethodName := ⟨RX8, "set", "(III)I"⟩
abbrev cX8_room : ByteArray := prog_10_method_23_code
def yX8_room : MethodName := ⟨RX8, "room", "(III)I"⟩
abbrev cX8_sweep : ByteArray := prog_10_method_24_code
def yX8_sweep : MethodName := ⟨RX8, "sweep", "(I)I"⟩
abbrev cX8_watch : ByteArray := prog_10_method_25_code
def yX8_watch : MethodName := ⟨RX8, "watch", "(I)I"⟩
abbrev cX8_those : ByteArray := prog_10_method_26_code
def yX8_those : MethodName := ⟨RX8, "those", "(I)I"⟩
abbrev cX8_manyOf : ByteArray := prog_10_method_27_code
def yX8_manyOf : MethodName := ⟨RX8, "manyOf", "(I)I"⟩
abbrev cX8_at : ByteArray := prog_10_method_28_code
def yX8_at : MethodName := ⟨RX8, "at", "(I)I"⟩
abbrev cX8_waysTo : ByteArray := prog_10_method_29_code
def yX8_waysTo : MethodName := ⟨RX8, "waysTo", "(II)I"⟩
abbrev cX8_round : ByteArray := prog_10_method_30_code
def yX8_round : MethodName := ⟨RX8, "round", "(I)I"⟩
abbrev cX8_to : ByteArray := prog_10_method_31_code
def yX8_to : MethodName := ⟨RX8, "to", "(II)I"⟩
abbrev cX8_draw : ByteArray := prog_10_method_32_code
def yX8_draw : MethodName := ⟨RX8, "draw", "()I"⟩
abbrev cX8_deal : ByteArray := prog_10_method_33_code
def yX8_deal : MethodName := ⟨RX8, "deal", "(I)I"⟩
abbrev cX8_seed : ByteArray := prog_10_method_34_code
def yX8_seed : MethodName := ⟨RX8, "seed", "(I)I"⟩
abbrev cX8_steps : ByteArray := prog_10_method_35_code
def yX8_steps : MethodName := ⟨RX8, "steps", "(I)V"⟩
abbrev cX8_hour : ByteArray := prog_10_method_36_code
def yX8_hour : MethodName := ⟨RX8, "hour", "()V"⟩
abbrev cX8_goesOn : ByteArray := prog_10_method_37_code
def yX8_goesOn : MethodName := ⟨RX8, "goesOn", "(I)V"⟩
abbrev cX8_sumOf : ByteArray := prog_10_method_38_code
def yX8_sumOf : MethodName := ⟨RX8, "sumOf", "(I)I"⟩
abbrev cX8_hours : ByteArray := prog_10_method_39_code
def yX8_hours : MethodName := ⟨RX8, "hours", "(I)I"⟩
abbrev cX8_marks : ByteArray := prog_10_method_40_code
def yX8_marks : MethodName := ⟨RX8, "marks", "()I"⟩
abbrev cX8_bare : ByteArray := prog_10_method_41_code
def yX8_bare : MethodName := ⟨RX8, "bare", "()I"⟩
abbrev cX8_house : ByteArray := prog_10_method_42_code
def yX8_house : MethodName := ⟨RX8, "house", "(I)I"⟩
abbrev cX8_thinks : ByteArray := prog_10_method_43_code
def yX8_thinks : MethodName := ⟨RX8, "thinks", "()V"⟩
abbrev cX8_putsBack : ByteArray := prog_10_method_44_code
def yX8_putsBack : MethodName := ⟨RX8, "putsBack", "()V"⟩
abbrev cX8_behind : ByteArray := prog_10_method_45_code
def yX8_behind : MethodName := ⟨RX8, "behind", "(II)I"⟩
abbrev cX8_through : ByteArray := prog_10_method_46_code
def yX8_through : MethodName := ⟨RX8, "through", "()I"⟩
abbrev cX8_post : ByteArray := prog_10_method_47_code
def yX8_post : MethodName := ⟨RX8, "post", "(II)I"⟩
abbrev cX8_began : ByteArray := prog_10_method_48_code
def yX8_began : MethodName := ⟨RX8, "began", "(II)I"⟩
abbrev cX8_mended : ByteArray := prog_10_method_49_code
def yX8_mended : MethodName := ⟨RX8, "mended", "(II)I"⟩
abbrev cX8_meets : ByteArray := prog_10_method_50_code
def yX8_meets : MethodName := ⟨RX8, "meets", "(III)I"⟩
abbrev cX8_leads : ByteArray := prog_10_method_51_code
def yX8_leads : MethodName := ⟨RX8, "leads", "(III)I"⟩
abbrev cX8_whose : ByteArray := prog_10_method_52_code
def yX8_whose : MethodName := ⟨RX8, "whose", "(II)I"⟩
abbrev cX8_fee : ByteArray := prog_10_method_53_code
def yX8_fee : MethodName := ⟨RX8, "fee", "()I"⟩
abbrev cX8_fine : ByteArray := prog_10_method_54_code
def yX8_fine : MethodName := ⟨RX8, "fine", "(I)I"⟩
abbrev cX8_feed : ByteArray := prog_10_method_55_code
def yX8_feed : MethodName := ⟨RX8, "feed", "(III)I"⟩
abbrev cX8_trim : ByteArray := prog_10_method_56_code
def yX8_trim : MethodName := ⟨RX8, "trim", "(I)I"⟩
abbrev cX8_isLetter : ByteArray := prog_10_method_57_code
def yX8_isLetter : MethodName := ⟨RX8, "isLetter", "(I)Z"⟩
abbrev cX8_isFigure : ByteArray := prog_10_method_58_code
def yX8_isFigure : MethodName := ⟨RX8, "isFigure", "(I)Z"⟩
abbrev cX8_go : ByteArray := prog_10_method_59_code
def yX8_go : MethodName := ⟨RX8, "go", "()V"⟩
abbrev cX8_takesKey : ByteArray := prog_10_method_60_code
def yX8_takesKey : MethodName := ⟨RX8, "takesKey", "()Z"⟩
abbrev cX8_nameOf : ByteArray := prog_10_method_61_code
def yX8_nameOf : MethodName := ⟨RX8, "nameOf", "(I)I"⟩
abbrev cX8_rank : ByteArray := prog_10_method_62_code
def yX8_rank : MethodName := ⟨RX8, "rank", "(I)I"⟩
abbrev cX8_settle : ByteArray := prog_10_method_63_code
def yX8_settle : MethodName := ⟨RX8, "settle", "(I)V"⟩
abbrev cX8_signHere : ByteArray := prog_10_method_64_code
def yX8_signHere : MethodName := ⟨RX8, "signHere", "()I"⟩
abbrev cX8_takesPart : ByteArray := prog_10_method_65_code
def yX8_takesPart : MethodName := ⟨RX8, "takesPart", "()Z"⟩
abbrev cX8_takesE : ByteArray := prog_10_method_66_code
def yX8_takesE : MethodName := ⟨RX8, "takesE", "()Z"⟩
abbrev cX8_notsOpen : ByteArray := prog_10_method_67_code
def yX8_notsOpen : MethodName := ⟨RX8, "notsOpen", "()I"⟩
abbrev cX8_text : ByteArray := prog_10_method_68_code
def yX8_text : MethodName := ⟨RX8, "text", "()I"⟩
abbrev cX8_textTold : ByteArray := prog_10_method_69_code
def yX8_textTold : MethodName := ⟨RX8, "textTold", "(II)I"⟩
abbrev cX8_counts : ByteArray := prog_10_method_70_code
def yX8_counts : MethodName := ⟨RX8, "counts", "(I)I"⟩
abbrev cX8_why : ByteArray := prog_10_method_71_code
def yX8_why : MethodName := ⟨RX8, "why", "(I)I"⟩
abbrev cX8_two : ByteArray := prog_10_method_72_code
def yX8_two : MethodName := ⟨RX8, "two", "(III)I"⟩
abbrev cX8_worksOut : ByteArray := prog_10_method_73_code
def yX8_worksOut : MethodName := ⟨RX8, "worksOut", "(I)I"⟩
abbrev cX8_isSheet : ByteArray := prog_10_method_74_code
def yX8_isSheet : MethodName := ⟨RX8, "isSheet", "(I)Z"⟩
abbrev cX8_isSlot : ByteArray := prog_10_method_75_code
def yX8_isSlot : MethodName := ⟨RX8, "isSlot", "(I)Z"⟩
abbrev cX8_sheet : ByteArray := prog_10_method_76_code
def yX8_sheet : MethodName := ⟨RX8, "sheet", "(III)I"⟩
abbrev cX8_mark : ByteArray := prog_10_method_77_code
def yX8_mark : MethodName := ⟨RX8, "mark", "(III)I"⟩
abbrev cX8_pour : ByteArray := prog_10_method_78_code
def yX8_pour : MethodName := ⟨RX8, "pour", "(I)I"⟩
abbrev cX8_reads : ByteArray := prog_10_method_79_code
def yX8_reads : MethodName := ⟨RX8, "reads", "(I)I"⟩
abbrev cX8_copy : ByteArray := prog_10_method_80_code
def yX8_copy : MethodName := ⟨RX8, "copy", "(IIIII)I"⟩
abbrev cX8_lay : ByteArray := prog_10_method_81_code
def yX8_lay : MethodName := ⟨RX8, "lay", "(III)I"⟩
abbrev cX8_ask : ByteArray := prog_10_method_82_code
def yX8_ask : MethodName := ⟨RX8, "ask", "(II)I"⟩
abbrev cX8_item : ByteArray := prog_10_method_83_code
def yX8_item : MethodName := ⟨RX8, "item", "(II)I"⟩
abbrev cX8_rest : ByteArray := prog_10_method_84_code
def yX8_rest : MethodName := ⟨RX8, "rest", "(II)I"⟩
abbrev cX8_tell : ByteArray := prog_10_method_85_code
def yX8_tell : MethodName := ⟨RX8, "tell", "(I)I"⟩
abbrev cX8_check : ByteArray := prog_10_method_86_code
def yX8_check : MethodName := ⟨RX8, "check", "(I)I"⟩
abbrev cX8_keep : ByteArray := prog_10_method_87_code
def yX8_keep : MethodName := ⟨RX8, "keep", "()I"⟩
abbrev cX8_back : ByteArray := prog_10_method_88_code
def yX8_back : MethodName := ⟨RX8, "back", "()I"⟩
abbrev cX8_count : ByteArray := prog_10_method_89_code
def yX8_count : MethodName := ⟨RX8, "count", "(I)I"⟩
def RJ6 : String := "java/lang/Integer"
def TJ6 : u_T := fun k => match k with
  | _ => ("", "", "", false)
def tyJ6 : Nat → FieldType := fun k => match k with
  | _ => .int
abbrev wsJ60 : List Cond := u_ws RJ6 TJ6 0
theorem nmJ6 : ∀ a, a < 0 → ∀ b, b < 0 → a ≠ b → (TJ6 a).2.1 ≠ (TJ6 b).2.1 := by decide +kernel
theorem tyJ6_ok : ∀ k, k < 0 → parseFieldDescriptor (TJ6 k).2.2.1 = some (tyJ6 k) := by decide +kernel
abbrev cJ6_bitCount_0f7a4 : ByteArray := prog_11_method_49_code
def yJ6_bitCount_0f7a4 : MethodName := ⟨RJ6, "bitCount", "(I)I"⟩
def RJ9 : String := "java/lang/Math"
def TJ9 : u_T := fun k => match k with
  | _ => ("", "", "", false)
def tyJ9 : Nat → FieldType := fun k => match k with
  | _ => .int
abbrev wsJ90 : List Cond := u_ws RJ9 TJ9 0
theorem nmJ9 : ∀ a, a < 0 → ∀ b, b < 0 → a ≠ b → (TJ9 a).2.1 ≠ (TJ9 b).2.1 := by decide +kernel
theorem tyJ9_ok : ∀ k, k < 0 → parseFieldDescriptor (TJ9 k).2.2.1 = some (tyJ9 k) := by decide +kernel
abbrev cJ9_abs_0f7a4 : ByteArray := prog_12_method_59_code
def yJ9_abs_0f7a4 : MethodName := ⟨RJ9, "abs", "(I)I"⟩
abbrev cJ9_max_7cf53 : ByteArray := prog_12_method_65_code
def yJ9_max_7cf53 : MethodName := ⟨RJ9, "max", "(II)I"⟩
abbrev cJ9_min_7cf53 : ByteArray := prog_12_method_69_code
def yJ9_min_7cf53 : MethodName := ⟨RJ9, "min", "(II)I"⟩
def RJ0 : String := "java/lang/String"
def TJ0 : u_T := fun k => match k with
  | _ => ("", "", "", false)
def tyJ0 : Nat → FieldType := fun k => match k with
  | _ => .int
abbrev wsJ00 : List Cond := u_ws RJ0 TJ0 0
theorem nmJ0 : ∀ a, a < 0 → ∀ b, b < 0 → a ≠ b → (TJ0 a).2.1 ≠ (TJ0 b).2.1 := by decide +kernel
theorem tyJ0_ok : ∀ k, k < 0 → parseFieldDescriptor (TJ0 k).2.2.1 = some (tyJ0 k) := by decide +kernel
abbrev cJ0_length_8abf5 : ByteArray := prog_13_method_54_code
def yJ0_length_8abf5 : MethodName := ⟨RJ0, "length", "()I"⟩
abbrev cJ0_charAt_5068e : ByteArray := prog_13_method_56_code
def yJ0_charAt_5068e : MethodName := ⟨RJ0, "charAt", "(I)C"⟩
abbrev cJ0_coder_7d493 : ByteArray := prog_13_method_152_code
def yJ0_coder_7d493 : MethodName := ⟨RJ0, "coder", "()B"⟩
abbrev cJ0_isLatin1_aae02 : ByteArray := prog_13_method_154_code
def yJ0_isLatin1_aae02 : MethodName := ⟨RJ0, "isLatin1", "()Z"⟩
abbrev cJ0_checkIndex_df160 : ByteArray := prog_13_method_155_code
def yJ0_checkIndex_df160 : MethodName := ⟨RJ0, "checkIndex", "(II)V"⟩
def RJ1 : String := "java/lang/StringLatin1"
def TJ1 : u_T := fun k => match k with
  | _ => ("", "", "", false)
def tyJ1 : Nat → FieldType := fun k => match k with
  | _ => .int
abbrev wsJ10 : List Cond := u_ws RJ1 TJ1 0
theorem nmJ1 : ∀ a, a < 0 → ∀ b, b < 0 → a ≠ b → (TJ1 a).2.1 ≠ (TJ1 b).2.1 := by decide +kernel
theorem tyJ1_ok : ∀ k, k < 0 → parseFieldDescriptor (TJ1 k).2.2.1 = some (tyJ1 k) := by decide +kernel
abbrev cJ1_charAt_3b067 : ByteArray := prog_14_method_2_code
def yJ1_charAt_3b067 : MethodName := ⟨RJ1, "charAt", "([BI)C"⟩
def RJ2 : String := "java/lang/StringUTF16"
def TJ2 : u_T := fun k => match k with
  | _ => ("", "", "", false)
def tyJ2 : Nat → FieldType := fun k => match k with
  | _ => .int
abbrev wsJ20 : List Cond := u_ws RJ2 TJ2 0
theorem nmJ2 : ∀ a, a < 0 → ∀ b, b < 0 → a ≠ b → (TJ2 a).2.1 ≠ (TJ2 b).2.1 := by decide +kernel
theorem tyJ2_ok : ∀ k, k < 0 → parseFieldDescriptor (TJ2 k).2.2.1 = some (tyJ2 k) := by decide +kernel
abbrev cJ2_getChar_3b067 : ByteArray := prog_15_method_5_code
def yJ2_getChar_3b067 : MethodName := ⟨RJ2, "getChar", "([BI)C"⟩
abbrev cJ2_length_9d52b : ByteArray := prog_15_method_6_code
def yJ2_length_9d52b : MethodName := ⟨RJ2, "length", "([B)I"⟩
abbrev cJ2_charAt_3b067 : ByteArray := prog_15_method_83_code
def yJ2_charAt_3b067 : MethodName := ⟨RJ2, "charAt", "([BI)C"⟩
abbrev cJ2_checkIndex_2214a : ByteArray := prog_15_method_91_code
def yJ2_checkIndex_2214a : MethodName := ⟨RJ2, "checkIndex", "(I[B)V"⟩
def RJ10 : String := "java/lang/System"
def TJ10 : u_T := fun k => match k with
  | _ => ("", "", "", false)
def tyJ10 : Nat → FieldType := fun k => match k with
  | _ => .int
abbrev wsJ100 : List Cond := u_ws RJ10 TJ10 0
theorem nmJ10 : ∀ a, a < 0 → ∀ b, b < 0 → a ≠ b → (TJ10 a).2.1 ≠ (TJ10 b).2.1 := by decide +kernel
theorem tyJ10_ok : ∀ k, k < 0 → parseFieldDescriptor (TJ10 k).2.2.1 = some (tyJ10 k) := by decide +kernel
def RJ3 : String := "jdk/internal/util/Preconditions"
def TJ3 : u_T := fun k => match k with
  | _ => ("", "", "", false)
def tyJ3 : Nat → FieldType := fun k => match k with
  | _ => .int
abbrev wsJ30 : List Cond := u_ws RJ3 TJ3 0
theorem nmJ3 : ∀ a, a < 0 → ∀ b, b < 0 → a ≠ b → (TJ3 a).2.1 ≠ (TJ3 b).2.1 := by decide +kernel
theorem tyJ3_ok : ∀ k, k < 0 → parseFieldDescriptor (TJ3 k).2.2.1 = some (tyJ3 k) := by decide +kernel
abbrev cJ3_checkIndex_8e157 : ByteArray := prog_17_method_11_code
def yJ3_checkIndex_8e157 : MethodName := ⟨RJ3, "checkIndex", "(IILjava/util/function/BiFunction;)I"⟩
def RL : String := "SoleWearLaw"
abbrev cL_law : ByteArray := code
def yL_law : MethodName := ⟨RL, "law", "([I)Z"⟩
theorem dX0_init_0 : decode cX0_init 0 = .ok (.aload_n 0, 1) := by decide +kernel
theorem dX0_init_1 : decode cX0_init 1 = .ok (.invokespecial 3, 3) := by decide +kernel
theorem dX0_init_4 : decode cX0_init 4 = .ok (.aload_n 0, 1) := by decide +kernel
theorem dX0_init_5 : decode cX0_init 5 = .ok (.iconst 0, 1) := by decide +kernel
theorem dX0_init_6 : decode cX0_init 6 = .ok (.putfield 9, 3) := by decide +kernel
theorem dX0_init_9 : decode cX0_init 9 = .ok (.aload_n 0, 1) := by decide +kernel
theorem dX0_init_10 : decode cX0_init 10 = .ok (.bipush 12, 2) := by decide +kernel
theorem dX0_init_12 : decode cX0_init 12 = .ok (.newarray .int, 2) := by decide +kernel
theorem dX0_init_14 : decode cX0_init 14 = .ok (.putfield 15, 3) := by decide +kernel
theorem dX0_init_17 : decode cX0_init 17 = .ok (.aload_n 0, 1) := by decide +kernel
theorem dX0_init_18 : decode cX0_init 18 = .ok (.bipush 12, 2) := by decide +kernel
theorem dX0_init_20 : decode cX0_init 20 = .ok (.newarray .int, 2) := by decide +kernel
theorem dX0_init_22 : decode cX0_init 22 = .ok (.putfield 19, 3) := by decide +kernel
theorem dX0_init_25 : decode cX0_init 25 = .ok (.aload_n 0, 1) := by decide +kernel
theorem dX0_init_26 : decode cX0_init 26 = .ok (.bipush 12, 2) := by decide +kernel
theorem dX0_init_28 : decode cX0_init 28 = .ok (.newarray .int, 2) := by decide +kernel
theorem dX0_init_30 : decode cX0_init 30 = .ok (.putfield 22, 3) := by decide +kernel
theorem dX0_init_33 : decode cX0_init 33 = .ok (.aload_n 0, 1) := by decide +kernel
theorem dX0_init_34 : decode cX0_init 34 = .ok (.bipush 12, 2) := by decide +kernel
theorem dX0_init_36 : decode cX0_init 36 = .ok (.newarray .int, 2) := by decide +kernel
theorem dX0_init_38 : decode cX0_init 38 = .ok (.putfield 25, 3) := by decide +kernel
theorem dX0_init_41 : decode cX0_init 41 = .ok (.aload_n 0, 1) := by decide +kernel
theorem dX0_init_42 : decode cX0_init 42 = .ok (.bipush 12, 2) := by decide +kernel
theorem dX0_init_44 : decode cX0_init 44 = .ok (.newarray .int, 2) := by decide +kernel
theorem dX0_init_46 : decode cX0_init 46 = .ok (.putfield 28, 3) := by decide +kernel
theorem dX0_init_49 : decode cX0_init 49 = .ok (.aload_n 0, 1) := by decide +kernel
theorem dX0_init_50 : decode cX0_init 50 = .ok (.bipush 10, 2) := by decide +kernel
theorem dX0_init_52 : decode cX0_init 52 = .ok (.newarray .int, 2) := by decide +kernel
theorem dX0_init_54 : decode cX0_init 54 = .ok (.putfield 31, 3) := by decide +kernel
theorem dX0_init_57 : decode cX0_init 57 = .ok (.aload_n 0, 1) := by decide +kernel
theorem dX0_init_58 : decode cX0_init 58 = .ok (.bipush 10, 2) := by decide +kernel
theorem dX0_init_60 : decode cX0_init 60 = .ok (.newarray .int, 2) := by decide +kernel
theorem dX0_init_62 : decode cX0_init 62 = .ok (.putfield 34, 3) := by decide +kernel
theorem dX0_init_65 : decode cX0_init 65 = .ok (.aload_n 0, 1) := by decide +kernel
theorem dX0_init_66 : decode cX0_init 66 = .ok (.bipush 10, 2) := by decide +kernel
theorem dX0_init_68 : decode cX0_init 68 = .ok (.newarray .int, 2) := by decide +kernel
theorem dX0_init_70 : decode cX0_init 70 = .ok (.putfield 37, 3) := by decide +kernel
theorem dX0_init_73 : decode cX0_init 73 = .ok (.aload_n 0, 1) := by decide +kernel
theorem dX0_init_74 : decode cX0_init 74 = .ok (.iconst 0, 1) := by decide +kernel
theorem dX0_init_75 : decode cX0_init 75 = .ok (.putfield 40, 3) := by decide +kernel
theorem dX0_init_78 : decode cX0_init 78 = .ok (.aload_n 0, 1) := by decide +kernel
theorem dX0_init_79 : decode cX0_init 79 = .ok (.iconst 0, 1) := by decide +kernel
theorem dX0_init_80 : decode cX0_init 80 = .ok (.putfield 43, 3) := by decide +kernel
theorem dX0_init_83 : decode cX0_init 83 = .ok (.aload_n 0, 1) := by decide +kernel
theorem dX0_init_84 : decode cX0_init 84 = .ok (.iconst 0, 1) := by decide +kernel
theorem dX0_init_85 : decode cX0_init 85 = .ok (.putfield 46, 3) := by decide +kernel
theorem dX0_init_88 : decode cX0_init 88 = .ok (.aload_n 0, 1) := by decide +kernel
theorem dX0_init_89 : decode cX0_init 89 = .ok (.iconst 0, 1) := by decide +kernel
theorem dX0_init_90 : decode cX0_init 90 = .ok (.putfield 49, 3) := by decide +kernel
theorem dX0_init_93 : decode cX0_init 93 = .ok (.aload_n 0, 1) := by decide +kernel
theorem dX0_init_94 : decode cX0_init 94 = .ok (.iconst 1, 1) := by decide +kernel
theorem dX0_init_95 : decode cX0_init 95 = .ok (.putfield 52, 3) := by decide +kernel
theorem dX0_init_98 : decode cX0_init 98 = .ok (.aload_n 0, 1) := by decide +kernel
theorem dX0_init_99 : decode cX0_init 99 = .ok (.iconst 0, 1) := by decide +kernel
theorem dX0_init_100 : decode cX0_init 100 = .ok (.putfield 55, 3) := by decide +kernel
theorem dX0_init_103 : decode cX0_init 103 = .ok (.aload_n 0, 1) := by decide +kernel
theorem dX0_init_104 : decode cX0_init 104 = .ok (.iconst 3, 1) := by decide +kernel
theorem dX0_init_105 : decode cX0_init 105 = .ok (.newarray .int, 2) := by decide +kernel
theorem dX0_init_107 : decode cX0_init 107 = .ok (.putfield 58, 3) := by decide +kernel
theorem dX0_init_110 : decode cX0_init 110 = .ok (.iconst 0, 1) := by decide +kernel
theorem dX0_init_111 : decode cX0_init 111 = .ok (.istore_n 1, 1) := by decide +kernel
theorem dX0_init_112 : decode cX0_init 112 = .ok (.iload_n 1, 1) := by decide +kernel
theorem dX0_init_113 : decode cX0_init 113 = .ok (.bipush 10, 2) := by decide +kernel
theorem dX0_init_115 : decode cX0_init 115 = .ok (.if_icmp .ge 23, 3) := by decide +kernel
theorem dX0_init_118 : decode cX0_init 118 = .ok (.aload_n 0, 1) := by decide +kernel
theorem dX0_init_119 : decode cX0_init 119 = .ok (.getfield 31, 3) := by decide +kernel
theorem dX0_init_122 : decode cX0_init 122 = .ok (.iload_n 1, 1) := by decide +kernel
theorem dX0_init_123 : decode cX0_init 123 = .ok (.iconst 1, 1) := by decide +kernel
theorem dX0_init_124 : decode cX0_init 124 = .ok (.iastore, 1) := by decide +kernel
theorem dX0_init_125 : decode cX0_init 125 = .ok (.aload_n 0, 1) := by decide +kernel
theorem dX0_init_126 : decode cX0_init 126 = .ok (.getfield 34, 3) := by decide +kernel
theorem dX0_init_129 : decode cX0_init 129 = .ok (.iload_n 1, 1) := by decide +kernel
theorem dX0_init_130 : decode cX0_init 130 = .ok (.iload_n 1, 1) := by decide +kernel
theorem dX0_init_131 : decode cX0_init 131 = .ok (.iastore, 1) := by decide +kernel
theorem dX0_init_132 : decode cX0_init 132 = .ok (.iinc 1 1, 3) := by decide +kernel
theorem dX0_init_135 : decode cX0_init 135 = .ok (.goto (-23), 3) := by decide +kernel
theorem dX0_init_138 : decode cX0_init 138 = .ok (.iconst 0, 1) := by decide +kernel
theorem dX0_init_139 : decode cX0_init 139 = .ok (.istore_n 1, 1) := by decide +kernel
theorem dX0_init_140 : decode cX0_init 140 = .ok (.iload_n 1, 1) := by decide +kernel
theorem dX0_init_141 : decode cX0_init 141 = .ok (.iconst 3, 1) := by decide +kernel
theorem dX0_init_142 : decode cX0_init 142 = .ok (.if_icmp .ge 16, 3) := by decide +kernel
theorem dX0_init_145 : decode cX0_init 145 = .ok (.aload_n 0, 1) := by decide +kernel
theorem dX0_init_146 : decode cX0_init 146 = .ok (.getfield 58, 3) := by decide +kernel
theorem dX0_init_149 : decode cX0_init 149 = .ok (.iload_n 1, 1) := by decide +kernel
theorem dX0_init_150 : decode cX0_init 150 = .ok (.iconst (-1), 1) := by decide +kernel
theorem dX0_init_151 : decode cX0_init 151 = .ok (.iastore, 1) := by decide +kernel
theorem dX0_init_152 : decode cX0_init 152 = .ok (.iinc 1 1, 3) := by decide +kernel
theorem dX0_init_155 : decode cX0_init 155 = .ok (.goto (-15), 3) := by decide +kernel
theorem dX0_init_158 : decode cX0_init 158 = .ok (.return_, 1) := by decide +kernel
theorem dX0_become_0 : decode cX0_become 0 = .ok (.aload_n 0, 1) := by decide +kernel
theorem dX0_become_1 : decode cX0_become 1 = .ok (.aload_n 1, 1) := by decide +kernel
theorem dX0_become_2 : decode cX0_become 2 = .ok (.getfield 9, 3) := by decide +kernel
theorem dX0_become_5 : decode cX0_become 5 = .ok (.putfield 9, 3) := by decide +kernel
theorem dX0_become_8 : decode cX0_become 8 = .ok (.aload_n 1, 1) := by decide +kernel
theorem dX0_become_9 : decode cX0_become 9 = .ok (.getfield 15, 3) := by decide +kernel
theorem dX0_become_12 : decode cX0_become 12 = .ok (.iconst 0, 1) := by decide +kernel
theorem dX0_become_13 : decode cX0_become 13 = .ok (.aload_n 0, 1) := by decide +kernel
theorem dX0_become_14 : decode cX0_become 14 = .ok (.getfield 15, 3) := by decide +kernel
theorem dX0_become_17 : decode cX0_become 17 = .ok (.iconst 0, 1) := by decide +kernel
theorem dX0_become_18 : decode cX0_become 18 = .ok (.bipush 12, 2) := by decide +kernel
theorem dX0_become_20 : decode cX0_become 20 = .ok (.invokestatic 61, 3) := by decide +kernel
theorem dX0_become_23 : decode cX0_become 23 = .ok (.aload_n 1, 1) := by decide +kernel
theorem dX0_become_24 : decode cX0_become 24 = .ok (.getfield 19, 3) := by decide +kernel
theorem dX0_become_27 : decode cX0_become 27 = .ok (.iconst 0, 1) := by decide +kernel
theorem dX0_become_28 : decode cX0_become 28 = .ok (.aload_n 0, 1) := by decide +kernel
theorem dX0_become_29 : decode cX0_become 29 = .ok (.getfield 19, 3) := by decide +kernel
theorem dX0_become_32 : decode cX0_become 32 = .ok (.iconst 0, 1) := by decide +kernel
theorem dX0_become_33 : decode cX0_become 33 = .ok (.bipush 12, 2) := by decide +kernel
theorem dX0_become_35 : decode cX0_become 35 = .ok (.invokestatic 61, 3) := by decide +kernel
theorem dX0_become_38 : decode cX0_become 38 = .ok (.aload_n 1, 1) := by decide +kernel
theorem dX0_become_39 : decode cX0_become 39 = .ok (.getfield 22, 3) := by decide +kernel
theorem dX0_become_42 : decode cX0_become 42 = .ok (.iconst 0, 1) := by decide +kernel
theorem dX0_become_43 : decode cX0_become 43 = .ok (.aload_n 0, 1) := by decide +kernel
theorem dX0_become_44 : decode cX0_become 44 = .ok (.getfield 22, 3) := by decide +kernel
theorem dX0_become_47 : decode cX0_become 47 = .ok (.iconst 0, 1) := by decide +kernel
theorem dX0_become_48 : decode cX0_become 48 = .ok (.bipush 12, 2) := by decide +kernel
theorem dX0_become_50 : decode cX0_become 50 = .ok (.invokestatic 61, 3) := by decide +kernel
theorem dX0_become_53 : decode cX0_become 53 = .ok (.aload_n 1, 1) := by decide +kernel
theorem dX0_become_54 : decode cX0_become 54 = .ok (.getfield 25, 3) := by decide +kernel
theorem dX0_become_57 : decode cX0_become 57 = .ok (.iconst 0, 1) := by decide +kernel
theorem dX0_become_58 : decode cX0_become 58 = .ok (.aload_n 0, 1) := by decide +kernel
theorem dX0_become_59 : decode cX0_become 59 = .ok (.getfield 25, 3) := by decide +kernel
theorem dX0_become_62 : decode cX0_become 62 = .ok (.iconst 0, 1) := by decide +kernel
theorem dX0_become_63 : decode cX0_become 63 = .ok (.bipush 12, 2) := by decide +kernel
theorem dX0_become_65 : decode cX0_become 65 = .ok (.invokestatic 61, 3) := by decide +kernel
theorem dX0_become_68 : decode cX0_become 68 = .ok (.aload_n 1, 1) := by decide +kernel
theorem dX0_become_69 : decode cX0_become 69 = .ok (.getfield 28, 3) := by decide +kernel
theorem dX0_become_72 : decode cX0_become 72 = .ok (.iconst 0, 1) := by decide +kernel
theorem dX0_become_73 : decode cX0_become 73 = .ok (.aload_n 0, 1) := by decide +kernel
theorem dX0_become_74 : decode cX0_become 74 = .ok (.getfield 28, 3) := by decide +kernel
theorem dX0_become_77 : decode cX0_become 77 = .ok (.iconst 0, 1) := by decide +kernel
theorem dX0_become_78 : decode cX0_become 78 = .ok (.bipush 12, 2) := by decide +kernel
theorem dX0_become_80 : decode cX0_become 80 = .ok (.invokestatic 61, 3) := by decide +kernel
theorem dX0_become_83 : decode cX0_become 83 = .ok (.aload_n 1, 1) := by decide +kernel
theorem dX0_become_84 : decode cX0_become 84 = .ok (.getfield 31, 3) := by decide +kernel
theorem dX0_become_87 : decode cX0_become 87 = .ok (.iconst 0, 1) := by decide +kernel
theorem dX0_become_88 : decode cX0_become 88 = .ok (.aload_n 0, 1) := by decide +kernel
theorem dX0_become_89 : decode cX0_become 89 = .ok (.getfield 31, 3) := by decide +kernel
theorem dX0_become_92 : decode cX0_become 92 = .ok (.iconst 0, 1) := by decide +kernel
theorem dX0_become_93 : decode cX0_become 93 = .ok (.bipush 10, 2) := by decide +kernel
theorem dX0_become_95 : decode cX0_become 95 = .ok (.invokestatic 61, 3) := by decide +kernel
theorem dX0_become_98 : decode cX0_become 98 = .ok (.aload_n 1, 1) := by decide +kernel
theorem dX0_become_99 : decode cX0_become 99 = .ok (.getfield 34, 3) := by decide +kernel
theorem dX0_become_102 : decode cX0_become 102 = .ok (.iconst 0, 1) := by decide +kernel
theorem dX0_become_103 : decode cX0_become 103 = .ok (.aload_n 0, 1) := by decide +kernel
theorem dX0_become_104 : decode cX0_become 104 = .ok (.getfield 34, 3) := by decide +kernel
theorem dX0_become_107 : decode cX0_become 107 = .ok (.iconst 0, 1) := by decide +kernel
theorem dX0_become_108 : decode cX0_become 108 = .ok (.bipush 10, 2) := by decide +kernel
theorem dX0_become_110 : decode cX0_become 110 = .ok (.invokestatic 61, 3) := by decide +kernel
theorem dX0_become_113 : decode cX0_become 113 = .ok (.aload_n 1, 1) := by decide +kernel
theorem dX0_become_114 : decode cX0_become 114 = .ok (.getfield 37, 3) := by decide +kernel
theorem dX0_become_117 : decode cX0_become 117 = .ok (.iconst 0, 1) := by decide +kernel
theorem dX0_become_118 : decode cX0_become 118 = .ok (.aload_n 0, 1) := by decide +kernel
theorem dX0_become_119 : decode cX0_become 119 = .ok (.getfield 37, 3) := by decide +kernel
theorem dX0_become_122 : decode cX0_become 122 = .ok (.iconst 0, 1) := by decide +kernel
theorem dX0_become_123 : decode cX0_become 123 = .ok (.bipush 10, 2) := by decide +kernel
theorem dX0_become_125 : decode cX0_become 125 = .ok (.invokestatic 61, 3) := by decide +kernel
theorem dX0_become_128 : decode cX0_become 128 = .ok (.aload_n 0, 1) := by decide +kernel
theorem dX0_become_129 : decode cX0_become 129 = .ok (.aload_n 1, 1) := by decide +kernel
theorem dX0_become_130 : decode cX0_become 130 = .ok (.getfield 40, 3) := by decide +kernel
theorem dX0_become_133 : decode cX0_become 133 = .ok (.putfield 40, 3) := by decide +kernel
theorem dX0_become_136 : decode cX0_become 136 = .ok (.aload_n 0, 1) := by decide +kernel
theorem dX0_become_137 : decode cX0_become 137 = .ok (.aload_n 1, 1) := by decide +kernel
theorem dX0_become_138 : decode cX0_become 138 = .ok (.getfield 43, 3) := by decide +kernel
theorem dX0_become_141 : decode cX0_become 141 = .ok (.putfield 43, 3) := by decide +kernel
theorem dX0_become_144 : decode cX0_become 144 = .ok (.aload_n 0, 1) := by decide +kernel
theorem dX0_become_145 : decode cX0_become 145 = .ok (.aload_n 1, 1) := by decide +kernel
theorem dX0_become_146 : decode cX0_become 146 = .ok (.getfield 46, 3) := by decide +kernel
theorem dX0_become_149 : decode cX0_become 149 = .ok (.putfield 46, 3) := by decide +kernel
theorem dX0_become_152 : decode cX0_become 152 = .ok (.aload_n 0, 1) := by decide +kernel
theorem dX0_become_153 : decode cX0_become 153 = .ok (.aload_n 1, 1) := by decide +kernel
theorem dX0_become_154 : decode cX0_become 154 = .ok (.getfield 49, 3) := by decide +kernel
theorem dX0_become_157 : decode cX0_become 157 = .ok (.putfield 49, 3) := by decide +kernel
theorem dX0_become_160 : decode cX0_become 160 = .ok (.aload_n 0, 1) := by decide +kernel
theorem dX0_become_161 : decode cX0_become 161 = .ok (.aload_n 1, 1) := by decide +kernel
theorem dX0_become_162 : decode cX0_become 162 = .ok (.getfield 52, 3) := by decide +kernel
theorem dX0_become_165 : decode cX0_become 165 = .ok (.putfield 52, 3) := by decide +kernel
theorem dX0_become_168 : decode cX0_become 168 = .ok (.aload_n 0, 1) := by decide +kernel
theorem dX0_become_169 : decode cX0_become 169 = .ok (.aload_n 1, 1) := by decide +kernel
theorem dX0_become_170 : decode cX0_become 170 = .ok (.getfield 55, 3) := by decide +kernel
theorem dX0_become_173 : decode cX0_become 173 = .ok (.putfield 55, 3) := by decide +kernel
theorem dX0_become_176 : decode cX0_become 176 = .ok (.aload_n 1, 1) := by decide +kernel
theorem dX0_become_177 : decode cX0_become 177 = .ok (.getfield 58, 3) := by decide +kernel
theorem dX0_become_180 : decode cX0_become 180 = .ok (.iconst 0, 1) := by decide +kernel
theorem dX0_become_181 : decode cX0_become 181 = .ok (.aload_n 0, 1) := by decide +kernel
theorem dX0_become_182 : decode cX0_become 182 = .ok (.getfield 58, 3) := by decide +kernel
theorem dX0_become_185 : decode cX0_become 185 = .ok (.iconst 0, 1) := by decide +kernel
theorem dX0_become_186 : decode cX0_become 186 = .ok (.iconst 3, 1) := by decide +kernel
theorem dX0_become_187 : decode cX0_become 187 = .ok (.invokestatic 61, 3) := by decide +kernel
theorem dX0_become_190 : decode cX0_become 190 = .ok (.return_, 1) := by decide +kernel
theorem dX0_join_0 : decode cX0_join 0 = .ok (.aload_n 0, 1) := by decide +kernel
theorem dX0_join_1 : decode cX0_join 1 = .ok (.getfield 9, 3) := by decide +kernel
theorem dX0_join_4 : decode cX0_join 4 = .ok (.istore 5, 2) := by decide +kernel
theorem dX0_join_6 : decode cX0_join 6 = .ok (.aload_n 0, 1) := by decide +kernel
theorem dX0_join_7 : decode cX0_join 7 = .ok (.getfield 15, 3) := by decide +kernel
theorem dX0_join_10 : decode cX0_join 10 = .ok (.iload 5, 2) := by decide +kernel
theorem dX0_join_12 : decode cX0_join 12 = .ok (.iload_n 1, 1) := by decide +kernel
theorem dX0_join_13 : decode cX0_join 13 = .ok (.iastore, 1) := by decide +kernel
theorem dX0_join_14 : decode cX0_join 14 = .ok (.aload_n 0, 1) := by decide +kernel
theorem dX0_join_15 : decode cX0_join 15 = .ok (.getfield 19, 3) := by decide +kernel
theorem dX0_join_18 : decode cX0_join 18 = .ok (.iload 5, 2) := by decide +kernel
theorem dX0_join_20 : decode cX0_join 20 = .ok (.iload_n 2, 1) := by decide +kernel
theorem dX0_join_21 : decode cX0_join 21 = .ok (.iastore, 1) := by decide +kernel
theorem dX0_join_22 : decode cX0_join 22 = .ok (.aload_n 0, 1) := by decide +kernel
theorem dX0_join_23 : decode cX0_join 23 = .ok (.getfield 22, 3) := by decide +kernel
theorem dX0_join_26 : decode cX0_join 26 = .ok (.iload 5, 2) := by decide +kernel
theorem dX0_join_28 : decode cX0_join 28 = .ok (.iload_n 3, 1) := by decide +kernel
theorem dX0_join_29 : decode cX0_join 29 = .ok (.iastore, 1) := by decide +kernel
theorem dX0_join_30 : decode cX0_join 30 = .ok (.aload_n 0, 1) := by decide +kernel
theorem dX0_join_31 : decode cX0_join 31 = .ok (.getfield 25, 3) := by decide +kernel
theorem dX0_join_34 : decode cX0_join 34 = .ok (.iload 5, 2) := by decide +kernel
theorem dX0_join_36 : decode cX0_join 36 = .ok (.iload 4, 2) := by decide +kernel
theorem dX0_join_38 : decode cX0_join 38 = .ok (.iastore, 1) := by decide +kernel
theorem dX0_join_39 : decode cX0_join 39 = .ok (.aload_n 0, 1) := by decide +kernel
theorem dX0_join_40 : decode cX0_join 40 = .ok (.getfield 28, 3) := by decide +kernel
theorem dX0_join_43 : decode cX0_join 43 = .ok (.iload 5, 2) := by decide +kernel
theorem dX0_join_45 : decode cX0_join 45 = .ok (.iconst 0, 1) := by decide +kernel
theorem dX0_join_46 : decode cX0_join 46 = .ok (.iastore, 1) := by decide +kernel
theorem dX0_join_47 : decode cX0_join 47 = .ok (.aload_n 0, 1) := by decide +kernel
theorem dX0_join_48 : decode cX0_join 48 = .ok (.dup, 1) := by decide +kernel
theorem dX0_join_49 : decode cX0_join 49 = .ok (.getfield 9, 3) := by decide +kernel
theorem dX0_join_52 : decode cX0_join 52 = .ok (.iconst 1, 1) := by decide +kernel
theorem dX0_join_53 : decode cX0_join 53 = .ok (.iadd, 1) := by decide +kernel
theorem dX0_join_54 : decode cX0_join 54 = .ok (.putfield 9, 3) := by decide +kernel
theorem dX0_join_57 : decode cX0_join 57 = .ok (.iload 5, 2) := by decide +kernel
theorem dX0_join_59 : decode cX0_join 59 = .ok (.ireturn, 1) := by decide +kernel
theorem dX0_joinByLot_0 : decode cX0_joinByLot 0 = .ok (.aload_n 0, 1) := by decide +kernel
theorem dX0_joinByLot_1 : decode cX0_joinByLot 1 = .ok (.invokevirtual 67, 3) := by decide +kernel
theorem dX0_joinByLot_4 : decode cX0_joinByLot 4 = .ok (.bipush 6, 2) := by decide +kernel
theorem dX0_joinByLot_6 : decode cX0_joinByLot 6 = .ok (.irem, 1) := by decide +kernel
theorem dX0_joinByLot_7 : decode cX0_joinByLot 7 = .ok (.istore_n 1, 1) := by decide +kernel
theorem dX0_joinByLot_8 : decode cX0_joinByLot 8 = .ok (.aload_n 0, 1) := by decide +kernel
theorem dX0_joinByLot_9 : decode cX0_joinByLot 9 = .ok (.invokevirtual 67, 3) := by decide +kernel
theorem dX0_joinByLot_12 : decode cX0_joinByLot 12 = .ok (.bipush 10, 2) := by decide +kernel
theorem dX0_joinByLot_14 : decode cX0_joinByLot 14 = .ok (.irem, 1) := by decide +kernel
theorem dX0_joinByLot_15 : decode cX0_joinByLot 15 = .ok (.istore_n 2, 1) := by decide +kernel
theorem dX0_joinByLot_16 : decode cX0_joinByLot 16 = .ok (.iconst 1, 1) := by decide +kernel
theorem dX0_joinByLot_17 : decode cX0_joinByLot 17 = .ok (.aload_n 0, 1) := by decide +kernel
theorem dX0_joinByLot_18 : decode cX0_joinByLot 18 = .ok (.invokevirtual 67, 3) := by decide +kernel
theorem dX0_joinByLot_21 : decode cX0_joinByLot 21 = .ok (.sipush 200, 3) := by decide +kernel
theorem dX0_joinByLot_24 : decode cX0_joinByLot 24 = .ok (.irem, 1) := by decide +kernel
theorem dX0_joinByLot_25 : decode cX0_joinByLot 25 = .ok (.iadd, 1) := by decide +kernel
theorem dX0_joinByLot_26 : decode cX0_joinByLot 26 = .ok (.istore_n 3, 1) := by decide +kernel
theorem dX0_joinByLot_27 : decode cX0_joinByLot 27 = .ok (.aload_n 0, 1) := by decide +kernel
theorem dX0_joinByLot_28 : decode cX0_joinByLot 28 = .ok (.invokevirtual 67, 3) := by decide +kernel
theorem dX0_joinByLot_31 : decode cX0_joinByLot 31 = .ok (.bipush 6, 2) := by decide +kernel
theorem dX0_joinByLot_33 : decode cX0_joinByLot 33 = .ok (.irem, 1) := by decide +kernel
theorem dX0_joinByLot_34 : decode cX0_joinByLot 34 = .ok (.istore 4, 2) := by decide +kernel
theorem dX0_joinByLot_36 : decode cX0_joinByLot 36 = .ok (.aload_n 0, 1) := by decide +kernel
theorem dX0_joinByLot_37 : decode cX0_joinByLot 37 = .ok (.iload_n 1, 1) := by decide +kernel
theorem dX0_joinByLot_38 : decode cX0_joinByLot 38 = .ok (.iload_n 2, 1) := by decide +kernel
theorem dX0_joinByLot_39 : decode cX0_joinByLot 39 = .ok (.iload_n 3, 1) := by decide +kernel
theorem dX0_joinByLot_40 : decode cX0_joinByLot 40 = .ok (.iload 4, 2) := by decide +kernel
theorem dX0_joinByLot_42 : decode cX0_joinByLot 42 = .ok (.invokevirtual 73, 3) := by decide +kernel
theorem dX0_joinByLot_45 : decode cX0_joinByLot 45 = .ok (.ireturn, 1) := by decide +kernel
theorem dX0_draw_0 : decode cX0_draw 0 = .ok (.aload_n 0, 1) := by decide +kernel
theorem dX0_draw_1 : decode cX0_draw 1 = .ok (.aload_n 0, 1) := by decide +kernel
theorem dX0_draw_2 : decode cX0_draw 2 = .ok (.getfield 52, 3) := by decide +kernel
theorem dX0_draw_5 : decode cX0_draw 5 = .ok (.ldc 77, 2) := by decide +kernel
theorem dX0_draw_7 : decode cX0_draw 7 = .ok (.imul, 1) := by decide +kernel
theorem dX0_draw_8 : decode cX0_draw 8 = .ok (.sipush 12345, 3) := by decide +kernel
theorem dX0_draw_11 : decode cX0_draw 11 = .ok (.iadd, 1) := by decide +kernel
theorem dX0_draw_12 : decode cX0_draw 12 = .ok (.putfield 52, 3) := by decide +kernel
theorem dX0_draw_15 : decode cX0_draw 15 = .ok (.aload_n 0, 1) := by decide +kernel
theorem dX0_draw_16 : decode cX0_draw 16 = .ok (.getfield 52, 3) := by decide +kernel
theorem dX0_draw_19 : decode cX0_draw 19 = .ok (.bipush 8, 2) := by decide +kernel
theorem dX0_draw_21 : decode cX0_draw 21 = .ok (.iushr, 1) := by decide +kernel
theorem dX0_draw_22 : decode cX0_draw 22 = .ok (.ireturn, 1) := by decide +kernel
theorem dX0_goesNext_0 : decode cX0_goesNext 0 = .ok (.aload_n 0, 1) := by decide +kernel
theorem dX0_goesNext_1 : decode cX0_goesNext 1 = .ok (.getfield 22, 3) := by decide +kernel
theorem dX0_goesNext_4 : decode cX0_goesNext 4 = .ok (.iload_n 1, 1) := by decide +kernel
theorem dX0_goesNext_5 : decode cX0_goesNext 5 = .ok (.iaload, 1) := by decide +kernel
theorem dX0_goesNext_6 : decode cX0_goesNext 6 = .ok (.ifCond .ne 7, 3) := by decide +kernel
theorem dX0_goesNext_9 : decode cX0_goesNext 9 = .ok (.iconst 0, 1) := by decide +kernel
theorem dX0_goesNext_10 : decode cX0_goesNext 10 = .ok (.goto 22, 3) := by decide +kernel
theorem dX0_goesNext_13 : decode cX0_goesNext 13 = .ok (.aload_n 0, 1) := by decide +kernel
theorem dX0_goesNext_14 : decode cX0_goesNext 14 = .ok (.getfield 15, 3) := by decide +kernel
theorem dX0_goesNext_17 : decode cX0_goesNext 17 = .ok (.iload_n 1, 1) := by decide +kernel
theorem dX0_goesNext_18 : decode cX0_goesNext 18 = .ok (.iaload, 1) := by decide +kernel
theorem dX0_goesNext_19 : decode cX0_goesNext 19 = .ok (.aload_n 0, 1) := by decide +kernel
theorem dX0_goesNext_20 : decode cX0_goesNext 20 = .ok (.getfield 25, 3) := by decide +kernel
theorem dX0_goesNext_23 : decode cX0_goesNext 23 = .ok (.iload_n 1, 1) := by decide +kernel
theorem dX0_goesNext_24 : decode cX0_goesNext 24 = .ok (.iaload, 1) := by decide +kernel
theorem dX0_goesNext_25 : decode cX0_goesNext 25 = .ok (.aload_n 0, 1) := by decide +kernel
theorem dX0_goesNext_26 : decode cX0_goesNext 26 = .ok (.getfield 49, 3) := by decide +kernel
theorem dX0_goesNext_29 : decode cX0_goesNext 29 = .ok (.invokestatic 78, 3) := by decide +kernel
theorem dX0_goesNext_32 : decode cX0_goesNext 32 = .ok (.ireturn, 1) := by decide +kernel
theorem dX0_wearsHere_0 : decode cX0_wearsHere 0 = .ok (.aload_n 0, 1) := by decide +kernel
theorem dX0_wearsHere_1 : decode cX0_wearsHere 1 = .ok (.getfield 31, 3) := by decide +kernel
theorem dX0_wearsHere_4 : decode cX0_wearsHere 4 = .ok (.aload_n 0, 1) := by decide +kernel
theorem dX0_wearsHere_5 : decode cX0_wearsHere 5 = .ok (.getfield 19, 3) := by decide +kernel
theorem dX0_wearsHere_8 : decode cX0_wearsHere 8 = .ok (.iload_n 1, 1) := by decide +kernel
theorem dX0_wearsHere_9 : decode cX0_wearsHere 9 = .ok (.iaload, 1) := by decide +kernel
theorem dX0_wearsHere_10 : decode cX0_wearsHere 10 = .ok (.iaload, 1) := by decide +kernel
theorem dX0_wearsHere_11 : decode cX0_wearsHere 11 = .ok (.istore_n 3, 1) := by decide +kernel
theorem dX0_wearsHere_12 : decode cX0_wearsHere 12 = .ok (.aload_n 0, 1) := by decide +kernel
theorem dX0_wearsHere_13 : decode cX0_wearsHere 13 = .ok (.getfield 58, 3) := by decide +kernel
theorem dX0_wearsHere_16 : decode cX0_wearsHere 16 = .ok (.iconst 0, 1) := by decide +kernel
theorem dX0_wearsHere_17 : decode cX0_wearsHere 17 = .ok (.iaload, 1) := by decide +kernel
theorem dX0_wearsHere_18 : decode cX0_wearsHere 18 = .ok (.istore 4, 2) := by decide +kernel
theorem dX0_wearsHere_20 : decode cX0_wearsHere 20 = .ok (.iload 4, 2) := by decide +kernel
theorem dX0_wearsHere_22 : decode cX0_wearsHere 22 = .ok (.ifCond .ge 7, 3) := by decide +kernel
theorem dX0_wearsHere_25 : decode cX0_wearsHere 25 = .ok (.iload_n 3, 1) := by decide +kernel
theorem dX0_wearsHere_26 : decode cX0_wearsHere 26 = .ok (.goto 27, 3) := by decide +kernel
theorem dX0_wearsHere_29 : decode cX0_wearsHere 29 = .ok (.aload_n 2, 1) := by decide +kernel
theorem dX0_wearsHere_30 : decode cX0_wearsHere 30 = .ok (.iload 4, 2) := by decide +kernel
theorem dX0_wearsHere_32 : decode cX0_wearsHere 32 = .ok (.iload_n 3, 1) := by decide +kernel
theorem dX0_wearsHere_33 : decode cX0_wearsHere 33 = .ok (.aload_n 0, 1) := by decide +kernel
theorem dX0_wearsHere_34 : decode cX0_wearsHere 34 = .ok (.getfield 22, 3) := by decide +kernel
theorem dX0_wearsHere_37 : decode cX0_wearsHere 37 = .ok (.iload_n 1, 1) := by decide +kernel
theorem dX0_wearsHere_38 : decode cX0_wearsHere 38 = .ok (.iaload, 1) := by decide +kernel
theorem dX0_wearsHere_39 : decode cX0_wearsHere 39 = .ok (.aload_n 0, 1) := by decide +kernel
theorem dX0_wearsHere_40 : decode cX0_wearsHere 40 = .ok (.getfield 28, 3) := by decide +kernel
theorem dX0_wearsHere_43 : decode cX0_wearsHere 43 = .ok (.iload_n 1, 1) := by decide +kernel
theorem dX0_wearsHere_44 : decode cX0_wearsHere 44 = .ok (.iaload, 1) := by decide +kernel
theorem dX0_wearsHere_45 : decode cX0_wearsHere 45 = .ok (.invokevirtual 82, 3) := by decide +kernel
theorem dX0_wearsHere_48 : decode cX0_wearsHere 48 = .ok (.bipush 99, 2) := by decide +kernel
theorem dX0_wearsHere_50 : decode cX0_wearsHere 50 = .ok (.invokestatic 87, 3) := by decide +kernel
theorem dX0_wearsHere_53 : decode cX0_wearsHere 53 = .ok (.istore 5, 2) := by decide +kernel
theorem dX0_wearsHere_55 : decode cX0_wearsHere 55 = .ok (.aload_n 0, 1) := by decide +kernel
theorem dX0_wearsHere_56 : decode cX0_wearsHere 56 = .ok (.getfield 15, 3) := by decide +kernel
theorem dX0_wearsHere_59 : decode cX0_wearsHere 59 = .ok (.iload_n 1, 1) := by decide +kernel
theorem dX0_wearsHere_60 : decode cX0_wearsHere 60 = .ok (.iaload, 1) := by decide +kernel
theorem dX0_wearsHere_61 : decode cX0_wearsHere 61 = .ok (.iload 5, 2) := by decide +kernel
theorem dX0_wearsHere_63 : decode cX0_wearsHere 63 = .ok (.invokestatic 91, 3) := by decide +kernel
theorem dX0_wearsHere_66 : decode cX0_wearsHere 66 = .ok (.ireturn, 1) := by decide +kernel
theorem dX0_leavesHere_0 : decode cX0_leavesHere 0 = .ok (.aload_n 0, 1) := by decide +kernel
theorem dX0_leavesHere_1 : decode cX0_leavesHere 1 = .ok (.getfield 15, 3) := by decide +kernel
theorem dX0_leavesHere_4 : decode cX0_leavesHere 4 = .ok (.iload_n 1, 1) := by decide +kernel
theorem dX0_leavesHere_5 : decode cX0_leavesHere 5 = .ok (.iaload, 1) := by decide +kernel
theorem dX0_leavesHere_6 : decode cX0_leavesHere 6 = .ok (.aload_n 0, 1) := by decide +kernel
theorem dX0_leavesHere_7 : decode cX0_leavesHere 7 = .ok (.getfield 31, 3) := by decide +kernel
theorem dX0_leavesHere_10 : decode cX0_leavesHere 10 = .ok (.aload_n 0, 1) := by decide +kernel
theorem dX0_leavesHere_11 : decode cX0_leavesHere 11 = .ok (.getfield 19, 3) := by decide +kernel
theorem dX0_leavesHere_14 : decode cX0_leavesHere 14 = .ok (.iload_n 1, 1) := by decide +kernel
theorem dX0_leavesHere_15 : decode cX0_leavesHere 15 = .ok (.iaload, 1) := by decide +kernel
theorem dX0_leavesHere_16 : decode cX0_leavesHere 16 = .ok (.iaload, 1) := by decide +kernel
theorem dX0_leavesHere_17 : decode cX0_leavesHere 17 = .ok (.invokestatic 94, 3) := by decide +kernel
theorem dX0_leavesHere_20 : decode cX0_leavesHere 20 = .ok (.ireturn, 1) := by decide +kernel
theorem dX0_walk_0 : decode cX0_walk 0 = .ok (.aload_n 0, 1) := by decide +kernel
theorem dX0_walk_1 : decode cX0_walk 1 = .ok (.iload_n 1, 1) := by decide +kernel
theorem dX0_walk_2 : decode cX0_walk 2 = .ok (.invokevirtual 97, 3) := by decide +kernel
theorem dX0_walk_5 : decode cX0_walk 5 = .ok (.istore_n 3, 1) := by decide +kernel
theorem dX0_walk_6 : decode cX0_walk 6 = .ok (.iconst 0, 1) := by decide +kernel
theorem dX0_walk_7 : decode cX0_walk 7 = .ok (.istore 4, 2) := by decide +kernel
theorem dX0_walk_9 : decode cX0_walk 9 = .ok (.iload 4, 2) := by decide +kernel
theorem dX0_walk_11 : decode cX0_walk 11 = .ok (.iload_n 3, 1) := by decide +kernel
theorem dX0_walk_12 : decode cX0_walk 12 = .ok (.if_icmp .ge 87, 3) := by decide +kernel
theorem dX0_walk_15 : decode cX0_walk 15 = .ok (.aload_n 0, 1) := by decide +kernel
theorem dX0_walk_16 : decode cX0_walk 16 = .ok (.getfield 22, 3) := by decide +kernel
theorem dX0_walk_19 : decode cX0_walk 19 = .ok (.iload_n 1, 1) := by decide +kernel
theorem dX0_walk_20 : decode cX0_walk 20 = .ok (.iaload, 1) := by decide +kernel
theorem dX0_walk_21 : decode cX0_walk 21 = .ok (.ifCond .le 78, 3) := by decide +kernel
theorem dX0_walk_24 : decode cX0_walk 24 = .ok (.aload_n 0, 1) := by decide +kernel
theorem dX0_walk_25 : decode cX0_walk 25 = .ok (.getfield 19, 3) := by decide +kernel
theorem dX0_walk_28 : decode cX0_walk 28 = .ok (.iload_n 1, 1) := by decide +kernel
theorem dX0_walk_29 : decode cX0_walk 29 = .ok (.aload_n 0, 1) := by decide +kernel
theorem dX0_walk_30 : decode cX0_walk 30 = .ok (.getfield 34, 3) := by decide +kernel
theorem dX0_walk_33 : decode cX0_walk 33 = .ok (.aload_n 0, 1) := by decide +kernel
theorem dX0_walk_34 : decode cX0_walk 34 = .ok (.getfield 19, 3) := by decide +kernel
theorem dX0_walk_37 : decode cX0_walk 37 = .ok (.iload_n 1, 1) := by decide +kernel
theorem dX0_walk_38 : decode cX0_walk 38 = .ok (.iaload, 1) := by decide +kernel
theorem dX0_walk_39 : decode cX0_walk 39 = .ok (.iaload, 1) := by decide +kernel
theorem dX0_walk_40 : decode cX0_walk 40 = .ok (.iastore, 1) := by decide +kernel
theorem dX0_walk_41 : decode cX0_walk 41 = .ok (.aload_n 0, 1) := by decide +kernel
theorem dX0_walk_42 : decode cX0_walk 42 = .ok (.getfield 28, 3) := by decide +kernel
theorem dX0_walk_45 : decode cX0_walk 45 = .ok (.iload_n 1, 1) := by decide +kernel
theorem dX0_walk_46 : decode cX0_walk 46 = .ok (.dup2, 1) := by decide +kernel
theorem dX0_walk_47 : decode cX0_walk 47 = .ok (.iaload, 1) := by decide +kernel
theorem dX0_walk_48 : decode cX0_walk 48 = .ok (.iconst 1, 1) := by decide +kernel
theorem dX0_walk_49 : decode cX0_walk 49 = .ok (.iadd, 1) := by decide +kernel
theorem dX0_walk_50 : decode cX0_walk 50 = .ok (.iastore, 1) := by decide +kernel
theorem dX0_walk_51 : decode cX0_walk 51 = .ok (.aload_n 0, 1) := by decide +kernel
theorem dX0_walk_52 : decode cX0_walk 52 = .ok (.getfield 22, 3) := by decide +kernel
theorem dX0_walk_55 : decode cX0_walk 55 = .ok (.iload_n 1, 1) := by decide +kernel
theorem dX0_walk_56 : decode cX0_walk 56 = .ok (.iconst 0, 1) := by decide +kernel
theorem dX0_walk_57 : decode cX0_walk 57 = .ok (.aload_n 0, 1) := by decide +kernel
theorem dX0_walk_58 : decode cX0_walk 58 = .ok (.getfield 22, 3) := by decide +kernel
theorem dX0_walk_61 : decode cX0_walk 61 = .ok (.iload_n 1, 1) := by decide +kernel
theorem dX0_walk_62 : decode cX0_walk 62 = .ok (.iaload, 1) := by decide +kernel
theorem dX0_walk_63 : decode cX0_walk 63 = .ok (.aload_n 0, 1) := by decide +kernel
theorem dX0_walk_64 : decode cX0_walk 64 = .ok (.iload_n 1, 1) := by decide +kernel
theorem dX0_walk_65 : decode cX0_walk 65 = .ok (.aload_n 2, 1) := by decide +kernel
theorem dX0_walk_66 : decode cX0_walk 66 = .ok (.invokevirtual 101, 3) := by decide +kernel
theorem dX0_walk_69 : decode cX0_walk 69 = .ok (.isub, 1) := by decide +kernel
theorem dX0_walk_70 : decode cX0_walk 70 = .ok (.invokestatic 105, 3) := by decide +kernel
theorem dX0_walk_73 : decode cX0_walk 73 = .ok (.iastore, 1) := by decide +kernel
theorem dX0_walk_74 : decode cX0_walk 74 = .ok (.aload_n 0, 1) := by decide +kernel
theorem dX0_walk_75 : decode cX0_walk 75 = .ok (.getfield 37, 3) := by decide +kernel
theorem dX0_walk_78 : decode cX0_walk 78 = .ok (.aload_n 0, 1) := by decide +kernel
theorem dX0_walk_79 : decode cX0_walk 79 = .ok (.getfield 19, 3) := by decide +kernel
theorem dX0_walk_82 : decode cX0_walk 82 = .ok (.iload_n 1, 1) := by decide +kernel
theorem dX0_walk_83 : decode cX0_walk 83 = .ok (.iaload, 1) := by decide +kernel
theorem dX0_walk_84 : decode cX0_walk 84 = .ok (.dup2, 1) := by decide +kernel
theorem dX0_walk_85 : decode cX0_walk 85 = .ok (.iaload, 1) := by decide +kernel
theorem dX0_walk_86 : decode cX0_walk 86 = .ok (.aload_n 0, 1) := by decide +kernel
theorem dX0_walk_87 : decode cX0_walk 87 = .ok (.iload_n 1, 1) := by decide +kernel
theorem dX0_walk_88 : decode cX0_walk 88 = .ok (.invokevirtual 110, 3) := by decide +kernel
theorem dX0_walk_91 : decode cX0_walk 91 = .ok (.iadd, 1) := by decide +kernel
theorem dX0_walk_92 : decode cX0_walk 92 = .ok (.iastore, 1) := by decide +kernel
theorem dX0_walk_93 : decode cX0_walk 93 = .ok (.iinc 4 1, 3) := by decide +kernel
theorem dX0_walk_96 : decode cX0_walk 96 = .ok (.goto (-87), 3) := by decide +kernel
theorem dX0_walk_99 : decode cX0_walk 99 = .ok (.iload 4, 2) := by decide +kernel
theorem dX0_walk_101 : decode cX0_walk 101 = .ok (.ireturn, 1) := by decide +kernel
theorem dX0_passHour_0 : decode cX0_passHour 0 = .ok (.iconst 0, 1) := by decide +kernel
theorem dX0_passHour_1 : decode cX0_passHour 1 = .ok (.istore_n 2, 1) := by decide +kernel
theorem dX0_passHour_2 : decode cX0_passHour 2 = .ok (.iconst 0, 1) := by decide +kernel
theorem dX0_passHour_3 : decode cX0_passHour 3 = .ok (.istore_n 3, 1) := by decide +kernel
theorem dX0_passHour_4 : decode cX0_passHour 4 = .ok (.iload_n 3, 1) := by decide +kernel
theorem dX0_passHour_5 : decode cX0_passHour 5 = .ok (.aload_n 0, 1) := by decide +kernel
theorem dX0_passHour_6 : decode cX0_passHour 6 = .ok (.getfield 9, 3) := by decide +kernel
theorem dX0_passHour_9 : decode cX0_passHour 9 = .ok (.if_icmp .ge 18, 3) := by decide +kernel
theorem dX0_passHour_12 : decode cX0_passHour 12 = .ok (.iload_n 2, 1) := by decide +kernel
theorem dX0_passHour_13 : decode cX0_passHour 13 = .ok (.aload_n 0, 1) := by decide +kernel
theorem dX0_passHour_14 : decode cX0_passHour 14 = .ok (.iload_n 3, 1) := by decide +kernel
theorem dX0_passHour_15 : decode cX0_passHour 15 = .ok (.aload_n 1, 1) := by decide +kernel
theorem dX0_passHour_16 : decode cX0_passHour 16 = .ok (.invokevirtual 113, 3) := by decide +kernel
theorem dX0_passHour_19 : decode cX0_passHour 19 = .ok (.iadd, 1) := by decide +kernel
theorem dX0_passHour_20 : decode cX0_passHour 20 = .ok (.istore_n 2, 1) := by decide +kernel
theorem dX0_passHour_21 : decode cX0_passHour 21 = .ok (.iinc 3 1, 3) := by decide +kernel
theorem dX0_passHour_24 : decode cX0_passHour 24 = .ok (.goto (-20), 3) := by decide +kernel
theorem dX0_passHour_27 : decode cX0_passHour 27 = .ok (.aload_n 0, 1) := by decide +kernel
theorem dX0_passHour_28 : decode cX0_passHour 28 = .ok (.invokevirtual 67, 3) := by decide +kernel
theorem dX0_passHour_31 : decode cX0_passHour 31 = .ok (.bipush 100, 2) := by decide +kernel
theorem dX0_passHour_33 : decode cX0_passHour 33 = .ok (.irem, 1) := by decide +kernel
theorem dX0_passHour_34 : decode cX0_passHour 34 = .ok (.aload_n 0, 1) := by decide +kernel
theorem dX0_passHour_35 : decode cX0_passHour 35 = .ok (.getfield 40, 3) := by decide +kernel
theorem dX0_passHour_38 : decode cX0_passHour 38 = .ok (.if_icmp .ge 36, 3) := by decide +kernel
theorem dX0_passHour_41 : decode cX0_passHour 41 = .ok (.aload_n 0, 1) := by decide +kernel
theorem dX0_passHour_42 : decode cX0_passHour 42 = .ok (.dup, 1) := by decide +kernel
theorem dX0_passHour_43 : decode cX0_passHour 43 = .ok (.getfield 46, 3) := by decide +kernel
theorem dX0_passHour_46 : decode cX0_passHour 46 = .ok (.iconst 1, 1) := by decide +kernel
theorem dX0_passHour_47 : decode cX0_passHour 47 = .ok (.iadd, 1) := by decide +kernel
theorem dX0_passHour_48 : decode cX0_passHour 48 = .ok (.putfield 46, 3) := by decide +kernel
theorem dX0_passHour_51 : decode cX0_passHour 51 = .ok (.aload_n 0, 1) := by decide +kernel
theorem dX0_passHour_52 : decode cX0_passHour 52 = .ok (.dup, 1) := by decide +kernel
theorem dX0_passHour_53 : decode cX0_passHour 53 = .ok (.getfield 43, 3) := by decide +kernel
theorem dX0_passHour_56 : decode cX0_passHour 56 = .ok (.aload_n 0, 1) := by decide +kernel
theorem dX0_passHour_57 : decode cX0_passHour 57 = .ok (.aload_n 0, 1) := by decide +kernel
theorem dX0_passHour_58 : decode cX0_passHour 58 = .ok (.invokevirtual 67, 3) := by decide +kernel
theorem dX0_passHour_61 : decode cX0_passHour 61 = .ok (.bipush 10, 2) := by decide +kernel
theorem dX0_passHour_63 : decode cX0_passHour 63 = .ok (.irem, 1) := by decide +kernel
theorem dX0_passHour_64 : decode cX0_passHour 64 = .ok (.invokevirtual 116, 3) := by decide +kernel
theorem dX0_passHour_67 : decode cX0_passHour 67 = .ok (.invokestatic 119, 3) := by decide +kernel
theorem dX0_passHour_70 : decode cX0_passHour 70 = .ok (.iadd, 1) := by decide +kernel
theorem dX0_passHour_71 : decode cX0_passHour 71 = .ok (.putfield 43, 3) := by decide +kernel
theorem dX0_passHour_74 : decode cX0_passHour 74 = .ok (.aload_n 0, 1) := by decide +kernel
theorem dX0_passHour_75 : decode cX0_passHour 75 = .ok (.dup, 1) := by decide +kernel
theorem dX0_passHour_76 : decode cX0_passHour 76 = .ok (.getfield 49, 3) := by decide +kernel
theorem dX0_passHour_79 : decode cX0_passHour 79 = .ok (.iconst 1, 1) := by decide +kernel
theorem dX0_passHour_80 : decode cX0_passHour 80 = .ok (.iadd, 1) := by decide +kernel
theorem dX0_passHour_81 : decode cX0_passHour 81 = .ok (.putfield 49, 3) := by decide +kernel
theorem dX0_passHour_84 : decode cX0_passHour 84 = .ok (.iload_n 2, 1) := by decide +kernel
theorem dX0_passHour_85 : decode cX0_passHour 85 = .ok (.ireturn, 1) := by decide +kernel
theorem dX0_passHours_0 : decode cX0_passHours 0 = .ok (.iconst 0, 1) := by decide +kernel
theorem dX0_passHours_1 : decode cX0_passHours 1 = .ok (.istore_n 3, 1) := by decide +kernel
theorem dX0_passHours_2 : decode cX0_passHours 2 = .ok (.iconst 0, 1) := by decide +kernel
theorem dX0_passHours_3 : decode cX0_passHours 3 = .ok (.istore 4, 2) := by decide +kernel
theorem dX0_passHours_5 : decode cX0_passHours 5 = .ok (.iload 4, 2) := by decide +kernel
theorem dX0_passHours_7 : decode cX0_passHours 7 = .ok (.iload_n 1, 1) := by decide +kernel
theorem dX0_passHours_8 : decode cX0_passHours 8 = .ok (.if_icmp .ge 17, 3) := by decide +kernel
theorem dX0_passHours_11 : decode cX0_passHours 11 = .ok (.iload_n 3, 1) := by decide +kernel
theorem dX0_passHours_12 : decode cX0_passHours 12 = .ok (.aload_n 0, 1) := by decide +kernel
theorem dX0_passHours_13 : decode cX0_passHours 13 = .ok (.aload_n 2, 1) := by decide +kernel
theorem dX0_passHours_14 : decode cX0_passHours 14 = .ok (.invokevirtual 124, 3) := by decide +kernel
theorem dX0_passHours_17 : decode cX0_passHours 17 = .ok (.iadd, 1) := by decide +kernel
theorem dX0_passHours_18 : decode cX0_passHours 18 = .ok (.istore_n 3, 1) := by decide +kernel
theorem dX0_passHours_19 : decode cX0_passHours 19 = .ok (.iinc 4 1, 3) := by decide +kernel
theorem dX0_passHours_22 : decode cX0_passHours 22 = .ok (.goto (-17), 3) := by decide +kernel
theorem dX0_passHours_25 : decode cX0_passHours 25 = .ok (.iload_n 3, 1) := by decide +kernel
theorem dX0_passHours_26 : decode cX0_passHours 26 = .ok (.ireturn, 1) := by decide +kernel
theorem dX0_dancersAt_0 : decode cX0_dancersAt 0 = .ok (.iconst 0, 1) := by decide +kernel
theorem dX0_dancersAt_1 : decode cX0_dancersAt 1 = .ok (.istore_n 2, 1) := by decide +kernel
theorem dX0_dancersAt_2 : decode cX0_dancersAt 2 = .ok (.iconst 0, 1) := by decide +kernel
theorem dX0_dancersAt_3 : decode cX0_dancersAt 3 = .ok (.istore_n 3, 1) := by decide +kernel
theorem dX0_dancersAt_4 : decode cX0_dancersAt 4 = .ok (.iload_n 3, 1) := by decide +kernel
theorem dX0_dancersAt_5 : decode cX0_dancersAt 5 = .ok (.aload_n 0, 1) := by decide +kernel
theorem dX0_dancersAt_6 : decode cX0_dancersAt 6 = .ok (.getfield 9, 3) := by decide +kernel
theorem dX0_dancersAt_9 : decode cX0_dancersAt 9 = .ok (.if_icmp .ge 25, 3) := by decide +kernel
theorem dX0_dancersAt_12 : decode cX0_dancersAt 12 = .ok (.aload_n 0, 1) := by decide +kernel
theorem dX0_dancersAt_13 : decode cX0_dancersAt 13 = .ok (.getfield 19, 3) := by decide +kernel
theorem dX0_dancersAt_16 : decode cX0_dancersAt 16 = .ok (.iload_n 3, 1) := by decide +kernel
theorem dX0_dancersAt_17 : decode cX0_dancersAt 17 = .ok (.iaload, 1) := by decide +kernel
theorem dX0_dancersAt_18 : decode cX0_dancersAt 18 = .ok (.iload_n 1, 1) := by decide +kernel
theorem dX0_dancersAt_19 : decode cX0_dancersAt 19 = .ok (.if_icmp .ne 9, 3) := by decide +kernel
theorem dX0_dancersAt_22 : decode cX0_dancersAt 22 = .ok (.iload_n 2, 1) := by decide +kernel
theorem dX0_dancersAt_23 : decode cX0_dancersAt 23 = .ok (.iconst 1, 1) := by decide +kernel
theorem dX0_dancersAt_24 : decode cX0_dancersAt 24 = .ok (.iload_n 3, 1) := by decide +kernel
theorem dX0_dancersAt_25 : decode cX0_dancersAt 25 = .ok (.ishl, 1) := by decide +kernel
theorem dX0_dancersAt_26 : decode cX0_dancersAt 26 = .ok (.ior, 1) := by decide +kernel
theorem dX0_dancersAt_27 : decode cX0_dancersAt 27 = .ok (.istore_n 2, 1) := by decide +kernel
theorem dX0_dancersAt_28 : decode cX0_dancersAt 28 = .ok (.iinc 3 1, 3) := by decide +kernel
theorem dX0_dancersAt_31 : decode cX0_dancersAt 31 = .ok (.goto (-27), 3) := by decide +kernel
theorem dX0_dancersAt_34 : decode cX0_dancersAt 34 = .ok (.iload_n 2, 1) := by decide +kernel
theorem dX0_dancersAt_35 : decode cX0_dancersAt 35 = .ok (.ireturn, 1) := by decide +kernel
theorem dX0_barefoot_0 : decode cX0_barefoot 0 = .ok (.iconst 0, 1) := by decide +kernel
theorem dX0_barefoot_1 : decode cX0_barefoot 1 = .ok (.istore_n 1, 1) := by decide +kernel
theorem dX0_barefoot_2 : decode cX0_barefoot 2 = .ok (.iconst 0, 1) := by decide +kernel
theorem dX0_barefoot_3 : decode cX0_barefoot 3 = .ok (.istore_n 2, 1) := by decide +kernel
theorem dX0_barefoot_4 : decode cX0_barefoot 4 = .ok (.iload_n 2, 1) := by decide +kernel
theorem dX0_barefoot_5 : decode cX0_barefoot 5 = .ok (.aload_n 0, 1) := by decide +kernel
theorem dX0_barefoot_6 : decode cX0_barefoot 6 = .ok (.getfield 9, 3) := by decide +kernel
theorem dX0_barefoot_9 : decode cX0_barefoot 9 = .ok (.if_icmp .ge 24, 3) := by decide +kernel
theorem dX0_barefoot_12 : decode cX0_barefoot 12 = .ok (.aload_n 0, 1) := by decide +kernel
theorem dX0_barefoot_13 : decode cX0_barefoot 13 = .ok (.getfield 22, 3) := by decide +kernel
theorem dX0_barefoot_16 : decode cX0_barefoot 16 = .ok (.iload_n 2, 1) := by decide +kernel
theorem dX0_barefoot_17 : decode cX0_barefoot 17 = .ok (.iaload, 1) := by decide +kernel
theorem dX0_barefoot_18 : decode cX0_barefoot 18 = .ok (.ifCond .ne 9, 3) := by decide +kernel
theorem dX0_barefoot_21 : decode cX0_barefoot 21 = .ok (.iload_n 1, 1) := by decide +kernel
theorem dX0_barefoot_22 : decode cX0_barefoot 22 = .ok (.iconst 1, 1) := by decide +kernel
theorem dX0_barefoot_23 : decode cX0_barefoot 23 = .ok (.iload_n 2, 1) := by decide +kernel
theorem dX0_barefoot_24 : decode cX0_barefoot 24 = .ok (.ishl, 1) := by decide +kernel
theorem dX0_barefoot_25 : decode cX0_barefoot 25 = .ok (.ior, 1) := by decide +kernel
theorem dX0_barefoot_26 : decode cX0_barefoot 26 = .ok (.istore_n 1, 1) := by decide +kernel
theorem dX0_barefoot_27 : decode cX0_barefoot 27 = .ok (.iinc 2 1, 3) := by decide +kernel
theorem dX0_barefoot_30 : decode cX0_barefoot 30 = .ok (.goto (-26), 3) := by decide +kernel
theorem dX0_barefoot_33 : decode cX0_barefoot 33 = .ok (.iload_n 1, 1) := by decide +kernel
theorem dX0_barefoot_34 : decode cX0_barefoot 34 = .ok (.ireturn, 1) := by decide +kernel
theorem dX0_roomsWithMarks_0 : decode cX0_roomsWithMarks 0 = .ok (.iconst 0, 1) := by decide +kernel
theorem dX0_roomsWithMarks_1 : decode cX0_roomsWithMarks 1 = .ok (.istore_n 1, 1) := by decide +kernel
theorem dX0_roomsWithMarks_2 : decode cX0_roomsWithMarks 2 = .ok (.iconst 0, 1) := by decide +kernel
theorem dX0_roomsWithMarks_3 : decode cX0_roomsWithMarks 3 = .ok (.istore_n 2, 1) := by decide +kernel
theorem dX0_roomsWithMarks_4 : decode cX0_roomsWithMarks 4 = .ok (.iload_n 2, 1) := by decide +kernel
theorem dX0_roomsWithMarks_5 : decode cX0_roomsWithMarks 5 = .ok (.bipush 10, 2) := by decide +kernel
theorem dX0_roomsWithMarks_7 : decode cX0_roomsWithMarks 7 = .ok (.if_icmp .ge 24, 3) := by decide +kernel
theorem dX0_roomsWithMarks_10 : decode cX0_roomsWithMarks 10 = .ok (.aload_n 0, 1) := by decide +kernel
theorem dX0_roomsWithMarks_11 : decode cX0_roomsWithMarks 11 = .ok (.getfield 37, 3) := by decide +kernel
theorem dX0_roomsWithMarks_14 : decode cX0_roomsWithMarks 14 = .ok (.iload_n 2, 1) := by decide +kernel
theorem dX0_roomsWithMarks_15 : decode cX0_roomsWithMarks 15 = .ok (.iaload, 1) := by decide +kernel
theorem dX0_roomsWithMarks_16 : decode cX0_roomsWithMarks 16 = .ok (.ifCond .le 9, 3) := by decide +kernel
theorem dX0_roomsWithMarks_19 : decode cX0_roomsWithMarks 19 = .ok (.iload_n 1, 1) := by decide +kernel
theorem dX0_roomsWithMarks_20 : decode cX0_roomsWithMarks 20 = .ok (.iconst 1, 1) := by decide +kernel
theorem dX0_roomsWithMarks_21 : decode cX0_roomsWithMarks 21 = .ok (.iload_n 2, 1) := by decide +kernel
theorem dX0_roomsWithMarks_22 : decode cX0_roomsWithMarks 22 = .ok (.ishl, 1) := by decide +kernel
theorem dX0_roomsWithMarks_23 : decode cX0_roomsWithMarks 23 = .ok (.ior, 1) := by decide +kernel
theorem dX0_roomsWithMarks_24 : decode cX0_roomsWithMarks 24 = .ok (.istore_n 1, 1) := by decide +kernel
theorem dX0_roomsWithMarks_25 : decode cX0_roomsWithMarks 25 = .ok (.iinc 2 1, 3) := by decide +kernel
theorem dX0_roomsWithMarks_28 : decode cX0_roomsWithMarks 28 = .ok (.goto (-24), 3) := by decide +kernel
theorem dX0_roomsWithMarks_31 : decode cX0_roomsWithMarks 31 = .ok (.iload_n 1, 1) := by decide +kernel
theorem dX0_roomsWithMarks_32 : decode cX0_roomsWithMarks 32 = .ok (.ireturn, 1) := by decide +kernel
theorem dX0_allMarks_0 : decode cX0_allMarks 0 = .ok (.iconst 0, 1) := by decide +kernel
theorem dX0_allMarks_1 : decode cX0_allMarks 1 = .ok (.istore_n 1, 1) := by decide +kernel
theorem dX0_allMarks_2 : decode cX0_allMarks 2 = .ok (.iconst 0, 1) := by decide +kernel
theorem dX0_allMarks_3 : decode cX0_allMarks 3 = .ok (.istore_n 2, 1) := by decide +kernel
theorem dX0_allMarks_4 : decode cX0_allMarks 4 = .ok (.iload_n 2, 1) := by decide +kernel
theorem dX0_allMarks_5 : decode cX0_allMarks 5 = .ok (.bipush 10, 2) := by decide +kernel
theorem dX0_allMarks_7 : decode cX0_allMarks 7 = .ok (.if_icmp .ge 18, 3) := by decide +kernel
theorem dX0_allMarks_10 : decode cX0_allMarks 10 = .ok (.iload_n 1, 1) := by decide +kernel
theorem dX0_allMarks_11 : decode cX0_allMarks 11 = .ok (.aload_n 0, 1) := by decide +kernel
theorem dX0_allMarks_12 : decode cX0_allMarks 12 = .ok (.getfield 37, 3) := by decide +kernel
theorem dX0_allMarks_15 : decode cX0_allMarks 15 = .ok (.iload_n 2, 1) := by decide +kernel
theorem dX0_allMarks_16 : decode cX0_allMarks 16 = .ok (.iaload, 1) := by decide +kernel
theorem dX0_allMarks_17 : decode cX0_allMarks 17 = .ok (.iadd, 1) := by decide +kernel
theorem dX0_allMarks_18 : decode cX0_allMarks 18 = .ok (.istore_n 1, 1) := by decide +kernel
theorem dX0_allMarks_19 : decode cX0_allMarks 19 = .ok (.iinc 2 1, 3) := by decide +kernel
theorem dX0_allMarks_22 : decode cX0_allMarks 22 = .ok (.goto (-18), 3) := by decide +kernel
theorem dX0_allMarks_25 : decode cX0_allMarks 25 = .ok (.iload_n 1, 1) := by decide +kernel
theorem dX0_allMarks_26 : decode cX0_allMarks 26 = .ok (.ireturn, 1) := by decide +kernel
theorem dX0_allSoles_0 : decode cX0_allSoles 0 = .ok (.iconst 0, 1) := by decide +kernel
theorem dX0_allSoles_1 : decode cX0_allSoles 1 = .ok (.istore_n 1, 1) := by decide +kernel
theorem dX0_allSoles_2 : decode cX0_allSoles 2 = .ok (.iconst 0, 1) := by decide +kernel
theorem dX0_allSoles_3 : decode cX0_allSoles 3 = .ok (.istore_n 2, 1) := by decide +kernel
theorem dX0_allSoles_4 : decode cX0_allSoles 4 = .ok (.iload_n 2, 1) := by decide +kernel
theorem dX0_allSoles_5 : decode cX0_allSoles 5 = .ok (.aload_n 0, 1) := by decide +kernel
theorem dX0_allSoles_6 : decode cX0_allSoles 6 = .ok (.getfield 9, 3) := by decide +kernel
theorem dX0_allSoles_9 : decode cX0_allSoles 9 = .ok (.if_icmp .ge 18, 3) := by decide +kernel
theorem dX0_allSoles_12 : decode cX0_allSoles 12 = .ok (.iload_n 1, 1) := by decide +kernel
theorem dX0_allSoles_13 : decode cX0_allSoles 13 = .ok (.aload_n 0, 1) := by decide +kernel
theorem dX0_allSoles_14 : decode cX0_allSoles 14 = .ok (.getfield 22, 3) := by decide +kernel
theorem dX0_allSoles_17 : decode cX0_allSoles 17 = .ok (.iload_n 2, 1) := by decide +kernel
theorem dX0_allSoles_18 : decode cX0_allSoles 18 = .ok (.iaload, 1) := by decide +kernel
theorem dX0_allSoles_19 : decode cX0_allSoles 19 = .ok (.iadd, 1) := by decide +kernel
theorem dX0_allSoles_20 : decode cX0_allSoles 20 = .ok (.istore_n 1, 1) := by decide +kernel
theorem dX0_allSoles_21 : decode cX0_allSoles 21 = .ok (.iinc 2 1, 3) := by decide +kernel
theorem dX0_allSoles_24 : decode cX0_allSoles 24 = .ok (.goto (-20), 3) := by decide +kernel
theorem dX0_allSoles_27 : decode cX0_allSoles 27 = .ok (.iload_n 1, 1) := by decide +kernel
theorem dX0_allSoles_28 : decode cX0_allSoles 28 = .ok (.ireturn, 1) := by decide +kernel
theorem dX0_ringFrom_0 : decode cX0_ringFrom 0 = .ok (.iload_n 1, 1) := by decide +kernel
theorem dX0_ringFrom_1 : decode cX0_ringFrom 1 = .ok (.istore_n 2, 1) := by decide +kernel
theorem dX0_ringFrom_2 : decode cX0_ringFrom 2 = .ok (.iconst 0, 1) := by decide +kernel
theorem dX0_ringFrom_3 : decode cX0_ringFrom 3 = .ok (.istore_n 3, 1) := by decide +kernel
theorem dX0_ringFrom_4 : decode cX0_ringFrom 4 = .ok (.iload_n 3, 1) := by decide +kernel
theorem dX0_ringFrom_5 : decode cX0_ringFrom 5 = .ok (.bipush 10, 2) := by decide +kernel
theorem dX0_ringFrom_7 : decode cX0_ringFrom 7 = .ok (.if_icmp .ge 16, 3) := by decide +kernel
theorem dX0_ringFrom_10 : decode cX0_ringFrom 10 = .ok (.aload_n 0, 1) := by decide +kernel
theorem dX0_ringFrom_11 : decode cX0_ringFrom 11 = .ok (.getfield 34, 3) := by decide +kernel
theorem dX0_ringFrom_14 : decode cX0_ringFrom 14 = .ok (.iload_n 2, 1) := by decide +kernel
theorem dX0_ringFrom_15 : decode cX0_ringFrom 15 = .ok (.iaload, 1) := by decide +kernel
theorem dX0_ringFrom_16 : decode cX0_ringFrom 16 = .ok (.istore_n 2, 1) := by decide +kernel
theorem dX0_ringFrom_17 : decode cX0_ringFrom 17 = .ok (.iinc 3 1, 3) := by decide +kernel
theorem dX0_ringFrom_20 : decode cX0_ringFrom 20 = .ok (.goto (-16), 3) := by decide +kernel
theorem dX0_ringFrom_23 : decode cX0_ringFrom 23 = .ok (.aload_n 0, 1) := by decide +kernel
theorem dX0_ringFrom_24 : decode cX0_ringFrom 24 = .ok (.getfield 34, 3) := by decide +kernel
theorem dX0_ringFrom_27 : decode cX0_ringFrom 27 = .ok (.iload_n 2, 1) := by decide +kernel
theorem dX0_ringFrom_28 : decode cX0_ringFrom 28 = .ok (.iaload, 1) := by decide +kernel
theorem dX0_ringFrom_29 : decode cX0_ringFrom 29 = .ok (.istore_n 3, 1) := by decide +kernel
theorem dX0_ringFrom_30 : decode cX0_ringFrom 30 = .ok (.iconst 1, 1) := by decide +kernel
theorem dX0_ringFrom_31 : decode cX0_ringFrom 31 = .ok (.istore 4, 2) := by decide +kernel
theorem dX0_ringFrom_33 : decode cX0_ringFrom 33 = .ok (.iload 4, 2) := by decide +kernel
theorem dX0_ringFrom_35 : decode cX0_ringFrom 35 = .ok (.bipush 10, 2) := by decide +kernel
theorem dX0_ringFrom_37 : decode cX0_ringFrom 37 = .ok (.if_icmp .ge 21, 3) := by decide +kernel
theorem dX0_ringFrom_40 : decode cX0_ringFrom 40 = .ok (.iload_n 3, 1) := by decide +kernel
theorem dX0_ringFrom_41 : decode cX0_ringFrom 41 = .ok (.iload_n 2, 1) := by decide +kernel
theorem dX0_ringFrom_42 : decode cX0_ringFrom 42 = .ok (.if_icmp .eq 16, 3) := by decide +kernel
theorem dX0_ringFrom_45 : decode cX0_ringFrom 45 = .ok (.aload_n 0, 1) := by decide +kernel
theorem dX0_ringFrom_46 : decode cX0_ringFrom 46 = .ok (.getfield 34, 3) := by decide +kernel
theorem dX0_ringFrom_49 : decode cX0_ringFrom 49 = .ok (.iload_n 3, 1) := by decide +kernel
theorem dX0_ringFrom_50 : decode cX0_ringFrom 50 = .ok (.iaload, 1) := by decide +kernel
theorem dX0_ringFrom_51 : decode cX0_ringFrom 51 = .ok (.istore_n 3, 1) := by decide +kernel
theorem dX0_ringFrom_52 : decode cX0_ringFrom 52 = .ok (.iinc 4 1, 3) := by decide +kernel
theorem dX0_ringFrom_55 : decode cX0_ringFrom 55 = .ok (.goto (-22), 3) := by decide +kernel
theorem dX0_ringFrom_58 : decode cX0_ringFrom 58 = .ok (.iload 4, 2) := by decide +kernel
theorem dX0_ringFrom_60 : decode cX0_ringFrom 60 = .ok (.ireturn, 1) := by decide +kernel
theorem dX0_waysBetween_0 : decode cX0_waysBetween 0 = .ok (.iload_n 1, 1) := by decide +kernel
theorem dX0_waysBetween_1 : decode cX0_waysBetween 1 = .ok (.istore_n 3, 1) := by decide +kernel
theorem dX0_waysBetween_2 : decode cX0_waysBetween 2 = .ok (.iconst 0, 1) := by decide +kernel
theorem dX0_waysBetween_3 : decode cX0_waysBetween 3 = .ok (.istore 4, 2) := by decide +kernel
theorem dX0_waysBetween_5 : decode cX0_waysBetween 5 = .ok (.iload 4, 2) := by decide +kernel
theorem dX0_waysBetween_7 : decode cX0_waysBetween 7 = .ok (.bipush 10, 2) := by decide +kernel
theorem dX0_waysBetween_9 : decode cX0_waysBetween 9 = .ok (.if_icmp .ge 24, 3) := by decide +kernel
theorem dX0_waysBetween_12 : decode cX0_waysBetween 12 = .ok (.iload_n 3, 1) := by decide +kernel
theorem dX0_waysBetween_13 : decode cX0_waysBetween 13 = .ok (.iload_n 2, 1) := by decide +kernel
theorem dX0_waysBetween_14 : decode cX0_waysBetween 14 = .ok (.if_icmp .ne 6, 3) := by decide +kernel
theorem dX0_waysBetween_17 : decode cX0_waysBetween 17 = .ok (.iload 4, 2) := by decide +kernel
theorem dX0_waysBetween_19 : decode cX0_waysBetween 19 = .ok (.ireturn, 1) := by decide +kernel
theorem dX0_waysBetween_20 : decode cX0_waysBetween 20 = .ok (.aload_n 0, 1) := by decide +kernel
theorem dX0_waysBetween_21 : decode cX0_waysBetween 21 = .ok (.getfield 34, 3) := by decide +kernel
theorem dX0_waysBetween_24 : decode cX0_waysBetween 24 = .ok (.iload_n 3, 1) := by decide +kernel
theorem dX0_waysBetween_25 : decode cX0_waysBetween 25 = .ok (.iaload, 1) := by decide +kernel
theorem dX0_waysBetween_26 : decode cX0_waysBetween 26 = .ok (.istore_n 3, 1) := by decide +kernel
theorem dX0_waysBetween_27 : decode cX0_waysBetween 27 = .ok (.iinc 4 1, 3) := by decide +kernel
theorem dX0_waysBetween_30 : decode cX0_waysBetween 30 = .ok (.goto (-25), 3) := by decide +kernel
theorem dX0_waysBetween_33 : decode cX0_waysBetween 33 = .ok (.ldc 128, 2) := by decide +kernel
theorem dX0_waysBetween_35 : decode cX0_waysBetween 35 = .ok (.ireturn, 1) := by decide +kernel
theorem dX1_isOf_0 : decode cX1_isOf 0 = .ok (.iload_n 0, 1) := by decide +kernel
theorem dX1_isOf_1 : decode cX1_isOf 1 = .ok (.iload_n 1, 1) := by decide +kernel
theorem dX1_isOf_2 : decode cX1_isOf 2 = .ok (.if_icmp .eq 7, 3) := by decide +kernel
theorem dX1_isOf_5 : decode cX1_isOf 5 = .ok (.iload_n 1, 1) := by decide +kernel
theorem dX1_isOf_6 : decode cX1_isOf 6 = .ok (.ifCond .ne 5, 3) := by decide +kernel
theorem dX1_isOf_9 : decode cX1_isOf 9 = .ok (.iconst 1, 1) := by decide +kernel
theorem dX1_isOf_10 : decode cX1_isOf 10 = .ok (.ireturn, 1) := by decide +kernel
theorem dX1_isOf_11 : decode cX1_isOf 11 = .ok (.iload_n 0, 1) := by decide +kernel
theorem dX1_isOf_12 : decode cX1_isOf 12 = .ok (.iconst 3, 1) := by decide +kernel
theorem dX1_isOf_13 : decode cX1_isOf 13 = .ok (.if_icmp .ne 8, 3) := by decide +kernel
theorem dX1_isOf_16 : decode cX1_isOf 16 = .ok (.iload_n 1, 1) := by decide +kernel
theorem dX1_isOf_17 : decode cX1_isOf 17 = .ok (.iconst 1, 1) := by decide +kernel
theorem dX1_isOf_18 : decode cX1_isOf 18 = .ok (.if_icmp .eq 13, 3) := by decide +kernel
theorem dX1_isOf_21 : decode cX1_isOf 21 = .ok (.iload_n 0, 1) := by decide +kernel
theorem dX1_isOf_22 : decode cX1_isOf 22 = .ok (.iconst 4, 1) := by decide +kernel
theorem dX1_isOf_23 : decode cX1_isOf 23 = .ok (.if_icmp .ne 12, 3) := by decide +kernel
theorem dX1_isOf_26 : decode cX1_isOf 26 = .ok (.iload_n 1, 1) := by decide +kernel
theorem dX1_isOf_27 : decode cX1_isOf 27 = .ok (.iconst 2, 1) := by decide +kernel
theorem dX1_isOf_28 : decode cX1_isOf 28 = .ok (.if_icmp .ne 7, 3) := by decide +kernel
theorem dX1_isOf_31 : decode cX1_isOf 31 = .ok (.iconst 1, 1) := by decide +kernel
theorem dX1_isOf_32 : decode cX1_isOf 32 = .ok (.goto 4, 3) := by decide +kernel
theorem dX1_isOf_35 : decode cX1_isOf 35 = .ok (.iconst 0, 1) := by decide +kernel
theorem dX1_isOf_36 : decode cX1_isOf 36 = .ok (.ireturn, 1) := by decide +kernel
theorem dX1_wears_0 : decode cX1_wears 0 = .ok (.iload_n 0, 1) := by decide +kernel
theorem dX1_wears_1 : decode cX1_wears 1 = .ok (.tableswitch 63 1 5 #[35, 49, 39, 53, 59], 35) := by decide +kernel
theorem dX1_wears_36 : decode cX1_wears 36 = .ok (.iload_n 1, 1) := by decide +kernel
theorem dX1_wears_37 : decode cX1_wears 37 = .ok (.iconst 2, 1) := by decide +kernel
theorem dX1_wears_38 : decode cX1_wears 38 = .ok (.idiv, 1) := by decide +kernel
theorem dX1_wears_39 : decode cX1_wears 39 = .ok (.ireturn, 1) := by decide +kernel
theorem dX1_wears_40 : decode cX1_wears 40 = .ok (.iconst 0, 1) := by decide +kernel
theorem dX1_wears_41 : decode cX1_wears 41 = .ok (.iload_n 1, 1) := by decide +kernel
theorem dX1_wears_42 : decode cX1_wears 42 = .ok (.iconst 2, 1) := by decide +kernel
theorem dX1_wears_43 : decode cX1_wears 43 = .ok (.idiv, 1) := by decide +kernel
theorem dX1_wears_44 : decode cX1_wears 44 = .ok (.iconst 1, 1) := by decide +kernel
theorem dX1_wears_45 : decode cX1_wears 45 = .ok (.isub, 1) := by decide +kernel
theorem dX1_wears_46 : decode cX1_wears 46 = .ok (.invokestatic 11, 3) := by decide +kernel
theorem dX1_wears_49 : decode cX1_wears 49 = .ok (.ireturn, 1) := by decide +kernel
theorem dX1_wears_50 : decode cX1_wears 50 = .ok (.iload_n 1, 1) := by decide +kernel
theorem dX1_wears_51 : decode cX1_wears 51 = .ok (.iconst 2, 1) := by decide +kernel
theorem dX1_wears_52 : decode cX1_wears 52 = .ok (.imul, 1) := by decide +kernel
theorem dX1_wears_53 : decode cX1_wears 53 = .ok (.ireturn, 1) := by decide +kernel
theorem dX1_wears_54 : decode cX1_wears 54 = .ok (.iload_n 1, 1) := by decide +kernel
theorem dX1_wears_55 : decode cX1_wears 55 = .ok (.iconst 2, 1) := by decide +kernel
theorem dX1_wears_56 : decode cX1_wears 56 = .ok (.imul, 1) := by decide +kernel
theorem dX1_wears_57 : decode cX1_wears 57 = .ok (.iconst 3, 1) := by decide +kernel
theorem dX1_wears_58 : decode cX1_wears 58 = .ok (.iadd, 1) := by decide +kernel
theorem dX1_wears_59 : decode cX1_wears 59 = .ok (.ireturn, 1) := by decide +kernel
theorem dX1_wears_60 : decode cX1_wears 60 = .ok (.iload_n 1, 1) := by decide +kernel
theorem dX1_wears_61 : decode cX1_wears 61 = .ok (.iconst 1, 1) := by decide +kernel
theorem dX1_wears_62 : decode cX1_wears 62 = .ok (.iadd, 1) := by decide +kernel
theorem dX1_wears_63 : decode cX1_wears 63 = .ok (.ireturn, 1) := by decide +kernel
theorem dX1_wears_64 : decode cX1_wears 64 = .ok (.iload_n 1, 1) := by decide +kernel
theorem dX1_wears_65 : decode cX1_wears 65 = .ok (.ireturn, 1) := by decide +kernel
theorem dX1_goes_0 : decode cX1_goes 0 = .ok (.iload_n 0, 1) := by decide +kernel
theorem dX1_goes_1 : decode cX1_goes 1 = .ok (.tableswitch 74 1 5 #[35, 74, 43, 53, 57], 35) := by decide +kernel
theorem dX1_goes_36 : decode cX1_goes 36 = .ok (.iconst 0, 1) := by decide +kernel
theorem dX1_goes_37 : decode cX1_goes 37 = .ok (.iload_n 1, 1) := by decide +kernel
theorem dX1_goes_38 : decode cX1_goes 38 = .ok (.iconst 1, 1) := by decide +kernel
theorem dX1_goes_39 : decode cX1_goes 39 = .ok (.isub, 1) := by decide +kernel
theorem dX1_goes_40 : decode cX1_goes 40 = .ok (.invokestatic 11, 3) := by decide +kernel
theorem dX1_goes_43 : decode cX1_goes 43 = .ok (.ireturn, 1) := by decide +kernel
theorem dX1_goes_44 : decode cX1_goes 44 = .ok (.iconst 0, 1) := by decide +kernel
theorem dX1_goes_45 : decode cX1_goes 45 = .ok (.iload_n 1, 1) := by decide +kernel
theorem dX1_goes_46 : decode cX1_goes 46 = .ok (.iconst 1, 1) := by decide +kernel
theorem dX1_goes_47 : decode cX1_goes 47 = .ok (.isub, 1) := by decide +kernel
theorem dX1_goes_48 : decode cX1_goes 48 = .ok (.invokestatic 11, 3) := by decide +kernel
theorem dX1_goes_51 : decode cX1_goes 51 = .ok (.iconst 2, 1) := by decide +kernel
theorem dX1_goes_52 : decode cX1_goes 52 = .ok (.iadd, 1) := by decide +kernel
theorem dX1_goes_53 : decode cX1_goes 53 = .ok (.ireturn, 1) := by decide +kernel
theorem dX1_goes_54 : decode cX1_goes 54 = .ok (.iload_n 1, 1) := by decide +kernel
theorem dX1_goes_55 : decode cX1_goes 55 = .ok (.iconst 2, 1) := by decide +kernel
theorem dX1_goes_56 : decode cX1_goes 56 = .ok (.idiv, 1) := by decide +kernel
theorem dX1_goes_57 : decode cX1_goes 57 = .ok (.ireturn, 1) := by decide +kernel
theorem dX1_goes_58 : decode cX1_goes 58 = .ok (.iload_n 2, 1) := by decide +kernel
theorem dX1_goes_59 : decode cX1_goes 59 = .ok (.bipush 12, 2) := by decide +kernel
theorem dX1_goes_61 : decode cX1_goes 61 = .ok (.irem, 1) := by decide +kernel
theorem dX1_goes_62 : decode cX1_goes 62 = .ok (.bipush 11, 2) := by decide +kernel
theorem dX1_goes_64 : decode cX1_goes 64 = .ok (.if_icmp .ne 9, 3) := by decide +kernel
theorem dX1_goes_67 : decode cX1_goes 67 = .ok (.iload_n 1, 1) := by decide +kernel
theorem dX1_goes_68 : decode cX1_goes 68 = .ok (.iconst 1, 1) := by decide +kernel
theorem dX1_goes_69 : decode cX1_goes 69 = .ok (.iadd, 1) := by decide +kernel
theorem dX1_goes_70 : decode cX1_goes 70 = .ok (.goto 4, 3) := by decide +kernel
theorem dX1_goes_73 : decode cX1_goes 73 = .ok (.iload_n 1, 1) := by decide +kernel
theorem dX1_goes_74 : decode cX1_goes 74 = .ok (.ireturn, 1) := by decide +kernel
theorem dX1_goes_75 : decode cX1_goes 75 = .ok (.iload_n 1, 1) := by decide +kernel
theorem dX1_goes_76 : decode cX1_goes 76 = .ok (.ireturn, 1) := by decide +kernel
theorem dX1_leaves_0 : decode cX1_leaves 0 = .ok (.iload_n 1, 1) := by decide +kernel
theorem dX1_leaves_1 : decode cX1_leaves 1 = .ok (.iconst 5, 1) := by decide +kernel
theorem dX1_leaves_2 : decode cX1_leaves 2 = .ok (.if_icmp .lt 7, 3) := by decide +kernel
theorem dX1_leaves_5 : decode cX1_leaves 5 = .ok (.iconst 1, 1) := by decide +kernel
theorem dX1_leaves_6 : decode cX1_leaves 6 = .ok (.goto 4, 3) := by decide +kernel
theorem dX1_leaves_9 : decode cX1_leaves 9 = .ok (.iconst 0, 1) := by decide +kernel
theorem dX1_leaves_10 : decode cX1_leaves 10 = .ok (.istore_n 2, 1) := by decide +kernel
theorem dX1_leaves_11 : decode cX1_leaves 11 = .ok (.iload_n 0, 1) := by decide +kernel
theorem dX1_leaves_12 : decode cX1_leaves 12 = .ok (.tableswitch 38 2 4 #[30, 28, 34], 28) := by decide +kernel
theorem dX1_leaves_40 : decode cX1_leaves 40 = .ok (.iconst 0, 1) := by decide +kernel
theorem dX1_leaves_41 : decode cX1_leaves 41 = .ok (.ireturn, 1) := by decide +kernel
theorem dX1_leaves_42 : decode cX1_leaves 42 = .ok (.iload_n 2, 1) := by decide +kernel
theorem dX1_leaves_43 : decode cX1_leaves 43 = .ok (.iconst 1, 1) := by decide +kernel
theorem dX1_leaves_44 : decode cX1_leaves 44 = .ok (.iadd, 1) := by decide +kernel
theorem dX1_leaves_45 : decode cX1_leaves 45 = .ok (.ireturn, 1) := by decide +kernel
theorem dX1_leaves_46 : decode cX1_leaves 46 = .ok (.iload_n 2, 1) := by decide +kernel
theorem dX1_leaves_47 : decode cX1_leaves 47 = .ok (.iconst 1, 1) := by decide +kernel
theorem dX1_leaves_48 : decode cX1_leaves 48 = .ok (.iadd, 1) := by decide +kernel
theorem dX1_leaves_49 : decode cX1_leaves 49 = .ok (.ireturn, 1) := by decide +kernel
theorem dX1_leaves_50 : decode cX1_leaves 50 = .ok (.iload_n 2, 1) := by decide +kernel
theorem dX1_leaves_51 : decode cX1_leaves 51 = .ok (.ireturn, 1) := by decide +kernel
theorem dX1_worth_0 : decode cX1_worth 0 = .ok (.iload_n 0, 1) := by decide +kernel
theorem dX1_worth_1 : decode cX1_worth 1 = .ok (.tableswitch 65 1 5 #[35, 47, 40, 53, 62], 35) := by decide +kernel
theorem dX1_worth_36 : decode cX1_worth 36 = .ok (.iload_n 1, 1) := by decide +kernel
theorem dX1_worth_37 : decode cX1_worth 37 = .ok (.bipush 8, 2) := by decide +kernel
theorem dX1_worth_39 : decode cX1_worth 39 = .ok (.iadd, 1) := by decide +kernel
theorem dX1_worth_40 : decode cX1_worth 40 = .ok (.ireturn, 1) := by decide +kernel
theorem dX1_worth_41 : decode cX1_worth 41 = .ok (.iload_n 1, 1) := by decide +kernel
theorem dX1_worth_42 : decode cX1_worth 42 = .ok (.bipush 8, 2) := by decide +kernel
theorem dX1_worth_44 : decode cX1_worth 44 = .ok (.iadd, 1) := by decide +kernel
theorem dX1_worth_45 : decode cX1_worth 45 = .ok (.iconst 2, 1) := by decide +kernel
theorem dX1_worth_46 : decode cX1_worth 46 = .ok (.imul, 1) := by decide +kernel
theorem dX1_worth_47 : decode cX1_worth 47 = .ok (.ireturn, 1) := by decide +kernel
theorem dX1_worth_48 : decode cX1_worth 48 = .ok (.sipush 999, 3) := by decide +kernel
theorem dX1_worth_51 : decode cX1_worth 51 = .ok (.iload_n 1, 1) := by decide +kernel
theorem dX1_worth_52 : decode cX1_worth 52 = .ok (.isub, 1) := by decide +kernel
theorem dX1_worth_53 : decode cX1_worth 53 = .ok (.ireturn, 1) := by decide +kernel
theorem dX1_worth_54 : decode cX1_worth 54 = .ok (.sipush 999, 3) := by decide +kernel
theorem dX1_worth_57 : decode cX1_worth 57 = .ok (.iload_n 1, 1) := by decide +kernel
theorem dX1_worth_58 : decode cX1_worth 58 = .ok (.isub, 1) := by decide +kernel
theorem dX1_worth_59 : decode cX1_worth 59 = .ok (.bipush 7, 2) := by decide +kernel
theorem dX1_worth_61 : decode cX1_worth 61 = .ok (.isub, 1) := by decide +kernel
theorem dX1_worth_62 : decode cX1_worth 62 = .ok (.ireturn, 1) := by decide +kernel
theorem dX1_worth_63 : decode cX1_worth 63 = .ok (.bipush 12, 2) := by decide +kernel
theorem dX1_worth_65 : decode cX1_worth 65 = .ok (.ireturn, 1) := by decide +kernel
theorem dX1_worth_66 : decode cX1_worth 66 = .ok (.iload_n 1, 1) := by decide +kernel
theorem dX1_worth_67 : decode cX1_worth 67 = .ok (.ireturn, 1) := by decide +kernel
theorem dX2_init_0 : decode cX2_init 0 = .ok (.aload_n 0, 1) := by decide +kernel
theorem dX2_init_1 : decode cX2_init 1 = .ok (.invokespecial 3, 3) := by decide +kernel
theorem dX2_init_4 : decode cX2_init 4 = .ok (.aload_n 0, 1) := by decide +kernel
theorem dX2_init_5 : decode cX2_init 5 = .ok (.bipush 14, 2) := by decide +kernel
theorem dX2_init_7 : decode cX2_init 7 = .ok (.bipush 96, 2) := by decide +kernel
theorem dX2_init_9 : decode cX2_init 9 = .ok (.multianewarray 9 2, 4) := by decide +kernel
theorem dX2_init_13 : decode cX2_init 13 = .ok (.putfield 11, 3) := by decide +kernel
theorem dX2_init_16 : decode cX2_init 16 = .ok (.aload_n 0, 1) := by decide +kernel
theorem dX2_init_17 : decode cX2_init 17 = .ok (.bipush 14, 2) := by decide +kernel
theorem dX2_init_19 : decode cX2_init 19 = .ok (.newarray .int, 2) := by decide +kernel
theorem dX2_init_21 : decode cX2_init 21 = .ok (.putfield 16, 3) := by decide +kernel
theorem dX2_init_24 : decode cX2_init 24 = .ok (.aload_n 0, 1) := by decide +kernel
theorem dX2_init_25 : decode cX2_init 25 = .ok (.bipush 14, 2) := by decide +kernel
theorem dX2_init_27 : decode cX2_init 27 = .ok (.newarray .int, 2) := by decide +kernel
theorem dX2_init_29 : decode cX2_init 29 = .ok (.putfield 20, 3) := by decide +kernel
theorem dX2_init_32 : decode cX2_init 32 = .ok (.aload_n 0, 1) := by decide +kernel
theorem dX2_init_33 : decode cX2_init 33 = .ok (.bipush 14, 2) := by decide +kernel
theorem dX2_init_35 : decode cX2_init 35 = .ok (.newarray .int, 2) := by decide +kernel
theorem dX2_init_37 : decode cX2_init 37 = .ok (.putfield 23, 3) := by decide +kernel
theorem dX2_init_40 : decode cX2_init 40 = .ok (.aload_n 0, 1) := by decide +kernel
theorem dX2_init_41 : decode cX2_init 41 = .ok (.bipush 96, 2) := by decide +kernel
theorem dX2_init_43 : decode cX2_init 43 = .ok (.newarray .int, 2) := by decide +kernel
theorem dX2_init_45 : decode cX2_init 45 = .ok (.putfield 26, 3) := by decide +kernel
theorem dX2_init_48 : decode cX2_init 48 = .ok (.return_, 1) := by decide +kernel
theorem dX2_put_0 : decode cX2_put 0 = .ok (.aload_n 2, 1) := by decide +kernel
theorem dX2_put_1 : decode cX2_put 1 = .ok (.getfield 29, 3) := by decide +kernel
theorem dX2_put_4 : decode cX2_put 4 = .ok (.iconst 0, 1) := by decide +kernel
theorem dX2_put_5 : decode cX2_put 5 = .ok (.aload_n 0, 1) := by decide +kernel
theorem dX2_put_6 : decode cX2_put 6 = .ok (.getfield 11, 3) := by decide +kernel
theorem dX2_put_9 : decode cX2_put 9 = .ok (.iload_n 1, 1) := by decide +kernel
theorem dX2_put_10 : decode cX2_put 10 = .ok (.aaload, 1) := by decide +kernel
theorem dX2_put_11 : decode cX2_put 11 = .ok (.iconst 0, 1) := by decide +kernel
theorem dX2_put_12 : decode cX2_put 12 = .ok (.aload_n 2, 1) := by decide +kernel
theorem dX2_put_13 : decode cX2_put 13 = .ok (.getfield 33, 3) := by decide +kernel
theorem dX2_put_16 : decode cX2_put 16 = .ok (.invokestatic 37, 3) := by decide +kernel
theorem dX2_put_19 : decode cX2_put 19 = .ok (.aload_n 0, 1) := by decide +kernel
theorem dX2_put_20 : decode cX2_put 20 = .ok (.getfield 16, 3) := by decide +kernel
theorem dX2_put_23 : decode cX2_put 23 = .ok (.iload_n 1, 1) := by decide +kernel
theorem dX2_put_24 : decode cX2_put 24 = .ok (.aload_n 2, 1) := by decide +kernel
theorem dX2_put_25 : decode cX2_put 25 = .ok (.getfield 33, 3) := by decide +kernel
theorem dX2_put_28 : decode cX2_put 28 = .ok (.iastore, 1) := by decide +kernel
theorem dX2_put_29 : decode cX2_put 29 = .ok (.aload_n 0, 1) := by decide +kernel
theorem dX2_put_30 : decode cX2_put 30 = .ok (.getfield 20, 3) := by decide +kernel
theorem dX2_put_33 : decode cX2_put 33 = .ok (.iload_n 1, 1) := by decide +kernel
theorem dX2_put_34 : decode cX2_put 34 = .ok (.aload_n 2, 1) := by decide +kernel
theorem dX2_put_35 : decode cX2_put 35 = .ok (.getfield 43, 3) := by decide +kernel
theorem dX2_put_38 : decode cX2_put 38 = .ok (.iastore, 1) := by decide +kernel
theorem dX2_put_39 : decode cX2_put 39 = .ok (.aload_n 0, 1) := by decide +kernel
theorem dX2_put_40 : decode cX2_put 40 = .ok (.getfield 23, 3) := by decide +kernel
theorem dX2_put_43 : decode cX2_put 43 = .ok (.iload_n 1, 1) := by decide +kernel
theorem dX2_put_44 : decode cX2_put 44 = .ok (.aload_n 2, 1) := by decide +kernel
theorem dX2_put_45 : decode cX2_put 45 = .ok (.getfield 46, 3) := by decide +kernel
theorem dX2_put_48 : decode cX2_put 48 = .ok (.iastore, 1) := by decide +kernel
theorem dX2_put_49 : decode cX2_put 49 = .ok (.return_, 1) := by decide +kernel
theorem dX2_gives_0 : decode cX2_gives 0 = .ok (.aload_n 0, 1) := by decide +kernel
theorem dX2_gives_1 : decode cX2_gives 1 = .ok (.getfield 11, 3) := by decide +kernel
theorem dX2_gives_4 : decode cX2_gives 4 = .ok (.iload_n 1, 1) := by decide +kernel
theorem dX2_gives_5 : decode cX2_gives 5 = .ok (.aaload, 1) := by decide +kernel
theorem dX2_gives_6 : decode cX2_gives 6 = .ok (.astore 5, 2) := by decide +kernel
theorem dX2_gives_8 : decode cX2_gives 8 = .ok (.iconst (-1), 1) := by decide +kernel
theorem dX2_gives_9 : decode cX2_gives 9 = .ok (.istore 6, 2) := by decide +kernel
theorem dX2_gives_11 : decode cX2_gives 11 = .ok (.iconst 0, 1) := by decide +kernel
theorem dX2_gives_12 : decode cX2_gives 12 = .ok (.istore 7, 2) := by decide +kernel
theorem dX2_gives_14 : decode cX2_gives 14 = .ok (.iload 7, 2) := by decide +kernel
theorem dX2_gives_16 : decode cX2_gives 16 = .ok (.aload_n 0, 1) := by decide +kernel
theorem dX2_gives_17 : decode cX2_gives 17 = .ok (.getfield 16, 3) := by decide +kernel
theorem dX2_gives_20 : decode cX2_gives 20 = .ok (.iload_n 1, 1) := by decide +kernel
theorem dX2_gives_21 : decode cX2_gives 21 = .ok (.iaload, 1) := by decide +kernel
theorem dX2_gives_22 : decode cX2_gives 22 = .ok (.if_icmp .ge 108, 3) := by decide +kernel
theorem dX2_gives_25 : decode cX2_gives 25 = .ok (.aload 5, 2) := by decide +kernel
theorem dX2_gives_27 : decode cX2_gives 27 = .ok (.iload 7, 2) := by decide +kernel
theorem dX2_gives_29 : decode cX2_gives 29 = .ok (.iaload, 1) := by decide +kernel
theorem dX2_gives_30 : decode cX2_gives 30 = .ok (.istore 8, 2) := by decide +kernel
theorem dX2_gives_32 : decode cX2_gives 32 = .ok (.iload 8, 2) := by decide +kernel
theorem dX2_gives_34 : decode cX2_gives 34 = .ok (.bipush (-5), 2) := by decide +kernel
theorem dX2_gives_36 : decode cX2_gives 36 = .ok (.if_icmp .le 25, 3) := by decide +kernel
theorem dX2_gives_39 : decode cX2_gives 39 = .ok (.iinc 6 1, 3) := by decide +kernel
theorem dX2_gives_42 : decode cX2_gives 42 = .ok (.aload_n 0, 1) := by decide +kernel
theorem dX2_gives_43 : decode cX2_gives 43 = .ok (.getfield 26, 3) := by decide +kernel
theorem dX2_gives_46 : decode cX2_gives 46 = .ok (.iload 6, 2) := by decide +kernel
theorem dX2_gives_48 : decode cX2_gives 48 = .ok (.iload 8, 2) := by decide +kernel
theorem dX2_gives_50 : decode cX2_gives 50 = .ok (.iload_n 2, 1) := by decide +kernel
theorem dX2_gives_51 : decode cX2_gives 51 = .ok (.iload_n 3, 1) := by decide +kernel
theorem dX2_gives_52 : decode cX2_gives 52 = .ok (.iload 4, 2) := by decide +kernel
theorem dX2_gives_54 : decode cX2_gives 54 = .ok (.invokestatic 48, 3) := by decide +kernel
theorem dX2_gives_57 : decode cX2_gives 57 = .ok (.iastore, 1) := by decide +kernel
theorem dX2_gives_58 : decode cX2_gives 58 = .ok (.goto 66, 3) := by decide +kernel
theorem dX2_gives_61 : decode cX2_gives 61 = .ok (.iload 8, 2) := by decide +kernel
theorem dX2_gives_63 : decode cX2_gives 63 = .ok (.bipush (-5), 2) := by decide +kernel
theorem dX2_gives_65 : decode cX2_gives 65 = .ok (.if_icmp .ne 28, 3) := by decide +kernel
theorem dX2_gives_68 : decode cX2_gives 68 = .ok (.aload_n 0, 1) := by decide +kernel
theorem dX2_gives_69 : decode cX2_gives 69 = .ok (.getfield 26, 3) := by decide +kernel
theorem dX2_gives_72 : decode cX2_gives 72 = .ok (.iload 6, 2) := by decide +kernel
theorem dX2_gives_74 : decode cX2_gives 74 = .ok (.aload_n 0, 1) := by decide +kernel
theorem dX2_gives_75 : decode cX2_gives 75 = .ok (.getfield 26, 3) := by decide +kernel
theorem dX2_gives_78 : decode cX2_gives 78 = .ok (.iload 6, 2) := by decide +kernel
theorem dX2_gives_80 : decode cX2_gives 80 = .ok (.iaload, 1) := by decide +kernel
theorem dX2_gives_81 : decode cX2_gives 81 = .ok (.ifCond .ne 7, 3) := by decide +kernel
theorem dX2_gives_84 : decode cX2_gives 84 = .ok (.iconst 1, 1) := by decide +kernel
theorem dX2_gives_85 : decode cX2_gives 85 = .ok (.goto 4, 3) := by decide +kernel
theorem dX2_gives_88 : decode cX2_gives 88 = .ok (.iconst 0, 1) := by decide +kernel
theorem dX2_gives_89 : decode cX2_gives 89 = .ok (.iastore, 1) := by decide +kernel
theorem dX2_gives_90 : decode cX2_gives 90 = .ok (.goto 34, 3) := by decide +kernel
theorem dX2_gives_93 : decode cX2_gives 93 = .ok (.iinc 6 (-1), 3) := by decide +kernel
theorem dX2_gives_96 : decode cX2_gives 96 = .ok (.aload_n 0, 1) := by decide +kernel
theorem dX2_gives_97 : decode cX2_gives 97 = .ok (.getfield 26, 3) := by decide +kernel
theorem dX2_gives_100 : decode cX2_gives 100 = .ok (.iload 6, 2) := by decide +kernel
theorem dX2_gives_102 : decode cX2_gives 102 = .ok (.iload 8, 2) := by decide +kernel
theorem dX2_gives_104 : decode cX2_gives 104 = .ok (.aload_n 0, 1) := by decide +kernel
theorem dX2_gives_105 : decode cX2_gives 105 = .ok (.getfield 26, 3) := by decide +kernel
theorem dX2_gives_108 : decode cX2_gives 108 = .ok (.iload 6, 2) := by decide +kernel
theorem dX2_gives_110 : decode cX2_gives 110 = .ok (.iaload, 1) := by decide +kernel
theorem dX2_gives_111 : decode cX2_gives 111 = .ok (.aload_n 0, 1) := by decide +kernel
theorem dX2_gives_112 : decode cX2_gives 112 = .ok (.getfield 26, 3) := by decide +kernel
theorem dX2_gives_115 : decode cX2_gives 115 = .ok (.iload 6, 2) := by decide +kernel
theorem dX2_gives_117 : decode cX2_gives 117 = .ok (.iconst 1, 1) := by decide +kernel
theorem dX2_gives_118 : decode cX2_gives 118 = .ok (.iadd, 1) := by decide +kernel
theorem dX2_gives_119 : decode cX2_gives 119 = .ok (.iaload, 1) := by decide +kernel
theorem dX2_gives_120 : decode cX2_gives 120 = .ok (.invokestatic 52, 3) := by decide +kernel
theorem dX2_gives_123 : decode cX2_gives 123 = .ok (.iastore, 1) := by decide +kernel
theorem dX2_gives_124 : decode cX2_gives 124 = .ok (.iinc 7 1, 3) := by decide +kernel
theorem dX2_gives_127 : decode cX2_gives 127 = .ok (.goto (-113), 3) := by decide +kernel
theorem dX2_gives_130 : decode cX2_gives 130 = .ok (.aload_n 0, 1) := by decide +kernel
theorem dX2_gives_131 : decode cX2_gives 131 = .ok (.getfield 26, 3) := by decide +kernel
theorem dX2_gives_134 : decode cX2_gives 134 = .ok (.iconst 0, 1) := by decide +kernel
theorem dX2_gives_135 : decode cX2_gives 135 = .ok (.iaload, 1) := by decide +kernel
theorem dX2_gives_136 : decode cX2_gives 136 = .ok (.ireturn, 1) := by decide +kernel
theorem dX2_valueOf_0 : decode cX2_valueOf 0 = .ok (.iload_n 0, 1) := by decide +kernel
theorem dX2_valueOf_1 : decode cX2_valueOf 1 = .ok (.tableswitch 33 (-4) (-2) #[31, 29, 27], 27) := by decide +kernel
theorem dX2_valueOf_28 : decode cX2_valueOf 28 = .ok (.iload_n 1, 1) := by decide +kernel
theorem dX2_valueOf_29 : decode cX2_valueOf 29 = .ok (.ireturn, 1) := by decide +kernel
theorem dX2_valueOf_30 : decode cX2_valueOf 30 = .ok (.iload_n 2, 1) := by decide +kernel
theorem dX2_valueOf_31 : decode cX2_valueOf 31 = .ok (.ireturn, 1) := by decide +kernel
theorem dX2_valueOf_32 : decode cX2_valueOf 32 = .ok (.iload_n 3, 1) := by decide +kernel
theorem dX2_valueOf_33 : decode cX2_valueOf 33 = .ok (.ireturn, 1) := by decide +kernel
theorem dX2_valueOf_34 : decode cX2_valueOf 34 = .ok (.iload_n 0, 1) := by decide +kernel
theorem dX2_valueOf_35 : decode cX2_valueOf 35 = .ok (.ireturn, 1) := by decide +kernel
theorem dX2_joined_0 : decode cX2_joined 0 = .ok (.iload_n 0, 1) := by decide +kernel
theorem dX2_joined_1 : decode cX2_joined 1 = .ok (.tableswitch 120 (-13) (-6) #[116, 112, 108, 97, 86, 75, 61, 47], 47) := by decide +kernel
theorem dX2_joined_48 : decode cX2_joined 48 = .ok (.iload_n 1, 1) := by decide +kernel
theorem dX2_joined_49 : decode cX2_joined 49 = .ok (.ifCond .ne 7, 3) := by decide +kernel
theorem dX2_joined_52 : decode cX2_joined 52 = .ok (.iload_n 2, 1) := by decide +kernel
theorem dX2_joined_53 : decode cX2_joined 53 = .ok (.ifCond .eq 7, 3) := by decide +kernel
theorem dX2_joined_56 : decode cX2_joined 56 = .ok (.iconst 1, 1) := by decide +kernel
theorem dX2_joined_57 : decode cX2_joined 57 = .ok (.goto 4, 3) := by decide +kernel
theorem dX2_joined_60 : decode cX2_joined 60 = .ok (.iconst 0, 1) := by decide +kernel
theorem dX2_joined_61 : decode cX2_joined 61 = .ok (.ireturn, 1) := by decide +kernel
theorem dX2_joined_62 : decode cX2_joined 62 = .ok (.iload_n 1, 1) := by decide +kernel
theorem dX2_joined_63 : decode cX2_joined 63 = .ok (.ifCond .eq 11, 3) := by decide +kernel
theorem dX2_joined_66 : decode cX2_joined 66 = .ok (.iload_n 2, 1) := by decide +kernel
theorem dX2_joined_67 : decode cX2_joined 67 = .ok (.ifCond .eq 7, 3) := by decide +kernel
theorem dX2_joined_70 : decode cX2_joined 70 = .ok (.iconst 1, 1) := by decide +kernel
theorem dX2_joined_71 : decode cX2_joined 71 = .ok (.goto 4, 3) := by decide +kernel
theorem dX2_joined_74 : decode cX2_joined 74 = .ok (.iconst 0, 1) := by decide +kernel
theorem dX2_joined_75 : decode cX2_joined 75 = .ok (.ireturn, 1) := by decide +kernel
theorem dX2_joined_76 : decode cX2_joined 76 = .ok (.iload_n 1, 1) := by decide +kernel
theorem dX2_joined_77 : decode cX2_joined 77 = .ok (.iload_n 2, 1) := by decide +kernel
theorem dX2_joined_78 : decode cX2_joined 78 = .ok (.if_icmp .ge 7, 3) := by decide +kernel
theorem dX2_joined_81 : decode cX2_joined 81 = .ok (.iconst 1, 1) := by decide +kernel
theorem dX2_joined_82 : decode cX2_joined 82 = .ok (.goto 4, 3) := by decide +kernel
theorem dX2_joined_85 : decode cX2_joined 85 = .ok (.iconst 0, 1) := by decide +kernel
theorem dX2_joined_86 : decode cX2_joined 86 = .ok (.ireturn, 1) := by decide +kernel
theorem dX2_joined_87 : decode cX2_joined 87 = .ok (.iload_n 1, 1) := by decide +kernel
theorem dX2_joined_88 : decode cX2_joined 88 = .ok (.iload_n 2, 1) := by decide +kernel
theorem dX2_joined_89 : decode cX2_joined 89 = .ok (.if_icmp .ne 7, 3) := by decide +kernel
theorem dX2_joined_92 : decode cX2_joined 92 = .ok (.iconst 1, 1) := by decide +kernel
theorem dX2_joined_93 : decode cX2_joined 93 = .ok (.goto 4, 3) := by decide +kernel
theorem dX2_joined_96 : decode cX2_joined 96 = .ok (.iconst 0, 1) := by decide +kernel
theorem dX2_joined_97 : decode cX2_joined 97 = .ok (.ireturn, 1) := by decide +kernel
theorem dX2_joined_98 : decode cX2_joined 98 = .ok (.iload_n 1, 1) := by decide +kernel
theorem dX2_joined_99 : decode cX2_joined 99 = .ok (.iload_n 2, 1) := by decide +kernel
theorem dX2_joined_100 : decode cX2_joined 100 = .ok (.if_icmp .le 7, 3) := by decide +kernel
theorem dX2_joined_103 : decode cX2_joined 103 = .ok (.iconst 1, 1) := by decide +kernel
theorem dX2_joined_104 : decode cX2_joined 104 = .ok (.goto 4, 3) := by decide +kernel
theorem dX2_joined_107 : decode cX2_joined 107 = .ok (.iconst 0, 1) := by decide +kernel
theorem dX2_joined_108 : decode cX2_joined 108 = .ok (.ireturn, 1) := by decide +kernel
theorem dX2_joined_109 : decode cX2_joined 109 = .ok (.iload_n 1, 1) := by decide +kernel
theorem dX2_joined_110 : decode cX2_joined 110 = .ok (.iload_n 2, 1) := by decide +kernel
theorem dX2_joined_111 : decode cX2_joined 111 = .ok (.iadd, 1) := by decide +kernel
theorem dX2_joined_112 : decode cX2_joined 112 = .ok (.ireturn, 1) := by decide +kernel
theorem dX2_joined_113 : decode cX2_joined 113 = .ok (.iload_n 1, 1) := by decide +kernel
theorem dX2_joined_114 : decode cX2_joined 114 = .ok (.iload_n 2, 1) := by decide +kernel
theorem dX2_joined_115 : decode cX2_joined 115 = .ok (.isub, 1) := by decide +kernel
theorem dX2_joined_116 : decode cX2_joined 116 = .ok (.ireturn, 1) := by decide +kernel
theorem dX2_joined_117 : decode cX2_joined 117 = .ok (.iload_n 1, 1) := by decide +kernel
theorem dX2_joined_118 : decode cX2_joined 118 = .ok (.iload_n 2, 1) := by decide +kernel
theorem dX2_joined_119 : decode cX2_joined 119 = .ok (.imul, 1) := by decide +kernel
theorem dX2_joined_120 : decode cX2_joined 120 = .ok (.ireturn, 1) := by decide +kernel
theorem dX2_joined_121 : decode cX2_joined 121 = .ok (.iload_n 2, 1) := by decide +kernel
theorem dX2_joined_122 : decode cX2_joined 122 = .ok (.ifCond .ne 7, 3) := by decide +kernel
theorem dX2_joined_125 : decode cX2_joined 125 = .ok (.iconst 0, 1) := by decide +kernel
theorem dX2_joined_126 : decode cX2_joined 126 = .ok (.goto 6, 3) := by decide +kernel
theorem dX2_joined_129 : decode cX2_joined 129 = .ok (.iload_n 1, 1) := by decide +kernel
theorem dX2_joined_130 : decode cX2_joined 130 = .ok (.iload_n 2, 1) := by decide +kernel
theorem dX2_joined_131 : decode cX2_joined 131 = .ok (.idiv, 1) := by decide +kernel
theorem dX2_joined_132 : decode cX2_joined 132 = .ok (.ireturn, 1) := by decide +kernel
theorem dX3_init_0 : decode cX3_init 0 = .ok (.aload_n 0, 1) := by decide +kernel
theorem dX3_init_1 : decode cX3_init 1 = .ok (.invokespecial 3, 3) := by decide +kernel
theorem dX3_init_4 : decode cX3_init 4 = .ok (.aload_n 0, 1) := by decide +kernel
theorem dX3_init_5 : decode cX3_init 5 = .ok (.bipush 96, 2) := by decide +kernel
theorem dX3_init_7 : decode cX3_init 7 = .ok (.newarray .int, 2) := by decide +kernel
theorem dX3_init_9 : decode cX3_init 9 = .ok (.putfield 9, 3) := by decide +kernel
theorem dX3_init_12 : decode cX3_init 12 = .ok (.aload_n 0, 1) := by decide +kernel
theorem dX3_init_13 : decode cX3_init 13 = .ok (.iconst 0, 1) := by decide +kernel
theorem dX3_init_14 : decode cX3_init 14 = .ok (.putfield 15, 3) := by decide +kernel
theorem dX3_init_17 : decode cX3_init 17 = .ok (.aload_n 0, 1) := by decide +kernel
theorem dX3_init_18 : decode cX3_init 18 = .ok (.iconst 0, 1) := by decide +kernel
theorem dX3_init_19 : decode cX3_init 19 = .ok (.putfield 19, 3) := by decide +kernel
theorem dX3_init_22 : decode cX3_init 22 = .ok (.aload_n 0, 1) := by decide +kernel
theorem dX3_init_23 : decode cX3_init 23 = .ok (.iconst 0, 1) := by decide +kernel
theorem dX3_init_24 : decode cX3_init 24 = .ok (.putfield 22, 3) := by decide +kernel
theorem dX3_init_27 : decode cX3_init 27 = .ok (.return_, 1) := by decide +kernel
theorem dX3_takes_0 : decode cX3_takes 0 = .ok (.aload_n 0, 1) := by decide +kernel
theorem dX3_takes_1 : decode cX3_takes 1 = .ok (.iconst 0, 1) := by decide +kernel
theorem dX3_takes_2 : decode cX3_takes 2 = .ok (.putfield 15, 3) := by decide +kernel
theorem dX3_takes_5 : decode cX3_takes 5 = .ok (.aload_n 0, 1) := by decide +kernel
theorem dX3_takes_6 : decode cX3_takes 6 = .ok (.iconst 0, 1) := by decide +kernel
theorem dX3_takes_7 : decode cX3_takes 7 = .ok (.putfield 19, 3) := by decide +kernel
theorem dX3_takes_10 : decode cX3_takes 10 = .ok (.aload_n 1, 1) := by decide +kernel
theorem dX3_takes_11 : decode cX3_takes 11 = .ok (.invokevirtual 25, 3) := by decide +kernel
theorem dX3_takes_14 : decode cX3_takes 14 = .ok (.aload_n 0, 1) := by decide +kernel
theorem dX3_takes_15 : decode cX3_takes 15 = .ok (.aload_n 1, 1) := by decide +kernel
theorem dX3_takes_16 : decode cX3_takes 16 = .ok (.invokestatic 30, 3) := by decide +kernel
theorem dX3_takes_19 : decode cX3_takes 19 = .ok (.putfield 22, 3) := by decide +kernel
theorem dX3_takes_22 : decode cX3_takes 22 = .ok (.aload_n 0, 1) := by decide +kernel
theorem dX3_takes_23 : decode cX3_takes 23 = .ok (.getfield 22, 3) := by decide +kernel
theorem dX3_takes_26 : decode cX3_takes 26 = .ok (.ifCond .ge 5, 3) := by decide +kernel
theorem dX3_takes_29 : decode cX3_takes 29 = .ok (.iconst 0, 1) := by decide +kernel
theorem dX3_takes_30 : decode cX3_takes 30 = .ok (.ireturn, 1) := by decide +kernel
theorem dX3_takes_31 : decode cX3_takes 31 = .ok (.aload_n 1, 1) := by decide +kernel
theorem dX3_takes_32 : decode cX3_takes 32 = .ok (.invokevirtual 34, 3) := by decide +kernel
theorem dX3_takes_35 : decode cX3_takes 35 = .ok (.aload_n 0, 1) := by decide +kernel
theorem dX3_takes_36 : decode cX3_takes 36 = .ok (.aload_n 1, 1) := by decide +kernel
theorem dX3_takes_37 : decode cX3_takes 37 = .ok (.iconst 0, 1) := by decide +kernel
theorem dX3_takes_38 : decode cX3_takes 38 = .ok (.iconst 0, 1) := by decide +kernel
theorem dX3_takes_39 : decode cX3_takes 39 = .ok (.iconst 0, 1) := by decide +kernel
theorem dX3_takes_40 : decode cX3_takes 40 = .ok (.invokevirtual 37, 3) := by decide +kernel
theorem dX3_takes_43 : decode cX3_takes 43 = .ok (.ifCond .eq 14, 3) := by decide +kernel
theorem dX3_takes_46 : decode cX3_takes 46 = .ok (.aload_n 1, 1) := by decide +kernel
theorem dX3_takes_47 : decode cX3_takes 47 = .ok (.getfield 41, 3) := by decide +kernel
theorem dX3_takes_50 : decode cX3_takes 50 = .ok (.ifCond .ne 7, 3) := by decide +kernel
theorem dX3_takes_53 : decode cX3_takes 53 = .ok (.iconst 1, 1) := by decide +kernel
theorem dX3_takes_54 : decode cX3_takes 54 = .ok (.goto 4, 3) := by decide +kernel
theorem dX3_takes_57 : decode cX3_takes 57 = .ok (.iconst 0, 1) := by decide +kernel
theorem dX3_takes_58 : decode cX3_takes 58 = .ok (.ireturn, 1) := by decide +kernel
theorem dX3_keyOf_0 : decode cX3_keyOf 0 = .ok (.aload_n 0, 1) := by decide +kernel
theorem dX3_keyOf_1 : decode cX3_keyOf 1 = .ok (.ldc 44, 2) := by decide +kernel
theorem dX3_keyOf_3 : decode cX3_keyOf 3 = .ok (.invokevirtual 46, 3) := by decide +kernel
theorem dX3_keyOf_6 : decode cX3_keyOf 6 = .ok (.ifCond .eq 5, 3) := by decide +kernel
theorem dX3_keyOf_9 : decode cX3_keyOf 9 = .ok (.iconst 0, 1) := by decide +kernel
theorem dX3_keyOf_10 : decode cX3_keyOf 10 = .ok (.ireturn, 1) := by decide +kernel
theorem dX3_keyOf_11 : decode cX3_keyOf 11 = .ok (.aload_n 0, 1) := by decide +kernel
theorem dX3_keyOf_12 : decode cX3_keyOf 12 = .ok (.ldc 50, 2) := by decide +kernel
theorem dX3_keyOf_14 : decode cX3_keyOf 14 = .ok (.invokevirtual 46, 3) := by decide +kernel
theorem dX3_keyOf_17 : decode cX3_keyOf 17 = .ok (.ifCond .eq 5, 3) := by decide +kernel
theorem dX3_keyOf_20 : decode cX3_keyOf 20 = .ok (.iconst 1, 1) := by decide +kernel
theorem dX3_keyOf_21 : decode cX3_keyOf 21 = .ok (.ireturn, 1) := by decide +kernel
theorem dX3_keyOf_22 : decode cX3_keyOf 22 = .ok (.aload_n 0, 1) := by decide +kernel
theorem dX3_keyOf_23 : decode cX3_keyOf 23 = .ok (.ldc 52, 2) := by decide +kernel
theorem dX3_keyOf_25 : decode cX3_keyOf 25 = .ok (.invokevirtual 46, 3) := by decide +kernel
theorem dX3_keyOf_28 : decode cX3_keyOf 28 = .ok (.ifCond .eq 7, 3) := by decide +kernel
theorem dX3_keyOf_31 : decode cX3_keyOf 31 = .ok (.iconst 2, 1) := by decide +kernel
theorem dX3_keyOf_32 : decode cX3_keyOf 32 = .ok (.goto 4, 3) := by decide +kernel
theorem dX3_keyOf_35 : decode cX3_keyOf 35 = .ok (.iconst (-1), 1) := by decide +kernel
theorem dX3_keyOf_36 : decode cX3_keyOf 36 = .ok (.ireturn, 1) := by decide +kernel
theorem dX3_chain_0 : decode cX3_chain 0 = .ok (.iload_n 2, 1) := by decide +kernel
theorem dX3_chain_1 : decode cX3_chain 1 = .ok (.iconst 5, 1) := by decide +kernel
theorem dX3_chain_2 : decode cX3_chain 2 = .ok (.if_icmp .lt 12, 3) := by decide +kernel
theorem dX3_chain_5 : decode cX3_chain 5 = .ok (.aload_n 0, 1) := by decide +kernel
theorem dX3_chain_6 : decode cX3_chain 6 = .ok (.aload_n 1, 1) := by decide +kernel
theorem dX3_chain_7 : decode cX3_chain 7 = .ok (.iload_n 3, 1) := by decide +kernel
theorem dX3_chain_8 : decode cX3_chain 8 = .ok (.iload 4, 2) := by decide +kernel
theorem dX3_chain_10 : decode cX3_chain 10 = .ok (.invokevirtual 54, 3) := by decide +kernel
theorem dX3_chain_13 : decode cX3_chain 13 = .ok (.ireturn, 1) := by decide +kernel
theorem dX3_chain_14 : decode cX3_chain 14 = .ok (.aload_n 0, 1) := by decide +kernel
theorem dX3_chain_15 : decode cX3_chain 15 = .ok (.aload_n 1, 1) := by decide +kernel
theorem dX3_chain_16 : decode cX3_chain 16 = .ok (.iload_n 2, 1) := by decide +kernel
theorem dX3_chain_17 : decode cX3_chain 17 = .ok (.iconst 1, 1) := by decide +kernel
theorem dX3_chain_18 : decode cX3_chain 18 = .ok (.iadd, 1) := by decide +kernel
theorem dX3_chain_19 : decode cX3_chain 19 = .ok (.iload_n 3, 1) := by decide +kernel
theorem dX3_chain_20 : decode cX3_chain 20 = .ok (.iload 4, 2) := by decide +kernel
theorem dX3_chain_22 : decode cX3_chain 22 = .ok (.invokevirtual 37, 3) := by decide +kernel
theorem dX3_chain_25 : decode cX3_chain 25 = .ok (.ifCond .ne 5, 3) := by decide +kernel
theorem dX3_chain_28 : decode cX3_chain 28 = .ok (.iconst 0, 1) := by decide +kernel
theorem dX3_chain_29 : decode cX3_chain 29 = .ok (.ireturn, 1) := by decide +kernel
theorem dX3_chain_30 : decode cX3_chain 30 = .ok (.iload_n 2, 1) := by decide +kernel
theorem dX3_chain_31 : decode cX3_chain 31 = .ok (.iconst 2, 1) := by decide +kernel
theorem dX3_chain_32 : decode cX3_chain 32 = .ok (.if_icmp .ne 7, 3) := by decide +kernel
theorem dX3_chain_35 : decode cX3_chain 35 = .ok (.iconst 1, 1) := by decide +kernel
theorem dX3_chain_36 : decode cX3_chain 36 = .ok (.goto 5, 3) := by decide +kernel
theorem dX3_chain_39 : decode cX3_chain 39 = .ok (.bipush 96, 2) := by decide +kernel
theorem dX3_chain_41 : decode cX3_chain 41 = .ok (.istore 5, 2) := by decide +kernel
theorem dX3_chain_43 : decode cX3_chain 43 = .ok (.iconst 0, 1) := by decide +kernel
theorem dX3_chain_44 : decode cX3_chain 44 = .ok (.istore 6, 2) := by decide +kernel
theorem dX3_chain_46 : decode cX3_chain 46 = .ok (.iload 6, 2) := by decide +kernel
theorem dX3_chain_48 : decode cX3_chain 48 = .ok (.iload 5, 2) := by decide +kernel
theorem dX3_chain_50 : decode cX3_chain 50 = .ok (.if_icmp .ge 50, 3) := by decide +kernel
theorem dX3_chain_53 : decode cX3_chain 53 = .ok (.aload_n 1, 1) := by decide +kernel
theorem dX3_chain_54 : decode cX3_chain 54 = .ok (.iload_n 2, 1) := by decide +kernel
theorem dX3_chain_55 : decode cX3_chain 55 = .ok (.invokestatic 58, 3) := by decide +kernel
theorem dX3_chain_58 : decode cX3_chain 58 = .ok (.istore 7, 2) := by decide +kernel
theorem dX3_chain_60 : decode cX3_chain 60 = .ok (.iload 7, 2) := by decide +kernel
theorem dX3_chain_62 : decode cX3_chain 62 = .ok (.iconst (-1), 1) := by decide +kernel
theorem dX3_chain_63 : decode cX3_chain 63 = .ok (.if_icmp .ne 5, 3) := by decide +kernel
theorem dX3_chain_66 : decode cX3_chain 66 = .ok (.iconst 1, 1) := by decide +kernel
theorem dX3_chain_67 : decode cX3_chain 67 = .ok (.ireturn, 1) := by decide +kernel
theorem dX3_chain_68 : decode cX3_chain 68 = .ok (.aload_n 1, 1) := by decide +kernel
theorem dX3_chain_69 : decode cX3_chain 69 = .ok (.invokevirtual 34, 3) := by decide +kernel
theorem dX3_chain_72 : decode cX3_chain 72 = .ok (.aload_n 0, 1) := by decide +kernel
theorem dX3_chain_73 : decode cX3_chain 73 = .ok (.aload_n 1, 1) := by decide +kernel
theorem dX3_chain_74 : decode cX3_chain 74 = .ok (.iload_n 2, 1) := by decide +kernel
theorem dX3_chain_75 : decode cX3_chain 75 = .ok (.iconst 1, 1) := by decide +kernel
theorem dX3_chain_76 : decode cX3_chain 76 = .ok (.iadd, 1) := by decide +kernel
theorem dX3_chain_77 : decode cX3_chain 77 = .ok (.iload_n 3, 1) := by decide +kernel
theorem dX3_chain_78 : decode cX3_chain 78 = .ok (.iload 4, 2) := by decide +kernel
theorem dX3_chain_80 : decode cX3_chain 80 = .ok (.invokevirtual 37, 3) := by decide +kernel
theorem dX3_chain_83 : decode cX3_chain 83 = .ok (.ifCond .ne 5, 3) := by decide +kernel
theorem dX3_chain_86 : decode cX3_chain 86 = .ok (.iconst 0, 1) := by decide +kernel
theorem dX3_chain_87 : decode cX3_chain 87 = .ok (.ireturn, 1) := by decide +kernel
theorem dX3_chain_88 : decode cX3_chain 88 = .ok (.aload_n 0, 1) := by decide +kernel
theorem dX3_chain_89 : decode cX3_chain 89 = .ok (.iload 7, 2) := by decide +kernel
theorem dX3_chain_91 : decode cX3_chain 91 = .ok (.invokevirtual 64, 3) := by decide +kernel
theorem dX3_chain_94 : decode cX3_chain 94 = .ok (.iinc 6 1, 3) := by decide +kernel
theorem dX3_chain_97 : decode cX3_chain 97 = .ok (.goto (-51), 3) := by decide +kernel
theorem dX3_chain_100 : decode cX3_chain 100 = .ok (.iconst 1, 1) := by decide +kernel
theorem dX3_chain_101 : decode cX3_chain 101 = .ok (.ireturn, 1) := by decide +kernel
theorem dX3_joinOf_0 : decode cX3_joinOf 0 = .ok (.iload_n 1, 1) := by decide +kernel
theorem dX3_joinOf_1 : decode cX3_joinOf 1 = .ok (.tableswitch 131 0 3 #[31, 47, 63, 103], 31) := by decide +kernel
theorem dX3_joinOf_32 : decode cX3_joinOf 32 = .ok (.aload_n 0, 1) := by decide +kernel
theorem dX3_joinOf_33 : decode cX3_joinOf 33 = .ok (.bipush 124, 2) := by decide +kernel
theorem dX3_joinOf_35 : decode cX3_joinOf 35 = .ok (.invokevirtual 68, 3) := by decide +kernel
theorem dX3_joinOf_38 : decode cX3_joinOf 38 = .ok (.ifCond .eq 8, 3) := by decide +kernel
theorem dX3_joinOf_41 : decode cX3_joinOf 41 = .ok (.bipush (-6), 2) := by decide +kernel
theorem dX3_joinOf_43 : decode cX3_joinOf 43 = .ok (.goto 4, 3) := by decide +kernel
theorem dX3_joinOf_46 : decode cX3_joinOf 46 = .ok (.iconst (-1), 1) := by decide +kernel
theorem dX3_joinOf_47 : decode cX3_joinOf 47 = .ok (.ireturn, 1) := by decide +kernel
theorem dX3_joinOf_48 : decode cX3_joinOf 48 = .ok (.aload_n 0, 1) := by decide +kernel
theorem dX3_joinOf_49 : decode cX3_joinOf 49 = .ok (.bipush 38, 2) := by decide +kernel
theorem dX3_joinOf_51 : decode cX3_joinOf 51 = .ok (.invokevirtual 68, 3) := by decide +kernel
theorem dX3_joinOf_54 : decode cX3_joinOf 54 = .ok (.ifCond .eq 8, 3) := by decide +kernel
theorem dX3_joinOf_57 : decode cX3_joinOf 57 = .ok (.bipush (-7), 2) := by decide +kernel
theorem dX3_joinOf_59 : decode cX3_joinOf 59 = .ok (.goto 4, 3) := by decide +kernel
theorem dX3_joinOf_62 : decode cX3_joinOf 62 = .ok (.iconst (-1), 1) := by decide +kernel
theorem dX3_joinOf_63 : decode cX3_joinOf 63 = .ok (.ireturn, 1) := by decide +kernel
theorem dX3_joinOf_64 : decode cX3_joinOf 64 = .ok (.aload_n 0, 1) := by decide +kernel
theorem dX3_joinOf_65 : decode cX3_joinOf 65 = .ok (.bipush 60, 2) := by decide +kernel
theorem dX3_joinOf_67 : decode cX3_joinOf 67 = .ok (.invokevirtual 68, 3) := by decide +kernel
theorem dX3_joinOf_70 : decode cX3_joinOf 70 = .ok (.ifCond .eq 6, 3) := by decide +kernel
theorem dX3_joinOf_73 : decode cX3_joinOf 73 = .ok (.bipush (-8), 2) := by decide +kernel
theorem dX3_joinOf_75 : decode cX3_joinOf 75 = .ok (.ireturn, 1) := by decide +kernel
theorem dX3_joinOf_76 : decode cX3_joinOf 76 = .ok (.aload_n 0, 1) := by decide +kernel
theorem dX3_joinOf_77 : decode cX3_joinOf 77 = .ok (.bipush 61, 2) := by decide +kernel
theorem dX3_joinOf_79 : decode cX3_joinOf 79 = .ok (.invokevirtual 68, 3) := by decide +kernel
theorem dX3_joinOf_82 : decode cX3_joinOf 82 = .ok (.ifCond .eq 6, 3) := by decide +kernel
theorem dX3_joinOf_85 : decode cX3_joinOf 85 = .ok (.bipush (-9), 2) := by decide +kernel
theorem dX3_joinOf_87 : decode cX3_joinOf 87 = .ok (.ireturn, 1) := by decide +kernel
theorem dX3_joinOf_88 : decode cX3_joinOf 88 = .ok (.aload_n 0, 1) := by decide +kernel
theorem dX3_joinOf_89 : decode cX3_joinOf 89 = .ok (.bipush 62, 2) := by decide +kernel
theorem dX3_joinOf_91 : decode cX3_joinOf 91 = .ok (.invokevirtual 68, 3) := by decide +kernel
theorem dX3_joinOf_94 : decode cX3_joinOf 94 = .ok (.ifCond .eq 8, 3) := by decide +kernel
theorem dX3_joinOf_97 : decode cX3_joinOf 97 = .ok (.bipush (-10), 2) := by decide +kernel
theorem dX3_joinOf_99 : decode cX3_joinOf 99 = .ok (.goto 4, 3) := by decide +kernel
theorem dX3_joinOf_102 : decode cX3_joinOf 102 = .ok (.iconst (-1), 1) := by decide +kernel
theorem dX3_joinOf_103 : decode cX3_joinOf 103 = .ok (.ireturn, 1) := by decide +kernel
theorem dX3_joinOf_104 : decode cX3_joinOf 104 = .ok (.aload_n 0, 1) := by decide +kernel
theorem dX3_joinOf_105 : decode cX3_joinOf 105 = .ok (.bipush 43, 2) := by decide +kernel
theorem dX3_joinOf_107 : decode cX3_joinOf 107 = .ok (.invokevirtual 68, 3) := by decide +kernel
theorem dX3_joinOf_110 : decode cX3_joinOf 110 = .ok (.ifCond .eq 6, 3) := by decide +kernel
theorem dX3_joinOf_113 : decode cX3_joinOf 113 = .ok (.bipush (-11), 2) := by decide +kernel
theorem dX3_joinOf_115 : decode cX3_joinOf 115 = .ok (.ireturn, 1) := by decide +kernel
theorem dX3_joinOf_116 : decode cX3_joinOf 116 = .ok (.aload_n 0, 1) := by decide +kernel
theorem dX3_joinOf_117 : decode cX3_joinOf 117 = .ok (.bipush 45, 2) := by decide +kernel
theorem dX3_joinOf_119 : decode cX3_joinOf 119 = .ok (.invokevirtual 68, 3) := by decide +kernel
theorem dX3_joinOf_122 : decode cX3_joinOf 122 = .ok (.ifCond .eq 8, 3) := by decide +kernel
theorem dX3_joinOf_125 : decode cX3_joinOf 125 = .ok (.bipush (-12), 2) := by decide +kernel
theorem dX3_joinOf_127 : decode cX3_joinOf 127 = .ok (.goto 4, 3) := by decide +kernel
theorem dX3_joinOf_130 : decode cX3_joinOf 130 = .ok (.iconst (-1), 1) := by decide +kernel
theorem dX3_joinOf_131 : decode cX3_joinOf 131 = .ok (.ireturn, 1) := by decide +kernel
theorem dX3_joinOf_132 : decode cX3_joinOf 132 = .ok (.aload_n 0, 1) := by decide +kernel
theorem dX3_joinOf_133 : decode cX3_joinOf 133 = .ok (.bipush 42, 2) := by decide +kernel
theorem dX3_joinOf_135 : decode cX3_joinOf 135 = .ok (.invokevirtual 68, 3) := by decide +kernel
theorem dX3_joinOf_138 : decode cX3_joinOf 138 = .ok (.ifCond .eq 6, 3) := by decide +kernel
theorem dX3_joinOf_141 : decode cX3_joinOf 141 = .ok (.bipush (-13), 2) := by decide +kernel
theorem dX3_joinOf_143 : decode cX3_joinOf 143 = .ok (.ireturn, 1) := by decide +kernel
theorem dX3_joinOf_144 : decode cX3_joinOf 144 = .ok (.aload_n 0, 1) := by decide +kernel
theorem dX3_joinOf_145 : decode cX3_joinOf 145 = .ok (.bipush 47, 2) := by decide +kernel
theorem dX3_joinOf_147 : decode cX3_joinOf 147 = .ok (.invokevirtual 68, 3) := by decide +kernel
theorem dX3_joinOf_150 : decode cX3_joinOf 150 = .ok (.ifCond .eq 8, 3) := by decide +kernel
theorem dX3_joinOf_153 : decode cX3_joinOf 153 = .ok (.bipush (-14), 2) := by decide +kernel
theorem dX3_joinOf_155 : decode cX3_joinOf 155 = .ok (.goto 4, 3) := by decide +kernel
theorem dX3_joinOf_158 : decode cX3_joinOf 158 = .ok (.iconst (-1), 1) := by decide +kernel
theorem dX3_joinOf_159 : decode cX3_joinOf 159 = .ok (.ireturn, 1) := by decide +kernel
theorem dX3_piece_0 : decode cX3_piece 0 = .ok (.aload_n 1, 1) := by decide +kernel
theorem dX3_piece_1 : decode cX3_piece 1 = .ok (.bipush 33, 2) := by decide +kernel
theorem dX3_piece_3 : decode cX3_piece 3 = .ok (.invokevirtual 68, 3) := by decide +kernel
theorem dX3_piece_6 : decode cX3_piece 6 = .ok (.ifCond .eq 37, 3) := by decide +kernel
theorem dX3_piece_9 : decode cX3_piece 9 = .ok (.iload_n 3, 1) := by decide +kernel
theorem dX3_piece_10 : decode cX3_piece 10 = .ok (.bipush 8, 2) := by decide +kernel
theorem dX3_piece_12 : decode cX3_piece 12 = .ok (.if_icmp .lt 5, 3) := by decide +kernel
theorem dX3_piece_15 : decode cX3_piece 15 = .ok (.iconst 0, 1) := by decide +kernel
theorem dX3_piece_16 : decode cX3_piece 16 = .ok (.ireturn, 1) := by decide +kernel
theorem dX3_piece_17 : decode cX3_piece 17 = .ok (.aload_n 1, 1) := by decide +kernel
theorem dX3_piece_18 : decode cX3_piece 18 = .ok (.invokevirtual 34, 3) := by decide +kernel
theorem dX3_piece_21 : decode cX3_piece 21 = .ok (.aload_n 0, 1) := by decide +kernel
theorem dX3_piece_22 : decode cX3_piece 22 = .ok (.aload_n 1, 1) := by decide +kernel
theorem dX3_piece_23 : decode cX3_piece 23 = .ok (.iload_n 2, 1) := by decide +kernel
theorem dX3_piece_24 : decode cX3_piece 24 = .ok (.iload_n 3, 1) := by decide +kernel
theorem dX3_piece_25 : decode cX3_piece 25 = .ok (.iconst 1, 1) := by decide +kernel
theorem dX3_piece_26 : decode cX3_piece 26 = .ok (.iadd, 1) := by decide +kernel
theorem dX3_piece_27 : decode cX3_piece 27 = .ok (.invokevirtual 54, 3) := by decide +kernel
theorem dX3_piece_30 : decode cX3_piece 30 = .ok (.ifCond .ne 5, 3) := by decide +kernel
theorem dX3_piece_33 : decode cX3_piece 33 = .ok (.iconst 0, 1) := by decide +kernel
theorem dX3_piece_34 : decode cX3_piece 34 = .ok (.ireturn, 1) := by decide +kernel
theorem dX3_piece_35 : decode cX3_piece 35 = .ok (.aload_n 0, 1) := by decide +kernel
theorem dX3_piece_36 : decode cX3_piece 36 = .ok (.bipush (-5), 2) := by decide +kernel
theorem dX3_piece_38 : decode cX3_piece 38 = .ok (.invokevirtual 64, 3) := by decide +kernel
theorem dX3_piece_41 : decode cX3_piece 41 = .ok (.iconst 1, 1) := by decide +kernel
theorem dX3_piece_42 : decode cX3_piece 42 = .ok (.ireturn, 1) := by decide +kernel
theorem dX3_piece_43 : decode cX3_piece 43 = .ok (.aload_n 1, 1) := by decide +kernel
theorem dX3_piece_44 : decode cX3_piece 44 = .ok (.bipush 40, 2) := by decide +kernel
theorem dX3_piece_46 : decode cX3_piece 46 = .ok (.invokevirtual 68, 3) := by decide +kernel
theorem dX3_piece_49 : decode cX3_piece 49 = .ok (.ifCond .eq 45, 3) := by decide +kernel
theorem dX3_piece_52 : decode cX3_piece 52 = .ok (.iload_n 2, 1) := by decide +kernel
theorem dX3_piece_53 : decode cX3_piece 53 = .ok (.bipush 8, 2) := by decide +kernel
theorem dX3_piece_55 : decode cX3_piece 55 = .ok (.if_icmp .lt 5, 3) := by decide +kernel
theorem dX3_piece_58 : decode cX3_piece 58 = .ok (.iconst 0, 1) := by decide +kernel
theorem dX3_piece_59 : decode cX3_piece 59 = .ok (.ireturn, 1) := by decide +kernel
theorem dX3_piece_60 : decode cX3_piece 60 = .ok (.aload_n 1, 1) := by decide +kernel
theorem dX3_piece_61 : decode cX3_piece 61 = .ok (.invokevirtual 34, 3) := by decide +kernel
theorem dX3_piece_64 : decode cX3_piece 64 = .ok (.aload_n 0, 1) := by decide +kernel
theorem dX3_piece_65 : decode cX3_piece 65 = .ok (.aload_n 1, 1) := by decide +kernel
theorem dX3_piece_66 : decode cX3_piece 66 = .ok (.iconst 0, 1) := by decide +kernel
theorem dX3_piece_67 : decode cX3_piece 67 = .ok (.iload_n 2, 1) := by decide +kernel
theorem dX3_piece_68 : decode cX3_piece 68 = .ok (.iconst 1, 1) := by decide +kernel
theorem dX3_piece_69 : decode cX3_piece 69 = .ok (.iadd, 1) := by decide +kernel
theorem dX3_piece_70 : decode cX3_piece 70 = .ok (.iload_n 3, 1) := by decide +kernel
theorem dX3_piece_71 : decode cX3_piece 71 = .ok (.invokevirtual 37, 3) := by decide +kernel
theorem dX3_piece_74 : decode cX3_piece 74 = .ok (.ifCond .eq 12, 3) := by decide +kernel
theorem dX3_piece_77 : decode cX3_piece 77 = .ok (.aload_n 1, 1) := by decide +kernel
theorem dX3_piece_78 : decode cX3_piece 78 = .ok (.bipush 41, 2) := by decide +kernel
theorem dX3_piece_80 : decode cX3_piece 80 = .ok (.invokevirtual 68, 3) := by decide +kernel
theorem dX3_piece_83 : decode cX3_piece 83 = .ok (.ifCond .ne 5, 3) := by decide +kernel
theorem dX3_piece_86 : decode cX3_piece 86 = .ok (.iconst 0, 1) := by decide +kernel
theorem dX3_piece_87 : decode cX3_piece 87 = .ok (.ireturn, 1) := by decide +kernel
theorem dX3_piece_88 : decode cX3_piece 88 = .ok (.aload_n 1, 1) := by decide +kernel
theorem dX3_piece_89 : decode cX3_piece 89 = .ok (.invokevirtual 34, 3) := by decide +kernel
theorem dX3_piece_92 : decode cX3_piece 92 = .ok (.iconst 1, 1) := by decide +kernel
theorem dX3_piece_93 : decode cX3_piece 93 = .ok (.ireturn, 1) := by decide +kernel
theorem dX3_piece_94 : decode cX3_piece 94 = .ok (.aload_n 1, 1) := by decide +kernel
theorem dX3_piece_95 : decode cX3_piece 95 = .ok (.getfield 41, 3) := by decide +kernel
theorem dX3_piece_98 : decode cX3_piece 98 = .ok (.iconst 2, 1) := by decide +kernel
theorem dX3_piece_99 : decode cX3_piece 99 = .ok (.if_icmp .ne 10, 3) := by decide +kernel
theorem dX3_piece_102 : decode cX3_piece 102 = .ok (.aload_n 1, 1) := by decide +kernel
theorem dX3_piece_103 : decode cX3_piece 103 = .ok (.invokevirtual 72, 3) := by decide +kernel
theorem dX3_piece_106 : decode cX3_piece 106 = .ok (.goto 8, 3) := by decide +kernel
theorem dX3_piece_109 : decode cX3_piece 109 = .ok (.aload_n 0, 1) := by decide +kernel
theorem dX3_piece_110 : decode cX3_piece 110 = .ok (.aload_n 1, 1) := by decide +kernel
theorem dX3_piece_111 : decode cX3_piece 111 = .ok (.invokevirtual 76, 3) := by decide +kernel
theorem dX3_piece_114 : decode cX3_piece 114 = .ok (.istore 4, 2) := by decide +kernel
theorem dX3_piece_116 : decode cX3_piece 116 = .ok (.iload 4, 2) := by decide +kernel
theorem dX3_piece_118 : decode cX3_piece 118 = .ok (.iconst (-1), 1) := by decide +kernel
theorem dX3_piece_119 : decode cX3_piece 119 = .ok (.if_icmp .ne 5, 3) := by decide +kernel
theorem dX3_piece_122 : decode cX3_piece 122 = .ok (.iconst 0, 1) := by decide +kernel
theorem dX3_piece_123 : decode cX3_piece 123 = .ok (.ireturn, 1) := by decide +kernel
theorem dX3_piece_124 : decode cX3_piece 124 = .ok (.aload_n 0, 1) := by decide +kernel
theorem dX3_piece_125 : decode cX3_piece 125 = .ok (.iload 4, 2) := by decide +kernel
theorem dX3_piece_127 : decode cX3_piece 127 = .ok (.invokevirtual 64, 3) := by decide +kernel
theorem dX3_piece_130 : decode cX3_piece 130 = .ok (.aload_n 0, 1) := by decide +kernel
theorem dX3_piece_131 : decode cX3_piece 131 = .ok (.dup, 1) := by decide +kernel
theorem dX3_piece_132 : decode cX3_piece 132 = .ok (.getfield 19, 3) := by decide +kernel
theorem dX3_piece_135 : decode cX3_piece 135 = .ok (.iconst 1, 1) := by decide +kernel
theorem dX3_piece_136 : decode cX3_piece 136 = .ok (.iadd, 1) := by decide +kernel
theorem dX3_piece_137 : decode cX3_piece 137 = .ok (.putfield 19, 3) := by decide +kernel
theorem dX3_piece_140 : decode cX3_piece 140 = .ok (.aload_n 1, 1) := by decide +kernel
theorem dX3_piece_141 : decode cX3_piece 141 = .ok (.invokevirtual 34, 3) := by decide +kernel
theorem dX3_piece_144 : decode cX3_piece 144 = .ok (.iconst 1, 1) := by decide +kernel
theorem dX3_piece_145 : decode cX3_piece 145 = .ok (.ireturn, 1) := by decide +kernel
theorem dX3_nameOf_0 : decode cX3_nameOf 0 = .ok (.aload_n 1, 1) := by decide +kernel
theorem dX3_nameOf_1 : decode cX3_nameOf 1 = .ok (.ldc 79, 2) := by decide +kernel
theorem dX3_nameOf_3 : decode cX3_nameOf 3 = .ok (.invokevirtual 46, 3) := by decide +kernel
theorem dX3_nameOf_6 : decode cX3_nameOf 6 = .ok (.ifCond .eq 6, 3) := by decide +kernel
theorem dX3_nameOf_9 : decode cX3_nameOf 9 = .ok (.bipush (-3), 2) := by decide +kernel
theorem dX3_nameOf_11 : decode cX3_nameOf 11 = .ok (.ireturn, 1) := by decide +kernel
theorem dX3_nameOf_12 : decode cX3_nameOf 12 = .ok (.aload_n 1, 1) := by decide +kernel
theorem dX3_nameOf_13 : decode cX3_nameOf 13 = .ok (.ldc 81, 2) := by decide +kernel
theorem dX3_nameOf_15 : decode cX3_nameOf 15 = .ok (.invokevirtual 46, 3) := by decide +kernel
theorem dX3_nameOf_18 : decode cX3_nameOf 18 = .ok (.ifCond .eq 13, 3) := by decide +kernel
theorem dX3_nameOf_21 : decode cX3_nameOf 21 = .ok (.aload_n 0, 1) := by decide +kernel
theorem dX3_nameOf_22 : decode cX3_nameOf 22 = .ok (.getfield 22, 3) := by decide +kernel
theorem dX3_nameOf_25 : decode cX3_nameOf 25 = .ok (.ifCond .ne 6, 3) := by decide +kernel
theorem dX3_nameOf_28 : decode cX3_nameOf 28 = .ok (.bipush (-2), 2) := by decide +kernel
theorem dX3_nameOf_30 : decode cX3_nameOf 30 = .ok (.ireturn, 1) := by decide +kernel
theorem dX3_nameOf_31 : decode cX3_nameOf 31 = .ok (.aload_n 1, 1) := by decide +kernel
theorem dX3_nameOf_32 : decode cX3_nameOf 32 = .ok (.ldc 83, 2) := by decide +kernel
theorem dX3_nameOf_34 : decode cX3_nameOf 34 = .ok (.invokevirtual 46, 3) := by decide +kernel
theorem dX3_nameOf_37 : decode cX3_nameOf 37 = .ok (.ifCond .eq 14, 3) := by decide +kernel
theorem dX3_nameOf_40 : decode cX3_nameOf 40 = .ok (.aload_n 0, 1) := by decide +kernel
theorem dX3_nameOf_41 : decode cX3_nameOf 41 = .ok (.getfield 22, 3) := by decide +kernel
theorem dX3_nameOf_44 : decode cX3_nameOf 44 = .ok (.iconst 1, 1) := by decide +kernel
theorem dX3_nameOf_45 : decode cX3_nameOf 45 = .ok (.if_icmp .eq 6, 3) := by decide +kernel
theorem dX3_nameOf_48 : decode cX3_nameOf 48 = .ok (.bipush (-4), 2) := by decide +kernel
theorem dX3_nameOf_50 : decode cX3_nameOf 50 = .ok (.ireturn, 1) := by decide +kernel
theorem dX3_nameOf_51 : decode cX3_nameOf 51 = .ok (.aload_n 1, 1) := by decide +kernel
theorem dX3_nameOf_52 : decode cX3_nameOf 52 = .ok (.ldc 85, 2) := by decide +kernel
theorem dX3_nameOf_54 : decode cX3_nameOf 54 = .ok (.invokevirtual 46, 3) := by decide +kernel
theorem dX3_nameOf_57 : decode cX3_nameOf 57 = .ok (.ifCond .eq 16, 3) := by decide +kernel
theorem dX3_nameOf_60 : decode cX3_nameOf 60 = .ok (.aload_n 0, 1) := by decide +kernel
theorem dX3_nameOf_61 : decode cX3_nameOf 61 = .ok (.getfield 22, 3) := by decide +kernel
theorem dX3_nameOf_64 : decode cX3_nameOf 64 = .ok (.iconst 1, 1) := by decide +kernel
theorem dX3_nameOf_65 : decode cX3_nameOf 65 = .ok (.if_icmp .ne 8, 3) := by decide +kernel
theorem dX3_nameOf_68 : decode cX3_nameOf 68 = .ok (.bipush (-4), 2) := by decide +kernel
theorem dX3_nameOf_70 : decode cX3_nameOf 70 = .ok (.goto 4, 3) := by decide +kernel
theorem dX3_nameOf_73 : decode cX3_nameOf 73 = .ok (.iconst (-1), 1) := by decide +kernel
theorem dX3_nameOf_74 : decode cX3_nameOf 74 = .ok (.ireturn, 1) := by decide +kernel
theorem dX3_put_0 : decode cX3_put 0 = .ok (.aload_n 0, 1) := by decide +kernel
theorem dX3_put_1 : decode cX3_put 1 = .ok (.getfield 15, 3) := by decide +kernel
theorem dX3_put_4 : decode cX3_put 4 = .ok (.bipush 96, 2) := by decide +kernel
theorem dX3_put_6 : decode cX3_put 6 = .ok (.if_icmp .lt 4, 3) := by decide +kernel
theorem dX3_put_9 : decode cX3_put 9 = .ok (.return_, 1) := by decide +kernel
theorem dX3_put_10 : decode cX3_put 10 = .ok (.aload_n 0, 1) := by decide +kernel
theorem dX3_put_11 : decode cX3_put 11 = .ok (.getfield 9, 3) := by decide +kernel
theorem dX3_put_14 : decode cX3_put 14 = .ok (.aload_n 0, 1) := by decide +kernel
theorem dX3_put_15 : decode cX3_put 15 = .ok (.getfield 15, 3) := by decide +kernel
theorem dX3_put_18 : decode cX3_put 18 = .ok (.iload_n 1, 1) := by decide +kernel
theorem dX3_put_19 : decode cX3_put 19 = .ok (.iastore, 1) := by decide +kernel
theorem dX3_put_20 : decode cX3_put 20 = .ok (.aload_n 0, 1) := by decide +kernel
theorem dX3_put_21 : decode cX3_put 21 = .ok (.dup, 1) := by decide +kernel
theorem dX3_put_22 : decode cX3_put 22 = .ok (.getfield 15, 3) := by decide +kernel
theorem dX3_put_25 : decode cX3_put 25 = .ok (.iconst 1, 1) := by decide +kernel
theorem dX3_put_26 : decode cX3_put 26 = .ok (.iadd, 1) := by decide +kernel
theorem dX3_put_27 : decode cX3_put 27 = .ok (.putfield 15, 3) := by decide +kernel
theorem dX3_put_30 : decode cX3_put 30 = .ok (.return_, 1) := by decide +kernel
theorem dX4_init_0 : decode cX4_init 0 = .ok (.aload_n 0, 1) := by decide +kernel
theorem dX4_init_1 : decode cX4_init 1 = .ok (.invokespecial 3, 3) := by decide +kernel
theorem dX4_init_4 : decode cX4_init 4 = .ok (.aload_n 0, 1) := by decide +kernel
theorem dX4_init_5 : decode cX4_init 5 = .ok (.iconst (-1), 1) := by decide +kernel
theorem dX4_init_6 : decode cX4_init 6 = .ok (.putfield 9, 3) := by decide +kernel
theorem dX4_init_9 : decode cX4_init 9 = .ok (.aload_n 0, 1) := by decide +kernel
theorem dX4_init_10 : decode cX4_init 10 = .ok (.iconst 0, 1) := by decide +kernel
theorem dX4_init_11 : decode cX4_init 11 = .ok (.putfield 15, 3) := by decide +kernel
theorem dX4_init_14 : decode cX4_init 14 = .ok (.aload_n 0, 1) := by decide +kernel
theorem dX4_init_15 : decode cX4_init 15 = .ok (.bipush 24, 2) := by decide +kernel
theorem dX4_init_17 : decode cX4_init 17 = .ok (.newarray .int, 2) := by decide +kernel
theorem dX4_init_19 : decode cX4_init 19 = .ok (.putfield 18, 3) := by decide +kernel
theorem dX4_init_22 : decode cX4_init 22 = .ok (.return_, 1) := by decide +kernel
theorem dX4_isMissing_0 : decode cX4_isMissing 0 = .ok (.aload_n 0, 1) := by decide +kernel
theorem dX4_isMissing_1 : decode cX4_isMissing 1 = .ok (.getfield 9, 3) := by decide +kernel
theorem dX4_isMissing_4 : decode cX4_isMissing 4 = .ok (.iconst (-1), 1) := by decide +kernel
theorem dX4_isMissing_5 : decode cX4_isMissing 5 = .ok (.if_icmp .ne 7, 3) := by decide +kernel
theorem dX4_isMissing_8 : decode cX4_isMissing 8 = .ok (.iconst 1, 1) := by decide +kernel
theorem dX4_isMissing_9 : decode cX4_isMissing 9 = .ok (.goto 4, 3) := by decide +kernel
theorem dX4_isMissing_12 : decode cX4_isMissing 12 = .ok (.iconst 0, 1) := by decide +kernel
theorem dX4_isMissing_13 : decode cX4_isMissing 13 = .ok (.ireturn, 1) := by decide +kernel
theorem dX4_isNumber_0 : decode cX4_isNumber 0 = .ok (.aload_n 0, 1) := by decide +kernel
theorem dX4_isNumber_1 : decode cX4_isNumber 1 = .ok (.getfield 18, 3) := by decide +kernel
theorem dX4_isNumber_4 : decode cX4_isNumber 4 = .ok (.iload_n 1, 1) := by decide +kernel
theorem dX4_isNumber_5 : decode cX4_isNumber 5 = .ok (.iaload, 1) := by decide +kernel
theorem dX4_isNumber_6 : decode cX4_isNumber 6 = .ok (.ldc 22, 2) := by decide +kernel
theorem dX4_isNumber_8 : decode cX4_isNumber 8 = .ok (.if_icmp .eq 7, 3) := by decide +kernel
theorem dX4_isNumber_11 : decode cX4_isNumber 11 = .ok (.iconst 1, 1) := by decide +kernel
theorem dX4_isNumber_12 : decode cX4_isNumber 12 = .ok (.goto 4, 3) := by decide +kernel
theorem dX4_isNumber_15 : decode cX4_isNumber 15 = .ok (.iconst 0, 1) := by decide +kernel
theorem dX4_isNumber_16 : decode cX4_isNumber 16 = .ok (.ireturn, 1) := by decide +kernel
theorem dX4_hasPlaces_0 : decode cX4_hasPlaces 0 = .ok (.iload_n 1, 1) := by decide +kernel
theorem dX4_hasPlaces_1 : decode cX4_hasPlaces 1 = .ok (.ifCond .lt 21, 3) := by decide +kernel
theorem dX4_hasPlaces_4 : decode cX4_hasPlaces 4 = .ok (.iload_n 2, 1) := by decide +kernel
theorem dX4_hasPlaces_5 : decode cX4_hasPlaces 5 = .ok (.ifCond .lt 17, 3) := by decide +kernel
theorem dX4_hasPlaces_8 : decode cX4_hasPlaces 8 = .ok (.iload_n 2, 1) := by decide +kernel
theorem dX4_hasPlaces_9 : decode cX4_hasPlaces 9 = .ok (.aload_n 0, 1) := by decide +kernel
theorem dX4_hasPlaces_10 : decode cX4_hasPlaces 10 = .ok (.getfield 15, 3) := by decide +kernel
theorem dX4_hasPlaces_13 : decode cX4_hasPlaces 13 = .ok (.iload_n 1, 1) := by decide +kernel
theorem dX4_hasPlaces_14 : decode cX4_hasPlaces 14 = .ok (.isub, 1) := by decide +kernel
theorem dX4_hasPlaces_15 : decode cX4_hasPlaces 15 = .ok (.if_icmp .gt 7, 3) := by decide +kernel
theorem dX4_hasPlaces_18 : decode cX4_hasPlaces 18 = .ok (.iconst 1, 1) := by decide +kernel
theorem dX4_hasPlaces_19 : decode cX4_hasPlaces 19 = .ok (.goto 4, 3) := by decide +kernel
theorem dX4_hasPlaces_22 : decode cX4_hasPlaces 22 = .ok (.iconst 0, 1) := by decide +kernel
theorem dX4_hasPlaces_23 : decode cX4_hasPlaces 23 = .ok (.ireturn, 1) := by decide +kernel
theorem dX4_becomeZeros_0 : decode cX4_becomeZeros 0 = .ok (.aload_n 0, 1) := by decide +kernel
theorem dX4_becomeZeros_1 : decode cX4_becomeZeros 1 = .ok (.iload_n 1, 1) := by decide +kernel
theorem dX4_becomeZeros_2 : decode cX4_becomeZeros 2 = .ok (.putfield 9, 3) := by decide +kernel
theorem dX4_becomeZeros_5 : decode cX4_becomeZeros 5 = .ok (.aload_n 0, 1) := by decide +kernel
theorem dX4_becomeZeros_6 : decode cX4_becomeZeros 6 = .ok (.iload_n 2, 1) := by decide +kernel
theorem dX4_becomeZeros_7 : decode cX4_becomeZeros 7 = .ok (.putfield 15, 3) := by decide +kernel
theorem dX4_becomeZeros_10 : decode cX4_becomeZeros 10 = .ok (.iconst 0, 1) := by decide +kernel
theorem dX4_becomeZeros_11 : decode cX4_becomeZeros 11 = .ok (.istore_n 3, 1) := by decide +kernel
theorem dX4_becomeZeros_12 : decode cX4_becomeZeros 12 = .ok (.iload_n 3, 1) := by decide +kernel
theorem dX4_becomeZeros_13 : decode cX4_becomeZeros 13 = .ok (.bipush 24, 2) := by decide +kernel
theorem dX4_becomeZeros_15 : decode cX4_becomeZeros 15 = .ok (.if_icmp .ge 16, 3) := by decide +kernel
theorem dX4_becomeZeros_18 : decode cX4_becomeZeros 18 = .ok (.aload_n 0, 1) := by decide +kernel
theorem dX4_becomeZeros_19 : decode cX4_becomeZeros 19 = .ok (.getfield 18, 3) := by decide +kernel
theorem dX4_becomeZeros_22 : decode cX4_becomeZeros 22 = .ok (.iload_n 3, 1) := by decide +kernel
theorem dX4_becomeZeros_23 : decode cX4_becomeZeros 23 = .ok (.iconst 0, 1) := by decide +kernel
theorem dX4_becomeZeros_24 : decode cX4_becomeZeros 24 = .ok (.iastore, 1) := by decide +kernel
theorem dX4_becomeZeros_25 : decode cX4_becomeZeros 25 = .ok (.iinc 3 1, 3) := by decide +kernel
theorem dX4_becomeZeros_28 : decode cX4_becomeZeros 28 = .ok (.goto (-16), 3) := by decide +kernel
theorem dX4_becomeZeros_31 : decode cX4_becomeZeros 31 = .ok (.return_, 1) := by decide +kernel
theorem dX4_become_0 : decode cX4_become 0 = .ok (.aload_n 0, 1) := by decide +kernel
theorem dX4_become_1 : decode cX4_become 1 = .ok (.aload_n 1, 1) := by decide +kernel
theorem dX4_become_2 : decode cX4_become 2 = .ok (.getfield 9, 3) := by decide +kernel
theorem dX4_become_5 : decode cX4_become 5 = .ok (.putfield 9, 3) := by decide +kernel
theorem dX4_become_8 : decode cX4_become 8 = .ok (.aload_n 0, 1) := by decide +kernel
theorem dX4_become_9 : decode cX4_become 9 = .ok (.aload_n 1, 1) := by decide +kernel
theorem dX4_become_10 : decode cX4_become 10 = .ok (.getfield 15, 3) := by decide +kernel
theorem dX4_become_13 : decode cX4_become 13 = .ok (.putfield 15, 3) := by decide +kernel
theorem dX4_become_16 : decode cX4_become 16 = .ok (.aload_n 1, 1) := by decide +kernel
theorem dX4_become_17 : decode cX4_become 17 = .ok (.getfield 18, 3) := by decide +kernel
theorem dX4_become_20 : decode cX4_become 20 = .ok (.iconst 0, 1) := by decide +kernel
theorem dX4_become_21 : decode cX4_become 21 = .ok (.aload_n 0, 1) := by decide +kernel
theorem dX4_become_22 : decode cX4_become 22 = .ok (.getfield 18, 3) := by decide +kernel
theorem dX4_become_25 : decode cX4_become 25 = .ok (.iconst 0, 1) := by decide +kernel
theorem dX4_become_26 : decode cX4_become 26 = .ok (.bipush 24, 2) := by decide +kernel
theorem dX4_become_28 : decode cX4_become 28 = .ok (.invokestatic 23, 3) := by decide +kernel
theorem dX4_become_31 : decode cX4_become 31 = .ok (.return_, 1) := by decide +kernel
theorem dX5_init_0 : decode cX5_init 0 = .ok (.aload_n 0, 1) := by decide +kernel
theorem dX5_init_1 : decode cX5_init 1 = .ok (.invokespecial 3, 3) := by decide +kernel
theorem dX5_init_4 : decode cX5_init 4 = .ok (.aload_n 0, 1) := by decide +kernel
theorem dX5_init_5 : decode cX5_init 5 = .ok (.iconst 0, 1) := by decide +kernel
theorem dX5_init_6 : decode cX5_init 6 = .ok (.putfield 9, 3) := by decide +kernel
theorem dX5_init_9 : decode cX5_init 9 = .ok (.aload_n 0, 1) := by decide +kernel
theorem dX5_init_10 : decode cX5_init 10 = .ok (.iconst 0, 1) := by decide +kernel
theorem dX5_init_11 : decode cX5_init 11 = .ok (.putfield 15, 3) := by decide +kernel
theorem dX5_init_14 : decode cX5_init 14 = .ok (.aload_n 0, 1) := by decide +kernel
theorem dX5_init_15 : decode cX5_init 15 = .ok (.iconst 0, 1) := by decide +kernel
theorem dX5_init_16 : decode cX5_init 16 = .ok (.putfield 18, 3) := by decide +kernel
theorem dX5_init_19 : decode cX5_init 19 = .ok (.aload_n 0, 1) := by decide +kernel
theorem dX5_init_20 : decode cX5_init 20 = .ok (.iconst 0, 1) := by decide +kernel
theorem dX5_init_21 : decode cX5_init 21 = .ok (.putfield 21, 3) := by decide +kernel
theorem dX5_init_24 : decode cX5_init 24 = .ok (.aload_n 0, 1) := by decide +kernel
theorem dX5_init_25 : decode cX5_init 25 = .ok (.new 24, 3) := by decide +kernel
theorem dX5_init_28 : decode cX5_init 28 = .ok (.dup, 1) := by decide +kernel
theorem dX5_init_29 : decode cX5_init 29 = .ok (.invokespecial 26, 3) := by decide +kernel
theorem dX5_init_32 : decode cX5_init 32 = .ok (.putfield 27, 3) := by decide +kernel
theorem dX5_init_35 : decode cX5_init 35 = .ok (.return_, 1) := by decide +kernel
theorem dX6_init_0 : decode cX6_init 0 = .ok (.aload_n 0, 1) := by decide +kernel
theorem dX6_init_1 : decode cX6_init 1 = .ok (.invokespecial 3, 3) := by decide +kernel
theorem dX6_init_4 : decode cX6_init 4 = .ok (.aload_n 0, 1) := by decide +kernel
theorem dX6_init_5 : decode cX6_init 5 = .ok (.bipush 96, 2) := by decide +kernel
theorem dX6_init_7 : decode cX6_init 7 = .ok (.newarray .int, 2) := by decide +kernel
theorem dX6_init_9 : decode cX6_init 9 = .ok (.putfield 9, 3) := by decide +kernel
theorem dX6_init_12 : decode cX6_init 12 = .ok (.aload_n 0, 1) := by decide +kernel
theorem dX6_init_13 : decode cX6_init 13 = .ok (.iconst 0, 1) := by decide +kernel
theorem dX6_init_14 : decode cX6_init 14 = .ok (.putfield 15, 3) := by decide +kernel
theorem dX6_init_17 : decode cX6_init 17 = .ok (.aload_n 0, 1) := by decide +kernel
theorem dX6_init_18 : decode cX6_init 18 = .ok (.iconst 0, 1) := by decide +kernel
theorem dX6_init_19 : decode cX6_init 19 = .ok (.putfield 19, 3) := by decide +kernel
theorem dX6_init_22 : decode cX6_init 22 = .ok (.aload_n 0, 1) := by decide +kernel
theorem dX6_init_23 : decode cX6_init 23 = .ok (.iconst 0, 1) := by decide +kernel
theorem dX6_init_24 : decode cX6_init 24 = .ok (.putfield 22, 3) := by decide +kernel
theorem dX6_init_27 : decode cX6_init 27 = .ok (.aload_n 0, 1) := by decide +kernel
theorem dX6_init_28 : decode cX6_init 28 = .ok (.iconst 0, 1) := by decide +kernel
theorem dX6_init_29 : decode cX6_init 29 = .ok (.putfield 25, 3) := by decide +kernel
theorem dX6_init_32 : decode cX6_init 32 = .ok (.return_, 1) := by decide +kernel
theorem dX6_addFour_0 : decode cX6_addFour 0 = .ok (.bipush 24, 2) := by decide +kernel
theorem dX6_addFour_2 : decode cX6_addFour 2 = .ok (.istore_n 2, 1) := by decide +kernel
theorem dX6_addFour_3 : decode cX6_addFour 3 = .ok (.iload_n 2, 1) := by decide +kernel
theorem dX6_addFour_4 : decode cX6_addFour 4 = .ok (.ifCond .lt 44, 3) := by decide +kernel
theorem dX6_addFour_7 : decode cX6_addFour 7 = .ok (.aload_n 0, 1) := by decide +kernel
theorem dX6_addFour_8 : decode cX6_addFour 8 = .ok (.getfield 15, 3) := by decide +kernel
theorem dX6_addFour_11 : decode cX6_addFour 11 = .ok (.bipush 96, 2) := by decide +kernel
theorem dX6_addFour_13 : decode cX6_addFour 13 = .ok (.if_icmp .ge 35, 3) := by decide +kernel
theorem dX6_addFour_16 : decode cX6_addFour 16 = .ok (.aload_n 0, 1) := by decide +kernel
theorem dX6_addFour_17 : decode cX6_addFour 17 = .ok (.getfield 9, 3) := by decide +kernel
theorem dX6_addFour_20 : decode cX6_addFour 20 = .ok (.aload_n 0, 1) := by decide +kernel
theorem dX6_addFour_21 : decode cX6_addFour 21 = .ok (.getfield 15, 3) := by decide +kernel
theorem dX6_addFour_24 : decode cX6_addFour 24 = .ok (.iload_n 1, 1) := by decide +kernel
theorem dX6_addFour_25 : decode cX6_addFour 25 = .ok (.iload_n 2, 1) := by decide +kernel
theorem dX6_addFour_26 : decode cX6_addFour 26 = .ok (.iushr, 1) := by decide +kernel
theorem dX6_addFour_27 : decode cX6_addFour 27 = .ok (.sipush 255, 3) := by decide +kernel
theorem dX6_addFour_30 : decode cX6_addFour 30 = .ok (.iand, 1) := by decide +kernel
theorem dX6_addFour_31 : decode cX6_addFour 31 = .ok (.iastore, 1) := by decide +kernel
theorem dX6_addFour_32 : decode cX6_addFour 32 = .ok (.aload_n 0, 1) := by decide +kernel
theorem dX6_addFour_33 : decode cX6_addFour 33 = .ok (.dup, 1) := by decide +kernel
theorem dX6_addFour_34 : decode cX6_addFour 34 = .ok (.getfield 15, 3) := by decide +kernel
theorem dX6_addFour_37 : decode cX6_addFour 37 = .ok (.iconst 1, 1) := by decide +kernel
theorem dX6_addFour_38 : decode cX6_addFour 38 = .ok (.iadd, 1) := by decide +kernel
theorem dX6_addFour_39 : decode cX6_addFour 39 = .ok (.putfield 15, 3) := by decide +kernel
theorem dX6_addFour_42 : decode cX6_addFour 42 = .ok (.iinc 2 (-8), 3) := by decide +kernel
theorem dX6_addFour_45 : decode cX6_addFour 45 = .ok (.goto (-42), 3) := by decide +kernel
theorem dX6_addFour_48 : decode cX6_addFour 48 = .ok (.return_, 1) := by decide +kernel
theorem dX6_begin_0 : decode cX6_begin 0 = .ok (.aload_n 0, 1) := by decide +kernel
theorem dX6_begin_1 : decode cX6_begin 1 = .ok (.iconst 0, 1) := by decide +kernel
theorem dX6_begin_2 : decode cX6_begin 2 = .ok (.putfield 22, 3) := by decide +kernel
theorem dX6_begin_5 : decode cX6_begin 5 = .ok (.aload_n 0, 1) := by decide +kernel
theorem dX6_begin_6 : decode cX6_begin 6 = .ok (.invokevirtual 28, 3) := by decide +kernel
theorem dX6_begin_9 : decode cX6_begin 9 = .ok (.return_, 1) := by decide +kernel
theorem dX6_step_0 : decode cX6_step 0 = .ok (.aload_n 0, 1) := by decide +kernel
theorem dX6_step_1 : decode cX6_step 1 = .ok (.aload_n 0, 1) := by decide +kernel
theorem dX6_step_2 : decode cX6_step 2 = .ok (.getfield 22, 3) := by decide +kernel
theorem dX6_step_5 : decode cX6_step 5 = .ok (.putfield 19, 3) := by decide +kernel
theorem dX6_step_8 : decode cX6_step 8 = .ok (.aload_n 0, 1) := by decide +kernel
theorem dX6_step_9 : decode cX6_step 9 = .ok (.getfield 19, 3) := by decide +kernel
theorem dX6_step_12 : decode cX6_step 12 = .ok (.aload_n 0, 1) := by decide +kernel
theorem dX6_step_13 : decode cX6_step 13 = .ok (.getfield 15, 3) := by decide +kernel
theorem dX6_step_16 : decode cX6_step 16 = .ok (.if_icmp .ge 30, 3) := by decide +kernel
theorem dX6_step_19 : decode cX6_step 19 = .ok (.aload_n 0, 1) := by decide +kernel
theorem dX6_step_20 : decode cX6_step 20 = .ok (.getfield 9, 3) := by decide +kernel
theorem dX6_step_23 : decode cX6_step 23 = .ok (.aload_n 0, 1) := by decide +kernel
theorem dX6_step_24 : decode cX6_step 24 = .ok (.getfield 19, 3) := by decide +kernel
theorem dX6_step_27 : decode cX6_step 27 = .ok (.iaload, 1) := by decide +kernel
theorem dX6_step_28 : decode cX6_step 28 = .ok (.bipush 32, 2) := by decide +kernel
theorem dX6_step_30 : decode cX6_step 30 = .ok (.if_icmp .ne 16, 3) := by decide +kernel
theorem dX6_step_33 : decode cX6_step 33 = .ok (.aload_n 0, 1) := by decide +kernel
theorem dX6_step_34 : decode cX6_step 34 = .ok (.dup, 1) := by decide +kernel
theorem dX6_step_35 : decode cX6_step 35 = .ok (.getfield 19, 3) := by decide +kernel
theorem dX6_step_38 : decode cX6_step 38 = .ok (.iconst 1, 1) := by decide +kernel
theorem dX6_step_39 : decode cX6_step 39 = .ok (.iadd, 1) := by decide +kernel
theorem dX6_step_40 : decode cX6_step 40 = .ok (.putfield 19, 3) := by decide +kernel
theorem dX6_step_43 : decode cX6_step 43 = .ok (.goto (-35), 3) := by decide +kernel
theorem dX6_step_46 : decode cX6_step 46 = .ok (.aload_n 0, 1) := by decide +kernel
theorem dX6_step_47 : decode cX6_step 47 = .ok (.aload_n 0, 1) := by decide +kernel
theorem dX6_step_48 : decode cX6_step 48 = .ok (.getfield 19, 3) := by decide +kernel
theorem dX6_step_51 : decode cX6_step 51 = .ok (.putfield 22, 3) := by decide +kernel
theorem dX6_step_54 : decode cX6_step 54 = .ok (.aload_n 0, 1) := by decide +kernel
theorem dX6_step_55 : decode cX6_step 55 = .ok (.getfield 19, 3) := by decide +kernel
theorem dX6_step_58 : decode cX6_step 58 = .ok (.aload_n 0, 1) := by decide +kernel
theorem dX6_step_59 : decode cX6_step 59 = .ok (.getfield 15, 3) := by decide +kernel
theorem dX6_step_62 : decode cX6_step 62 = .ok (.if_icmp .lt 9, 3) := by decide +kernel
theorem dX6_step_65 : decode cX6_step 65 = .ok (.aload_n 0, 1) := by decide +kernel
theorem dX6_step_66 : decode cX6_step 66 = .ok (.iconst 0, 1) := by decide +kernel
theorem dX6_step_67 : decode cX6_step 67 = .ok (.putfield 25, 3) := by decide +kernel
theorem dX6_step_70 : decode cX6_step 70 = .ok (.return_, 1) := by decide +kernel
theorem dX6_step_71 : decode cX6_step 71 = .ok (.aload_n 0, 1) := by decide +kernel
theorem dX6_step_72 : decode cX6_step 72 = .ok (.aload_n 0, 1) := by decide +kernel
theorem dX6_step_73 : decode cX6_step 73 = .ok (.getfield 9, 3) := by decide +kernel
theorem dX6_step_76 : decode cX6_step 76 = .ok (.aload_n 0, 1) := by decide +kernel
theorem dX6_step_77 : decode cX6_step 77 = .ok (.getfield 19, 3) := by decide +kernel
theorem dX6_step_80 : decode cX6_step 80 = .ok (.iaload, 1) := by decide +kernel
theorem dX6_step_81 : decode cX6_step 81 = .ok (.invokestatic 31, 3) := by decide +kernel
theorem dX6_step_84 : decode cX6_step 84 = .ok (.putfield 25, 3) := by decide +kernel
theorem dX6_step_87 : decode cX6_step 87 = .ok (.aload_n 0, 1) := by decide +kernel
theorem dX6_step_88 : decode cX6_step 88 = .ok (.dup, 1) := by decide +kernel
theorem dX6_step_89 : decode cX6_step 89 = .ok (.getfield 22, 3) := by decide +kernel
theorem dX6_step_92 : decode cX6_step 92 = .ok (.iconst 1, 1) := by decide +kernel
theorem dX6_step_93 : decode cX6_step 93 = .ok (.iadd, 1) := by decide +kernel
theorem dX6_step_94 : decode cX6_step 94 = .ok (.putfield 22, 3) := by decide +kernel
theorem dX6_step_97 : decode cX6_step 97 = .ok (.aload_n 0, 1) := by decide +kernel
theorem dX6_step_98 : decode cX6_step 98 = .ok (.getfield 25, 3) := by decide +kernel
theorem dX6_step_101 : decode cX6_step 101 = .ok (.iconst 3, 1) := by decide +kernel
theorem dX6_step_102 : decode cX6_step 102 = .ok (.if_icmp .ne 4, 3) := by decide +kernel
theorem dX6_step_105 : decode cX6_step 105 = .ok (.return_, 1) := by decide +kernel
theorem dX6_step_106 : decode cX6_step 106 = .ok (.aload_n 0, 1) := by decide +kernel
theorem dX6_step_107 : decode cX6_step 107 = .ok (.getfield 22, 3) := by decide +kernel
theorem dX6_step_110 : decode cX6_step 110 = .ok (.aload_n 0, 1) := by decide +kernel
theorem dX6_step_111 : decode cX6_step 111 = .ok (.getfield 15, 3) := by decide +kernel
theorem dX6_step_114 : decode cX6_step 114 = .ok (.if_icmp .ge 35, 3) := by decide +kernel
theorem dX6_step_117 : decode cX6_step 117 = .ok (.aload_n 0, 1) := by decide +kernel
theorem dX6_step_118 : decode cX6_step 118 = .ok (.getfield 9, 3) := by decide +kernel
theorem dX6_step_121 : decode cX6_step 121 = .ok (.aload_n 0, 1) := by decide +kernel
theorem dX6_step_122 : decode cX6_step 122 = .ok (.getfield 22, 3) := by decide +kernel
theorem dX6_step_125 : decode cX6_step 125 = .ok (.iaload, 1) := by decide +kernel
theorem dX6_step_126 : decode cX6_step 126 = .ok (.invokestatic 31, 3) := by decide +kernel
theorem dX6_step_129 : decode cX6_step 129 = .ok (.aload_n 0, 1) := by decide +kernel
theorem dX6_step_130 : decode cX6_step 130 = .ok (.getfield 25, 3) := by decide +kernel
theorem dX6_step_133 : decode cX6_step 133 = .ok (.if_icmp .ne 16, 3) := by decide +kernel
theorem dX6_step_136 : decode cX6_step 136 = .ok (.aload_n 0, 1) := by decide +kernel
theorem dX6_step_137 : decode cX6_step 137 = .ok (.dup, 1) := by decide +kernel
theorem dX6_step_138 : decode cX6_step 138 = .ok (.getfield 22, 3) := by decide +kernel
theorem dX6_step_141 : decode cX6_step 141 = .ok (.iconst 1, 1) := by decide +kernel
theorem dX6_step_142 : decode cX6_step 142 = .ok (.iadd, 1) := by decide +kernel
theorem dX6_step_143 : decode cX6_step 143 = .ok (.putfield 22, 3) := by decide +kernel
theorem dX6_step_146 : decode cX6_step 146 = .ok (.goto (-40), 3) := by decide +kernel
theorem dX6_step_149 : decode cX6_step 149 = .ok (.aload_n 0, 1) := by decide +kernel
theorem dX6_step_150 : decode cX6_step 150 = .ok (.getfield 19, 3) := by decide +kernel
theorem dX6_step_153 : decode cX6_step 153 = .ok (.ifCond .le 25, 3) := by decide +kernel
theorem dX6_step_156 : decode cX6_step 156 = .ok (.aload_n 0, 1) := by decide +kernel
theorem dX6_step_157 : decode cX6_step 157 = .ok (.getfield 9, 3) := by decide +kernel
theorem dX6_step_160 : decode cX6_step 160 = .ok (.aload_n 0, 1) := by decide +kernel
theorem dX6_step_161 : decode cX6_step 161 = .ok (.getfield 19, 3) := by decide +kernel
theorem dX6_step_164 : decode cX6_step 164 = .ok (.iconst 1, 1) := by decide +kernel
theorem dX6_step_165 : decode cX6_step 165 = .ok (.isub, 1) := by decide +kernel
theorem dX6_step_166 : decode cX6_step 166 = .ok (.iaload, 1) := by decide +kernel
theorem dX6_step_167 : decode cX6_step 167 = .ok (.invokestatic 31, 3) := by decide +kernel
theorem dX6_step_170 : decode cX6_step 170 = .ok (.iconst 3, 1) := by decide +kernel
theorem dX6_step_171 : decode cX6_step 171 = .ok (.if_icmp .eq 7, 3) := by decide +kernel
theorem dX6_step_174 : decode cX6_step 174 = .ok (.iconst 1, 1) := by decide +kernel
theorem dX6_step_175 : decode cX6_step 175 = .ok (.goto 4, 3) := by decide +kernel
theorem dX6_step_178 : decode cX6_step 178 = .ok (.iconst 0, 1) := by decide +kernel
theorem dX6_step_179 : decode cX6_step 179 = .ok (.istore_n 1, 1) := by decide +kernel
theorem dX6_step_180 : decode cX6_step 180 = .ok (.aload_n 0, 1) := by decide +kernel
theorem dX6_step_181 : decode cX6_step 181 = .ok (.getfield 25, 3) := by decide +kernel
theorem dX6_step_184 : decode cX6_step 184 = .ok (.iconst 2, 1) := by decide +kernel
theorem dX6_step_185 : decode cX6_step 185 = .ok (.if_icmp .ne 20, 3) := by decide +kernel
theorem dX6_step_188 : decode cX6_step 188 = .ok (.aload_n 0, 1) := by decide +kernel
theorem dX6_step_189 : decode cX6_step 189 = .ok (.getfield 22, 3) := by decide +kernel
theorem dX6_step_192 : decode cX6_step 192 = .ok (.aload_n 0, 1) := by decide +kernel
theorem dX6_step_193 : decode cX6_step 193 = .ok (.getfield 19, 3) := by decide +kernel
theorem dX6_step_196 : decode cX6_step 196 = .ok (.isub, 1) := by decide +kernel
theorem dX6_step_197 : decode cX6_step 197 = .ok (.iconst 4, 1) := by decide +kernel
theorem dX6_step_198 : decode cX6_step 198 = .ok (.if_icmp .le 7, 3) := by decide +kernel
theorem dX6_step_201 : decode cX6_step 201 = .ok (.iconst 1, 1) := by decide +kernel
theorem dX6_step_202 : decode cX6_step 202 = .ok (.goto 4, 3) := by decide +kernel
theorem dX6_step_205 : decode cX6_step 205 = .ok (.iconst 0, 1) := by decide +kernel
theorem dX6_step_206 : decode cX6_step 206 = .ok (.istore_n 2, 1) := by decide +kernel
theorem dX6_step_207 : decode cX6_step 207 = .ok (.iload_n 1, 1) := by decide +kernel
theorem dX6_step_208 : decode cX6_step 208 = .ok (.ifCond .ne 7, 3) := by decide +kernel
theorem dX6_step_211 : decode cX6_step 211 = .ok (.iload_n 2, 1) := by decide +kernel
theorem dX6_step_212 : decode cX6_step 212 = .ok (.ifCond .eq 8, 3) := by decide +kernel
theorem dX6_step_215 : decode cX6_step 215 = .ok (.aload_n 0, 1) := by decide +kernel
theorem dX6_step_216 : decode cX6_step 216 = .ok (.iconst 4, 1) := by decide +kernel
theorem dX6_step_217 : decode cX6_step 217 = .ok (.putfield 25, 3) := by decide +kernel
theorem dX6_step_220 : decode cX6_step 220 = .ok (.return_, 1) := by decide +kernel
theorem dX6_sortOf_0 : decode cX6_sortOf 0 = .ok (.iload_n 0, 1) := by decide +kernel
theorem dX6_sortOf_1 : decode cX6_sortOf 1 = .ok (.bipush 97, 2) := by decide +kernel
theorem dX6_sortOf_3 : decode cX6_sortOf 3 = .ok (.if_icmp .lt 11, 3) := by decide +kernel
theorem dX6_sortOf_6 : decode cX6_sortOf 6 = .ok (.iload_n 0, 1) := by decide +kernel
theorem dX6_sortOf_7 : decode cX6_sortOf 7 = .ok (.bipush 122, 2) := by decide +kernel
theorem dX6_sortOf_9 : decode cX6_sortOf 9 = .ok (.if_icmp .gt 5, 3) := by decide +kernel
theorem dX6_sortOf_12 : decode cX6_sortOf 12 = .ok (.iconst 1, 1) := by decide +kernel
theorem dX6_sortOf_13 : decode cX6_sortOf 13 = .ok (.ireturn, 1) := by decide +kernel
theorem dX6_sortOf_14 : decode cX6_sortOf 14 = .ok (.iload_n 0, 1) := by decide +kernel
theorem dX6_sortOf_15 : decode cX6_sortOf 15 = .ok (.bipush 48, 2) := by decide +kernel
theorem dX6_sortOf_17 : decode cX6_sortOf 17 = .ok (.if_icmp .lt 13, 3) := by decide +kernel
theorem dX6_sortOf_20 : decode cX6_sortOf 20 = .ok (.iload_n 0, 1) := by decide +kernel
theorem dX6_sortOf_21 : decode cX6_sortOf 21 = .ok (.bipush 57, 2) := by decide +kernel
theorem dX6_sortOf_23 : decode cX6_sortOf 23 = .ok (.if_icmp .gt 7, 3) := by decide +kernel
theorem dX6_sortOf_26 : decode cX6_sortOf 26 = .ok (.iconst 2, 1) := by decide +kernel
theorem dX6_sortOf_27 : decode cX6_sortOf 27 = .ok (.goto 4, 3) := by decide +kernel
theorem dX6_sortOf_30 : decode cX6_sortOf 30 = .ok (.iconst 3, 1) := by decide +kernel
theorem dX6_sortOf_31 : decode cX6_sortOf 31 = .ok (.ireturn, 1) := by decide +kernel
theorem dX6_isWord_0 : decode cX6_isWord 0 = .ok (.aload_n 0, 1) := by decide +kernel
theorem dX6_isWord_1 : decode cX6_isWord 1 = .ok (.getfield 25, 3) := by decide +kernel
theorem dX6_isWord_4 : decode cX6_isWord 4 = .ok (.iconst 1, 1) := by decide +kernel
theorem dX6_isWord_5 : decode cX6_isWord 5 = .ok (.if_icmp .ne 19, 3) := by decide +kernel
theorem dX6_isWord_8 : decode cX6_isWord 8 = .ok (.aload_n 0, 1) := by decide +kernel
theorem dX6_isWord_9 : decode cX6_isWord 9 = .ok (.getfield 22, 3) := by decide +kernel
theorem dX6_isWord_12 : decode cX6_isWord 12 = .ok (.aload_n 0, 1) := by decide +kernel
theorem dX6_isWord_13 : decode cX6_isWord 13 = .ok (.getfield 19, 3) := by decide +kernel
theorem dX6_isWord_16 : decode cX6_isWord 16 = .ok (.isub, 1) := by decide +kernel
theorem dX6_isWord_17 : decode cX6_isWord 17 = .ok (.aload_n 1, 1) := by decide +kernel
theorem dX6_isWord_18 : decode cX6_isWord 18 = .ok (.invokevirtual 35, 3) := by decide +kernel
theorem dX6_isWord_21 : decode cX6_isWord 21 = .ok (.if_icmp .eq 5, 3) := by decide +kernel
theorem dX6_isWord_24 : decode cX6_isWord 24 = .ok (.iconst 0, 1) := by decide +kernel
theorem dX6_isWord_25 : decode cX6_isWord 25 = .ok (.ireturn, 1) := by decide +kernel
theorem dX6_isWord_26 : decode cX6_isWord 26 = .ok (.iconst 0, 1) := by decide +kernel
theorem dX6_isWord_27 : decode cX6_isWord 27 = .ok (.istore_n 2, 1) := by decide +kernel
theorem dX6_isWord_28 : decode cX6_isWord 28 = .ok (.iload_n 2, 1) := by decide +kernel
theorem dX6_isWord_29 : decode cX6_isWord 29 = .ok (.aload_n 1, 1) := by decide +kernel
theorem dX6_isWord_30 : decode cX6_isWord 30 = .ok (.invokevirtual 35, 3) := by decide +kernel
theorem dX6_isWord_33 : decode cX6_isWord 33 = .ok (.if_icmp .ge 30, 3) := by decide +kernel
theorem dX6_isWord_36 : decode cX6_isWord 36 = .ok (.aload_n 0, 1) := by decide +kernel
theorem dX6_isWord_37 : decode cX6_isWord 37 = .ok (.getfield 9, 3) := by decide +kernel
theorem dX6_isWord_40 : decode cX6_isWord 40 = .ok (.aload_n 0, 1) := by decide +kernel
theorem dX6_isWord_41 : decode cX6_isWord 41 = .ok (.getfield 19, 3) := by decide +kernel
theorem dX6_isWord_44 : decode cX6_isWord 44 = .ok (.iload_n 2, 1) := by decide +kernel
theorem dX6_isWord_45 : decode cX6_isWord 45 = .ok (.iadd, 1) := by decide +kernel
theorem dX6_isWord_46 : decode cX6_isWord 46 = .ok (.iaload, 1) := by decide +kernel
theorem dX6_isWord_47 : decode cX6_isWord 47 = .ok (.aload_n 1, 1) := by decide +kernel
theorem dX6_isWord_48 : decode cX6_isWord 48 = .ok (.iload_n 2, 1) := by decide +kernel
theorem dX6_isWord_49 : decode cX6_isWord 49 = .ok (.invokevirtual 40, 3) := by decide +kernel
theorem dX6_isWord_52 : decode cX6_isWord 52 = .ok (.if_icmp .eq 5, 3) := by decide +kernel
theorem dX6_isWord_55 : decode cX6_isWord 55 = .ok (.iconst 0, 1) := by decide +kernel
theorem dX6_isWord_56 : decode cX6_isWord 56 = .ok (.ireturn, 1) := by decide +kernel
theorem dX6_isWord_57 : decode cX6_isWord 57 = .ok (.iinc 2 1, 3) := by decide +kernel
theorem dX6_isWord_60 : decode cX6_isWord 60 = .ok (.goto (-32), 3) := by decide +kernel
theorem dX6_isWord_63 : decode cX6_isWord 63 = .ok (.iconst 1, 1) := by decide +kernel
theorem dX6_isWord_64 : decode cX6_isWord 64 = .ok (.ireturn, 1) := by decide +kernel
theorem dX6_isSign_0 : decode cX6_isSign 0 = .ok (.aload_n 0, 1) := by decide +kernel
theorem dX6_isSign_1 : decode cX6_isSign 1 = .ok (.getfield 25, 3) := by decide +kernel
theorem dX6_isSign_4 : decode cX6_isSign 4 = .ok (.iconst 3, 1) := by decide +kernel
theorem dX6_isSign_5 : decode cX6_isSign 5 = .ok (.if_icmp .ne 20, 3) := by decide +kernel
theorem dX6_isSign_8 : decode cX6_isSign 8 = .ok (.aload_n 0, 1) := by decide +kernel
theorem dX6_isSign_9 : decode cX6_isSign 9 = .ok (.getfield 9, 3) := by decide +kernel
theorem dX6_isSign_12 : decode cX6_isSign 12 = .ok (.aload_n 0, 1) := by decide +kernel
theorem dX6_isSign_13 : decode cX6_isSign 13 = .ok (.getfield 19, 3) := by decide +kernel
theorem dX6_isSign_16 : decode cX6_isSign 16 = .ok (.iaload, 1) := by decide +kernel
theorem dX6_isSign_17 : decode cX6_isSign 17 = .ok (.iload_n 1, 1) := by decide +kernel
theorem dX6_isSign_18 : decode cX6_isSign 18 = .ok (.if_icmp .ne 7, 3) := by decide +kernel
theorem dX6_isSign_21 : decode cX6_isSign 21 = .ok (.iconst 1, 1) := by decide +kernel
theorem dX6_isSign_22 : decode cX6_isSign 22 = .ok (.goto 4, 3) := by decide +kernel
theorem dX6_isSign_25 : decode cX6_isSign 25 = .ok (.iconst 0, 1) := by decide +kernel
theorem dX6_isSign_26 : decode cX6_isSign 26 = .ok (.ireturn, 1) := by decide +kernel
theorem dX6_number_0 : decode cX6_number 0 = .ok (.iconst 0, 1) := by decide +kernel
theorem dX6_number_1 : decode cX6_number 1 = .ok (.istore_n 1, 1) := by decide +kernel
theorem dX6_number_2 : decode cX6_number 2 = .ok (.aload_n 0, 1) := by decide +kernel
theorem dX6_number_3 : decode cX6_number 3 = .ok (.getfield 19, 3) := by decide +kernel
theorem dX6_number_6 : decode cX6_number 6 = .ok (.istore_n 2, 1) := by decide +kernel
theorem dX6_number_7 : decode cX6_number 7 = .ok (.iload_n 2, 1) := by decide +kernel
theorem dX6_number_8 : decode cX6_number 8 = .ok (.aload_n 0, 1) := by decide +kernel
theorem dX6_number_9 : decode cX6_number 9 = .ok (.getfield 22, 3) := by decide +kernel
theorem dX6_number_12 : decode cX6_number 12 = .ok (.if_icmp .ge 24, 3) := by decide +kernel
theorem dX6_number_15 : decode cX6_number 15 = .ok (.iload_n 1, 1) := by decide +kernel
theorem dX6_number_16 : decode cX6_number 16 = .ok (.bipush 10, 2) := by decide +kernel
theorem dX6_number_18 : decode cX6_number 18 = .ok (.imul, 1) := by decide +kernel
theorem dX6_number_19 : decode cX6_number 19 = .ok (.aload_n 0, 1) := by decide +kernel
theorem dX6_number_20 : decode cX6_number 20 = .ok (.getfield 9, 3) := by decide +kernel
theorem dX6_number_23 : decode cX6_number 23 = .ok (.iload_n 2, 1) := by decide +kernel
theorem dX6_number_24 : decode cX6_number 24 = .ok (.iaload, 1) := by decide +kernel
theorem dX6_number_25 : decode cX6_number 25 = .ok (.iadd, 1) := by decide +kernel
theorem dX6_number_26 : decode cX6_number 26 = .ok (.bipush 48, 2) := by decide +kernel
theorem dX6_number_28 : decode cX6_number 28 = .ok (.isub, 1) := by decide +kernel
theorem dX6_number_29 : decode cX6_number 29 = .ok (.istore_n 1, 1) := by decide +kernel
theorem dX6_number_30 : decode cX6_number 30 = .ok (.iinc 2 1, 3) := by decide +kernel
theorem dX6_number_33 : decode cX6_number 33 = .ok (.goto (-26), 3) := by decide +kernel
theorem dX6_number_36 : decode cX6_number 36 = .ok (.iload_n 1, 1) := by decide +kernel
theorem dX6_number_37 : decode cX6_number 37 = .ok (.ireturn, 1) := by decide +kernel
theorem dX7_init_0 : decode cX7_init 0 = .ok (.aload_n 0, 1) := by decide +kernel
theorem dX7_init_1 : decode cX7_init 1 = .ok (.invokespecial 1, 3) := by decide +kernel
theorem dX7_init_4 : decode cX7_init 4 = .ok (.aload_n 0, 1) := by decide +kernel
theorem dX7_init_5 : decode cX7_init 5 = .ok (.new 7, 3) := by decide +kernel
theorem dX7_init_8 : decode cX7_init 8 = .ok (.dup, 1) := by decide +kernel
theorem dX7_init_9 : decode cX7_init 9 = .ok (.invokespecial 9, 3) := by decide +kernel
theorem dX7_init_12 : decode cX7_init 12 = .ok (.putfield 10, 3) := by decide +kernel
theorem dX7_init_15 : decode cX7_init 15 = .ok (.aload_n 0, 1) := by decide +kernel
theorem dX7_init_16 : decode cX7_init 16 = .ok (.new 7, 3) := by decide +kernel
theorem dX7_init_19 : decode cX7_init 19 = .ok (.dup, 1) := by decide +kernel
theorem dX7_init_20 : decode cX7_init 20 = .ok (.invokespecial 9, 3) := by decide +kernel
theorem dX7_init_23 : decode cX7_init 23 = .ok (.putfield 16, 3) := by decide +kernel
theorem dX7_init_26 : decode cX7_init 26 = .ok (.aload_n 0, 1) := by decide +kernel
theorem dX7_init_27 : decode cX7_init 27 = .ok (.iconst 0, 1) := by decide +kernel
theorem dX7_init_28 : decode cX7_init 28 = .ok (.putfield 19, 3) := by decide +kernel
theorem dX7_init_31 : decode cX7_init 31 = .ok (.aload_n 0, 1) := by decide +kernel
theorem dX7_init_32 : decode cX7_init 32 = .ok (.new 7, 3) := by decide +kernel
theorem dX7_init_35 : decode cX7_init 35 = .ok (.dup, 1) := by decide +kernel
theorem dX7_init_36 : decode cX7_init 36 = .ok (.invokespecial 9, 3) := by decide +kernel
theorem dX7_init_39 : decode cX7_init 39 = .ok (.putfield 23, 3) := by decide +kernel
theorem dX7_init_42 : decode cX7_init 42 = .ok (.aload_n 0, 1) := by decide +kernel
theorem dX7_init_43 : decode cX7_init 43 = .ok (.bipush 12, 2) := by decide +kernel
theorem dX7_init_45 : decode cX7_init 45 = .ok (.newarray .int, 2) := by decide +kernel
theorem dX7_init_47 : decode cX7_init 47 = .ok (.putfield 26, 3) := by decide +kernel
theorem dX7_init_50 : decode cX7_init 50 = .ok (.aload_n 0, 1) := by decide +kernel
theorem dX7_init_51 : decode cX7_init 51 = .ok (.new 30, 3) := by decide +kernel
theorem dX7_init_54 : decode cX7_init 54 = .ok (.dup, 1) := by decide +kernel
theorem dX7_init_55 : decode cX7_init 55 = .ok (.invokespecial 32, 3) := by decide +kernel
theorem dX7_init_58 : decode cX7_init 58 = .ok (.putfield 33, 3) := by decide +kernel
theorem dX7_init_61 : decode cX7_init 61 = .ok (.aload_n 0, 1) := by decide +kernel
theorem dX7_init_62 : decode cX7_init 62 = .ok (.new 37, 3) := by decide +kernel
theorem dX7_init_65 : decode cX7_init 65 = .ok (.dup, 1) := by decide +kernel
theorem dX7_init_66 : decode cX7_init 66 = .ok (.invokespecial 39, 3) := by decide +kernel
theorem dX7_init_69 : decode cX7_init 69 = .ok (.putfield 40, 3) := by decide +kernel
theorem dX7_init_72 : decode cX7_init 72 = .ok (.aload_n 0, 1) := by decide +kernel
theorem dX7_init_73 : decode cX7_init 73 = .ok (.new 44, 3) := by decide +kernel
theorem dX7_init_76 : decode cX7_init 76 = .ok (.dup, 1) := by decide +kernel
theorem dX7_init_77 : decode cX7_init 77 = .ok (.invokespecial 46, 3) := by decide +kernel
theorem dX7_init_80 : decode cX7_init 80 = .ok (.putfield 47, 3) := by decide +kernel
theorem dX7_init_83 : decode cX7_init 83 = .ok (.aload_n 0, 1) := by decide +kernel
theorem dX7_init_84 : decode cX7_init 84 = .ok (.iconst 4, 1) := by decide +kernel
theorem dX7_init_85 : decode cX7_init 85 = .ok (.anewarray 51, 3) := by decide +kernel
theorem dX7_init_88 : decode cX7_init 88 = .ok (.putfield 53, 3) := by decide +kernel
theorem dX7_init_91 : decode cX7_init 91 = .ok (.aload_n 0, 1) := by decide +kernel
theorem dX7_init_92 : decode cX7_init 92 = .ok (.iconst 5, 1) := by decide +kernel
theorem dX7_init_93 : decode cX7_init 93 = .ok (.anewarray 57, 3) := by decide +kernel
theorem dX7_init_96 : decode cX7_init 96 = .ok (.putfield 59, 3) := by decide +kernel
theorem dX7_init_99 : decode cX7_init 99 = .ok (.aload_n 0, 1) := by decide +kernel
theorem dX7_init_100 : decode cX7_init 100 = .ok (.bipush 60, 2) := by decide +kernel
theorem dX7_init_102 : decode cX7_init 102 = .ok (.newarray .int, 2) := by decide +kernel
theorem dX7_init_104 : decode cX7_init 104 = .ok (.putfield 63, 3) := by decide +kernel
theorem dX7_init_107 : decode cX7_init 107 = .ok (.aload_n 0, 1) := by decide +kernel
theorem dX7_init_108 : decode cX7_init 108 = .ok (.iconst 0, 1) := by decide +kernel
theorem dX7_init_109 : decode cX7_init 109 = .ok (.putfield 66, 3) := by decide +kernel
theorem dX7_init_112 : decode cX7_init 112 = .ok (.iconst 0, 1) := by decide +kernel
theorem dX7_init_113 : decode cX7_init 113 = .ok (.istore_n 1, 1) := by decide +kernel
theorem dX7_init_114 : decode cX7_init 114 = .ok (.iload_n 1, 1) := by decide +kernel
theorem dX7_init_115 : decode cX7_init 115 = .ok (.iconst 4, 1) := by decide +kernel
theorem dX7_init_116 : decode cX7_init 116 = .ok (.if_icmp .ge 22, 3) := by decide +kernel
theorem dX7_init_119 : decode cX7_init 119 = .ok (.aload_n 0, 1) := by decide +kernel
theorem dX7_init_120 : decode cX7_init 120 = .ok (.getfield 53, 3) := by decide +kernel
theorem dX7_init_123 : decode cX7_init 123 = .ok (.iload_n 1, 1) := by decide +kernel
theorem dX7_init_124 : decode cX7_init 124 = .ok (.new 51, 3) := by decide +kernel
theorem dX7_init_127 : decode cX7_init 127 = .ok (.dup, 1) := by decide +kernel
theorem dX7_init_128 : decode cX7_init 128 = .ok (.invokespecial 70, 3) := by decide +kernel
theorem dX7_init_131 : decode cX7_init 131 = .ok (.aastore, 1) := by decide +kernel
theorem dX7_init_132 : decode cX7_init 132 = .ok (.iinc 1 1, 3) := by decide +kernel
theorem dX7_init_135 : decode cX7_init 135 = .ok (.goto (-21), 3) := by decide +kernel
theorem dX7_init_138 : decode cX7_init 138 = .ok (.iconst 0, 1) := by decide +kernel
theorem dX7_init_139 : decode cX7_init 139 = .ok (.istore_n 1, 1) := by decide +kernel
theorem dX7_init_140 : decode cX7_init 140 = .ok (.iload_n 1, 1) := by decide +kernel
theorem dX7_init_141 : decode cX7_init 141 = .ok (.iconst 5, 1) := by decide +kernel
theorem dX7_init_142 : decode cX7_init 142 = .ok (.if_icmp .ge 22, 3) := by decide +kernel
theorem dX7_init_145 : decode cX7_init 145 = .ok (.aload_n 0, 1) := by decide +kernel
theorem dX7_init_146 : decode cX7_init 146 = .ok (.getfield 59, 3) := by decide +kernel
theorem dX7_init_149 : decode cX7_init 149 = .ok (.iload_n 1, 1) := by decide +kernel
theorem dX7_init_150 : decode cX7_init 150 = .ok (.new 57, 3) := by decide +kernel
theorem dX7_init_153 : decode cX7_init 153 = .ok (.dup, 1) := by decide +kernel
theorem dX7_init_154 : decode cX7_init 154 = .ok (.invokespecial 71, 3) := by decide +kernel
theorem dX7_init_157 : decode cX7_init 157 = .ok (.aastore, 1) := by decide +kernel
theorem dX7_init_158 : decode cX7_init 158 = .ok (.iinc 1 1, 3) := by decide +kernel
theorem dX7_init_161 : decode cX7_init 161 = .ok (.goto (-21), 3) := by decide +kernel
theorem dX7_init_164 : decode cX7_init 164 = .ok (.return_, 1) := by decide +kernel
theorem dX7_dancer_0 : decode cX7_dancer 0 = .ok (.iload_n 1, 1) := by decide +kernel
theorem dX7_dancer_1 : decode cX7_dancer 1 = .ok (.invokestatic 72, 3) := by decide +kernel
theorem dX7_dancer_4 : decode cX7_dancer 4 = .ok (.ifCond .eq 25, 3) := by decide +kernel
theorem dX7_dancer_7 : decode cX7_dancer 7 = .ok (.iload_n 2, 1) := by decide +kernel
theorem dX7_dancer_8 : decode cX7_dancer 8 = .ok (.invokestatic 76, 3) := by decide +kernel
theorem dX7_dancer_11 : decode cX7_dancer 11 = .ok (.ifCond .eq 18, 3) := by decide +kernel
theorem dX7_dancer_14 : decode cX7_dancer 14 = .ok (.iload_n 3, 1) := by decide +kernel
theorem dX7_dancer_15 : decode cX7_dancer 15 = .ok (.invokestatic 79, 3) := by decide +kernel
theorem dX7_dancer_18 : decode cX7_dancer 18 = .ok (.ifCond .eq 11, 3) := by decide +kernel
theorem dX7_dancer_21 : decode cX7_dancer 21 = .ok (.iload 4, 2) := by decide +kernel
theorem dX7_dancer_23 : decode cX7_dancer 23 = .ok (.invokestatic 82, 3) := by decide +kernel
theorem dX7_dancer_26 : decode cX7_dancer 26 = .ok (.ifCond .ne 6, 3) := by decide +kernel
theorem dX7_dancer_29 : decode cX7_dancer 29 = .ok (.ldc 85, 2) := by decide +kernel
theorem dX7_dancer_31 : decode cX7_dancer 31 = .ok (.ireturn, 1) := by decide +kernel
theorem dX7_dancer_32 : decode cX7_dancer 32 = .ok (.aload_n 0, 1) := by decide +kernel
theorem dX7_dancer_33 : decode cX7_dancer 33 = .ok (.getfield 10, 3) := by decide +kernel
theorem dX7_dancer_36 : decode cX7_dancer 36 = .ok (.getfield 86, 3) := by decide +kernel
theorem dX7_dancer_39 : decode cX7_dancer 39 = .ok (.bipush 12, 2) := by decide +kernel
theorem dX7_dancer_41 : decode cX7_dancer 41 = .ok (.if_icmp .lt 6, 3) := by decide +kernel
theorem dX7_dancer_44 : decode cX7_dancer 44 = .ok (.ldc 89, 2) := by decide +kernel
theorem dX7_dancer_46 : decode cX7_dancer 46 = .ok (.ireturn, 1) := by decide +kernel
theorem dX7_dancer_47 : decode cX7_dancer 47 = .ok (.aload_n 0, 1) := by decide +kernel
theorem dX7_dancer_48 : decode cX7_dancer 48 = .ok (.getfield 10, 3) := by decide +kernel
theorem dX7_dancer_51 : decode cX7_dancer 51 = .ok (.iload_n 1, 1) := by decide +kernel
theorem dX7_dancer_52 : decode cX7_dancer 52 = .ok (.iload_n 2, 1) := by decide +kernel
theorem dX7_dancer_53 : decode cX7_dancer 53 = .ok (.iload_n 3, 1) := by decide +kernel
theorem dX7_dancer_54 : decode cX7_dancer 54 = .ok (.iload 4, 2) := by decide +kernel
theorem dX7_dancer_56 : decode cX7_dancer 56 = .ok (.invokevirtual 90, 3) := by decide +kernel
theorem dX7_dancer_59 : decode cX7_dancer 59 = .ok (.ireturn, 1) := by decide +kernel
theorem dX7_told_0 : decode cX7_told 0 = .ok (.aload_n 0, 1) := by decide +kernel
theorem dX7_told_1 : decode cX7_told 1 = .ok (.iload_n 1, 1) := by decide +kernel
theorem dX7_told_2 : decode cX7_told 2 = .ok (.invokevirtual 94, 3) := by decide +kernel
theorem dX7_told_5 : decode cX7_told 5 = .ok (.ifCond .ne 6, 3) := by decide +kernel
theorem dX7_told_8 : decode cX7_told 8 = .ok (.ldc 85, 2) := by decide +kernel
theorem dX7_told_10 : decode cX7_told 10 = .ok (.ireturn, 1) := by decide +kernel
theorem dX7_told_11 : decode cX7_told 11 = .ok (.iload_n 2, 1) := by decide +kernel
theorem dX7_told_12 : decode cX7_told 12 = .ok (.tableswitch 155 0 8 #[52, 62, 72, 82, 92, 102, 111, 124, 133], 52) := by decide +kernel
theorem dX7_told_64 : decode cX7_told 64 = .ok (.aload_n 0, 1) := by decide +kernel
theorem dX7_told_65 : decode cX7_told 65 = .ok (.getfield 10, 3) := by decide +kernel
theorem dX7_told_68 : decode cX7_told 68 = .ok (.getfield 97, 3) := by decide +kernel
theorem dX7_told_71 : decode cX7_told 71 = .ok (.iload_n 1, 1) := by decide +kernel
theorem dX7_told_72 : decode cX7_told 72 = .ok (.iaload, 1) := by decide +kernel
theorem dX7_told_73 : decode cX7_told 73 = .ok (.ireturn, 1) := by decide +kernel
theorem dX7_told_74 : decode cX7_told 74 = .ok (.aload_n 0, 1) := by decide +kernel
theorem dX7_told_75 : decode cX7_told 75 = .ok (.getfield 10, 3) := by decide +kernel
theorem dX7_told_78 : decode cX7_told 78 = .ok (.getfield 100, 3) := by decide +kernel
theorem dX7_told_81 : decode cX7_told 81 = .ok (.iload_n 1, 1) := by decide +kernel
theorem dX7_told_82 : decode cX7_told 82 = .ok (.iaload, 1) := by decide +kernel
theorem dX7_told_83 : decode cX7_told 83 = .ok (.ireturn, 1) := by decide +kernel
theorem dX7_told_84 : decode cX7_told 84 = .ok (.aload_n 0, 1) := by decide +kernel
theorem dX7_told_85 : decode cX7_told 85 = .ok (.getfield 10, 3) := by decide +kernel
theorem dX7_told_88 : decode cX7_told 88 = .ok (.getfield 103, 3) := by decide +kernel
theorem dX7_told_91 : decode cX7_told 91 = .ok (.iload_n 1, 1) := by decide +kernel
theorem dX7_told_92 : decode cX7_told 92 = .ok (.iaload, 1) := by decide +kernel
theorem dX7_told_93 : decode cX7_told 93 = .ok (.ireturn, 1) := by decide +kernel
theorem dX7_told_94 : decode cX7_told 94 = .ok (.aload_n 0, 1) := by decide +kernel
theorem dX7_told_95 : decode cX7_told 95 = .ok (.getfield 10, 3) := by decide +kernel
theorem dX7_told_98 : decode cX7_told 98 = .ok (.getfield 106, 3) := by decide +kernel
theorem dX7_told_101 : decode cX7_told 101 = .ok (.iload_n 1, 1) := by decide +kernel
theorem dX7_told_102 : decode cX7_told 102 = .ok (.iaload, 1) := by decide +kernel
theorem dX7_told_103 : decode cX7_told 103 = .ok (.ireturn, 1) := by decide +kernel
theorem dX7_told_104 : decode cX7_told 104 = .ok (.aload_n 0, 1) := by decide +kernel
theorem dX7_told_105 : decode cX7_told 105 = .ok (.getfield 10, 3) := by decide +kernel
theorem dX7_told_108 : decode cX7_told 108 = .ok (.getfield 109, 3) := by decide +kernel
theorem dX7_told_111 : decode cX7_told 111 = .ok (.iload_n 1, 1) := by decide +kernel
theorem dX7_told_112 : decode cX7_told 112 = .ok (.iaload, 1) := by decide +kernel
theorem dX7_told_113 : decode cX7_told 113 = .ok (.ireturn, 1) := by decide +kernel
theorem dX7_told_114 : decode cX7_told 114 = .ok (.aload_n 0, 1) := by decide +kernel
theorem dX7_told_115 : decode cX7_told 115 = .ok (.getfield 10, 3) := by decide +kernel
theorem dX7_told_118 : decode cX7_told 118 = .ok (.iload_n 1, 1) := by decide +kernel
theorem dX7_told_119 : decode cX7_told 119 = .ok (.invokevirtual 112, 3) := by decide +kernel
theorem dX7_told_122 : decode cX7_told 122 = .ok (.ireturn, 1) := by decide +kernel
theorem dX7_told_123 : decode cX7_told 123 = .ok (.aload_n 0, 1) := by decide +kernel
theorem dX7_told_124 : decode cX7_told 124 = .ok (.getfield 10, 3) := by decide +kernel
theorem dX7_told_127 : decode cX7_told 127 = .ok (.iload_n 1, 1) := by decide +kernel
theorem dX7_told_128 : decode cX7_told 128 = .ok (.aload_n 0, 1) := by decide +kernel
theorem dX7_told_129 : decode cX7_told 129 = .ok (.getfield 47, 3) := by decide +kernel
theorem dX7_told_132 : decode cX7_told 132 = .ok (.invokevirtual 116, 3) := by decide +kernel
theorem dX7_told_135 : decode cX7_told 135 = .ok (.ireturn, 1) := by decide +kernel
theorem dX7_told_136 : decode cX7_told 136 = .ok (.aload_n 0, 1) := by decide +kernel
theorem dX7_told_137 : decode cX7_told 137 = .ok (.getfield 10, 3) := by decide +kernel
theorem dX7_told_140 : decode cX7_told 140 = .ok (.iload_n 1, 1) := by decide +kernel
theorem dX7_told_141 : decode cX7_told 141 = .ok (.invokevirtual 120, 3) := by decide +kernel
theorem dX7_told_144 : decode cX7_told 144 = .ok (.ireturn, 1) := by decide +kernel
theorem dX7_told_145 : decode cX7_told 145 = .ok (.aload_n 0, 1) := by decide +kernel
theorem dX7_told_146 : decode cX7_told 146 = .ok (.getfield 10, 3) := by decide +kernel
theorem dX7_told_149 : decode cX7_told 149 = .ok (.getfield 97, 3) := by decide +kernel
theorem dX7_told_152 : decode cX7_told 152 = .ok (.iload_n 1, 1) := by decide +kernel
theorem dX7_told_153 : decode cX7_told 153 = .ok (.iaload, 1) := by decide +kernel
theorem dX7_told_154 : decode cX7_told 154 = .ok (.aload_n 0, 1) := by decide +kernel
theorem dX7_told_155 : decode cX7_told 155 = .ok (.getfield 10, 3) := by decide +kernel
theorem dX7_told_158 : decode cX7_told 158 = .ok (.getfield 103, 3) := by decide +kernel
theorem dX7_told_161 : decode cX7_told 161 = .ok (.iload_n 1, 1) := by decide +kernel
theorem dX7_told_162 : decode cX7_told 162 = .ok (.iaload, 1) := by decide +kernel
theorem dX7_told_163 : decode cX7_told 163 = .ok (.invokestatic 123, 3) := by decide +kernel
theorem dX7_told_166 : decode cX7_told 166 = .ok (.ireturn, 1) := by decide +kernel
theorem dX7_told_167 : decode cX7_told 167 = .ok (.ldc 85, 2) := by decide +kernel
theorem dX7_told_169 : decode cX7_told 169 = .ok (.ireturn, 1) := by decide +kernel
theorem dX7_as_0 : decode cX7_as 0 = .ok (.aload_n 0, 1) := by decide +kernel
theorem dX7_as_1 : decode cX7_as 1 = .ok (.iload_n 1, 1) := by decide +kernel
theorem dX7_as_2 : decode cX7_as 2 = .ok (.invokevirtual 94, 3) := by decide +kernel
theorem dX7_as_5 : decode cX7_as 5 = .ok (.ifCond .eq 10, 3) := by decide +kernel
theorem dX7_as_8 : decode cX7_as 8 = .ok (.iload_n 2, 1) := by decide +kernel
theorem dX7_as_9 : decode cX7_as 9 = .ok (.invokestatic 72, 3) := by decide +kernel
theorem dX7_as_12 : decode cX7_as 12 = .ok (.ifCond .ne 6, 3) := by decide +kernel
theorem dX7_as_15 : decode cX7_as 15 = .ok (.ldc 85, 2) := by decide +kernel
theorem dX7_as_17 : decode cX7_as 17 = .ok (.ireturn, 1) := by decide +kernel
theorem dX7_as_18 : decode cX7_as 18 = .ok (.aload_n 0, 1) := by decide +kernel
theorem dX7_as_19 : decode cX7_as 19 = .ok (.getfield 10, 3) := by decide +kernel
theorem dX7_as_22 : decode cX7_as 22 = .ok (.getfield 97, 3) := by decide +kernel
theorem dX7_as_25 : decode cX7_as 25 = .ok (.iload_n 1, 1) := by decide +kernel
theorem dX7_as_26 : decode cX7_as 26 = .ok (.iaload, 1) := by decide +kernel
theorem dX7_as_27 : decode cX7_as 27 = .ok (.iload_n 2, 1) := by decide +kernel
theorem dX7_as_28 : decode cX7_as 28 = .ok (.invokestatic 129, 3) := by decide +kernel
theorem dX7_as_31 : decode cX7_as 31 = .ok (.ifCond .eq 15, 3) := by decide +kernel
theorem dX7_as_34 : decode cX7_as 34 = .ok (.aload_n 0, 1) := by decide +kernel
theorem dX7_as_35 : decode cX7_as 35 = .ok (.getfield 10, 3) := by decide +kernel
theorem dX7_as_38 : decode cX7_as 38 = .ok (.getfield 103, 3) := by decide +kernel
theorem dX7_as_41 : decode cX7_as 41 = .ok (.iload_n 1, 1) := by decide +kernel
theorem dX7_as_42 : decode cX7_as 42 = .ok (.iaload, 1) := by decide +kernel
theorem dX7_as_43 : decode cX7_as 43 = .ok (.goto 5, 3) := by decide +kernel
theorem dX7_as_46 : decode cX7_as 46 = .ok (.ldc 133, 2) := by decide +kernel
theorem dX7_as_48 : decode cX7_as 48 = .ok (.ireturn, 1) := by decide +kernel
theorem dX7_turns_0 : decode cX7_turns 0 = .ok (.aload_n 0, 1) := by decide +kernel
theorem dX7_turns_1 : decode cX7_turns 1 = .ok (.iload_n 1, 1) := by decide +kernel
theorem dX7_turns_2 : decode cX7_turns 2 = .ok (.invokevirtual 94, 3) := by decide +kernel
theorem dX7_turns_5 : decode cX7_turns 5 = .ok (.ifCond .eq 10, 3) := by decide +kernel
theorem dX7_turns_8 : decode cX7_turns 8 = .ok (.iload_n 2, 1) := by decide +kernel
theorem dX7_turns_9 : decode cX7_turns 9 = .ok (.invokestatic 72, 3) := by decide +kernel
theorem dX7_turns_12 : decode cX7_turns 12 = .ok (.ifCond .ne 6, 3) := by decide +kernel
theorem dX7_turns_15 : decode cX7_turns 15 = .ok (.ldc 85, 2) := by decide +kernel
theorem dX7_turns_17 : decode cX7_turns 17 = .ok (.ireturn, 1) := by decide +kernel
theorem dX7_turns_18 : decode cX7_turns 18 = .ok (.aload_n 0, 1) := by decide +kernel
theorem dX7_turns_19 : decode cX7_turns 19 = .ok (.getfield 10, 3) := by decide +kernel
theorem dX7_turns_22 : decode cX7_turns 22 = .ok (.getfield 97, 3) := by decide +kernel
theorem dX7_turns_25 : decode cX7_turns 25 = .ok (.iload_n 1, 1) := by decide +kernel
theorem dX7_turns_26 : decode cX7_turns 26 = .ok (.iload_n 2, 1) := by decide +kernel
theorem dX7_turns_27 : decode cX7_turns 27 = .ok (.invokestatic 134, 3) := by decide +kernel
theorem dX7_turns_30 : decode cX7_turns 30 = .ok (.ireturn, 1) := by decide +kernel
theorem dX7_set_0 : decode cX7_set 0 = .ok (.aload_n 0, 1) := by decide +kernel
theorem dX7_set_1 : decode cX7_set 1 = .ok (.iload_n 1, 1) := by decide +kernel
theorem dX7_set_2 : decode cX7_set 2 = .ok (.invokevirtual 94, 3) := by decide +kernel
theorem dX7_set_5 : decode cX7_set 5 = .ok (.ifCond .ne 6, 3) := by decide +kernel
theorem dX7_set_8 : decode cX7_set 8 = .ok (.ldc 85, 2) := by decide +kernel
theorem dX7_set_10 : decode cX7_set 10 = .ok (.ireturn, 1) := by decide +kernel
theorem dX7_set_11 : decode cX7_set 11 = .ok (.iload_n 2, 1) := by decide +kernel
theorem dX7_set_12 : decode cX7_set 12 = .ok (.tableswitch 103 1 3 #[28, 53, 78], 28) := by decide +kernel
theorem dX7_set_40 : decode cX7_set 40 = .ok (.iload_n 3, 1) := by decide +kernel
theorem dX7_set_41 : decode cX7_set 41 = .ok (.invokestatic 76, 3) := by decide +kernel
theorem dX7_set_44 : decode cX7_set 44 = .ok (.ifCond .eq 18, 3) := by decide +kernel
theorem dX7_set_47 : decode cX7_set 47 = .ok (.aload_n 0, 1) := by decide +kernel
theorem dX7_set_48 : decode cX7_set 48 = .ok (.getfield 10, 3) := by decide +kernel
theorem dX7_set_51 : decode cX7_set 51 = .ok (.getfield 100, 3) := by decide +kernel
theorem dX7_set_54 : decode cX7_set 54 = .ok (.iload_n 1, 1) := by decide +kernel
theorem dX7_set_55 : decode cX7_set 55 = .ok (.iload_n 3, 1) := by decide +kernel
theorem dX7_set_56 : decode cX7_set 56 = .ok (.invokestatic 134, 3) := by decide +kernel
theorem dX7_set_59 : decode cX7_set 59 = .ok (.goto 5, 3) := by decide +kernel
theorem dX7_set_62 : decode cX7_set 62 = .ok (.ldc 85, 2) := by decide +kernel
theorem dX7_set_64 : decode cX7_set 64 = .ok (.ireturn, 1) := by decide +kernel
theorem dX7_set_65 : decode cX7_set 65 = .ok (.iload_n 3, 1) := by decide +kernel
theorem dX7_set_66 : decode cX7_set 66 = .ok (.invokestatic 79, 3) := by decide +kernel
theorem dX7_set_69 : decode cX7_set 69 = .ok (.ifCond .eq 18, 3) := by decide +kernel
theorem dX7_set_72 : decode cX7_set 72 = .ok (.aload_n 0, 1) := by decide +kernel
theorem dX7_set_73 : decode cX7_set 73 = .ok (.getfield 10, 3) := by decide +kernel
theorem dX7_set_76 : decode cX7_set 76 = .ok (.getfield 103, 3) := by decide +kernel
theorem dX7_set_79 : decode cX7_set 79 = .ok (.iload_n 1, 1) := by decide +kernel
theorem dX7_set_80 : decode cX7_set 80 = .ok (.iload_n 3, 1) := by decide +kernel
theorem dX7_set_81 : decode cX7_set 81 = .ok (.invokestatic 134, 3) := by decide +kernel
theorem dX7_set_84 : decode cX7_set 84 = .ok (.goto 5, 3) := by decide +kernel
theorem dX7_set_87 : decode cX7_set 87 = .ok (.ldc 85, 2) := by decide +kernel
theorem dX7_set_89 : decode cX7_set 89 = .ok (.ireturn, 1) := by decide +kernel
theorem dX7_set_90 : decode cX7_set 90 = .ok (.iload_n 3, 1) := by decide +kernel
theorem dX7_set_91 : decode cX7_set 91 = .ok (.invokestatic 82, 3) := by decide +kernel
theorem dX7_set_94 : decode cX7_set 94 = .ok (.ifCond .eq 18, 3) := by decide +kernel
theorem dX7_set_97 : decode cX7_set 97 = .ok (.aload_n 0, 1) := by decide +kernel
theorem dX7_set_98 : decode cX7_set 98 = .ok (.getfield 10, 3) := by decide +kernel
theorem dX7_set_101 : decode cX7_set 101 = .ok (.getfield 106, 3) := by decide +kernel
theorem dX7_set_104 : decode cX7_set 104 = .ok (.iload_n 1, 1) := by decide +kernel
theorem dX7_set_105 : decode cX7_set 105 = .ok (.iload_n 3, 1) := by decide +kernel
theorem dX7_set_106 : decode cX7_set 106 = .ok (.invokestatic 134, 3) := by decide +kernel
theorem dX7_set_109 : decode cX7_set 109 = .ok (.goto 5, 3) := by decide +kernel
theorem dX7_set_112 : decode cX7_set 112 = .ok (.ldc 85, 2) := by decide +kernel
theorem dX7_set_114 : decode cX7_set 114 = .ok (.ireturn, 1) := by decide +kernel
theorem dX7_set_115 : decode cX7_set 115 = .ok (.ldc 85, 2) := by decide +kernel
theorem dX7_set_117 : decode cX7_set 117 = .ok (.ireturn, 1) := by decide +kernel
theorem dX7_room_0 : decode cX7_room 0 = .ok (.iload_n 1, 1) := by decide +kernel
theorem dX7_room_1 : decode cX7_room 1 = .ok (.invokestatic 76, 3) := by decide +kernel
theorem dX7_room_4 : decode cX7_room 4 = .ok (.ifCond .ne 6, 3) := by decide +kernel
theorem dX7_room_7 : decode cX7_room 7 = .ok (.ldc 85, 2) := by decide +kernel
theorem dX7_room_9 : decode cX7_room 9 = .ok (.ireturn, 1) := by decide +kernel
theorem dX7_room_10 : decode cX7_room 10 = .ok (.iload_n 2, 1) := by decide +kernel
theorem dX7_room_11 : decode cX7_room 11 = .ok (.lookupswitch 78 #[(0, 25), (1, 53)], 25) := by decide +kernel
theorem dX7_room_36 : decode cX7_room 36 = .ok (.iload_n 3, 1) := by decide +kernel
theorem dX7_room_37 : decode cX7_room 37 = .ok (.ifCond .lt 24, 3) := by decide +kernel
theorem dX7_room_40 : decode cX7_room 40 = .ok (.iload_n 3, 1) := by decide +kernel
theorem dX7_room_41 : decode cX7_room 41 = .ok (.bipush 9, 2) := by decide +kernel
theorem dX7_room_43 : decode cX7_room 43 = .ok (.if_icmp .gt 18, 3) := by decide +kernel
theorem dX7_room_46 : decode cX7_room 46 = .ok (.aload_n 0, 1) := by decide +kernel
theorem dX7_room_47 : decode cX7_room 47 = .ok (.getfield 10, 3) := by decide +kernel
theorem dX7_room_50 : decode cX7_room 50 = .ok (.getfield 138, 3) := by decide +kernel
theorem dX7_room_53 : decode cX7_room 53 = .ok (.iload_n 1, 1) := by decide +kernel
theorem dX7_room_54 : decode cX7_room 54 = .ok (.iload_n 3, 1) := by decide +kernel
theorem dX7_room_55 : decode cX7_room 55 = .ok (.invokestatic 134, 3) := by decide +kernel
theorem dX7_room_58 : decode cX7_room 58 = .ok (.goto 5, 3) := by decide +kernel
theorem dX7_room_61 : decode cX7_room 61 = .ok (.ldc 85, 2) := by decide +kernel
theorem dX7_room_63 : decode cX7_room 63 = .ok (.ireturn, 1) := by decide +kernel
theorem dX7_room_64 : decode cX7_room 64 = .ok (.iload_n 3, 1) := by decide +kernel
theorem dX7_room_65 : decode cX7_room 65 = .ok (.invokestatic 76, 3) := by decide +kernel
theorem dX7_room_68 : decode cX7_room 68 = .ok (.ifCond .eq 18, 3) := by decide +kernel
theorem dX7_room_71 : decode cX7_room 71 = .ok (.aload_n 0, 1) := by decide +kernel
theorem dX7_room_72 : decode cX7_room 72 = .ok (.getfield 10, 3) := by decide +kernel
theorem dX7_room_75 : decode cX7_room 75 = .ok (.getfield 141, 3) := by decide +kernel
theorem dX7_room_78 : decode cX7_room 78 = .ok (.iload_n 1, 1) := by decide +kernel
theorem dX7_room_79 : decode cX7_room 79 = .ok (.iload_n 3, 1) := by decide +kernel
theorem dX7_room_80 : decode cX7_room 80 = .ok (.invokestatic 134, 3) := by decide +kernel
theorem dX7_room_83 : decode cX7_room 83 = .ok (.goto 5, 3) := by decide +kernel
theorem dX7_room_86 : decode cX7_room 86 = .ok (.ldc 85, 2) := by decide +kernel
theorem dX7_room_88 : decode cX7_room 88 = .ok (.ireturn, 1) := by decide +kernel
theorem dX7_room_89 : decode cX7_room 89 = .ok (.ldc 85, 2) := by decide +kernel
theorem dX7_room_91 : decode cX7_room 91 = .ok (.ireturn, 1) := by decide +kernel
theorem dX7_sweep_0 : decode cX7_sweep 0 = .ok (.iload_n 1, 1) := by decide +kernel
theorem dX7_sweep_1 : decode cX7_sweep 1 = .ok (.invokestatic 76, 3) := by decide +kernel
theorem dX7_sweep_4 : decode cX7_sweep 4 = .ok (.ifCond .eq 18, 3) := by decide +kernel
theorem dX7_sweep_7 : decode cX7_sweep 7 = .ok (.aload_n 0, 1) := by decide +kernel
theorem dX7_sweep_8 : decode cX7_sweep 8 = .ok (.getfield 10, 3) := by decide +kernel
theorem dX7_sweep_11 : decode cX7_sweep 11 = .ok (.getfield 144, 3) := by decide +kernel
theorem dX7_sweep_14 : decode cX7_sweep 14 = .ok (.iload_n 1, 1) := by decide +kernel
theorem dX7_sweep_15 : decode cX7_sweep 15 = .ok (.iconst 0, 1) := by decide +kernel
theorem dX7_sweep_16 : decode cX7_sweep 16 = .ok (.invokestatic 134, 3) := by decide +kernel
theorem dX7_sweep_19 : decode cX7_sweep 19 = .ok (.goto 5, 3) := by decide +kernel
theorem dX7_sweep_22 : decode cX7_sweep 22 = .ok (.ldc 85, 2) := by decide +kernel
theorem dX7_sweep_24 : decode cX7_sweep 24 = .ok (.ireturn, 1) := by decide +kernel
theorem dX7_watch_0 : decode cX7_watch 0 = .ok (.iload_n 1, 1) := by decide +kernel
theorem dX7_watch_1 : decode cX7_watch 1 = .ok (.ifCond .lt 9, 3) := by decide +kernel
theorem dX7_watch_4 : decode cX7_watch 4 = .ok (.iload_n 1, 1) := by decide +kernel
theorem dX7_watch_5 : decode cX7_watch 5 = .ok (.bipush 100, 2) := by decide +kernel
theorem dX7_watch_7 : decode cX7_watch 7 = .ok (.if_icmp .le 6, 3) := by decide +kernel
theorem dX7_watch_10 : decode cX7_watch 10 = .ok (.ldc 85, 2) := by decide +kernel
theorem dX7_watch_12 : decode cX7_watch 12 = .ok (.ireturn, 1) := by decide +kernel
theorem dX7_watch_13 : decode cX7_watch 13 = .ok (.aload_n 0, 1) := by decide +kernel
theorem dX7_watch_14 : decode cX7_watch 14 = .ok (.getfield 10, 3) := by decide +kernel
theorem dX7_watch_17 : decode cX7_watch 17 = .ok (.getfield 147, 3) := by decide +kernel
theorem dX7_watch_20 : decode cX7_watch 20 = .ok (.istore_n 2, 1) := by decide +kernel
theorem dX7_watch_21 : decode cX7_watch 21 = .ok (.aload_n 0, 1) := by decide +kernel
theorem dX7_watch_22 : decode cX7_watch 22 = .ok (.getfield 10, 3) := by decide +kernel
theorem dX7_watch_25 : decode cX7_watch 25 = .ok (.iload_n 1, 1) := by decide +kernel
theorem dX7_watch_26 : decode cX7_watch 26 = .ok (.putfield 147, 3) := by decide +kernel
theorem dX7_watch_29 : decode cX7_watch 29 = .ok (.iload_n 2, 1) := by decide +kernel
theorem dX7_watch_30 : decode cX7_watch 30 = .ok (.ireturn, 1) := by decide +kernel
theorem dX7_at_0 : decode cX7_at 0 = .ok (.iload_n 1, 1) := by decide +kernel
theorem dX7_at_1 : decode cX7_at 1 = .ok (.invokestatic 76, 3) := by decide +kernel
theorem dX7_at_4 : decode cX7_at 4 = .ok (.ifCond .eq 14, 3) := by decide +kernel
theorem dX7_at_7 : decode cX7_at 7 = .ok (.aload_n 0, 1) := by decide +kernel
theorem dX7_at_8 : decode cX7_at 8 = .ok (.getfield 10, 3) := by decide +kernel
theorem dX7_at_11 : decode cX7_at 11 = .ok (.iload_n 1, 1) := by decide +kernel
theorem dX7_at_12 : decode cX7_at 12 = .ok (.invokevirtual 150, 3) := by decide +kernel
theorem dX7_at_15 : decode cX7_at 15 = .ok (.goto 5, 3) := by decide +kernel
theorem dX7_at_18 : decode cX7_at 18 = .ok (.ldc 85, 2) := by decide +kernel
theorem dX7_at_20 : decode cX7_at 20 = .ok (.ireturn, 1) := by decide +kernel
theorem dX7_round_0 : decode cX7_round 0 = .ok (.iload_n 1, 1) := by decide +kernel
theorem dX7_round_1 : decode cX7_round 1 = .ok (.invokestatic 76, 3) := by decide +kernel
theorem dX7_round_4 : decode cX7_round 4 = .ok (.ifCond .eq 14, 3) := by decide +kernel
theorem dX7_round_7 : decode cX7_round 7 = .ok (.aload_n 0, 1) := by decide +kernel
theorem dX7_round_8 : decode cX7_round 8 = .ok (.getfield 10, 3) := by decide +kernel
theorem dX7_round_11 : decode cX7_round 11 = .ok (.iload_n 1, 1) := by decide +kernel
theorem dX7_round_12 : decode cX7_round 12 = .ok (.invokevirtual 153, 3) := by decide +kernel
theorem dX7_round_15 : decode cX7_round 15 = .ok (.goto 5, 3) := by decide +kernel
theorem dX7_round_18 : decode cX7_round 18 = .ok (.ldc 85, 2) := by decide +kernel
theorem dX7_round_20 : decode cX7_round 20 = .ok (.ireturn, 1) := by decide +kernel
theorem dX7_to_0 : decode cX7_to 0 = .ok (.iload_n 1, 1) := by decide +kernel
theorem dX7_to_1 : decode cX7_to 1 = .ok (.invokestatic 76, 3) := by decide +kernel
theorem dX7_to_4 : decode cX7_to 4 = .ok (.ifCond .eq 10, 3) := by decide +kernel
theorem dX7_to_7 : decode cX7_to 7 = .ok (.iload_n 2, 1) := by decide +kernel
theorem dX7_to_8 : decode cX7_to 8 = .ok (.invokestatic 76, 3) := by decide +kernel
theorem dX7_to_11 : decode cX7_to 11 = .ok (.ifCond .ne 6, 3) := by decide +kernel
theorem dX7_to_14 : decode cX7_to 14 = .ok (.ldc 85, 2) := by decide +kernel
theorem dX7_to_16 : decode cX7_to 16 = .ok (.ireturn, 1) := by decide +kernel
theorem dX7_to_17 : decode cX7_to 17 = .ok (.aload_n 0, 1) := by decide +kernel
theorem dX7_to_18 : decode cX7_to 18 = .ok (.getfield 10, 3) := by decide +kernel
theorem dX7_to_21 : decode cX7_to 21 = .ok (.iload_n 1, 1) := by decide +kernel
theorem dX7_to_22 : decode cX7_to 22 = .ok (.iload_n 2, 1) := by decide +kernel
theorem dX7_to_23 : decode cX7_to 23 = .ok (.invokevirtual 156, 3) := by decide +kernel
theorem dX7_to_26 : decode cX7_to 26 = .ok (.ireturn, 1) := by decide +kernel
theorem dX7_deal_0 : decode cX7_deal 0 = .ok (.iload_n 1, 1) := by decide +kernel
theorem dX7_deal_1 : decode cX7_deal 1 = .ok (.iconst 1, 1) := by decide +kernel
theorem dX7_deal_2 : decode cX7_deal 2 = .ok (.if_icmp .lt 9, 3) := by decide +kernel
theorem dX7_deal_5 : decode cX7_deal 5 = .ok (.iload_n 1, 1) := by decide +kernel
theorem dX7_deal_6 : decode cX7_deal 6 = .ok (.bipush 12, 2) := by decide +kernel
theorem dX7_deal_8 : decode cX7_deal 8 = .ok (.if_icmp .le 6, 3) := by decide +kernel
theorem dX7_deal_11 : decode cX7_deal 11 = .ok (.ldc 85, 2) := by decide +kernel
theorem dX7_deal_13 : decode cX7_deal 13 = .ok (.ireturn, 1) := by decide +kernel
theorem dX7_deal_14 : decode cX7_deal 14 = .ok (.iload_n 1, 1) := by decide +kernel
theorem dX7_deal_15 : decode cX7_deal 15 = .ok (.bipush 12, 2) := by decide +kernel
theorem dX7_deal_17 : decode cX7_deal 17 = .ok (.aload_n 0, 1) := by decide +kernel
theorem dX7_deal_18 : decode cX7_deal 18 = .ok (.getfield 10, 3) := by decide +kernel
theorem dX7_deal_21 : decode cX7_deal 21 = .ok (.getfield 86, 3) := by decide +kernel
theorem dX7_deal_24 : decode cX7_deal 24 = .ok (.isub, 1) := by decide +kernel
theorem dX7_deal_25 : decode cX7_deal 25 = .ok (.invokestatic 159, 3) := by decide +kernel
theorem dX7_deal_28 : decode cX7_deal 28 = .ok (.istore_n 2, 1) := by decide +kernel
theorem dX7_deal_29 : decode cX7_deal 29 = .ok (.iconst 0, 1) := by decide +kernel
theorem dX7_deal_30 : decode cX7_deal 30 = .ok (.istore_n 3, 1) := by decide +kernel
theorem dX7_deal_31 : decode cX7_deal 31 = .ok (.iload_n 3, 1) := by decide +kernel
theorem dX7_deal_32 : decode cX7_deal 32 = .ok (.iload_n 2, 1) := by decide +kernel
theorem dX7_deal_33 : decode cX7_deal 33 = .ok (.if_icmp .ge 17, 3) := by decide +kernel
theorem dX7_deal_36 : decode cX7_deal 36 = .ok (.aload_n 0, 1) := by decide +kernel
theorem dX7_deal_37 : decode cX7_deal 37 = .ok (.getfield 10, 3) := by decide +kernel
theorem dX7_deal_40 : decode cX7_deal 40 = .ok (.invokevirtual 164, 3) := by decide +kernel
theorem dX7_deal_43 : decode cX7_deal 43 = .ok (.pop, 1) := by decide +kernel
theorem dX7_deal_44 : decode cX7_deal 44 = .ok (.iinc 3 1, 3) := by decide +kernel
theorem dX7_deal_47 : decode cX7_deal 47 = .ok (.goto (-16), 3) := by decide +kernel
theorem dX7_deal_50 : decode cX7_deal 50 = .ok (.iload_n 2, 1) := by decide +kernel
theorem dX7_deal_51 : decode cX7_deal 51 = .ok (.ireturn, 1) := by decide +kernel
theorem dX7_seed_0 : decode cX7_seed 0 = .ok (.aload_n 0, 1) := by decide +kernel
theorem dX7_seed_1 : decode cX7_seed 1 = .ok (.getfield 10, 3) := by decide +kernel
theorem dX7_seed_4 : decode cX7_seed 4 = .ok (.getfield 168, 3) := by decide +kernel
theorem dX7_seed_7 : decode cX7_seed 7 = .ok (.istore_n 2, 1) := by decide +kernel
theorem dX7_seed_8 : decode cX7_seed 8 = .ok (.aload_n 0, 1) := by decide +kernel
theorem dX7_seed_9 : decode cX7_seed 9 = .ok (.getfield 10, 3) := by decide +kernel
theorem dX7_seed_12 : decode cX7_seed 12 = .ok (.iload_n 1, 1) := by decide +kernel
theorem dX7_seed_13 : decode cX7_seed 13 = .ok (.putfield 168, 3) := by decide +kernel
theorem dX7_seed_16 : decode cX7_seed 16 = .ok (.iload_n 2, 1) := by decide +kernel
theorem dX7_seed_17 : decode cX7_seed 17 = .ok (.ireturn, 1) := by decide +kernel
theorem dX7_hours_0 : decode cX7_hours 0 = .ok (.iload_n 1, 1) := by decide +kernel
theorem dX7_hours_1 : decode cX7_hours 1 = .ok (.iconst 1, 1) := by decide +kernel
theorem dX7_hours_2 : decode cX7_hours 2 = .ok (.if_icmp .lt 9, 3) := by decide +kernel
theorem dX7_hours_5 : decode cX7_hours 5 = .ok (.iload_n 1, 1) := by decide +kernel
theorem dX7_hours_6 : decode cX7_hours 6 = .ok (.bipush 100, 2) := by decide +kernel
theorem dX7_hours_8 : decode cX7_hours 8 = .ok (.if_icmp .le 6, 3) := by decide +kernel
theorem dX7_hours_11 : decode cX7_hours 11 = .ok (.ldc 85, 2) := by decide +kernel
theorem dX7_hours_13 : decode cX7_hours 13 = .ok (.ireturn, 1) := by decide +kernel
theorem dX7_hours_14 : decode cX7_hours 14 = .ok (.aload_n 0, 1) := by decide +kernel
theorem dX7_hours_15 : decode cX7_hours 15 = .ok (.getfield 10, 3) := by decide +kernel
theorem dX7_hours_18 : decode cX7_hours 18 = .ok (.iload_n 1, 1) := by decide +kernel
theorem dX7_hours_19 : decode cX7_hours 19 = .ok (.sipush 9999, 3) := by decide +kernel
theorem dX7_hours_22 : decode cX7_hours 22 = .ok (.aload_n 0, 1) := by decide +kernel
theorem dX7_hours_23 : decode cX7_hours 23 = .ok (.getfield 10, 3) := by decide +kernel
theorem dX7_hours_26 : decode cX7_hours 26 = .ok (.getfield 171, 3) := by decide +kernel
theorem dX7_hours_29 : decode cX7_hours 29 = .ok (.isub, 1) := by decide +kernel
theorem dX7_hours_30 : decode cX7_hours 30 = .ok (.invokestatic 159, 3) := by decide +kernel
theorem dX7_hours_33 : decode cX7_hours 33 = .ok (.aload_n 0, 1) := by decide +kernel
theorem dX7_hours_34 : decode cX7_hours 34 = .ok (.getfield 47, 3) := by decide +kernel
theorem dX7_hours_37 : decode cX7_hours 37 = .ok (.invokevirtual 174, 3) := by decide +kernel
theorem dX7_hours_40 : decode cX7_hours 40 = .ok (.ireturn, 1) := by decide +kernel
theorem dX7_house_0 : decode cX7_house 0 = .ok (.iload_n 1, 1) := by decide +kernel
theorem dX7_house_1 : decode cX7_house 1 = .ok (.tableswitch 87 0 5 #[39, 47, 55, 63, 71, 79], 39) := by decide +kernel
theorem dX7_house_40 : decode cX7_house 40 = .ok (.aload_n 0, 1) := by decide +kernel
theorem dX7_house_41 : decode cX7_house 41 = .ok (.getfield 10, 3) := by decide +kernel
theorem dX7_house_44 : decode cX7_house 44 = .ok (.getfield 177, 3) := by decide +kernel
theorem dX7_house_47 : decode cX7_house 47 = .ok (.ireturn, 1) := by decide +kernel
theorem dX7_house_48 : decode cX7_house 48 = .ok (.aload_n 0, 1) := by decide +kernel
theorem dX7_house_49 : decode cX7_house 49 = .ok (.getfield 10, 3) := by decide +kernel
theorem dX7_house_52 : decode cX7_house 52 = .ok (.getfield 180, 3) := by decide +kernel
theorem dX7_house_55 : decode cX7_house 55 = .ok (.ireturn, 1) := by decide +kernel
theorem dX7_house_56 : decode cX7_house 56 = .ok (.aload_n 0, 1) := by decide +kernel
theorem dX7_house_57 : decode cX7_house 57 = .ok (.getfield 10, 3) := by decide +kernel
theorem dX7_house_60 : decode cX7_house 60 = .ok (.invokevirtual 183, 3) := by decide +kernel
theorem dX7_house_63 : decode cX7_house 63 = .ok (.ireturn, 1) := by decide +kernel
theorem dX7_house_64 : decode cX7_house 64 = .ok (.aload_n 0, 1) := by decide +kernel
theorem dX7_house_65 : decode cX7_house 65 = .ok (.getfield 10, 3) := by decide +kernel
theorem dX7_house_68 : decode cX7_house 68 = .ok (.invokevirtual 186, 3) := by decide +kernel
theorem dX7_house_71 : decode cX7_house 71 = .ok (.ireturn, 1) := by decide +kernel
theorem dX7_house_72 : decode cX7_house 72 = .ok (.aload_n 0, 1) := by decide +kernel
theorem dX7_house_73 : decode cX7_house 73 = .ok (.getfield 10, 3) := by decide +kernel
theorem dX7_house_76 : decode cX7_house 76 = .ok (.invokevirtual 189, 3) := by decide +kernel
theorem dX7_house_79 : decode cX7_house 79 = .ok (.ireturn, 1) := by decide +kernel
theorem dX7_house_80 : decode cX7_house 80 = .ok (.aload_n 0, 1) := by decide +kernel
theorem dX7_house_81 : decode cX7_house 81 = .ok (.getfield 10, 3) := by decide +kernel
theorem dX7_house_84 : decode cX7_house 84 = .ok (.invokevirtual 192, 3) := by decide +kernel
theorem dX7_house_87 : decode cX7_house 87 = .ok (.ireturn, 1) := by decide +kernel
theorem dX7_house_88 : decode cX7_house 88 = .ok (.ldc 85, 2) := by decide +kernel
theorem dX7_house_90 : decode cX7_house 90 = .ok (.ireturn, 1) := by decide +kernel
theorem dX7_behind_0 : decode cX7_behind 0 = .ok (.iload_n 2, 1) := by decide +kernel
theorem dX7_behind_1 : decode cX7_behind 1 = .ok (.ifCond .lt 22, 3) := by decide +kernel
theorem dX7_behind_4 : decode cX7_behind 4 = .ok (.iload_n 2, 1) := by decide +kernel
theorem dX7_behind_5 : decode cX7_behind 5 = .ok (.iconst 2, 1) := by decide +kernel
theorem dX7_behind_6 : decode cX7_behind 6 = .ok (.if_icmp .le 13, 3) := by decide +kernel
theorem dX7_behind_9 : decode cX7_behind 9 = .ok (.aload_n 0, 1) := by decide +kernel
theorem dX7_behind_10 : decode cX7_behind 10 = .ok (.iload_n 2, 1) := by decide +kernel
theorem dX7_behind_11 : decode cX7_behind 11 = .ok (.iconst 3, 1) := by decide +kernel
theorem dX7_behind_12 : decode cX7_behind 12 = .ok (.isub, 1) := by decide +kernel
theorem dX7_behind_13 : decode cX7_behind 13 = .ok (.invokevirtual 94, 3) := by decide +kernel
theorem dX7_behind_16 : decode cX7_behind 16 = .ok (.ifCond .eq 7, 3) := by decide +kernel
theorem dX7_behind_19 : decode cX7_behind 19 = .ok (.iconst 1, 1) := by decide +kernel
theorem dX7_behind_20 : decode cX7_behind 20 = .ok (.goto 4, 3) := by decide +kernel
theorem dX7_behind_23 : decode cX7_behind 23 = .ok (.iconst 0, 1) := by decide +kernel
theorem dX7_behind_24 : decode cX7_behind 24 = .ok (.istore_n 3, 1) := by decide +kernel
theorem dX7_behind_25 : decode cX7_behind 25 = .ok (.iload_n 1, 1) := by decide +kernel
theorem dX7_behind_26 : decode cX7_behind 26 = .ok (.ifCond .lt 13, 3) := by decide +kernel
theorem dX7_behind_29 : decode cX7_behind 29 = .ok (.iload_n 1, 1) := by decide +kernel
theorem dX7_behind_30 : decode cX7_behind 30 = .ok (.bipush 100, 2) := by decide +kernel
theorem dX7_behind_32 : decode cX7_behind 32 = .ok (.if_icmp .gt 7, 3) := by decide +kernel
theorem dX7_behind_35 : decode cX7_behind 35 = .ok (.iload_n 3, 1) := by decide +kernel
theorem dX7_behind_36 : decode cX7_behind 36 = .ok (.ifCond .ne 6, 3) := by decide +kernel
theorem dX7_behind_39 : decode cX7_behind 39 = .ok (.ldc 85, 2) := by decide +kernel
theorem dX7_behind_41 : decode cX7_behind 41 = .ok (.ireturn, 1) := by decide +kernel
theorem dX7_behind_42 : decode cX7_behind 42 = .ok (.aload_n 0, 1) := by decide +kernel
theorem dX7_behind_43 : decode cX7_behind 43 = .ok (.getfield 23, 3) := by decide +kernel
theorem dX7_behind_46 : decode cX7_behind 46 = .ok (.aload_n 0, 1) := by decide +kernel
theorem dX7_behind_47 : decode cX7_behind 47 = .ok (.getfield 10, 3) := by decide +kernel
theorem dX7_behind_50 : decode cX7_behind 50 = .ok (.invokevirtual 195, 3) := by decide +kernel
theorem dX7_behind_53 : decode cX7_behind 53 = .ok (.aload_n 0, 1) := by decide +kernel
theorem dX7_behind_54 : decode cX7_behind 54 = .ok (.getfield 23, 3) := by decide +kernel
theorem dX7_behind_57 : decode cX7_behind 57 = .ok (.iload_n 1, 1) := by decide +kernel
theorem dX7_behind_58 : decode cX7_behind 58 = .ok (.aload_n 0, 1) := by decide +kernel
theorem dX7_behind_59 : decode cX7_behind 59 = .ok (.getfield 47, 3) := by decide +kernel
theorem dX7_behind_62 : decode cX7_behind 62 = .ok (.invokevirtual 174, 3) := by decide +kernel
theorem dX7_behind_65 : decode cX7_behind 65 = .ok (.pop, 1) := by decide +kernel
theorem dX7_behind_66 : decode cX7_behind 66 = .ok (.iload_n 2, 1) := by decide +kernel
theorem dX7_behind_67 : decode cX7_behind 67 = .ok (.tableswitch 49 0 2 #[25, 33, 41], 25) := by decide +kernel
theorem dX7_behind_92 : decode cX7_behind 92 = .ok (.aload_n 0, 1) := by decide +kernel
theorem dX7_behind_93 : decode cX7_behind 93 = .ok (.getfield 23, 3) := by decide +kernel
theorem dX7_behind_96 : decode cX7_behind 96 = .ok (.getfield 177, 3) := by decide +kernel
theorem dX7_behind_99 : decode cX7_behind 99 = .ok (.ireturn, 1) := by decide +kernel
theorem dX7_behind_100 : decode cX7_behind 100 = .ok (.aload_n 0, 1) := by decide +kernel
theorem dX7_behind_101 : decode cX7_behind 101 = .ok (.getfield 23, 3) := by decide +kernel
theorem dX7_behind_104 : decode cX7_behind 104 = .ok (.invokevirtual 183, 3) := by decide +kernel
theorem dX7_behind_107 : decode cX7_behind 107 = .ok (.ireturn, 1) := by decide +kernel
theorem dX7_behind_108 : decode cX7_behind 108 = .ok (.aload_n 0, 1) := by decide +kernel
theorem dX7_behind_109 : decode cX7_behind 109 = .ok (.getfield 23, 3) := by decide +kernel
theorem dX7_behind_112 : decode cX7_behind 112 = .ok (.invokevirtual 189, 3) := by decide +kernel
theorem dX7_behind_115 : decode cX7_behind 115 = .ok (.ireturn, 1) := by decide +kernel
theorem dX7_behind_116 : decode cX7_behind 116 = .ok (.aload_n 0, 1) := by decide +kernel
theorem dX7_behind_117 : decode cX7_behind 117 = .ok (.getfield 23, 3) := by decide +kernel
theorem dX7_behind_120 : decode cX7_behind 120 = .ok (.getfield 100, 3) := by decide +kernel
theorem dX7_behind_123 : decode cX7_behind 123 = .ok (.iload_n 2, 1) := by decide +kernel
theorem dX7_behind_124 : decode cX7_behind 124 = .ok (.iconst 3, 1) := by decide +kernel
theorem dX7_behind_125 : decode cX7_behind 125 = .ok (.isub, 1) := by decide +kernel
theorem dX7_behind_126 : decode cX7_behind 126 = .ok (.iaload, 1) := by decide +kernel
theorem dX7_behind_127 : decode cX7_behind 127 = .ok (.ireturn, 1) := by decide +kernel
theorem dX7_through_0 : decode cX7_through 0 = .ok (.aload_n 0, 1) := by decide +kernel
theorem dX7_through_1 : decode cX7_through 1 = .ok (.getfield 10, 3) := by decide +kernel
theorem dX7_through_4 : decode cX7_through 4 = .ok (.invokevirtual 189, 3) := by decide +kernel
theorem dX7_through_7 : decode cX7_through 7 = .ok (.invokestatic 199, 3) := by decide +kernel
theorem dX7_through_10 : decode cX7_through 10 = .ok (.istore_n 1, 1) := by decide +kernel
theorem dX7_through_11 : decode cX7_through 11 = .ok (.aload_n 0, 1) := by decide +kernel
theorem dX7_through_12 : decode cX7_through 12 = .ok (.getfield 23, 3) := by decide +kernel
theorem dX7_through_15 : decode cX7_through 15 = .ok (.aload_n 0, 1) := by decide +kernel
theorem dX7_through_16 : decode cX7_through 16 = .ok (.getfield 10, 3) := by decide +kernel
theorem dX7_through_19 : decode cX7_through 19 = .ok (.invokevirtual 195, 3) := by decide +kernel
theorem dX7_through_22 : decode cX7_through 22 = .ok (.iconst 1, 1) := by decide +kernel
theorem dX7_through_23 : decode cX7_through 23 = .ok (.istore_n 2, 1) := by decide +kernel
theorem dX7_through_24 : decode cX7_through 24 = .ok (.iload_n 2, 1) := by decide +kernel
theorem dX7_through_25 : decode cX7_through 25 = .ok (.sipush 200, 3) := by decide +kernel
theorem dX7_through_28 : decode cX7_through 28 = .ok (.if_icmp .gt 37, 3) := by decide +kernel
theorem dX7_through_31 : decode cX7_through 31 = .ok (.aload_n 0, 1) := by decide +kernel
theorem dX7_through_32 : decode cX7_through 32 = .ok (.getfield 23, 3) := by decide +kernel
theorem dX7_through_35 : decode cX7_through 35 = .ok (.aload_n 0, 1) := by decide +kernel
theorem dX7_through_36 : decode cX7_through 36 = .ok (.getfield 47, 3) := by decide +kernel
theorem dX7_through_39 : decode cX7_through 39 = .ok (.invokevirtual 204, 3) := by decide +kernel
theorem dX7_through_42 : decode cX7_through 42 = .ok (.pop, 1) := by decide +kernel
theorem dX7_through_43 : decode cX7_through 43 = .ok (.aload_n 0, 1) := by decide +kernel
theorem dX7_through_44 : decode cX7_through 44 = .ok (.getfield 23, 3) := by decide +kernel
theorem dX7_through_47 : decode cX7_through 47 = .ok (.invokevirtual 189, 3) := by decide +kernel
theorem dX7_through_50 : decode cX7_through 50 = .ok (.invokestatic 199, 3) := by decide +kernel
theorem dX7_through_53 : decode cX7_through 53 = .ok (.iload_n 1, 1) := by decide +kernel
theorem dX7_through_54 : decode cX7_through 54 = .ok (.if_icmp .le 5, 3) := by decide +kernel
theorem dX7_through_57 : decode cX7_through 57 = .ok (.iload_n 2, 1) := by decide +kernel
theorem dX7_through_58 : decode cX7_through 58 = .ok (.ireturn, 1) := by decide +kernel
theorem dX7_through_59 : decode cX7_through 59 = .ok (.iinc 2 1, 3) := by decide +kernel
theorem dX7_through_62 : decode cX7_through 62 = .ok (.goto (-38), 3) := by decide +kernel
theorem dX7_through_65 : decode cX7_through 65 = .ok (.ldc 208, 2) := by decide +kernel
theorem dX7_through_67 : decode cX7_through 67 = .ok (.ireturn, 1) := by decide +kernel
theorem dX7_post_0 : decode cX7_post 0 = .ok (.iload_n 1, 1) := by decide +kernel
theorem dX7_post_1 : decode cX7_post 1 = .ok (.invokestatic 209, 3) := by decide +kernel
theorem dX7_post_4 : decode cX7_post 4 = .ok (.ifCond .eq 10, 3) := by decide +kernel
theorem dX7_post_7 : decode cX7_post 7 = .ok (.iload_n 2, 1) := by decide +kernel
theorem dX7_post_8 : decode cX7_post 8 = .ok (.invokestatic 212, 3) := by decide +kernel
theorem dX7_post_11 : decode cX7_post 11 = .ok (.ifCond .ne 6, 3) := by decide +kernel
theorem dX7_post_14 : decode cX7_post 14 = .ok (.ldc 85, 2) := by decide +kernel
theorem dX7_post_16 : decode cX7_post 16 = .ok (.ireturn, 1) := by decide +kernel
theorem dX7_post_17 : decode cX7_post 17 = .ok (.aload_n 0, 1) := by decide +kernel
theorem dX7_post_18 : decode cX7_post 18 = .ok (.invokevirtual 215, 3) := by decide +kernel
theorem dX7_post_21 : decode cX7_post 21 = .ok (.aload_n 0, 1) := by decide +kernel
theorem dX7_post_22 : decode cX7_post 22 = .ok (.getfield 23, 3) := by decide +kernel
theorem dX7_post_25 : decode cX7_post 25 = .ok (.aload_n 0, 1) := by decide +kernel
theorem dX7_post_26 : decode cX7_post 26 = .ok (.getfield 10, 3) := by decide +kernel
theorem dX7_post_29 : decode cX7_post 29 = .ok (.invokevirtual 195, 3) := by decide +kernel
theorem dX7_post_32 : decode cX7_post 32 = .ok (.iconst 0, 1) := by decide +kernel
theorem dX7_post_33 : decode cX7_post 33 = .ok (.istore_n 3, 1) := by decide +kernel
theorem dX7_post_34 : decode cX7_post 34 = .ok (.iload_n 3, 1) := by decide +kernel
theorem dX7_post_35 : decode cX7_post 35 = .ok (.iload_n 1, 1) := by decide +kernel
theorem dX7_post_36 : decode cX7_post 36 = .ok (.if_icmp .ge 61, 3) := by decide +kernel
theorem dX7_post_39 : decode cX7_post 39 = .ok (.aload_n 0, 1) := by decide +kernel
theorem dX7_post_40 : decode cX7_post 40 = .ok (.getfield 23, 3) := by decide +kernel
theorem dX7_post_43 : decode cX7_post 43 = .ok (.aload_n 0, 1) := by decide +kernel
theorem dX7_post_44 : decode cX7_post 44 = .ok (.getfield 47, 3) := by decide +kernel
theorem dX7_post_47 : decode cX7_post 47 = .ok (.invokevirtual 204, 3) := by decide +kernel
theorem dX7_post_50 : decode cX7_post 50 = .ok (.pop, 1) := by decide +kernel
theorem dX7_post_51 : decode cX7_post 51 = .ok (.iconst 0, 1) := by decide +kernel
theorem dX7_post_52 : decode cX7_post 52 = .ok (.istore 4, 2) := by decide +kernel
theorem dX7_post_54 : decode cX7_post 54 = .ok (.iload 4, 2) := by decide +kernel
theorem dX7_post_56 : decode cX7_post 56 = .ok (.aload_n 0, 1) := by decide +kernel
theorem dX7_post_57 : decode cX7_post 57 = .ok (.getfield 23, 3) := by decide +kernel
theorem dX7_post_60 : decode cX7_post 60 = .ok (.getfield 86, 3) := by decide +kernel
theorem dX7_post_63 : decode cX7_post 63 = .ok (.if_icmp .ge 28, 3) := by decide +kernel
theorem dX7_post_66 : decode cX7_post 66 = .ok (.aload_n 0, 1) := by decide +kernel
theorem dX7_post_67 : decode cX7_post 67 = .ok (.getfield 26, 3) := by decide +kernel
theorem dX7_post_70 : decode cX7_post 70 = .ok (.aload_n 0, 1) := by decide +kernel
theorem dX7_post_71 : decode cX7_post 71 = .ok (.getfield 23, 3) := by decide +kernel
theorem dX7_post_74 : decode cX7_post 74 = .ok (.getfield 100, 3) := by decide +kernel
theorem dX7_post_77 : decode cX7_post 77 = .ok (.iload 4, 2) := by decide +kernel
theorem dX7_post_79 : decode cX7_post 79 = .ok (.iaload, 1) := by decide +kernel
theorem dX7_post_80 : decode cX7_post 80 = .ok (.dup2, 1) := by decide +kernel
theorem dX7_post_81 : decode cX7_post 81 = .ok (.iaload, 1) := by decide +kernel
theorem dX7_post_82 : decode cX7_post 82 = .ok (.iconst 1, 1) := by decide +kernel
theorem dX7_post_83 : decode cX7_post 83 = .ok (.iadd, 1) := by decide +kernel
theorem dX7_post_84 : decode cX7_post 84 = .ok (.iastore, 1) := by decide +kernel
theorem dX7_post_85 : decode cX7_post 85 = .ok (.iinc 4 1, 3) := by decide +kernel
theorem dX7_post_88 : decode cX7_post 88 = .ok (.goto (-34), 3) := by decide +kernel
theorem dX7_post_91 : decode cX7_post 91 = .ok (.iinc 3 1, 3) := by decide +kernel
theorem dX7_post_94 : decode cX7_post 94 = .ok (.goto (-60), 3) := by decide +kernel
theorem dX7_post_97 : decode cX7_post 97 = .ok (.iconst 0, 1) := by decide +kernel
theorem dX7_post_98 : decode cX7_post 98 = .ok (.istore_n 3, 1) := by decide +kernel
theorem dX7_post_99 : decode cX7_post 99 = .ok (.iconst 1, 1) := by decide +kernel
theorem dX7_post_100 : decode cX7_post 100 = .ok (.istore 4, 2) := by decide +kernel
theorem dX7_post_102 : decode cX7_post 102 = .ok (.iload 4, 2) := by decide +kernel
theorem dX7_post_104 : decode cX7_post 104 = .ok (.bipush 10, 2) := by decide +kernel
theorem dX7_post_106 : decode cX7_post 106 = .ok (.if_icmp .ge 28, 3) := by decide +kernel
theorem dX7_post_109 : decode cX7_post 109 = .ok (.aload_n 0, 1) := by decide +kernel
theorem dX7_post_110 : decode cX7_post 110 = .ok (.getfield 26, 3) := by decide +kernel
theorem dX7_post_113 : decode cX7_post 113 = .ok (.iload 4, 2) := by decide +kernel
theorem dX7_post_115 : decode cX7_post 115 = .ok (.iaload, 1) := by decide +kernel
theorem dX7_post_116 : decode cX7_post 116 = .ok (.aload_n 0, 1) := by decide +kernel
theorem dX7_post_117 : decode cX7_post 117 = .ok (.getfield 26, 3) := by decide +kernel
theorem dX7_post_120 : decode cX7_post 120 = .ok (.iload_n 3, 1) := by decide +kernel
theorem dX7_post_121 : decode cX7_post 121 = .ok (.iaload, 1) := by decide +kernel
theorem dX7_post_122 : decode cX7_post 122 = .ok (.if_icmp .le 6, 3) := by decide +kernel
theorem dX7_post_125 : decode cX7_post 125 = .ok (.iload 4, 2) := by decide +kernel
theorem dX7_post_127 : decode cX7_post 127 = .ok (.istore_n 3, 1) := by decide +kernel
theorem dX7_post_128 : decode cX7_post 128 = .ok (.iinc 4 1, 3) := by decide +kernel
theorem dX7_post_131 : decode cX7_post 131 = .ok (.goto (-29), 3) := by decide +kernel
theorem dX7_post_134 : decode cX7_post 134 = .ok (.iload_n 2, 1) := by decide +kernel
theorem dX7_post_135 : decode cX7_post 135 = .ok (.ifCond .ne 7, 3) := by decide +kernel
theorem dX7_post_138 : decode cX7_post 138 = .ok (.iload_n 3, 1) := by decide +kernel
theorem dX7_post_139 : decode cX7_post 139 = .ok (.goto 9, 3) := by decide +kernel
theorem dX7_post_142 : decode cX7_post 142 = .ok (.aload_n 0, 1) := by decide +kernel
theorem dX7_post_143 : decode cX7_post 143 = .ok (.getfield 26, 3) := by decide +kernel
theorem dX7_post_146 : decode cX7_post 146 = .ok (.iload_n 3, 1) := by decide +kernel
theorem dX7_post_147 : decode cX7_post 147 = .ok (.iaload, 1) := by decide +kernel
theorem dX7_post_148 : decode cX7_post 148 = .ok (.ireturn, 1) := by decide +kernel
theorem dX7_began_0 : decode cX7_began 0 = .ok (.aload_n 0, 1) := by decide +kernel
theorem dX7_began_1 : decode cX7_began 1 = .ok (.iload_n 1, 1) := by decide +kernel
theorem dX7_began_2 : decode cX7_began 2 = .ok (.invokevirtual 94, 3) := by decide +kernel
theorem dX7_began_5 : decode cX7_began 5 = .ok (.ifCond .eq 13, 3) := by decide +kernel
theorem dX7_began_8 : decode cX7_began 8 = .ok (.iload_n 2, 1) := by decide +kernel
theorem dX7_began_9 : decode cX7_began 9 = .ok (.ifCond .lt 9, 3) := by decide +kernel
theorem dX7_began_12 : decode cX7_began 12 = .ok (.iload_n 2, 1) := by decide +kernel
theorem dX7_began_13 : decode cX7_began 13 = .ok (.bipush 60, 2) := by decide +kernel
theorem dX7_began_15 : decode cX7_began 15 = .ok (.if_icmp .le 6, 3) := by decide +kernel
theorem dX7_began_18 : decode cX7_began 18 = .ok (.ldc 85, 2) := by decide +kernel
theorem dX7_began_20 : decode cX7_began 20 = .ok (.ireturn, 1) := by decide +kernel
theorem dX7_began_21 : decode cX7_began 21 = .ok (.iconst 0, 1) := by decide +kernel
theorem dX7_began_22 : decode cX7_began 22 = .ok (.istore_n 3, 1) := by decide +kernel
theorem dX7_began_23 : decode cX7_began 23 = .ok (.iconst 0, 1) := by decide +kernel
theorem dX7_began_24 : decode cX7_began 24 = .ok (.istore 4, 2) := by decide +kernel
theorem dX7_began_26 : decode cX7_began 26 = .ok (.iload 4, 2) := by decide +kernel
theorem dX7_began_28 : decode cX7_began 28 = .ok (.bipush 10, 2) := by decide +kernel
theorem dX7_began_30 : decode cX7_began 30 = .ok (.if_icmp .ge 100, 3) := by decide +kernel
theorem dX7_began_33 : decode cX7_began 33 = .ok (.aload_n 0, 1) := by decide +kernel
theorem dX7_began_34 : decode cX7_began 34 = .ok (.getfield 23, 3) := by decide +kernel
theorem dX7_began_37 : decode cX7_began 37 = .ok (.aload_n 0, 1) := by decide +kernel
theorem dX7_began_38 : decode cX7_began 38 = .ok (.getfield 10, 3) := by decide +kernel
theorem dX7_began_41 : decode cX7_began 41 = .ok (.invokevirtual 195, 3) := by decide +kernel
theorem dX7_began_44 : decode cX7_began 44 = .ok (.aload_n 0, 1) := by decide +kernel
theorem dX7_began_45 : decode cX7_began 45 = .ok (.getfield 23, 3) := by decide +kernel
theorem dX7_began_48 : decode cX7_began 48 = .ok (.getfield 100, 3) := by decide +kernel
theorem dX7_began_51 : decode cX7_began 51 = .ok (.iload_n 1, 1) := by decide +kernel
theorem dX7_began_52 : decode cX7_began 52 = .ok (.iload 4, 2) := by decide +kernel
theorem dX7_began_54 : decode cX7_began 54 = .ok (.iastore, 1) := by decide +kernel
theorem dX7_began_55 : decode cX7_began 55 = .ok (.iconst 0, 1) := by decide +kernel
theorem dX7_began_56 : decode cX7_began 56 = .ok (.istore 5, 2) := by decide +kernel
theorem dX7_began_58 : decode cX7_began 58 = .ok (.iload 5, 2) := by decide +kernel
theorem dX7_began_60 : decode cX7_began 60 = .ok (.iload_n 2, 1) := by decide +kernel
theorem dX7_began_61 : decode cX7_began 61 = .ok (.if_icmp .ge 35, 3) := by decide +kernel
theorem dX7_began_64 : decode cX7_began 64 = .ok (.aload_n 0, 1) := by decide +kernel
theorem dX7_began_65 : decode cX7_began 65 = .ok (.getfield 23, 3) := by decide +kernel
theorem dX7_began_68 : decode cX7_began 68 = .ok (.iload_n 1, 1) := by decide +kernel
theorem dX7_began_69 : decode cX7_began 69 = .ok (.aload_n 0, 1) := by decide +kernel
theorem dX7_began_70 : decode cX7_began 70 = .ok (.getfield 47, 3) := by decide +kernel
theorem dX7_began_73 : decode cX7_began 73 = .ok (.invokevirtual 218, 3) := by decide +kernel
theorem dX7_began_76 : decode cX7_began 76 = .ok (.pop, 1) := by decide +kernel
theorem dX7_began_77 : decode cX7_began 77 = .ok (.aload_n 0, 1) := by decide +kernel
theorem dX7_began_78 : decode cX7_began 78 = .ok (.getfield 23, 3) := by decide +kernel
theorem dX7_began_81 : decode cX7_began 81 = .ok (.dup, 1) := by decide +kernel
theorem dX7_began_82 : decode cX7_began 82 = .ok (.getfield 171, 3) := by decide +kernel
theorem dX7_began_85 : decode cX7_began 85 = .ok (.iconst 1, 1) := by decide +kernel
theorem dX7_began_86 : decode cX7_began 86 = .ok (.iadd, 1) := by decide +kernel
theorem dX7_began_87 : decode cX7_began 87 = .ok (.putfield 171, 3) := by decide +kernel
theorem dX7_began_90 : decode cX7_began 90 = .ok (.iinc 5 1, 3) := by decide +kernel
theorem dX7_began_93 : decode cX7_began 93 = .ok (.goto (-35), 3) := by decide +kernel
theorem dX7_began_96 : decode cX7_began 96 = .ok (.aload_n 0, 1) := by decide +kernel
theorem dX7_began_97 : decode cX7_began 97 = .ok (.getfield 23, 3) := by decide +kernel
theorem dX7_began_100 : decode cX7_began 100 = .ok (.getfield 100, 3) := by decide +kernel
theorem dX7_began_103 : decode cX7_began 103 = .ok (.iload_n 1, 1) := by decide +kernel
theorem dX7_began_104 : decode cX7_began 104 = .ok (.iaload, 1) := by decide +kernel
theorem dX7_began_105 : decode cX7_began 105 = .ok (.aload_n 0, 1) := by decide +kernel
theorem dX7_began_106 : decode cX7_began 106 = .ok (.getfield 10, 3) := by decide +kernel
theorem dX7_began_109 : decode cX7_began 109 = .ok (.getfield 100, 3) := by decide +kernel
theorem dX7_began_112 : decode cX7_began 112 = .ok (.iload_n 1, 1) := by decide +kernel
theorem dX7_began_113 : decode cX7_began 113 = .ok (.iaload, 1) := by decide +kernel
theorem dX7_began_114 : decode cX7_began 114 = .ok (.if_icmp .ne 10, 3) := by decide +kernel
theorem dX7_began_117 : decode cX7_began 117 = .ok (.iload_n 3, 1) := by decide +kernel
theorem dX7_began_118 : decode cX7_began 118 = .ok (.iconst 1, 1) := by decide +kernel
theorem dX7_began_119 : decode cX7_began 119 = .ok (.iload 4, 2) := by decide +kernel
theorem dX7_began_121 : decode cX7_began 121 = .ok (.ishl, 1) := by decide +kernel
theorem dX7_began_122 : decode cX7_began 122 = .ok (.ior, 1) := by decide +kernel
theorem dX7_began_123 : decode cX7_began 123 = .ok (.istore_n 3, 1) := by decide +kernel
theorem dX7_began_124 : decode cX7_began 124 = .ok (.iinc 4 1, 3) := by decide +kernel
theorem dX7_began_127 : decode cX7_began 127 = .ok (.goto (-101), 3) := by decide +kernel
theorem dX7_began_130 : decode cX7_began 130 = .ok (.iload_n 3, 1) := by decide +kernel
theorem dX7_began_131 : decode cX7_began 131 = .ok (.ireturn, 1) := by decide +kernel
theorem dX7_mended_0 : decode cX7_mended 0 = .ok (.iload_n 1, 1) := by decide +kernel
theorem dX7_mended_1 : decode cX7_mended 1 = .ok (.invokestatic 209, 3) := by decide +kernel
theorem dX7_mended_4 : decode cX7_mended 4 = .ok (.ifCond .eq 10, 3) := by decide +kernel
theorem dX7_mended_7 : decode cX7_mended 7 = .ok (.iload_n 2, 1) := by decide +kernel
theorem dX7_mended_8 : decode cX7_mended 8 = .ok (.invokestatic 212, 3) := by decide +kernel
theorem dX7_mended_11 : decode cX7_mended 11 = .ok (.ifCond .ne 6, 3) := by decide +kernel
theorem dX7_mended_14 : decode cX7_mended 14 = .ok (.ldc 85, 2) := by decide +kernel
theorem dX7_mended_16 : decode cX7_mended 16 = .ok (.ireturn, 1) := by decide +kernel
theorem dX7_mended_17 : decode cX7_mended 17 = .ok (.iconst 0, 1) := by decide +kernel
theorem dX7_mended_18 : decode cX7_mended 18 = .ok (.istore_n 3, 1) := by decide +kernel
theorem dX7_mended_19 : decode cX7_mended 19 = .ok (.iconst (-1), 1) := by decide +kernel
theorem dX7_mended_20 : decode cX7_mended 20 = .ok (.istore 4, 2) := by decide +kernel
theorem dX7_mended_22 : decode cX7_mended 22 = .ok (.iconst 0, 1) := by decide +kernel
theorem dX7_mended_23 : decode cX7_mended 23 = .ok (.istore 5, 2) := by decide +kernel
theorem dX7_mended_25 : decode cX7_mended 25 = .ok (.iload 5, 2) := by decide +kernel
theorem dX7_mended_27 : decode cX7_mended 27 = .ok (.bipush 10, 2) := by decide +kernel
theorem dX7_mended_29 : decode cX7_mended 29 = .ok (.if_icmp .ge 67, 3) := by decide +kernel
theorem dX7_mended_32 : decode cX7_mended 32 = .ok (.aload_n 0, 1) := by decide +kernel
theorem dX7_mended_33 : decode cX7_mended 33 = .ok (.getfield 23, 3) := by decide +kernel
theorem dX7_mended_36 : decode cX7_mended 36 = .ok (.aload_n 0, 1) := by decide +kernel
theorem dX7_mended_37 : decode cX7_mended 37 = .ok (.getfield 10, 3) := by decide +kernel
theorem dX7_mended_40 : decode cX7_mended 40 = .ok (.invokevirtual 195, 3) := by decide +kernel
theorem dX7_mended_43 : decode cX7_mended 43 = .ok (.aload_n 0, 1) := by decide +kernel
theorem dX7_mended_44 : decode cX7_mended 44 = .ok (.getfield 23, 3) := by decide +kernel
theorem dX7_mended_47 : decode cX7_mended 47 = .ok (.getfield 138, 3) := by decide +kernel
theorem dX7_mended_50 : decode cX7_mended 50 = .ok (.iload 5, 2) := by decide +kernel
theorem dX7_mended_52 : decode cX7_mended 52 = .ok (.iconst 0, 1) := by decide +kernel
theorem dX7_mended_53 : decode cX7_mended 53 = .ok (.iastore, 1) := by decide +kernel
theorem dX7_mended_54 : decode cX7_mended 54 = .ok (.aload_n 0, 1) := by decide +kernel
theorem dX7_mended_55 : decode cX7_mended 55 = .ok (.getfield 23, 3) := by decide +kernel
theorem dX7_mended_58 : decode cX7_mended 58 = .ok (.iload_n 1, 1) := by decide +kernel
theorem dX7_mended_59 : decode cX7_mended 59 = .ok (.aload_n 0, 1) := by decide +kernel
theorem dX7_mended_60 : decode cX7_mended 60 = .ok (.getfield 47, 3) := by decide +kernel
theorem dX7_mended_63 : decode cX7_mended 63 = .ok (.invokevirtual 174, 3) := by decide +kernel
theorem dX7_mended_66 : decode cX7_mended 66 = .ok (.pop, 1) := by decide +kernel
theorem dX7_mended_67 : decode cX7_mended 67 = .ok (.aload_n 0, 1) := by decide +kernel
theorem dX7_mended_68 : decode cX7_mended 68 = .ok (.getfield 23, 3) := by decide +kernel
theorem dX7_mended_71 : decode cX7_mended 71 = .ok (.invokevirtual 186, 3) := by decide +kernel
theorem dX7_mended_74 : decode cX7_mended 74 = .ok (.istore 6, 2) := by decide +kernel
theorem dX7_mended_76 : decode cX7_mended 76 = .ok (.iload 6, 2) := by decide +kernel
theorem dX7_mended_78 : decode cX7_mended 78 = .ok (.iload 4, 2) := by decide +kernel
theorem dX7_mended_80 : decode cX7_mended 80 = .ok (.if_icmp .le 10, 3) := by decide +kernel
theorem dX7_mended_83 : decode cX7_mended 83 = .ok (.iload 5, 2) := by decide +kernel
theorem dX7_mended_85 : decode cX7_mended 85 = .ok (.istore_n 3, 1) := by decide +kernel
theorem dX7_mended_86 : decode cX7_mended 86 = .ok (.iload 6, 2) := by decide +kernel
theorem dX7_mended_88 : decode cX7_mended 88 = .ok (.istore 4, 2) := by decide +kernel
theorem dX7_mended_90 : decode cX7_mended 90 = .ok (.iinc 5 1, 3) := by decide +kernel
theorem dX7_mended_93 : decode cX7_mended 93 = .ok (.goto (-68), 3) := by decide +kernel
theorem dX7_mended_96 : decode cX7_mended 96 = .ok (.iload_n 2, 1) := by decide +kernel
theorem dX7_mended_97 : decode cX7_mended 97 = .ok (.ifCond .ne 7, 3) := by decide +kernel
theorem dX7_mended_100 : decode cX7_mended 100 = .ok (.iload_n 3, 1) := by decide +kernel
theorem dX7_mended_101 : decode cX7_mended 101 = .ok (.goto 5, 3) := by decide +kernel
theorem dX7_mended_104 : decode cX7_mended 104 = .ok (.iload 4, 2) := by decide +kernel
theorem dX7_mended_106 : decode cX7_mended 106 = .ok (.ireturn, 1) := by decide +kernel
theorem dX7_meets_0 : decode cX7_meets 0 = .ok (.aload_n 0, 1) := by decide +kernel
theorem dX7_meets_1 : decode cX7_meets 1 = .ok (.iload_n 1, 1) := by decide +kernel
theorem dX7_meets_2 : decode cX7_meets 2 = .ok (.invokevirtual 94, 3) := by decide +kernel
theorem dX7_meets_5 : decode cX7_meets 5 = .ok (.ifCond .eq 26, 3) := by decide +kernel
theorem dX7_meets_8 : decode cX7_meets 8 = .ok (.aload_n 0, 1) := by decide +kernel
theorem dX7_meets_9 : decode cX7_meets 9 = .ok (.iload_n 2, 1) := by decide +kernel
theorem dX7_meets_10 : decode cX7_meets 10 = .ok (.invokevirtual 94, 3) := by decide +kernel
theorem dX7_meets_13 : decode cX7_meets 13 = .ok (.ifCond .eq 18, 3) := by decide +kernel
theorem dX7_meets_16 : decode cX7_meets 16 = .ok (.iload_n 1, 1) := by decide +kernel
theorem dX7_meets_17 : decode cX7_meets 17 = .ok (.iload_n 2, 1) := by decide +kernel
theorem dX7_meets_18 : decode cX7_meets 18 = .ok (.if_icmp .eq 13, 3) := by decide +kernel
theorem dX7_meets_21 : decode cX7_meets 21 = .ok (.iload_n 3, 1) := by decide +kernel
theorem dX7_meets_22 : decode cX7_meets 22 = .ok (.ifCond .lt 9, 3) := by decide +kernel
theorem dX7_meets_25 : decode cX7_meets 25 = .ok (.iload_n 3, 1) := by decide +kernel
theorem dX7_meets_26 : decode cX7_meets 26 = .ok (.bipush 100, 2) := by decide +kernel
theorem dX7_meets_28 : decode cX7_meets 28 = .ok (.if_icmp .le 6, 3) := by decide +kernel
theorem dX7_meets_31 : decode cX7_meets 31 = .ok (.ldc 85, 2) := by decide +kernel
theorem dX7_meets_33 : decode cX7_meets 33 = .ok (.ireturn, 1) := by decide +kernel
theorem dX7_meets_34 : decode cX7_meets 34 = .ok (.aload_n 0, 1) := by decide +kernel
theorem dX7_meets_35 : decode cX7_meets 35 = .ok (.getfield 23, 3) := by decide +kernel
theorem dX7_meets_38 : decode cX7_meets 38 = .ok (.aload_n 0, 1) := by decide +kernel
theorem dX7_meets_39 : decode cX7_meets 39 = .ok (.getfield 10, 3) := by decide +kernel
theorem dX7_meets_42 : decode cX7_meets 42 = .ok (.invokevirtual 195, 3) := by decide +kernel
theorem dX7_meets_45 : decode cX7_meets 45 = .ok (.iconst 0, 1) := by decide +kernel
theorem dX7_meets_46 : decode cX7_meets 46 = .ok (.istore 4, 2) := by decide +kernel
theorem dX7_meets_48 : decode cX7_meets 48 = .ok (.iload 4, 2) := by decide +kernel
theorem dX7_meets_50 : decode cX7_meets 50 = .ok (.iload_n 3, 1) := by decide +kernel
theorem dX7_meets_51 : decode cX7_meets 51 = .ok (.if_icmp .gt 50, 3) := by decide +kernel
theorem dX7_meets_54 : decode cX7_meets 54 = .ok (.iload 4, 2) := by decide +kernel
theorem dX7_meets_56 : decode cX7_meets 56 = .ok (.ifCond .le 15, 3) := by decide +kernel
theorem dX7_meets_59 : decode cX7_meets 59 = .ok (.aload_n 0, 1) := by decide +kernel
theorem dX7_meets_60 : decode cX7_meets 60 = .ok (.getfield 23, 3) := by decide +kernel
theorem dX7_meets_63 : decode cX7_meets 63 = .ok (.aload_n 0, 1) := by decide +kernel
theorem dX7_meets_64 : decode cX7_meets 64 = .ok (.getfield 47, 3) := by decide +kernel
theorem dX7_meets_67 : decode cX7_meets 67 = .ok (.invokevirtual 204, 3) := by decide +kernel
theorem dX7_meets_70 : decode cX7_meets 70 = .ok (.pop, 1) := by decide +kernel
theorem dX7_meets_71 : decode cX7_meets 71 = .ok (.aload_n 0, 1) := by decide +kernel
theorem dX7_meets_72 : decode cX7_meets 72 = .ok (.getfield 23, 3) := by decide +kernel
theorem dX7_meets_75 : decode cX7_meets 75 = .ok (.getfield 100, 3) := by decide +kernel
theorem dX7_meets_78 : decode cX7_meets 78 = .ok (.iload_n 1, 1) := by decide +kernel
theorem dX7_meets_79 : decode cX7_meets 79 = .ok (.iaload, 1) := by decide +kernel
theorem dX7_meets_80 : decode cX7_meets 80 = .ok (.aload_n 0, 1) := by decide +kernel
theorem dX7_meets_81 : decode cX7_meets 81 = .ok (.getfield 23, 3) := by decide +kernel
theorem dX7_meets_84 : decode cX7_meets 84 = .ok (.getfield 100, 3) := by decide +kernel
theorem dX7_meets_87 : decode cX7_meets 87 = .ok (.iload_n 2, 1) := by decide +kernel
theorem dX7_meets_88 : decode cX7_meets 88 = .ok (.iaload, 1) := by decide +kernel
theorem dX7_meets_89 : decode cX7_meets 89 = .ok (.if_icmp .ne 6, 3) := by decide +kernel
theorem dX7_meets_92 : decode cX7_meets 92 = .ok (.iload 4, 2) := by decide +kernel
theorem dX7_meets_94 : decode cX7_meets 94 = .ok (.ireturn, 1) := by decide +kernel
theorem dX7_meets_95 : decode cX7_meets 95 = .ok (.iinc 4 1, 3) := by decide +kernel
theorem dX7_meets_98 : decode cX7_meets 98 = .ok (.goto (-50), 3) := by decide +kernel
theorem dX7_meets_101 : decode cX7_meets 101 = .ok (.ldc 208, 2) := by decide +kernel
theorem dX7_meets_103 : decode cX7_meets 103 = .ok (.ireturn, 1) := by decide +kernel
theorem dX7_leads_0 : decode cX7_leads 0 = .ok (.iload_n 1, 1) := by decide +kernel
theorem dX7_leads_1 : decode cX7_leads 1 = .ok (.invokestatic 76, 3) := by decide +kernel
theorem dX7_leads_4 : decode cX7_leads 4 = .ok (.ifCond .eq 17, 3) := by decide +kernel
theorem dX7_leads_7 : decode cX7_leads 7 = .ok (.iload_n 2, 1) := by decide +kernel
theorem dX7_leads_8 : decode cX7_leads 8 = .ok (.invokestatic 209, 3) := by decide +kernel
theorem dX7_leads_11 : decode cX7_leads 11 = .ok (.ifCond .eq 10, 3) := by decide +kernel
theorem dX7_leads_14 : decode cX7_leads 14 = .ok (.iload_n 3, 1) := by decide +kernel
theorem dX7_leads_15 : decode cX7_leads 15 = .ok (.invokestatic 212, 3) := by decide +kernel
theorem dX7_leads_18 : decode cX7_leads 18 = .ok (.ifCond .ne 6, 3) := by decide +kernel
theorem dX7_leads_21 : decode cX7_leads 21 = .ok (.ldc 85, 2) := by decide +kernel
theorem dX7_leads_23 : decode cX7_leads 23 = .ok (.ireturn, 1) := by decide +kernel
theorem dX7_leads_24 : decode cX7_leads 24 = .ok (.iconst 0, 1) := by decide +kernel
theorem dX7_leads_25 : decode cX7_leads 25 = .ok (.istore 4, 2) := by decide +kernel
theorem dX7_leads_27 : decode cX7_leads 27 = .ok (.ldc 221, 2) := by decide +kernel
theorem dX7_leads_29 : decode cX7_leads 29 = .ok (.istore 5, 2) := by decide +kernel
theorem dX7_leads_31 : decode cX7_leads 31 = .ok (.iconst 0, 1) := by decide +kernel
theorem dX7_leads_32 : decode cX7_leads 32 = .ok (.istore 6, 2) := by decide +kernel
theorem dX7_leads_34 : decode cX7_leads 34 = .ok (.iload 6, 2) := by decide +kernel
theorem dX7_leads_36 : decode cX7_leads 36 = .ok (.bipush 10, 2) := by decide +kernel
theorem dX7_leads_38 : decode cX7_leads 38 = .ok (.if_icmp .ge 69, 3) := by decide +kernel
theorem dX7_leads_41 : decode cX7_leads 41 = .ok (.aload_n 0, 1) := by decide +kernel
theorem dX7_leads_42 : decode cX7_leads 42 = .ok (.getfield 23, 3) := by decide +kernel
theorem dX7_leads_45 : decode cX7_leads 45 = .ok (.aload_n 0, 1) := by decide +kernel
theorem dX7_leads_46 : decode cX7_leads 46 = .ok (.getfield 10, 3) := by decide +kernel
theorem dX7_leads_49 : decode cX7_leads 49 = .ok (.invokevirtual 195, 3) := by decide +kernel
theorem dX7_leads_52 : decode cX7_leads 52 = .ok (.aload_n 0, 1) := by decide +kernel
theorem dX7_leads_53 : decode cX7_leads 53 = .ok (.getfield 23, 3) := by decide +kernel
theorem dX7_leads_56 : decode cX7_leads 56 = .ok (.getfield 141, 3) := by decide +kernel
theorem dX7_leads_59 : decode cX7_leads 59 = .ok (.iload_n 1, 1) := by decide +kernel
theorem dX7_leads_60 : decode cX7_leads 60 = .ok (.iload 6, 2) := by decide +kernel
theorem dX7_leads_62 : decode cX7_leads 62 = .ok (.iastore, 1) := by decide +kernel
theorem dX7_leads_63 : decode cX7_leads 63 = .ok (.aload_n 0, 1) := by decide +kernel
theorem dX7_leads_64 : decode cX7_leads 64 = .ok (.getfield 23, 3) := by decide +kernel
theorem dX7_leads_67 : decode cX7_leads 67 = .ok (.iload_n 2, 1) := by decide +kernel
theorem dX7_leads_68 : decode cX7_leads 68 = .ok (.aload_n 0, 1) := by decide +kernel
theorem dX7_leads_69 : decode cX7_leads 69 = .ok (.getfield 47, 3) := by decide +kernel
theorem dX7_leads_72 : decode cX7_leads 72 = .ok (.invokevirtual 174, 3) := by decide +kernel
theorem dX7_leads_75 : decode cX7_leads 75 = .ok (.pop, 1) := by decide +kernel
theorem dX7_leads_76 : decode cX7_leads 76 = .ok (.aload_n 0, 1) := by decide +kernel
theorem dX7_leads_77 : decode cX7_leads 77 = .ok (.getfield 23, 3) := by decide +kernel
theorem dX7_leads_80 : decode cX7_leads 80 = .ok (.getfield 177, 3) := by decide +kernel
theorem dX7_leads_83 : decode cX7_leads 83 = .ok (.iload 5, 2) := by decide +kernel
theorem dX7_leads_85 : decode cX7_leads 85 = .ok (.if_icmp .ge 16, 3) := by decide +kernel
theorem dX7_leads_88 : decode cX7_leads 88 = .ok (.iload 6, 2) := by decide +kernel
theorem dX7_leads_90 : decode cX7_leads 90 = .ok (.istore 4, 2) := by decide +kernel
theorem dX7_leads_92 : decode cX7_leads 92 = .ok (.aload_n 0, 1) := by decide +kernel
theorem dX7_leads_93 : decode cX7_leads 93 = .ok (.getfield 23, 3) := by decide +kernel
theorem dX7_leads_96 : decode cX7_leads 96 = .ok (.getfield 177, 3) := by decide +kernel
theorem dX7_leads_99 : decode cX7_leads 99 = .ok (.istore 5, 2) := by decide +kernel
theorem dX7_leads_101 : decode cX7_leads 101 = .ok (.iinc 6 1, 3) := by decide +kernel
theorem dX7_leads_104 : decode cX7_leads 104 = .ok (.goto (-70), 3) := by decide +kernel
theorem dX7_leads_107 : decode cX7_leads 107 = .ok (.iload_n 3, 1) := by decide +kernel
theorem dX7_leads_108 : decode cX7_leads 108 = .ok (.ifCond .ne 8, 3) := by decide +kernel
theorem dX7_leads_111 : decode cX7_leads 111 = .ok (.iload 4, 2) := by decide +kernel
theorem dX7_leads_113 : decode cX7_leads 113 = .ok (.goto 5, 3) := by decide +kernel
theorem dX7_leads_116 : decode cX7_leads 116 = .ok (.iload 5, 2) := by decide +kernel
theorem dX7_leads_118 : decode cX7_leads 118 = .ok (.ireturn, 1) := by decide +kernel
theorem dX7_whose_0 : decode cX7_whose 0 = .ok (.aload_n 0, 1) := by decide +kernel
theorem dX7_whose_1 : decode cX7_whose 1 = .ok (.iload_n 1, 1) := by decide +kernel
theorem dX7_whose_2 : decode cX7_whose 2 = .ok (.invokevirtual 222, 3) := by decide +kernel
theorem dX7_whose_5 : decode cX7_whose 5 = .ok (.astore_n 3, 1) := by decide +kernel
theorem dX7_whose_6 : decode cX7_whose 6 = .ok (.aload_n 3, 1) := by decide +kernel
theorem dX7_whose_7 : decode cX7_whose 7 = .ok (.ifnull 10, 3) := by decide +kernel
theorem dX7_whose_10 : decode cX7_whose 10 = .ok (.iload_n 2, 1) := by decide +kernel
theorem dX7_whose_11 : decode cX7_whose 11 = .ok (.invokestatic 212, 3) := by decide +kernel
theorem dX7_whose_14 : decode cX7_whose 14 = .ok (.ifCond .ne 6, 3) := by decide +kernel
theorem dX7_whose_17 : decode cX7_whose 17 = .ok (.ldc 85, 2) := by decide +kernel
theorem dX7_whose_19 : decode cX7_whose 19 = .ok (.ireturn, 1) := by decide +kernel
theorem dX7_whose_20 : decode cX7_whose 20 = .ok (.aload_n 3, 1) := by decide +kernel
theorem dX7_whose_21 : decode cX7_whose 21 = .ok (.invokevirtual 226, 3) := by decide +kernel
theorem dX7_whose_24 : decode cX7_whose 24 = .ok (.ifCond .eq 6, 3) := by decide +kernel
theorem dX7_whose_27 : decode cX7_whose 27 = .ok (.ldc 230, 2) := by decide +kernel
theorem dX7_whose_29 : decode cX7_whose 29 = .ok (.ireturn, 1) := by decide +kernel
theorem dX7_whose_30 : decode cX7_whose 30 = .ok (.aload_n 0, 1) := by decide +kernel
theorem dX7_whose_31 : decode cX7_whose 31 = .ok (.getfield 10, 3) := by decide +kernel
theorem dX7_whose_34 : decode cX7_whose 34 = .ok (.getfield 86, 3) := by decide +kernel
theorem dX7_whose_37 : decode cX7_whose 37 = .ok (.ifCond .ne 6, 3) := by decide +kernel
theorem dX7_whose_40 : decode cX7_whose 40 = .ok (.ldc 208, 2) := by decide +kernel
theorem dX7_whose_42 : decode cX7_whose 42 = .ok (.ireturn, 1) := by decide +kernel
theorem dX7_whose_43 : decode cX7_whose 43 = .ok (.aload_n 0, 1) := by decide +kernel
theorem dX7_whose_44 : decode cX7_whose 44 = .ok (.aload_n 3, 1) := by decide +kernel
theorem dX7_whose_45 : decode cX7_whose 45 = .ok (.invokevirtual 231, 3) := by decide +kernel
theorem dX7_whose_48 : decode cX7_whose 48 = .ok (.iconst 0, 1) := by decide +kernel
theorem dX7_whose_49 : decode cX7_whose 49 = .ok (.istore 4, 2) := by decide +kernel
theorem dX7_whose_51 : decode cX7_whose 51 = .ok (.iconst 1, 1) := by decide +kernel
theorem dX7_whose_52 : decode cX7_whose 52 = .ok (.istore 5, 2) := by decide +kernel
theorem dX7_whose_54 : decode cX7_whose 54 = .ok (.iload 5, 2) := by decide +kernel
theorem dX7_whose_56 : decode cX7_whose 56 = .ok (.aload_n 0, 1) := by decide +kernel
theorem dX7_whose_57 : decode cX7_whose 57 = .ok (.getfield 10, 3) := by decide +kernel
theorem dX7_whose_60 : decode cX7_whose 60 = .ok (.getfield 86, 3) := by decide +kernel
theorem dX7_whose_63 : decode cX7_whose 63 = .ok (.if_icmp .ge 30, 3) := by decide +kernel
theorem dX7_whose_66 : decode cX7_whose 66 = .ok (.aload_n 0, 1) := by decide +kernel
theorem dX7_whose_67 : decode cX7_whose 67 = .ok (.getfield 26, 3) := by decide +kernel
theorem dX7_whose_70 : decode cX7_whose 70 = .ok (.iload 5, 2) := by decide +kernel
theorem dX7_whose_72 : decode cX7_whose 72 = .ok (.iaload, 1) := by decide +kernel
theorem dX7_whose_73 : decode cX7_whose 73 = .ok (.aload_n 0, 1) := by decide +kernel
theorem dX7_whose_74 : decode cX7_whose 74 = .ok (.getfield 26, 3) := by decide +kernel
theorem dX7_whose_77 : decode cX7_whose 77 = .ok (.iload 4, 2) := by decide +kernel
theorem dX7_whose_79 : decode cX7_whose 79 = .ok (.iaload, 1) := by decide +kernel
theorem dX7_whose_80 : decode cX7_whose 80 = .ok (.if_icmp .ge 7, 3) := by decide +kernel
theorem dX7_whose_83 : decode cX7_whose 83 = .ok (.iload 5, 2) := by decide +kernel
theorem dX7_whose_85 : decode cX7_whose 85 = .ok (.istore 4, 2) := by decide +kernel
theorem dX7_whose_87 : decode cX7_whose 87 = .ok (.iinc 5 1, 3) := by decide +kernel
theorem dX7_whose_90 : decode cX7_whose 90 = .ok (.goto (-36), 3) := by decide +kernel
theorem dX7_whose_93 : decode cX7_whose 93 = .ok (.iload_n 2, 1) := by decide +kernel
theorem dX7_whose_94 : decode cX7_whose 94 = .ok (.ifCond .ne 8, 3) := by decide +kernel
theorem dX7_whose_97 : decode cX7_whose 97 = .ok (.iload 4, 2) := by decide +kernel
theorem dX7_whose_99 : decode cX7_whose 99 = .ok (.goto 10, 3) := by decide +kernel
theorem dX7_whose_102 : decode cX7_whose 102 = .ok (.aload_n 0, 1) := by decide +kernel
theorem dX7_whose_103 : decode cX7_whose 103 = .ok (.getfield 26, 3) := by decide +kernel
theorem dX7_whose_106 : decode cX7_whose 106 = .ok (.iload 4, 2) := by decide +kernel
theorem dX7_whose_108 : decode cX7_whose 108 = .ok (.iaload, 1) := by decide +kernel
theorem dX7_whose_109 : decode cX7_whose 109 = .ok (.ireturn, 1) := by decide +kernel
theorem dX7_fee_0 : decode cX7_fee 0 = .ok (.aload_n 0, 1) := by decide +kernel
theorem dX7_fee_1 : decode cX7_fee 1 = .ok (.getfield 10, 3) := by decide +kernel
theorem dX7_fee_4 : decode cX7_fee 4 = .ok (.getfield 235, 3) := by decide +kernel
theorem dX7_fee_7 : decode cX7_fee 7 = .ok (.iconst 1, 1) := by decide +kernel
theorem dX7_fee_8 : decode cX7_fee 8 = .ok (.iaload, 1) := by decide +kernel
theorem dX7_fee_9 : decode cX7_fee 9 = .ok (.istore_n 1, 1) := by decide +kernel
theorem dX7_fee_10 : decode cX7_fee 10 = .ok (.iload_n 1, 1) := by decide +kernel
theorem dX7_fee_11 : decode cX7_fee 11 = .ok (.ifCond .ge 13, 3) := by decide +kernel
theorem dX7_fee_14 : decode cX7_fee 14 = .ok (.aload_n 0, 1) := by decide +kernel
theorem dX7_fee_15 : decode cX7_fee 15 = .ok (.getfield 10, 3) := by decide +kernel
theorem dX7_fee_18 : decode cX7_fee 18 = .ok (.getfield 177, 3) := by decide +kernel
theorem dX7_fee_21 : decode cX7_fee 21 = .ok (.goto 26, 3) := by decide +kernel
theorem dX7_fee_24 : decode cX7_fee 24 = .ok (.aload_n 0, 1) := by decide +kernel
theorem dX7_fee_25 : decode cX7_fee 25 = .ok (.getfield 47, 3) := by decide +kernel
theorem dX7_fee_28 : decode cX7_fee 28 = .ok (.iload_n 1, 1) := by decide +kernel
theorem dX7_fee_29 : decode cX7_fee 29 = .ok (.iconst 0, 1) := by decide +kernel
theorem dX7_fee_30 : decode cX7_fee 30 = .ok (.aload_n 0, 1) := by decide +kernel
theorem dX7_fee_31 : decode cX7_fee 31 = .ok (.getfield 10, 3) := by decide +kernel
theorem dX7_fee_34 : decode cX7_fee 34 = .ok (.getfield 177, 3) := by decide +kernel
theorem dX7_fee_37 : decode cX7_fee 37 = .ok (.aload_n 0, 1) := by decide +kernel
theorem dX7_fee_38 : decode cX7_fee 38 = .ok (.getfield 10, 3) := by decide +kernel
theorem dX7_fee_41 : decode cX7_fee 41 = .ok (.getfield 180, 3) := by decide +kernel
theorem dX7_fee_44 : decode cX7_fee 44 = .ok (.invokevirtual 238, 3) := by decide +kernel
theorem dX7_fee_47 : decode cX7_fee 47 = .ok (.ireturn, 1) := by decide +kernel
theorem dX7_fine_0 : decode cX7_fine 0 = .ok (.aload_n 0, 1) := by decide +kernel
theorem dX7_fine_1 : decode cX7_fine 1 = .ok (.iload_n 1, 1) := by decide +kernel
theorem dX7_fine_2 : decode cX7_fine 2 = .ok (.invokevirtual 94, 3) := by decide +kernel
theorem dX7_fine_5 : decode cX7_fine 5 = .ok (.ifCond .ne 6, 3) := by decide +kernel
theorem dX7_fine_8 : decode cX7_fine 8 = .ok (.ldc 85, 2) := by decide +kernel
theorem dX7_fine_10 : decode cX7_fine 10 = .ok (.ireturn, 1) := by decide +kernel
theorem dX7_fine_11 : decode cX7_fine 11 = .ok (.aload_n 0, 1) := by decide +kernel
theorem dX7_fine_12 : decode cX7_fine 12 = .ok (.getfield 10, 3) := by decide +kernel
theorem dX7_fine_15 : decode cX7_fine 15 = .ok (.getfield 235, 3) := by decide +kernel
theorem dX7_fine_18 : decode cX7_fine 18 = .ok (.iconst 2, 1) := by decide +kernel
theorem dX7_fine_19 : decode cX7_fine 19 = .ok (.iaload, 1) := by decide +kernel
theorem dX7_fine_20 : decode cX7_fine 20 = .ok (.istore_n 2, 1) := by decide +kernel
theorem dX7_fine_21 : decode cX7_fine 21 = .ok (.iload_n 2, 1) := by decide +kernel
theorem dX7_fine_22 : decode cX7_fine 22 = .ok (.ifCond .ge 15, 3) := by decide +kernel
theorem dX7_fine_25 : decode cX7_fine 25 = .ok (.aload_n 0, 1) := by decide +kernel
theorem dX7_fine_26 : decode cX7_fine 26 = .ok (.getfield 10, 3) := by decide +kernel
theorem dX7_fine_29 : decode cX7_fine 29 = .ok (.getfield 109, 3) := by decide +kernel
theorem dX7_fine_32 : decode cX7_fine 32 = .ok (.iload_n 1, 1) := by decide +kernel
theorem dX7_fine_33 : decode cX7_fine 33 = .ok (.iaload, 1) := by decide +kernel
theorem dX7_fine_34 : decode cX7_fine 34 = .ok (.goto 30, 3) := by decide +kernel
theorem dX7_fine_37 : decode cX7_fine 37 = .ok (.aload_n 0, 1) := by decide +kernel
theorem dX7_fine_38 : decode cX7_fine 38 = .ok (.getfield 47, 3) := by decide +kernel
theorem dX7_fine_41 : decode cX7_fine 41 = .ok (.iload_n 2, 1) := by decide +kernel
theorem dX7_fine_42 : decode cX7_fine 42 = .ok (.iconst 0, 1) := by decide +kernel
theorem dX7_fine_43 : decode cX7_fine 43 = .ok (.aload_n 0, 1) := by decide +kernel
theorem dX7_fine_44 : decode cX7_fine 44 = .ok (.getfield 10, 3) := by decide +kernel
theorem dX7_fine_47 : decode cX7_fine 47 = .ok (.getfield 103, 3) := by decide +kernel
theorem dX7_fine_50 : decode cX7_fine 50 = .ok (.iload_n 1, 1) := by decide +kernel
theorem dX7_fine_51 : decode cX7_fine 51 = .ok (.iaload, 1) := by decide +kernel
theorem dX7_fine_52 : decode cX7_fine 52 = .ok (.aload_n 0, 1) := by decide +kernel
theorem dX7_fine_53 : decode cX7_fine 53 = .ok (.getfield 10, 3) := by decide +kernel
theorem dX7_fine_56 : decode cX7_fine 56 = .ok (.getfield 109, 3) := by decide +kernel
theorem dX7_fine_59 : decode cX7_fine 59 = .ok (.iload_n 1, 1) := by decide +kernel
theorem dX7_fine_60 : decode cX7_fine 60 = .ok (.iaload, 1) := by decide +kernel
theorem dX7_fine_61 : decode cX7_fine 61 = .ok (.invokevirtual 238, 3) := by decide +kernel
theorem dX7_fine_64 : decode cX7_fine 64 = .ok (.ireturn, 1) := by decide +kernel
theorem dX7_feed_0 : decode cX7_feed 0 = .ok (.aload_n 0, 1) := by decide +kernel
theorem dX7_feed_1 : decode cX7_feed 1 = .ok (.getfield 33, 3) := by decide +kernel
theorem dX7_feed_4 : decode cX7_feed 4 = .ok (.getfield 241, 3) := by decide +kernel
theorem dX7_feed_7 : decode cX7_feed 7 = .ok (.bipush 12, 2) := by decide +kernel
theorem dX7_feed_9 : decode cX7_feed 9 = .ok (.iadd, 1) := by decide +kernel
theorem dX7_feed_10 : decode cX7_feed 10 = .ok (.bipush 96, 2) := by decide +kernel
theorem dX7_feed_12 : decode cX7_feed 12 = .ok (.if_icmp .le 6, 3) := by decide +kernel
theorem dX7_feed_15 : decode cX7_feed 15 = .ok (.ldc 89, 2) := by decide +kernel
theorem dX7_feed_17 : decode cX7_feed 17 = .ok (.ireturn, 1) := by decide +kernel
theorem dX7_feed_18 : decode cX7_feed 18 = .ok (.aload_n 0, 1) := by decide +kernel
theorem dX7_feed_19 : decode cX7_feed 19 = .ok (.getfield 33, 3) := by decide +kernel
theorem dX7_feed_22 : decode cX7_feed 22 = .ok (.iload_n 1, 1) := by decide +kernel
theorem dX7_feed_23 : decode cX7_feed 23 = .ok (.invokevirtual 244, 3) := by decide +kernel
theorem dX7_feed_26 : decode cX7_feed 26 = .ok (.aload_n 0, 1) := by decide +kernel
theorem dX7_feed_27 : decode cX7_feed 27 = .ok (.getfield 33, 3) := by decide +kernel
theorem dX7_feed_30 : decode cX7_feed 30 = .ok (.iload_n 2, 1) := by decide +kernel
theorem dX7_feed_31 : decode cX7_feed 31 = .ok (.invokevirtual 244, 3) := by decide +kernel
theorem dX7_feed_34 : decode cX7_feed 34 = .ok (.aload_n 0, 1) := by decide +kernel
theorem dX7_feed_35 : decode cX7_feed 35 = .ok (.getfield 33, 3) := by decide +kernel
theorem dX7_feed_38 : decode cX7_feed 38 = .ok (.iload_n 3, 1) := by decide +kernel
theorem dX7_feed_39 : decode cX7_feed 39 = .ok (.invokevirtual 244, 3) := by decide +kernel
theorem dX7_feed_42 : decode cX7_feed 42 = .ok (.aload_n 0, 1) := by decide +kernel
theorem dX7_feed_43 : decode cX7_feed 43 = .ok (.getfield 33, 3) := by decide +kernel
theorem dX7_feed_46 : decode cX7_feed 46 = .ok (.getfield 241, 3) := by decide +kernel
theorem dX7_feed_49 : decode cX7_feed 49 = .ok (.ireturn, 1) := by decide +kernel
theorem dX7_trim_0 : decode cX7_trim 0 = .ok (.iload_n 1, 1) := by decide +kernel
theorem dX7_trim_1 : decode cX7_trim 1 = .ok (.ifCond .lt 14, 3) := by decide +kernel
theorem dX7_trim_4 : decode cX7_trim 4 = .ok (.iload_n 1, 1) := by decide +kernel
theorem dX7_trim_5 : decode cX7_trim 5 = .ok (.aload_n 0, 1) := by decide +kernel
theorem dX7_trim_6 : decode cX7_trim 6 = .ok (.getfield 33, 3) := by decide +kernel
theorem dX7_trim_9 : decode cX7_trim 9 = .ok (.getfield 241, 3) := by decide +kernel
theorem dX7_trim_12 : decode cX7_trim 12 = .ok (.if_icmp .le 6, 3) := by decide +kernel
theorem dX7_trim_15 : decode cX7_trim 15 = .ok (.ldc 85, 2) := by decide +kernel
theorem dX7_trim_17 : decode cX7_trim 17 = .ok (.ireturn, 1) := by decide +kernel
theorem dX7_trim_18 : decode cX7_trim 18 = .ok (.aload_n 0, 1) := by decide +kernel
theorem dX7_trim_19 : decode cX7_trim 19 = .ok (.getfield 33, 3) := by decide +kernel
theorem dX7_trim_22 : decode cX7_trim 22 = .ok (.iload_n 1, 1) := by decide +kernel
theorem dX7_trim_23 : decode cX7_trim 23 = .ok (.putfield 241, 3) := by decide +kernel
theorem dX7_trim_26 : decode cX7_trim 26 = .ok (.iload_n 1, 1) := by decide +kernel
theorem dX7_trim_27 : decode cX7_trim 27 = .ok (.ireturn, 1) := by decide +kernel
theorem dX7_text_0 : decode cX7_text 0 = .ok (.aload_n 0, 1) := by decide +kernel
theorem dX7_text_1 : decode cX7_text 1 = .ok (.getfield 40, 3) := by decide +kernel
theorem dX7_text_4 : decode cX7_text 4 = .ok (.aload_n 0, 1) := by decide +kernel
theorem dX7_text_5 : decode cX7_text 5 = .ok (.getfield 33, 3) := by decide +kernel
theorem dX7_text_8 : decode cX7_text 8 = .ok (.invokevirtual 248, 3) := by decide +kernel
theorem dX7_text_11 : decode cX7_text 11 = .ok (.istore_n 1, 1) := by decide +kernel
theorem dX7_text_12 : decode cX7_text 12 = .ok (.aload_n 0, 1) := by decide +kernel
theorem dX7_text_13 : decode cX7_text 13 = .ok (.getfield 33, 3) := by decide +kernel
theorem dX7_text_16 : decode cX7_text 16 = .ok (.iconst 0, 1) := by decide +kernel
theorem dX7_text_17 : decode cX7_text 17 = .ok (.putfield 241, 3) := by decide +kernel
theorem dX7_text_20 : decode cX7_text 20 = .ok (.iload_n 1, 1) := by decide +kernel
theorem dX7_text_21 : decode cX7_text 21 = .ok (.ifCond .ne 14, 3) := by decide +kernel
theorem dX7_text_24 : decode cX7_text 24 = .ok (.bipush (-100), 2) := by decide +kernel
theorem dX7_text_26 : decode cX7_text 26 = .ok (.aload_n 0, 1) := by decide +kernel
theorem dX7_text_27 : decode cX7_text 27 = .ok (.getfield 33, 3) := by decide +kernel
theorem dX7_text_30 : decode cX7_text 30 = .ok (.getfield 252, 3) := by decide +kernel
theorem dX7_text_33 : decode cX7_text 33 = .ok (.isub, 1) := by decide +kernel
theorem dX7_text_34 : decode cX7_text 34 = .ok (.ireturn, 1) := by decide +kernel
theorem dX7_text_35 : decode cX7_text 35 = .ok (.aload_n 0, 1) := by decide +kernel
theorem dX7_text_36 : decode cX7_text 36 = .ok (.getfield 10, 3) := by decide +kernel
theorem dX7_text_39 : decode cX7_text 39 = .ok (.getfield 255, 3) := by decide +kernel
theorem dX7_text_42 : decode cX7_text 42 = .ok (.bipush 14, 2) := by decide +kernel
theorem dX7_text_44 : decode cX7_text 44 = .ok (.if_icmp .lt 6, 3) := by decide +kernel
theorem dX7_text_47 : decode cX7_text 47 = .ok (.ldc 89, 2) := by decide +kernel
theorem dX7_text_49 : decode cX7_text 49 = .ok (.ireturn, 1) := by decide +kernel
theorem dX7_text_50 : decode cX7_text 50 = .ok (.aload_n 0, 1) := by decide +kernel
theorem dX7_text_51 : decode cX7_text 51 = .ok (.getfield 10, 3) := by decide +kernel
theorem dX7_text_54 : decode cX7_text 54 = .ok (.getfield 255, 3) := by decide +kernel
theorem dX7_text_57 : decode cX7_text 57 = .ok (.istore_n 2, 1) := by decide +kernel
theorem dX7_text_58 : decode cX7_text 58 = .ok (.aload_n 0, 1) := by decide +kernel
theorem dX7_text_59 : decode cX7_text 59 = .ok (.getfield 47, 3) := by decide +kernel
theorem dX7_text_62 : decode cX7_text 62 = .ok (.iload_n 2, 1) := by decide +kernel
theorem dX7_text_63 : decode cX7_text 63 = .ok (.aload_n 0, 1) := by decide +kernel
theorem dX7_text_64 : decode cX7_text 64 = .ok (.getfield 40, 3) := by decide +kernel
theorem dX7_text_67 : decode cX7_text 67 = .ok (.invokevirtual 258, 3) := by decide +kernel
theorem dX7_text_70 : decode cX7_text 70 = .ok (.aload_n 0, 1) := by decide +kernel
theorem dX7_text_71 : decode cX7_text 71 = .ok (.getfield 10, 3) := by decide +kernel
theorem dX7_text_74 : decode cX7_text 74 = .ok (.dup, 1) := by decide +kernel
theorem dX7_text_75 : decode cX7_text 75 = .ok (.getfield 255, 3) := by decide +kernel
theorem dX7_text_78 : decode cX7_text 78 = .ok (.iconst 1, 1) := by decide +kernel
theorem dX7_text_79 : decode cX7_text 79 = .ok (.iadd, 1) := by decide +kernel
theorem dX7_text_80 : decode cX7_text 80 = .ok (.putfield 255, 3) := by decide +kernel
theorem dX7_text_83 : decode cX7_text 83 = .ok (.aload_n 0, 1) := by decide +kernel
theorem dX7_text_84 : decode cX7_text 84 = .ok (.getfield 10, 3) := by decide +kernel
theorem dX7_text_87 : decode cX7_text 87 = .ok (.getfield 235, 3) := by decide +kernel
theorem dX7_text_90 : decode cX7_text 90 = .ok (.aload_n 0, 1) := by decide +kernel
theorem dX7_text_91 : decode cX7_text 91 = .ok (.getfield 40, 3) := by decide +kernel
theorem dX7_text_94 : decode cX7_text 94 = .ok (.getfield 262, 3) := by decide +kernel
theorem dX7_text_97 : decode cX7_text 97 = .ok (.iload_n 2, 1) := by decide +kernel
theorem dX7_text_98 : decode cX7_text 98 = .ok (.iastore, 1) := by decide +kernel
theorem dX7_text_99 : decode cX7_text 99 = .ok (.iload_n 2, 1) := by decide +kernel
theorem dX7_text_100 : decode cX7_text 100 = .ok (.ireturn, 1) := by decide +kernel
theorem dX7_textTold_0 : decode cX7_textTold 0 = .ok (.iload_n 1, 1) := by decide +kernel
theorem dX7_textTold_1 : decode cX7_textTold 1 = .ok (.ifCond .lt 21, 3) := by decide +kernel
theorem dX7_textTold_4 : decode cX7_textTold 4 = .ok (.iload_n 1, 1) := by decide +kernel
theorem dX7_textTold_5 : decode cX7_textTold 5 = .ok (.aload_n 0, 1) := by decide +kernel
theorem dX7_textTold_6 : decode cX7_textTold 6 = .ok (.getfield 10, 3) := by decide +kernel
theorem dX7_textTold_9 : decode cX7_textTold 9 = .ok (.getfield 255, 3) := by decide +kernel
theorem dX7_textTold_12 : decode cX7_textTold 12 = .ok (.if_icmp .ge 10, 3) := by decide +kernel
theorem dX7_textTold_15 : decode cX7_textTold 15 = .ok (.iload_n 2, 1) := by decide +kernel
theorem dX7_textTold_16 : decode cX7_textTold 16 = .ok (.invokestatic 212, 3) := by decide +kernel
theorem dX7_textTold_19 : decode cX7_textTold 19 = .ok (.ifCond .ne 6, 3) := by decide +kernel
theorem dX7_textTold_22 : decode cX7_textTold 22 = .ok (.ldc 85, 2) := by decide +kernel
theorem dX7_textTold_24 : decode cX7_textTold 24 = .ok (.ireturn, 1) := by decide +kernel
theorem dX7_textTold_25 : decode cX7_textTold 25 = .ok (.iload_n 2, 1) := by decide +kernel
theorem dX7_textTold_26 : decode cX7_textTold 26 = .ok (.ifCond .ne 15, 3) := by decide +kernel
theorem dX7_textTold_29 : decode cX7_textTold 29 = .ok (.aload_n 0, 1) := by decide +kernel
theorem dX7_textTold_30 : decode cX7_textTold 30 = .ok (.getfield 47, 3) := by decide +kernel
theorem dX7_textTold_33 : decode cX7_textTold 33 = .ok (.getfield 265, 3) := by decide +kernel
theorem dX7_textTold_36 : decode cX7_textTold 36 = .ok (.iload_n 1, 1) := by decide +kernel
theorem dX7_textTold_37 : decode cX7_textTold 37 = .ok (.iaload, 1) := by decide +kernel
theorem dX7_textTold_38 : decode cX7_textTold 38 = .ok (.goto 12, 3) := by decide +kernel
theorem dX7_textTold_41 : decode cX7_textTold 41 = .ok (.aload_n 0, 1) := by decide +kernel
theorem dX7_textTold_42 : decode cX7_textTold 42 = .ok (.getfield 47, 3) := by decide +kernel
theorem dX7_textTold_45 : decode cX7_textTold 45 = .ok (.getfield 268, 3) := by decide +kernel
theorem dX7_textTold_48 : decode cX7_textTold 48 = .ok (.iload_n 1, 1) := by decide +kernel
theorem dX7_textTold_49 : decode cX7_textTold 49 = .ok (.iaload, 1) := by decide +kernel
theorem dX7_textTold_50 : decode cX7_textTold 50 = .ok (.ireturn, 1) := by decide +kernel
theorem dX7_why_0 : decode cX7_why 0 = .ok (.iload_n 1, 1) := by decide +kernel
theorem dX7_why_1 : decode cX7_why 1 = .ok (.ifCond .lt 8, 3) := by decide +kernel
theorem dX7_why_4 : decode cX7_why 4 = .ok (.iload_n 1, 1) := by decide +kernel
theorem dX7_why_5 : decode cX7_why 5 = .ok (.iconst 3, 1) := by decide +kernel
theorem dX7_why_6 : decode cX7_why 6 = .ok (.if_icmp .lt 6, 3) := by decide +kernel
theorem dX7_why_9 : decode cX7_why 9 = .ok (.ldc 85, 2) := by decide +kernel
theorem dX7_why_11 : decode cX7_why 11 = .ok (.ireturn, 1) := by decide +kernel
theorem dX7_why_12 : decode cX7_why 12 = .ok (.aload_n 0, 1) := by decide +kernel
theorem dX7_why_13 : decode cX7_why 13 = .ok (.getfield 10, 3) := by decide +kernel
theorem dX7_why_16 : decode cX7_why 16 = .ok (.getfield 235, 3) := by decide +kernel
theorem dX7_why_19 : decode cX7_why 19 = .ok (.iload_n 1, 1) := by decide +kernel
theorem dX7_why_20 : decode cX7_why 20 = .ok (.iaload, 1) := by decide +kernel
theorem dX7_why_21 : decode cX7_why 21 = .ok (.ifCond .ge 8, 3) := by decide +kernel
theorem dX7_why_24 : decode cX7_why 24 = .ok (.ldc 208, 2) := by decide +kernel
theorem dX7_why_26 : decode cX7_why 26 = .ok (.goto 12, 3) := by decide +kernel
theorem dX7_why_29 : decode cX7_why 29 = .ok (.aload_n 0, 1) := by decide +kernel
theorem dX7_why_30 : decode cX7_why 30 = .ok (.getfield 10, 3) := by decide +kernel
theorem dX7_why_33 : decode cX7_why 33 = .ok (.getfield 235, 3) := by decide +kernel
theorem dX7_why_36 : decode cX7_why 36 = .ok (.iload_n 1, 1) := by decide +kernel
theorem dX7_why_37 : decode cX7_why 37 = .ok (.iaload, 1) := by decide +kernel
theorem dX7_why_38 : decode cX7_why 38 = .ok (.ireturn, 1) := by decide +kernel
theorem dX7_sheet_0 : decode cX7_sheet 0 = .ok (.aload_n 0, 1) := by decide +kernel
theorem dX7_sheet_1 : decode cX7_sheet 1 = .ok (.iload_n 1, 1) := by decide +kernel
theorem dX7_sheet_2 : decode cX7_sheet 2 = .ok (.invokevirtual 222, 3) := by decide +kernel
theorem dX7_sheet_5 : decode cX7_sheet 5 = .ok (.astore 4, 2) := by decide +kernel
theorem dX7_sheet_7 : decode cX7_sheet 7 = .ok (.aload 4, 2) := by decide +kernel
theorem dX7_sheet_9 : decode cX7_sheet 9 = .ok (.ifnull 13, 3) := by decide +kernel
theorem dX7_sheet_12 : decode cX7_sheet 12 = .ok (.iload_n 2, 1) := by decide +kernel
theorem dX7_sheet_13 : decode cX7_sheet 13 = .ok (.iconst (-1), 1) := by decide +kernel
theorem dX7_sheet_14 : decode cX7_sheet 14 = .ok (.if_icmp .lt 8, 3) := by decide +kernel
theorem dX7_sheet_17 : decode cX7_sheet 17 = .ok (.iload_n 2, 1) := by decide +kernel
theorem dX7_sheet_18 : decode cX7_sheet 18 = .ok (.iconst 1, 1) := by decide +kernel
theorem dX7_sheet_19 : decode cX7_sheet 19 = .ok (.if_icmp .le 6, 3) := by decide +kernel
theorem dX7_sheet_22 : decode cX7_sheet 22 = .ok (.ldc 85, 2) := by decide +kernel
theorem dX7_sheet_24 : decode cX7_sheet 24 = .ok (.ireturn, 1) := by decide +kernel
theorem dX7_sheet_25 : decode cX7_sheet 25 = .ok (.iload_n 2, 1) := by decide +kernel
theorem dX7_sheet_26 : decode cX7_sheet 26 = .ok (.iconst (-1), 1) := by decide +kernel
theorem dX7_sheet_27 : decode cX7_sheet 27 = .ok (.if_icmp .ne 12, 3) := by decide +kernel
theorem dX7_sheet_30 : decode cX7_sheet 30 = .ok (.aload 4, 2) := by decide +kernel
theorem dX7_sheet_32 : decode cX7_sheet 32 = .ok (.iconst (-1), 1) := by decide +kernel
theorem dX7_sheet_33 : decode cX7_sheet 33 = .ok (.iconst 0, 1) := by decide +kernel
theorem dX7_sheet_34 : decode cX7_sheet 34 = .ok (.invokevirtual 271, 3) := by decide +kernel
theorem dX7_sheet_37 : decode cX7_sheet 37 = .ok (.iconst 0, 1) := by decide +kernel
theorem dX7_sheet_38 : decode cX7_sheet 38 = .ok (.ireturn, 1) := by decide +kernel
theorem dX7_sheet_39 : decode cX7_sheet 39 = .ok (.iload_n 3, 1) := by decide +kernel
theorem dX7_sheet_40 : decode cX7_sheet 40 = .ok (.bipush 24, 2) := by decide +kernel
theorem dX7_sheet_42 : decode cX7_sheet 42 = .ok (.if_icmp .le 6, 3) := by decide +kernel
theorem dX7_sheet_45 : decode cX7_sheet 45 = .ok (.ldc 85, 2) := by decide +kernel
theorem dX7_sheet_47 : decode cX7_sheet 47 = .ok (.ireturn, 1) := by decide +kernel
theorem dX7_sheet_48 : decode cX7_sheet 48 = .ok (.iload_n 3, 1) := by decide +kernel
theorem dX7_sheet_49 : decode cX7_sheet 49 = .ok (.ifCond .ge 7, 3) := by decide +kernel
theorem dX7_sheet_52 : decode cX7_sheet 52 = .ok (.ldc_w 275, 3) := by decide +kernel
theorem dX7_sheet_55 : decode cX7_sheet 55 = .ok (.ireturn, 1) := by decide +kernel
theorem dX7_sheet_56 : decode cX7_sheet 56 = .ok (.aload 4, 2) := by decide +kernel
theorem dX7_sheet_58 : decode cX7_sheet 58 = .ok (.iload_n 2, 1) := by decide +kernel
theorem dX7_sheet_59 : decode cX7_sheet 59 = .ok (.iload_n 3, 1) := by decide +kernel
theorem dX7_sheet_60 : decode cX7_sheet 60 = .ok (.invokevirtual 271, 3) := by decide +kernel
theorem dX7_sheet_63 : decode cX7_sheet 63 = .ok (.iload_n 3, 1) := by decide +kernel
theorem dX7_sheet_64 : decode cX7_sheet 64 = .ok (.ireturn, 1) := by decide +kernel
theorem dX7_mark_0 : decode cX7_mark 0 = .ok (.aload_n 0, 1) := by decide +kernel
theorem dX7_mark_1 : decode cX7_mark 1 = .ok (.iload_n 1, 1) := by decide +kernel
theorem dX7_mark_2 : decode cX7_mark 2 = .ok (.invokevirtual 222, 3) := by decide +kernel
theorem dX7_mark_5 : decode cX7_mark 5 = .ok (.astore 4, 2) := by decide +kernel
theorem dX7_mark_7 : decode cX7_mark 7 = .ok (.aload 4, 2) := by decide +kernel
theorem dX7_mark_9 : decode cX7_mark 9 = .ok (.ifnonnull 6, 3) := by decide +kernel
theorem dX7_mark_12 : decode cX7_mark 12 = .ok (.ldc 85, 2) := by decide +kernel
theorem dX7_mark_14 : decode cX7_mark 14 = .ok (.ireturn, 1) := by decide +kernel
theorem dX7_mark_15 : decode cX7_mark 15 = .ok (.aload 4, 2) := by decide +kernel
theorem dX7_mark_17 : decode cX7_mark 17 = .ok (.invokevirtual 226, 3) := by decide +kernel
theorem dX7_mark_20 : decode cX7_mark 20 = .ok (.ifCond .eq 6, 3) := by decide +kernel
theorem dX7_mark_23 : decode cX7_mark 23 = .ok (.ldc 230, 2) := by decide +kernel
theorem dX7_mark_25 : decode cX7_mark 25 = .ok (.ireturn, 1) := by decide +kernel
theorem dX7_mark_26 : decode cX7_mark 26 = .ok (.aload 4, 2) := by decide +kernel
theorem dX7_mark_28 : decode cX7_mark 28 = .ok (.iload_n 2, 1) := by decide +kernel
theorem dX7_mark_29 : decode cX7_mark 29 = .ok (.iconst 1, 1) := by decide +kernel
theorem dX7_mark_30 : decode cX7_mark 30 = .ok (.invokevirtual 276, 3) := by decide +kernel
theorem dX7_mark_33 : decode cX7_mark 33 = .ok (.ifCond .ne 7, 3) := by decide +kernel
theorem dX7_mark_36 : decode cX7_mark 36 = .ok (.ldc_w 279, 3) := by decide +kernel
theorem dX7_mark_39 : decode cX7_mark 39 = .ok (.ireturn, 1) := by decide +kernel
theorem dX7_mark_40 : decode cX7_mark 40 = .ok (.aload 4, 2) := by decide +kernel
theorem dX7_mark_42 : decode cX7_mark 42 = .ok (.getfield 280, 3) := by decide +kernel
theorem dX7_mark_45 : decode cX7_mark 45 = .ok (.ifCond .ne 23, 3) := by decide +kernel
theorem dX7_mark_48 : decode cX7_mark 48 = .ok (.iload_n 3, 1) := by decide +kernel
theorem dX7_mark_49 : decode cX7_mark 49 = .ok (.ldc 208, 2) := by decide +kernel
theorem dX7_mark_51 : decode cX7_mark 51 = .ok (.if_icmp .ne 6, 3) := by decide +kernel
theorem dX7_mark_54 : decode cX7_mark 54 = .ok (.ldc 133, 2) := by decide +kernel
theorem dX7_mark_56 : decode cX7_mark 56 = .ok (.ireturn, 1) := by decide +kernel
theorem dX7_mark_57 : decode cX7_mark 57 = .ok (.aload 4, 2) := by decide +kernel
theorem dX7_mark_59 : decode cX7_mark 59 = .ok (.getfield 283, 3) := by decide +kernel
theorem dX7_mark_62 : decode cX7_mark 62 = .ok (.iload_n 2, 1) := by decide +kernel
theorem dX7_mark_63 : decode cX7_mark 63 = .ok (.iload_n 3, 1) := by decide +kernel
theorem dX7_mark_64 : decode cX7_mark 64 = .ok (.i2s, 1) := by decide +kernel
theorem dX7_mark_65 : decode cX7_mark 65 = .ok (.iastore, 1) := by decide +kernel
theorem dX7_mark_66 : decode cX7_mark 66 = .ok (.iconst 1, 1) := by decide +kernel
theorem dX7_mark_67 : decode cX7_mark 67 = .ok (.ireturn, 1) := by decide +kernel
theorem dX7_mark_68 : decode cX7_mark 68 = .ok (.iload_n 3, 1) := by decide +kernel
theorem dX7_mark_69 : decode cX7_mark 69 = .ok (.ldc 208, 2) := by decide +kernel
theorem dX7_mark_71 : decode cX7_mark 71 = .ok (.if_icmp .eq 20, 3) := by decide +kernel
theorem dX7_mark_74 : decode cX7_mark 74 = .ok (.iload_n 3, 1) := by decide +kernel
theorem dX7_mark_75 : decode cX7_mark 75 = .ok (.ldc_w 286, 3) := by decide +kernel
theorem dX7_mark_78 : decode cX7_mark 78 = .ok (.if_icmp .lt 10, 3) := by decide +kernel
theorem dX7_mark_81 : decode cX7_mark 81 = .ok (.iload_n 3, 1) := by decide +kernel
theorem dX7_mark_82 : decode cX7_mark 82 = .ok (.ldc_w 287, 3) := by decide +kernel
theorem dX7_mark_85 : decode cX7_mark 85 = .ok (.if_icmp .le 6, 3) := by decide +kernel
theorem dX7_mark_88 : decode cX7_mark 88 = .ok (.ldc 85, 2) := by decide +kernel
theorem dX7_mark_90 : decode cX7_mark 90 = .ok (.ireturn, 1) := by decide +kernel
theorem dX7_mark_91 : decode cX7_mark 91 = .ok (.aload 4, 2) := by decide +kernel
theorem dX7_mark_93 : decode cX7_mark 93 = .ok (.getfield 283, 3) := by decide +kernel
theorem dX7_mark_96 : decode cX7_mark 96 = .ok (.iload_n 2, 1) := by decide +kernel
theorem dX7_mark_97 : decode cX7_mark 97 = .ok (.iload_n 3, 1) := by decide +kernel
theorem dX7_mark_98 : decode cX7_mark 98 = .ok (.iastore, 1) := by decide +kernel
theorem dX7_mark_99 : decode cX7_mark 99 = .ok (.iconst 1, 1) := by decide +kernel
theorem dX7_mark_100 : decode cX7_mark 100 = .ok (.ireturn, 1) := by decide +kernel
theorem dX7_pour_0 : decode cX7_pour 0 = .ok (.aload_n 0, 1) := by decide +kernel
theorem dX7_pour_1 : decode cX7_pour 1 = .ok (.iload_n 1, 1) := by decide +kernel
theorem dX7_pour_2 : decode cX7_pour 2 = .ok (.invokevirtual 222, 3) := by decide +kernel
theorem dX7_pour_5 : decode cX7_pour 5 = .ok (.astore_n 2, 1) := by decide +kernel
theorem dX7_pour_6 : decode cX7_pour 6 = .ok (.aload_n 2, 1) := by decide +kernel
theorem dX7_pour_7 : decode cX7_pour 7 = .ok (.ifnonnull 6, 3) := by decide +kernel
theorem dX7_pour_10 : decode cX7_pour 10 = .ok (.ldc 85, 2) := by decide +kernel
theorem dX7_pour_12 : decode cX7_pour 12 = .ok (.ireturn, 1) := by decide +kernel
theorem dX7_pour_13 : decode cX7_pour 13 = .ok (.aload_n 2, 1) := by decide +kernel
theorem dX7_pour_14 : decode cX7_pour 14 = .ok (.invokevirtual 226, 3) := by decide +kernel
theorem dX7_pour_17 : decode cX7_pour 17 = .ok (.ifCond .eq 6, 3) := by decide +kernel
theorem dX7_pour_20 : decode cX7_pour 20 = .ok (.ldc 230, 2) := by decide +kernel
theorem dX7_pour_22 : decode cX7_pour 22 = .ok (.ireturn, 1) := by decide +kernel
theorem dX7_pour_23 : decode cX7_pour 23 = .ok (.iconst 0, 1) := by decide +kernel
theorem dX7_pour_24 : decode cX7_pour 24 = .ok (.istore_n 3, 1) := by decide +kernel
theorem dX7_pour_25 : decode cX7_pour 25 = .ok (.iconst 0, 1) := by decide +kernel
theorem dX7_pour_26 : decode cX7_pour 26 = .ok (.istore 4, 2) := by decide +kernel
theorem dX7_pour_28 : decode cX7_pour 28 = .ok (.iload 4, 2) := by decide +kernel
theorem dX7_pour_30 : decode cX7_pour 30 = .ok (.bipush 10, 2) := by decide +kernel
theorem dX7_pour_32 : decode cX7_pour 32 = .ok (.if_icmp .ge 66, 3) := by decide +kernel
theorem dX7_pour_35 : decode cX7_pour 35 = .ok (.iload 4, 2) := by decide +kernel
theorem dX7_pour_37 : decode cX7_pour 37 = .ok (.aload_n 2, 1) := by decide +kernel
theorem dX7_pour_38 : decode cX7_pour 38 = .ok (.getfield 288, 3) := by decide +kernel
theorem dX7_pour_41 : decode cX7_pour 41 = .ok (.if_icmp .ge 57, 3) := by decide +kernel
theorem dX7_pour_44 : decode cX7_pour 44 = .ok (.aload_n 2, 1) := by decide +kernel
theorem dX7_pour_45 : decode cX7_pour 45 = .ok (.iload 4, 2) := by decide +kernel
theorem dX7_pour_47 : decode cX7_pour 47 = .ok (.invokevirtual 291, 3) := by decide +kernel
theorem dX7_pour_50 : decode cX7_pour 50 = .ok (.ifCond .ne 6, 3) := by decide +kernel
theorem dX7_pour_53 : decode cX7_pour 53 = .ok (.goto 39, 3) := by decide +kernel
theorem dX7_pour_56 : decode cX7_pour 56 = .ok (.aload_n 2, 1) := by decide +kernel
theorem dX7_pour_57 : decode cX7_pour 57 = .ok (.getfield 283, 3) := by decide +kernel
theorem dX7_pour_60 : decode cX7_pour 60 = .ok (.iload 4, 2) := by decide +kernel
theorem dX7_pour_62 : decode cX7_pour 62 = .ok (.iaload, 1) := by decide +kernel
theorem dX7_pour_63 : decode cX7_pour 63 = .ok (.bipush 9, 2) := by decide +kernel
theorem dX7_pour_65 : decode cX7_pour 65 = .ok (.invokestatic 294, 3) := by decide +kernel
theorem dX7_pour_68 : decode cX7_pour 68 = .ok (.istore 5, 2) := by decide +kernel
theorem dX7_pour_70 : decode cX7_pour 70 = .ok (.aload_n 0, 1) := by decide +kernel
theorem dX7_pour_71 : decode cX7_pour 71 = .ok (.getfield 10, 3) := by decide +kernel
theorem dX7_pour_74 : decode cX7_pour 74 = .ok (.getfield 138, 3) := by decide +kernel
theorem dX7_pour_77 : decode cX7_pour 77 = .ok (.iload 4, 2) := by decide +kernel
theorem dX7_pour_79 : decode cX7_pour 79 = .ok (.iload 5, 2) := by decide +kernel
theorem dX7_pour_81 : decode cX7_pour 81 = .ok (.invokestatic 134, 3) := by decide +kernel
theorem dX7_pour_84 : decode cX7_pour 84 = .ok (.iload 5, 2) := by decide +kernel
theorem dX7_pour_86 : decode cX7_pour 86 = .ok (.if_icmp .eq 6, 3) := by decide +kernel
theorem dX7_pour_89 : decode cX7_pour 89 = .ok (.iinc 3 1, 3) := by decide +kernel
theorem dX7_pour_92 : decode cX7_pour 92 = .ok (.iinc 4 1, 3) := by decide +kernel
theorem dX7_pour_95 : decode cX7_pour 95 = .ok (.goto (-67), 3) := by decide +kernel
theorem dX7_pour_98 : decode cX7_pour 98 = .ok (.iload_n 3, 1) := by decide +kernel
theorem dX7_pour_99 : decode cX7_pour 99 = .ok (.ireturn, 1) := by decide +kernel
theorem dX7_reads_0 : decode cX7_reads 0 = .ok (.aload_n 0, 1) := by decide +kernel
theorem dX7_reads_1 : decode cX7_reads 1 = .ok (.iload_n 1, 1) := by decide +kernel
theorem dX7_reads_2 : decode cX7_reads 2 = .ok (.invokevirtual 222, 3) := by decide +kernel
theorem dX7_reads_5 : decode cX7_reads 5 = .ok (.astore_n 2, 1) := by decide +kernel
theorem dX7_reads_6 : decode cX7_reads 6 = .ok (.aload_n 2, 1) := by decide +kernel
theorem dX7_reads_7 : decode cX7_reads 7 = .ok (.ifnonnull 6, 3) := by decide +kernel
theorem dX7_reads_10 : decode cX7_reads 10 = .ok (.ldc 85, 2) := by decide +kernel
theorem dX7_reads_12 : decode cX7_reads 12 = .ok (.ireturn, 1) := by decide +kernel
theorem dX7_reads_13 : decode cX7_reads 13 = .ok (.aload_n 2, 1) := by decide +kernel
theorem dX7_reads_14 : decode cX7_reads 14 = .ok (.invokevirtual 226, 3) := by decide +kernel
theorem dX7_reads_17 : decode cX7_reads 17 = .ok (.ifCond .eq 6, 3) := by decide +kernel
theorem dX7_reads_20 : decode cX7_reads 20 = .ok (.ldc 230, 2) := by decide +kernel
theorem dX7_reads_22 : decode cX7_reads 22 = .ok (.ireturn, 1) := by decide +kernel
theorem dX7_reads_23 : decode cX7_reads 23 = .ok (.iconst 0, 1) := by decide +kernel
theorem dX7_reads_24 : decode cX7_reads 24 = .ok (.istore_n 3, 1) := by decide +kernel
theorem dX7_reads_25 : decode cX7_reads 25 = .ok (.iload_n 3, 1) := by decide +kernel
theorem dX7_reads_26 : decode cX7_reads 26 = .ok (.aload_n 2, 1) := by decide +kernel
theorem dX7_reads_27 : decode cX7_reads 27 = .ok (.getfield 288, 3) := by decide +kernel
theorem dX7_reads_30 : decode cX7_reads 30 = .ok (.if_icmp .ge 43, 3) := by decide +kernel
theorem dX7_reads_33 : decode cX7_reads 33 = .ok (.aload_n 2, 1) := by decide +kernel
theorem dX7_reads_34 : decode cX7_reads 34 = .ok (.iload_n 3, 1) := by decide +kernel
theorem dX7_reads_35 : decode cX7_reads 35 = .ok (.invokevirtual 291, 3) := by decide +kernel
theorem dX7_reads_38 : decode cX7_reads 38 = .ok (.ifCond .eq 29, 3) := by decide +kernel
theorem dX7_reads_41 : decode cX7_reads 41 = .ok (.iload_n 3, 1) := by decide +kernel
theorem dX7_reads_42 : decode cX7_reads 42 = .ok (.bipush 10, 2) := by decide +kernel
theorem dX7_reads_44 : decode cX7_reads 44 = .ok (.if_icmp .ge 21, 3) := by decide +kernel
theorem dX7_reads_47 : decode cX7_reads 47 = .ok (.aload_n 2, 1) := by decide +kernel
theorem dX7_reads_48 : decode cX7_reads 48 = .ok (.getfield 283, 3) := by decide +kernel
theorem dX7_reads_51 : decode cX7_reads 51 = .ok (.iload_n 3, 1) := by decide +kernel
theorem dX7_reads_52 : decode cX7_reads 52 = .ok (.iaload, 1) := by decide +kernel
theorem dX7_reads_53 : decode cX7_reads 53 = .ok (.aload_n 0, 1) := by decide +kernel
theorem dX7_reads_54 : decode cX7_reads 54 = .ok (.getfield 10, 3) := by decide +kernel
theorem dX7_reads_57 : decode cX7_reads 57 = .ok (.getfield 144, 3) := by decide +kernel
theorem dX7_reads_60 : decode cX7_reads 60 = .ok (.iload_n 3, 1) := by decide +kernel
theorem dX7_reads_61 : decode cX7_reads 61 = .ok (.iaload, 1) := by decide +kernel
theorem dX7_reads_62 : decode cX7_reads 62 = .ok (.if_icmp .eq 5, 3) := by decide +kernel
theorem dX7_reads_65 : decode cX7_reads 65 = .ok (.iload_n 3, 1) := by decide +kernel
theorem dX7_reads_66 : decode cX7_reads 66 = .ok (.ireturn, 1) := by decide +kernel
theorem dX7_reads_67 : decode cX7_reads 67 = .ok (.iinc 3 1, 3) := by decide +kernel
theorem dX7_reads_70 : decode cX7_reads 70 = .ok (.goto (-45), 3) := by decide +kernel
theorem dX7_reads_73 : decode cX7_reads 73 = .ok (.ldc 208, 2) := by decide +kernel
theorem dX7_reads_75 : decode cX7_reads 75 = .ok (.ireturn, 1) := by decide +kernel
theorem dX7_copy_0 : decode cX7_copy 0 = .ok (.aload_n 0, 1) := by decide +kernel
theorem dX7_copy_1 : decode cX7_copy 1 = .ok (.iload_n 1, 1) := by decide +kernel
theorem dX7_copy_2 : decode cX7_copy 2 = .ok (.invokevirtual 222, 3) := by decide +kernel
theorem dX7_copy_5 : decode cX7_copy 5 = .ok (.astore 6, 2) := by decide +kernel
theorem dX7_copy_7 : decode cX7_copy 7 = .ok (.aload_n 0, 1) := by decide +kernel
theorem dX7_copy_8 : decode cX7_copy 8 = .ok (.iload_n 3, 1) := by decide +kernel
theorem dX7_copy_9 : decode cX7_copy 9 = .ok (.invokevirtual 222, 3) := by decide +kernel
theorem dX7_copy_12 : decode cX7_copy 12 = .ok (.astore 7, 2) := by decide +kernel
theorem dX7_copy_14 : decode cX7_copy 14 = .ok (.aload 6, 2) := by decide +kernel
theorem dX7_copy_16 : decode cX7_copy 16 = .ok (.ifnull 8, 3) := by decide +kernel
theorem dX7_copy_19 : decode cX7_copy 19 = .ok (.aload 7, 2) := by decide +kernel
theorem dX7_copy_21 : decode cX7_copy 21 = .ok (.ifnonnull 6, 3) := by decide +kernel
theorem dX7_copy_24 : decode cX7_copy 24 = .ok (.ldc 85, 2) := by decide +kernel
theorem dX7_copy_26 : decode cX7_copy 26 = .ok (.ireturn, 1) := by decide +kernel
theorem dX7_copy_27 : decode cX7_copy 27 = .ok (.aload 6, 2) := by decide +kernel
theorem dX7_copy_29 : decode cX7_copy 29 = .ok (.invokevirtual 226, 3) := by decide +kernel
theorem dX7_copy_32 : decode cX7_copy 32 = .ok (.ifCond .ne 11, 3) := by decide +kernel
theorem dX7_copy_35 : decode cX7_copy 35 = .ok (.aload 7, 2) := by decide +kernel
theorem dX7_copy_37 : decode cX7_copy 37 = .ok (.invokevirtual 226, 3) := by decide +kernel
theorem dX7_copy_40 : decode cX7_copy 40 = .ok (.ifCond .eq 6, 3) := by decide +kernel
theorem dX7_copy_43 : decode cX7_copy 43 = .ok (.ldc 230, 2) := by decide +kernel
theorem dX7_copy_45 : decode cX7_copy 45 = .ok (.ireturn, 1) := by decide +kernel
theorem dX7_copy_46 : decode cX7_copy 46 = .ok (.aload 6, 2) := by decide +kernel
theorem dX7_copy_48 : decode cX7_copy 48 = .ok (.getfield 280, 3) := by decide +kernel
theorem dX7_copy_51 : decode cX7_copy 51 = .ok (.aload 7, 2) := by decide +kernel
theorem dX7_copy_53 : decode cX7_copy 53 = .ok (.getfield 280, 3) := by decide +kernel
theorem dX7_copy_56 : decode cX7_copy 56 = .ok (.if_icmp .eq 6, 3) := by decide +kernel
theorem dX7_copy_59 : decode cX7_copy 59 = .ok (.ldc 133, 2) := by decide +kernel
theorem dX7_copy_61 : decode cX7_copy 61 = .ok (.ireturn, 1) := by decide +kernel
theorem dX7_copy_62 : decode cX7_copy 62 = .ok (.aload 6, 2) := by decide +kernel
theorem dX7_copy_64 : decode cX7_copy 64 = .ok (.iload_n 2, 1) := by decide +kernel
theorem dX7_copy_65 : decode cX7_copy 65 = .ok (.iload 5, 2) := by decide +kernel
theorem dX7_copy_67 : decode cX7_copy 67 = .ok (.invokevirtual 276, 3) := by decide +kernel
theorem dX7_copy_70 : decode cX7_copy 70 = .ok (.ifCond .eq 15, 3) := by decide +kernel
theorem dX7_copy_73 : decode cX7_copy 73 = .ok (.aload 7, 2) := by decide +kernel
theorem dX7_copy_75 : decode cX7_copy 75 = .ok (.iload 4, 2) := by decide +kernel
theorem dX7_copy_77 : decode cX7_copy 77 = .ok (.iload 5, 2) := by decide +kernel
theorem dX7_copy_79 : decode cX7_copy 79 = .ok (.invokevirtual 276, 3) := by decide +kernel
theorem dX7_copy_82 : decode cX7_copy 82 = .ok (.ifCond .ne 7, 3) := by decide +kernel
theorem dX7_copy_85 : decode cX7_copy 85 = .ok (.ldc_w 279, 3) := by decide +kernel
theorem dX7_copy_88 : decode cX7_copy 88 = .ok (.ireturn, 1) := by decide +kernel
theorem dX7_copy_89 : decode cX7_copy 89 = .ok (.aload 6, 2) := by decide +kernel
theorem dX7_copy_91 : decode cX7_copy 91 = .ok (.getfield 283, 3) := by decide +kernel
theorem dX7_copy_94 : decode cX7_copy 94 = .ok (.iload_n 2, 1) := by decide +kernel
theorem dX7_copy_95 : decode cX7_copy 95 = .ok (.aload 7, 2) := by decide +kernel
theorem dX7_copy_97 : decode cX7_copy 97 = .ok (.getfield 283, 3) := by decide +kernel
theorem dX7_copy_100 : decode cX7_copy 100 = .ok (.iload 4, 2) := by decide +kernel
theorem dX7_copy_102 : decode cX7_copy 102 = .ok (.iload 5, 2) := by decide +kernel
theorem dX7_copy_104 : decode cX7_copy 104 = .ok (.invokestatic 297, 3) := by decide +kernel
theorem dX7_copy_107 : decode cX7_copy 107 = .ok (.iload 5, 2) := by decide +kernel
theorem dX7_copy_109 : decode cX7_copy 109 = .ok (.ireturn, 1) := by decide +kernel
theorem dX7_lay_0 : decode cX7_lay 0 = .ok (.aload_n 0, 1) := by decide +kernel
theorem dX7_lay_1 : decode cX7_lay 1 = .ok (.iload_n 1, 1) := by decide +kernel
theorem dX7_lay_2 : decode cX7_lay 2 = .ok (.invokevirtual 303, 3) := by decide +kernel
theorem dX7_lay_5 : decode cX7_lay 5 = .ok (.astore 4, 2) := by decide +kernel
theorem dX7_lay_7 : decode cX7_lay 7 = .ok (.aload 4, 2) := by decide +kernel
theorem dX7_lay_9 : decode cX7_lay 9 = .ok (.ifnonnull 6, 3) := by decide +kernel
theorem dX7_lay_12 : decode cX7_lay 12 = .ok (.ldc 85, 2) := by decide +kernel
theorem dX7_lay_14 : decode cX7_lay 14 = .ok (.ireturn, 1) := by decide +kernel
theorem dX7_lay_15 : decode cX7_lay 15 = .ok (.aload 4, 2) := by decide +kernel
theorem dX7_lay_17 : decode cX7_lay 17 = .ok (.getfield 307, 3) := by decide +kernel
theorem dX7_lay_20 : decode cX7_lay 20 = .ok (.istore 5, 2) := by decide +kernel
theorem dX7_lay_22 : decode cX7_lay 22 = .ok (.iload_n 2, 1) := by decide +kernel
theorem dX7_lay_23 : decode cX7_lay 23 = .ok (.tableswitch 122 0 3 #[29, 32, 74, 113], 29) := by decide +kernel
theorem dX7_lay_52 : decode cX7_lay 52 = .ok (.goto 96, 3) := by decide +kernel
theorem dX7_lay_55 : decode cX7_lay 55 = .ok (.aload_n 0, 1) := by decide +kernel
theorem dX7_lay_56 : decode cX7_lay 56 = .ok (.iload_n 3, 1) := by decide +kernel
theorem dX7_lay_57 : decode cX7_lay 57 = .ok (.invokevirtual 94, 3) := by decide +kernel
theorem dX7_lay_60 : decode cX7_lay 60 = .ok (.ifCond .ne 6, 3) := by decide +kernel
theorem dX7_lay_63 : decode cX7_lay 63 = .ok (.ldc 85, 2) := by decide +kernel
theorem dX7_lay_65 : decode cX7_lay 65 = .ok (.ireturn, 1) := by decide +kernel
theorem dX7_lay_66 : decode cX7_lay 66 = .ok (.aload 4, 2) := by decide +kernel
theorem dX7_lay_68 : decode cX7_lay 68 = .ok (.aload_n 0, 1) := by decide +kernel
theorem dX7_lay_69 : decode cX7_lay 69 = .ok (.getfield 10, 3) := by decide +kernel
theorem dX7_lay_72 : decode cX7_lay 72 = .ok (.getfield 97, 3) := by decide +kernel
theorem dX7_lay_75 : decode cX7_lay 75 = .ok (.iload_n 3, 1) := by decide +kernel
theorem dX7_lay_76 : decode cX7_lay 76 = .ok (.iaload, 1) := by decide +kernel
theorem dX7_lay_77 : decode cX7_lay 77 = .ok (.putfield 310, 3) := by decide +kernel
theorem dX7_lay_80 : decode cX7_lay 80 = .ok (.aload 4, 2) := by decide +kernel
theorem dX7_lay_82 : decode cX7_lay 82 = .ok (.aload_n 0, 1) := by decide +kernel
theorem dX7_lay_83 : decode cX7_lay 83 = .ok (.getfield 10, 3) := by decide +kernel
theorem dX7_lay_86 : decode cX7_lay 86 = .ok (.getfield 103, 3) := by decide +kernel
theorem dX7_lay_89 : decode cX7_lay 89 = .ok (.iload_n 3, 1) := by decide +kernel
theorem dX7_lay_90 : decode cX7_lay 90 = .ok (.iaload, 1) := by decide +kernel
theorem dX7_lay_91 : decode cX7_lay 91 = .ok (.putfield 312, 3) := by decide +kernel
theorem dX7_lay_94 : decode cX7_lay 94 = .ok (.goto 54, 3) := by decide +kernel
theorem dX7_lay_97 : decode cX7_lay 97 = .ok (.aload_n 0, 1) := by decide +kernel
theorem dX7_lay_98 : decode cX7_lay 98 = .ok (.iload_n 3, 1) := by decide +kernel
theorem dX7_lay_99 : decode cX7_lay 99 = .ok (.invokevirtual 222, 3) := by decide +kernel
theorem dX7_lay_102 : decode cX7_lay 102 = .ok (.astore 6, 2) := by decide +kernel
theorem dX7_lay_104 : decode cX7_lay 104 = .ok (.aload 6, 2) := by decide +kernel
theorem dX7_lay_106 : decode cX7_lay 106 = .ok (.ifnonnull 6, 3) := by decide +kernel
theorem dX7_lay_109 : decode cX7_lay 109 = .ok (.ldc 85, 2) := by decide +kernel
theorem dX7_lay_111 : decode cX7_lay 111 = .ok (.ireturn, 1) := by decide +kernel
theorem dX7_lay_112 : decode cX7_lay 112 = .ok (.aload 6, 2) := by decide +kernel
theorem dX7_lay_114 : decode cX7_lay 114 = .ok (.invokevirtual 226, 3) := by decide +kernel
theorem dX7_lay_117 : decode cX7_lay 117 = .ok (.ifCond .eq 6, 3) := by decide +kernel
theorem dX7_lay_120 : decode cX7_lay 120 = .ok (.ldc 230, 2) := by decide +kernel
theorem dX7_lay_122 : decode cX7_lay 122 = .ok (.ireturn, 1) := by decide +kernel
theorem dX7_lay_123 : decode cX7_lay 123 = .ok (.aload 4, 2) := by decide +kernel
theorem dX7_lay_125 : decode cX7_lay 125 = .ok (.getfield 314, 3) := by decide +kernel
theorem dX7_lay_128 : decode cX7_lay 128 = .ok (.aload 6, 2) := by decide +kernel
theorem dX7_lay_130 : decode cX7_lay 130 = .ok (.invokevirtual 318, 3) := by decide +kernel
theorem dX7_lay_133 : decode cX7_lay 133 = .ok (.goto 15, 3) := by decide +kernel
theorem dX7_lay_136 : decode cX7_lay 136 = .ok (.aload 4, 2) := by decide +kernel
theorem dX7_lay_138 : decode cX7_lay 138 = .ok (.iload_n 3, 1) := by decide +kernel
theorem dX7_lay_139 : decode cX7_lay 139 = .ok (.putfield 320, 3) := by decide +kernel
theorem dX7_lay_142 : decode cX7_lay 142 = .ok (.goto 6, 3) := by decide +kernel
theorem dX7_lay_145 : decode cX7_lay 145 = .ok (.ldc 85, 2) := by decide +kernel
theorem dX7_lay_147 : decode cX7_lay 147 = .ok (.ireturn, 1) := by decide +kernel
theorem dX7_lay_148 : decode cX7_lay 148 = .ok (.aload 4, 2) := by decide +kernel
theorem dX7_lay_150 : decode cX7_lay 150 = .ok (.iload_n 2, 1) := by decide +kernel
theorem dX7_lay_151 : decode cX7_lay 151 = .ok (.putfield 307, 3) := by decide +kernel
theorem dX7_lay_154 : decode cX7_lay 154 = .ok (.iload 5, 2) := by decide +kernel
theorem dX7_lay_156 : decode cX7_lay 156 = .ok (.ireturn, 1) := by decide +kernel
theorem dX7_ask_0 : decode cX7_ask 0 = .ok (.aload_n 0, 1) := by decide +kernel
theorem dX7_ask_1 : decode cX7_ask 1 = .ok (.iload_n 1, 1) := by decide +kernel
theorem dX7_ask_2 : decode cX7_ask 2 = .ok (.invokevirtual 303, 3) := by decide +kernel
theorem dX7_ask_5 : decode cX7_ask 5 = .ok (.astore_n 3, 1) := by decide +kernel
theorem dX7_ask_6 : decode cX7_ask 6 = .ok (.aload_n 3, 1) := by decide +kernel
theorem dX7_ask_7 : decode cX7_ask 7 = .ok (.ifnull 10, 3) := by decide +kernel
theorem dX7_ask_10 : decode cX7_ask 10 = .ok (.iload_n 2, 1) := by decide +kernel
theorem dX7_ask_11 : decode cX7_ask 11 = .ok (.invokestatic 72, 3) := by decide +kernel
theorem dX7_ask_14 : decode cX7_ask 14 = .ok (.ifCond .ne 6, 3) := by decide +kernel
theorem dX7_ask_17 : decode cX7_ask 17 = .ok (.ldc 85, 2) := by decide +kernel
theorem dX7_ask_19 : decode cX7_ask 19 = .ok (.ireturn, 1) := by decide +kernel
theorem dX7_ask_20 : decode cX7_ask 20 = .ok (.aload_n 3, 1) := by decide +kernel
theorem dX7_ask_21 : decode cX7_ask 21 = .ok (.getfield 307, 3) := by decide +kernel
theorem dX7_ask_24 : decode cX7_ask 24 = .ok (.ifCond .ne 6, 3) := by decide +kernel
theorem dX7_ask_27 : decode cX7_ask 27 = .ok (.ldc 230, 2) := by decide +kernel
theorem dX7_ask_29 : decode cX7_ask 29 = .ok (.ireturn, 1) := by decide +kernel
theorem dX7_ask_30 : decode cX7_ask 30 = .ok (.aload_n 3, 1) := by decide +kernel
theorem dX7_ask_31 : decode cX7_ask 31 = .ok (.getfield 307, 3) := by decide +kernel
theorem dX7_ask_34 : decode cX7_ask 34 = .ok (.iconst 1, 1) := by decide +kernel
theorem dX7_ask_35 : decode cX7_ask 35 = .ok (.if_icmp .ne 14, 3) := by decide +kernel
theorem dX7_ask_38 : decode cX7_ask 38 = .ok (.aload_n 3, 1) := by decide +kernel
theorem dX7_ask_39 : decode cX7_ask 39 = .ok (.getfield 310, 3) := by decide +kernel
theorem dX7_ask_42 : decode cX7_ask 42 = .ok (.iload_n 2, 1) := by decide +kernel
theorem dX7_ask_43 : decode cX7_ask 43 = .ok (.invokestatic 129, 3) := by decide +kernel
theorem dX7_ask_46 : decode cX7_ask 46 = .ok (.ifCond .ne 6, 3) := by decide +kernel
theorem dX7_ask_49 : decode cX7_ask 49 = .ok (.ldc 133, 2) := by decide +kernel
theorem dX7_ask_51 : decode cX7_ask 51 = .ok (.ireturn, 1) := by decide +kernel
theorem dX7_ask_52 : decode cX7_ask 52 = .ok (.aload_n 3, 1) := by decide +kernel
theorem dX7_ask_53 : decode cX7_ask 53 = .ok (.getfield 310, 3) := by decide +kernel
theorem dX7_ask_56 : decode cX7_ask 56 = .ok (.aload_n 3, 1) := by decide +kernel
theorem dX7_ask_57 : decode cX7_ask 57 = .ok (.getfield 312, 3) := by decide +kernel
theorem dX7_ask_60 : decode cX7_ask 60 = .ok (.invokestatic 123, 3) := by decide +kernel
theorem dX7_ask_63 : decode cX7_ask 63 = .ok (.ireturn, 1) := by decide +kernel
theorem dX7_item_0 : decode cX7_item 0 = .ok (.aload_n 0, 1) := by decide +kernel
theorem dX7_item_1 : decode cX7_item 1 = .ok (.iload_n 1, 1) := by decide +kernel
theorem dX7_item_2 : decode cX7_item 2 = .ok (.invokevirtual 303, 3) := by decide +kernel
theorem dX7_item_5 : decode cX7_item 5 = .ok (.astore_n 3, 1) := by decide +kernel
theorem dX7_item_6 : decode cX7_item 6 = .ok (.aload_n 3, 1) := by decide +kernel
theorem dX7_item_7 : decode cX7_item 7 = .ok (.ifnonnull 6, 3) := by decide +kernel
theorem dX7_item_10 : decode cX7_item 10 = .ok (.ldc 85, 2) := by decide +kernel
theorem dX7_item_12 : decode cX7_item 12 = .ok (.ireturn, 1) := by decide +kernel
theorem dX7_item_13 : decode cX7_item 13 = .ok (.aload_n 3, 1) := by decide +kernel
theorem dX7_item_14 : decode cX7_item 14 = .ok (.getfield 307, 3) := by decide +kernel
theorem dX7_item_17 : decode cX7_item 17 = .ok (.ifCond .ne 6, 3) := by decide +kernel
theorem dX7_item_20 : decode cX7_item 20 = .ok (.ldc 230, 2) := by decide +kernel
theorem dX7_item_22 : decode cX7_item 22 = .ok (.ireturn, 1) := by decide +kernel
theorem dX7_item_23 : decode cX7_item 23 = .ok (.aload_n 3, 1) := by decide +kernel
theorem dX7_item_24 : decode cX7_item 24 = .ok (.getfield 307, 3) := by decide +kernel
theorem dX7_item_27 : decode cX7_item 27 = .ok (.iconst 2, 1) := by decide +kernel
theorem dX7_item_28 : decode cX7_item 28 = .ok (.if_icmp .eq 6, 3) := by decide +kernel
theorem dX7_item_31 : decode cX7_item 31 = .ok (.ldc 133, 2) := by decide +kernel
theorem dX7_item_33 : decode cX7_item 33 = .ok (.ireturn, 1) := by decide +kernel
theorem dX7_item_34 : decode cX7_item 34 = .ok (.aload_n 3, 1) := by decide +kernel
theorem dX7_item_35 : decode cX7_item 35 = .ok (.getfield 314, 3) := by decide +kernel
theorem dX7_item_38 : decode cX7_item 38 = .ok (.iload_n 2, 1) := by decide +kernel
theorem dX7_item_39 : decode cX7_item 39 = .ok (.iconst 1, 1) := by decide +kernel
theorem dX7_item_40 : decode cX7_item 40 = .ok (.invokevirtual 276, 3) := by decide +kernel
theorem dX7_item_43 : decode cX7_item 43 = .ok (.ifCond .ne 7, 3) := by decide +kernel
theorem dX7_item_46 : decode cX7_item 46 = .ok (.ldc_w 279, 3) := by decide +kernel
theorem dX7_item_49 : decode cX7_item 49 = .ok (.ireturn, 1) := by decide +kernel
theorem dX7_item_50 : decode cX7_item 50 = .ok (.aload_n 3, 1) := by decide +kernel
theorem dX7_item_51 : decode cX7_item 51 = .ok (.getfield 314, 3) := by decide +kernel
theorem dX7_item_54 : decode cX7_item 54 = .ok (.iload_n 2, 1) := by decide +kernel
theorem dX7_item_55 : decode cX7_item 55 = .ok (.invokevirtual 291, 3) := by decide +kernel
theorem dX7_item_58 : decode cX7_item 58 = .ok (.ifCond .eq 15, 3) := by decide +kernel
theorem dX7_item_61 : decode cX7_item 61 = .ok (.aload_n 3, 1) := by decide +kernel
theorem dX7_item_62 : decode cX7_item 62 = .ok (.getfield 314, 3) := by decide +kernel
theorem dX7_item_65 : decode cX7_item 65 = .ok (.getfield 283, 3) := by decide +kernel
theorem dX7_item_68 : decode cX7_item 68 = .ok (.iload_n 2, 1) := by decide +kernel
theorem dX7_item_69 : decode cX7_item 69 = .ok (.iaload, 1) := by decide +kernel
theorem dX7_item_70 : decode cX7_item 70 = .ok (.goto 5, 3) := by decide +kernel
theorem dX7_item_73 : decode cX7_item 73 = .ok (.ldc 133, 2) := by decide +kernel
theorem dX7_item_75 : decode cX7_item 75 = .ok (.ireturn, 1) := by decide +kernel
theorem dX7_rest_0 : decode cX7_rest 0 = .ok (.aload_n 0, 1) := by decide +kernel
theorem dX7_rest_1 : decode cX7_rest 1 = .ok (.iload_n 1, 1) := by decide +kernel
theorem dX7_rest_2 : decode cX7_rest 2 = .ok (.invokevirtual 303, 3) := by decide +kernel
theorem dX7_rest_5 : decode cX7_rest 5 = .ok (.astore_n 3, 1) := by decide +kernel
theorem dX7_rest_6 : decode cX7_rest 6 = .ok (.aload_n 3, 1) := by decide +kernel
theorem dX7_rest_7 : decode cX7_rest 7 = .ok (.ifnonnull 6, 3) := by decide +kernel
theorem dX7_rest_10 : decode cX7_rest 10 = .ok (.ldc 85, 2) := by decide +kernel
theorem dX7_rest_12 : decode cX7_rest 12 = .ok (.ireturn, 1) := by decide +kernel
theorem dX7_rest_13 : decode cX7_rest 13 = .ok (.aload_n 3, 1) := by decide +kernel
theorem dX7_rest_14 : decode cX7_rest 14 = .ok (.getfield 307, 3) := by decide +kernel
theorem dX7_rest_17 : decode cX7_rest 17 = .ok (.ifCond .ne 6, 3) := by decide +kernel
theorem dX7_rest_20 : decode cX7_rest 20 = .ok (.ldc 230, 2) := by decide +kernel
theorem dX7_rest_22 : decode cX7_rest 22 = .ok (.ireturn, 1) := by decide +kernel
theorem dX7_rest_23 : decode cX7_rest 23 = .ok (.aload_n 3, 1) := by decide +kernel
theorem dX7_rest_24 : decode cX7_rest 24 = .ok (.getfield 307, 3) := by decide +kernel
theorem dX7_rest_27 : decode cX7_rest 27 = .ok (.iconst 3, 1) := by decide +kernel
theorem dX7_rest_28 : decode cX7_rest 28 = .ok (.if_icmp .eq 6, 3) := by decide +kernel
theorem dX7_rest_31 : decode cX7_rest 31 = .ok (.ldc 133, 2) := by decide +kernel
theorem dX7_rest_33 : decode cX7_rest 33 = .ok (.ireturn, 1) := by decide +kernel
theorem dX7_rest_34 : decode cX7_rest 34 = .ok (.iload_n 2, 1) := by decide +kernel
theorem dX7_rest_35 : decode cX7_rest 35 = .ok (.ifCond .ne 9, 3) := by decide +kernel
theorem dX7_rest_38 : decode cX7_rest 38 = .ok (.ldc_w 323, 3) := by decide +kernel
theorem dX7_rest_41 : decode cX7_rest 41 = .ok (.goto 9, 3) := by decide +kernel
theorem dX7_rest_44 : decode cX7_rest 44 = .ok (.aload_n 3, 1) := by decide +kernel
theorem dX7_rest_45 : decode cX7_rest 45 = .ok (.getfield 320, 3) := by decide +kernel
theorem dX7_rest_48 : decode cX7_rest 48 = .ok (.iload_n 2, 1) := by decide +kernel
theorem dX7_rest_49 : decode cX7_rest 49 = .ok (.irem, 1) := by decide +kernel
theorem dX7_rest_50 : decode cX7_rest 50 = .ok (.ireturn, 1) := by decide +kernel
theorem dX7_tell_0 : decode cX7_tell 0 = .ok (.aload_n 0, 1) := by decide +kernel
theorem dX7_tell_1 : decode cX7_tell 1 = .ok (.getfield 66, 3) := by decide +kernel
theorem dX7_tell_4 : decode cX7_tell 4 = .ok (.bipush 60, 2) := by decide +kernel
theorem dX7_tell_6 : decode cX7_tell 6 = .ok (.if_icmp .lt 6, 3) := by decide +kernel
theorem dX7_tell_9 : decode cX7_tell 9 = .ok (.ldc 89, 2) := by decide +kernel
theorem dX7_tell_11 : decode cX7_tell 11 = .ok (.ireturn, 1) := by decide +kernel
theorem dX7_tell_12 : decode cX7_tell 12 = .ok (.aload_n 0, 1) := by decide +kernel
theorem dX7_tell_13 : decode cX7_tell 13 = .ok (.getfield 63, 3) := by decide +kernel
theorem dX7_tell_16 : decode cX7_tell 16 = .ok (.aload_n 0, 1) := by decide +kernel
theorem dX7_tell_17 : decode cX7_tell 17 = .ok (.getfield 66, 3) := by decide +kernel
theorem dX7_tell_20 : decode cX7_tell 20 = .ok (.iload_n 1, 1) := by decide +kernel
theorem dX7_tell_21 : decode cX7_tell 21 = .ok (.iastore, 1) := by decide +kernel
theorem dX7_tell_22 : decode cX7_tell 22 = .ok (.aload_n 0, 1) := by decide +kernel
theorem dX7_tell_23 : decode cX7_tell 23 = .ok (.dup, 1) := by decide +kernel
theorem dX7_tell_24 : decode cX7_tell 24 = .ok (.getfield 66, 3) := by decide +kernel
theorem dX7_tell_27 : decode cX7_tell 27 = .ok (.iconst 1, 1) := by decide +kernel
theorem dX7_tell_28 : decode cX7_tell 28 = .ok (.iadd, 1) := by decide +kernel
theorem dX7_tell_29 : decode cX7_tell 29 = .ok (.putfield 66, 3) := by decide +kernel
theorem dX7_tell_32 : decode cX7_tell 32 = .ok (.aload_n 0, 1) := by decide +kernel
theorem dX7_tell_33 : decode cX7_tell 33 = .ok (.getfield 66, 3) := by decide +kernel
theorem dX7_tell_36 : decode cX7_tell 36 = .ok (.ireturn, 1) := by decide +kernel
theorem dX7_check_0 : decode cX7_check 0 = .ok (.aload_n 0, 1) := by decide +kernel
theorem dX7_check_1 : decode cX7_check 1 = .ok (.getfield 66, 3) := by decide +kernel
theorem dX7_check_4 : decode cX7_check 4 = .ok (.istore_n 2, 1) := by decide +kernel
theorem dX7_check_5 : decode cX7_check 5 = .ok (.aload_n 0, 1) := by decide +kernel
theorem dX7_check_6 : decode cX7_check 6 = .ok (.iconst 0, 1) := by decide +kernel
theorem dX7_check_7 : decode cX7_check 7 = .ok (.putfield 66, 3) := by decide +kernel
theorem dX7_check_10 : decode cX7_check 10 = .ok (.iload_n 1, 1) := by decide +kernel
theorem dX7_check_11 : decode cX7_check 11 = .ok (.iconst 1, 1) := by decide +kernel
theorem dX7_check_12 : decode cX7_check 12 = .ok (.if_icmp .lt 9, 3) := by decide +kernel
theorem dX7_check_15 : decode cX7_check 15 = .ok (.iload_n 1, 1) := by decide +kernel
theorem dX7_check_16 : decode cX7_check 16 = .ok (.bipush 30, 2) := by decide +kernel
theorem dX7_check_18 : decode cX7_check 18 = .ok (.if_icmp .le 6, 3) := by decide +kernel
theorem dX7_check_21 : decode cX7_check 21 = .ok (.ldc 85, 2) := by decide +kernel
theorem dX7_check_23 : decode cX7_check 23 = .ok (.ireturn, 1) := by decide +kernel
theorem dX7_check_24 : decode cX7_check 24 = .ok (.aload_n 0, 1) := by decide +kernel
theorem dX7_check_25 : decode cX7_check 25 = .ok (.getfield 19, 3) := by decide +kernel
theorem dX7_check_28 : decode cX7_check 28 = .ok (.ifCond .ne 7, 3) := by decide +kernel
theorem dX7_check_31 : decode cX7_check 31 = .ok (.ldc_w 323, 3) := by decide +kernel
theorem dX7_check_34 : decode cX7_check 34 = .ok (.ireturn, 1) := by decide +kernel
theorem dX7_check_35 : decode cX7_check 35 = .ok (.iload_n 1, 1) := by decide +kernel
theorem dX7_check_36 : decode cX7_check 36 = .ok (.sipush 9999, 3) := by decide +kernel
theorem dX7_check_39 : decode cX7_check 39 = .ok (.aload_n 0, 1) := by decide +kernel
theorem dX7_check_40 : decode cX7_check 40 = .ok (.getfield 16, 3) := by decide +kernel
theorem dX7_check_43 : decode cX7_check 43 = .ok (.getfield 171, 3) := by decide +kernel
theorem dX7_check_46 : decode cX7_check 46 = .ok (.isub, 1) := by decide +kernel
theorem dX7_check_47 : decode cX7_check 47 = .ok (.invokestatic 159, 3) := by decide +kernel
theorem dX7_check_50 : decode cX7_check 50 = .ok (.istore_n 3, 1) := by decide +kernel
theorem dX7_check_51 : decode cX7_check 51 = .ok (.iconst 0, 1) := by decide +kernel
theorem dX7_check_52 : decode cX7_check 52 = .ok (.istore 4, 2) := by decide +kernel
theorem dX7_check_54 : decode cX7_check 54 = .ok (.aload_n 0, 1) := by decide +kernel
theorem dX7_check_55 : decode cX7_check 55 = .ok (.getfield 23, 3) := by decide +kernel
theorem dX7_check_58 : decode cX7_check 58 = .ok (.aload_n 0, 1) := by decide +kernel
theorem dX7_check_59 : decode cX7_check 59 = .ok (.getfield 16, 3) := by decide +kernel
theorem dX7_check_62 : decode cX7_check 62 = .ok (.invokevirtual 195, 3) := by decide +kernel
theorem dX7_check_65 : decode cX7_check 65 = .ok (.iconst 0, 1) := by decide +kernel
theorem dX7_check_66 : decode cX7_check 66 = .ok (.istore 5, 2) := by decide +kernel
theorem dX7_check_68 : decode cX7_check 68 = .ok (.iload 5, 2) := by decide +kernel
theorem dX7_check_70 : decode cX7_check 70 = .ok (.iload_n 3, 1) := by decide +kernel
theorem dX7_check_71 : decode cX7_check 71 = .ok (.if_icmp .ge 83, 3) := by decide +kernel
theorem dX7_check_74 : decode cX7_check 74 = .ok (.aload_n 0, 1) := by decide +kernel
theorem dX7_check_75 : decode cX7_check 75 = .ok (.getfield 23, 3) := by decide +kernel
theorem dX7_check_78 : decode cX7_check 78 = .ok (.aload_n 0, 1) := by decide +kernel
theorem dX7_check_79 : decode cX7_check 79 = .ok (.getfield 47, 3) := by decide +kernel
theorem dX7_check_82 : decode cX7_check 82 = .ok (.invokevirtual 204, 3) := by decide +kernel
theorem dX7_check_85 : decode cX7_check 85 = .ok (.pop, 1) := by decide +kernel
theorem dX7_check_86 : decode cX7_check 86 = .ok (.iload 4, 2) := by decide +kernel
theorem dX7_check_88 : decode cX7_check 88 = .ok (.iload_n 2, 1) := by decide +kernel
theorem dX7_check_89 : decode cX7_check 89 = .ok (.if_icmp .ge 20, 3) := by decide +kernel
theorem dX7_check_92 : decode cX7_check 92 = .ok (.aload_n 0, 1) := by decide +kernel
theorem dX7_check_93 : decode cX7_check 93 = .ok (.getfield 63, 3) := by decide +kernel
theorem dX7_check_96 : decode cX7_check 96 = .ok (.iload 4, 2) := by decide +kernel
theorem dX7_check_98 : decode cX7_check 98 = .ok (.iaload, 1) := by decide +kernel
theorem dX7_check_99 : decode cX7_check 99 = .ok (.aload_n 0, 1) := by decide +kernel
theorem dX7_check_100 : decode cX7_check 100 = .ok (.getfield 23, 3) := by decide +kernel
theorem dX7_check_103 : decode cX7_check 103 = .ok (.invokevirtual 186, 3) := by decide +kernel
theorem dX7_check_106 : decode cX7_check 106 = .ok (.if_icmp .eq 8, 3) := by decide +kernel
theorem dX7_check_109 : decode cX7_check 109 = .ok (.iconst 1, 1) := by decide +kernel
theorem dX7_check_110 : decode cX7_check 110 = .ok (.iload 4, 2) := by decide +kernel
theorem dX7_check_112 : decode cX7_check 112 = .ok (.iadd, 1) := by decide +kernel
theorem dX7_check_113 : decode cX7_check 113 = .ok (.ireturn, 1) := by decide +kernel
theorem dX7_check_114 : decode cX7_check 114 = .ok (.iinc 4 1, 3) := by decide +kernel
theorem dX7_check_117 : decode cX7_check 117 = .ok (.iload 4, 2) := by decide +kernel
theorem dX7_check_119 : decode cX7_check 119 = .ok (.iload_n 2, 1) := by decide +kernel
theorem dX7_check_120 : decode cX7_check 120 = .ok (.if_icmp .ge 20, 3) := by decide +kernel
theorem dX7_check_123 : decode cX7_check 123 = .ok (.aload_n 0, 1) := by decide +kernel
theorem dX7_check_124 : decode cX7_check 124 = .ok (.getfield 63, 3) := by decide +kernel
theorem dX7_check_127 : decode cX7_check 127 = .ok (.iload 4, 2) := by decide +kernel
theorem dX7_check_129 : decode cX7_check 129 = .ok (.iaload, 1) := by decide +kernel
theorem dX7_check_130 : decode cX7_check 130 = .ok (.aload_n 0, 1) := by decide +kernel
theorem dX7_check_131 : decode cX7_check 131 = .ok (.getfield 23, 3) := by decide +kernel
theorem dX7_check_134 : decode cX7_check 134 = .ok (.getfield 177, 3) := by decide +kernel
theorem dX7_check_137 : decode cX7_check 137 = .ok (.if_icmp .eq 8, 3) := by decide +kernel
theorem dX7_check_140 : decode cX7_check 140 = .ok (.iconst 1, 1) := by decide +kernel
theorem dX7_check_141 : decode cX7_check 141 = .ok (.iload 4, 2) := by decide +kernel
theorem dX7_check_143 : decode cX7_check 143 = .ok (.iadd, 1) := by decide +kernel
theorem dX7_check_144 : decode cX7_check 144 = .ok (.ireturn, 1) := by decide +kernel
theorem dX7_check_145 : decode cX7_check 145 = .ok (.iinc 4 1, 3) := by decide +kernel
theorem dX7_check_148 : decode cX7_check 148 = .ok (.iinc 5 1, 3) := by decide +kernel
theorem dX7_check_151 : decode cX7_check 151 = .ok (.goto (-83), 3) := by decide +kernel
theorem dX7_check_154 : decode cX7_check 154 = .ok (.iload 4, 2) := by decide +kernel
theorem dX7_check_156 : decode cX7_check 156 = .ok (.iload_n 2, 1) := by decide +kernel
theorem dX7_check_157 : decode cX7_check 157 = .ok (.if_icmp .ge 10, 3) := by decide +kernel
theorem dX7_check_160 : decode cX7_check 160 = .ok (.iconst 1, 1) := by decide +kernel
theorem dX7_check_161 : decode cX7_check 161 = .ok (.iload 4, 2) := by decide +kernel
theorem dX7_check_163 : decode cX7_check 163 = .ok (.iadd, 1) := by decide +kernel
theorem dX7_check_164 : decode cX7_check 164 = .ok (.goto 4, 3) := by decide +kernel
theorem dX7_check_167 : decode cX7_check 167 = .ok (.iconst 0, 1) := by decide +kernel
theorem dX7_check_168 : decode cX7_check 168 = .ok (.ireturn, 1) := by decide +kernel
theorem dX7_keep_0 : decode cX7_keep 0 = .ok (.aload_n 0, 1) := by decide +kernel
theorem dX7_keep_1 : decode cX7_keep 1 = .ok (.getfield 16, 3) := by decide +kernel
theorem dX7_keep_4 : decode cX7_keep 4 = .ok (.aload_n 0, 1) := by decide +kernel
theorem dX7_keep_5 : decode cX7_keep 5 = .ok (.getfield 10, 3) := by decide +kernel
theorem dX7_keep_8 : decode cX7_keep 8 = .ok (.invokevirtual 195, 3) := by decide +kernel
theorem dX7_keep_11 : decode cX7_keep 11 = .ok (.aload_n 0, 1) := by decide +kernel
theorem dX7_keep_12 : decode cX7_keep 12 = .ok (.iconst 1, 1) := by decide +kernel
theorem dX7_keep_13 : decode cX7_keep 13 = .ok (.putfield 19, 3) := by decide +kernel
theorem dX7_keep_16 : decode cX7_keep 16 = .ok (.aload_n 0, 1) := by decide +kernel
theorem dX7_keep_17 : decode cX7_keep 17 = .ok (.getfield 10, 3) := by decide +kernel
theorem dX7_keep_20 : decode cX7_keep 20 = .ok (.getfield 86, 3) := by decide +kernel
theorem dX7_keep_23 : decode cX7_keep 23 = .ok (.ireturn, 1) := by decide +kernel
theorem dX7_back_0 : decode cX7_back 0 = .ok (.aload_n 0, 1) := by decide +kernel
theorem dX7_back_1 : decode cX7_back 1 = .ok (.getfield 19, 3) := by decide +kernel
theorem dX7_back_4 : decode cX7_back 4 = .ok (.ifCond .ne 7, 3) := by decide +kernel
theorem dX7_back_7 : decode cX7_back 7 = .ok (.ldc_w 323, 3) := by decide +kernel
theorem dX7_back_10 : decode cX7_back 10 = .ok (.ireturn, 1) := by decide +kernel
theorem dX7_back_11 : decode cX7_back 11 = .ok (.aload_n 0, 1) := by decide +kernel
theorem dX7_back_12 : decode cX7_back 12 = .ok (.getfield 10, 3) := by decide +kernel
theorem dX7_back_15 : decode cX7_back 15 = .ok (.aload_n 0, 1) := by decide +kernel
theorem dX7_back_16 : decode cX7_back 16 = .ok (.getfield 16, 3) := by decide +kernel
theorem dX7_back_19 : decode cX7_back 19 = .ok (.invokevirtual 195, 3) := by decide +kernel
theorem dX7_back_22 : decode cX7_back 22 = .ok (.aload_n 0, 1) := by decide +kernel
theorem dX7_back_23 : decode cX7_back 23 = .ok (.getfield 10, 3) := by decide +kernel
theorem dX7_back_26 : decode cX7_back 26 = .ok (.getfield 86, 3) := by decide +kernel
theorem dX7_back_29 : decode cX7_back 29 = .ok (.ireturn, 1) := by decide +kernel
theorem dX7_count_0 : decode cX7_count 0 = .ok (.iload_n 1, 1) := by decide +kernel
theorem dX7_count_1 : decode cX7_count 1 = .ok (.tableswitch 96 0 6 #[43, 51, 59, 67, 75, 80, 88], 43) := by decide +kernel
theorem dX7_count_44 : decode cX7_count 44 = .ok (.aload_n 0, 1) := by decide +kernel
theorem dX7_count_45 : decode cX7_count 45 = .ok (.getfield 10, 3) := by decide +kernel
theorem dX7_count_48 : decode cX7_count 48 = .ok (.getfield 86, 3) := by decide +kernel
theorem dX7_count_51 : decode cX7_count 51 = .ok (.ireturn, 1) := by decide +kernel
theorem dX7_count_52 : decode cX7_count 52 = .ok (.aload_n 0, 1) := by decide +kernel
theorem dX7_count_53 : decode cX7_count 53 = .ok (.getfield 10, 3) := by decide +kernel
theorem dX7_count_56 : decode cX7_count 56 = .ok (.getfield 171, 3) := by decide +kernel
theorem dX7_count_59 : decode cX7_count 59 = .ok (.ireturn, 1) := by decide +kernel
theorem dX7_count_60 : decode cX7_count 60 = .ok (.aload_n 0, 1) := by decide +kernel
theorem dX7_count_61 : decode cX7_count 61 = .ok (.getfield 10, 3) := by decide +kernel
theorem dX7_count_64 : decode cX7_count 64 = .ok (.getfield 147, 3) := by decide +kernel
theorem dX7_count_67 : decode cX7_count 67 = .ok (.ireturn, 1) := by decide +kernel
theorem dX7_count_68 : decode cX7_count 68 = .ok (.aload_n 0, 1) := by decide +kernel
theorem dX7_count_69 : decode cX7_count 69 = .ok (.getfield 10, 3) := by decide +kernel
theorem dX7_count_72 : decode cX7_count 72 = .ok (.getfield 255, 3) := by decide +kernel
theorem dX7_count_75 : decode cX7_count 75 = .ok (.ireturn, 1) := by decide +kernel
theorem dX7_count_76 : decode cX7_count 76 = .ok (.aload_n 0, 1) := by decide +kernel
theorem dX7_count_77 : decode cX7_count 77 = .ok (.getfield 66, 3) := by decide +kernel
theorem dX7_count_80 : decode cX7_count 80 = .ok (.ireturn, 1) := by decide +kernel
theorem dX7_count_81 : decode cX7_count 81 = .ok (.aload_n 0, 1) := by decide +kernel
theorem dX7_count_82 : decode cX7_count 82 = .ok (.getfield 33, 3) := by decide +kernel
theorem dX7_count_85 : decode cX7_count 85 = .ok (.getfield 241, 3) := by decide +kernel
theorem dX7_count_88 : decode cX7_count 88 = .ok (.ireturn, 1) := by decide +kernel
theorem dX7_count_89 : decode cX7_count 89 = .ok (.aload_n 0, 1) := by decide +kernel
theorem dX7_count_90 : decode cX7_count 90 = .ok (.getfield 10, 3) := by decide +kernel
theorem dX7_count_93 : decode cX7_count 93 = .ok (.getfield 168, 3) := by decide +kernel
theorem dX7_count_96 : decode cX7_count 96 = .ok (.ireturn, 1) := by decide +kernel
theorem dX7_count_97 : decode cX7_count 97 = .ok (.ldc 85, 2) := by decide +kernel
theorem dX7_count_99 : decode cX7_count 99 = .ok (.ireturn, 1) := by decide +kernel
theorem dX7_isDancer_0 : decode cX7_isDancer 0 = .ok (.iload_n 1, 1) := by decide +kernel
theorem dX7_isDancer_1 : decode cX7_isDancer 1 = .ok (.ifCond .lt 18, 3) := by decide +kernel
theorem dX7_isDancer_4 : decode cX7_isDancer 4 = .ok (.iload_n 1, 1) := by decide +kernel
theorem dX7_isDancer_5 : decode cX7_isDancer 5 = .ok (.aload_n 0, 1) := by decide +kernel
theorem dX7_isDancer_6 : decode cX7_isDancer 6 = .ok (.getfield 10, 3) := by decide +kernel
theorem dX7_isDancer_9 : decode cX7_isDancer 9 = .ok (.getfield 86, 3) := by decide +kernel
theorem dX7_isDancer_12 : decode cX7_isDancer 12 = .ok (.if_icmp .ge 7, 3) := by decide +kernel
theorem dX7_isDancer_15 : decode cX7_isDancer 15 = .ok (.iconst 1, 1) := by decide +kernel
theorem dX7_isDancer_16 : decode cX7_isDancer 16 = .ok (.goto 4, 3) := by decide +kernel
theorem dX7_isDancer_19 : decode cX7_isDancer 19 = .ok (.iconst 0, 1) := by decide +kernel
theorem dX7_isDancer_20 : decode cX7_isDancer 20 = .ok (.ireturn, 1) := by decide +kernel
theorem dX7_sheetOf_0 : decode cX7_sheetOf 0 = .ok (.iload_n 1, 1) := by decide +kernel
theorem dX7_sheetOf_1 : decode cX7_sheetOf 1 = .ok (.ifCond .lt 17, 3) := by decide +kernel
theorem dX7_sheetOf_4 : decode cX7_sheetOf 4 = .ok (.iload_n 1, 1) := by decide +kernel
theorem dX7_sheetOf_5 : decode cX7_sheetOf 5 = .ok (.iconst 4, 1) := by decide +kernel
theorem dX7_sheetOf_6 : decode cX7_sheetOf 6 = .ok (.if_icmp .ge 12, 3) := by decide +kernel
theorem dX7_sheetOf_9 : decode cX7_sheetOf 9 = .ok (.aload_n 0, 1) := by decide +kernel
theorem dX7_sheetOf_10 : decode cX7_sheetOf 10 = .ok (.getfield 53, 3) := by decide +kernel
theorem dX7_sheetOf_13 : decode cX7_sheetOf 13 = .ok (.iload_n 1, 1) := by decide +kernel
theorem dX7_sheetOf_14 : decode cX7_sheetOf 14 = .ok (.aaload, 1) := by decide +kernel
theorem dX7_sheetOf_15 : decode cX7_sheetOf 15 = .ok (.goto 4, 3) := by decide +kernel
theorem dX7_sheetOf_18 : decode cX7_sheetOf 18 = .ok (.aconst_null, 1) := by decide +kernel
theorem dX7_sheetOf_19 : decode cX7_sheetOf 19 = .ok (.areturn, 1) := by decide +kernel
theorem dX7_slotOf_0 : decode cX7_slotOf 0 = .ok (.iload_n 1, 1) := by decide +kernel
theorem dX7_slotOf_1 : decode cX7_slotOf 1 = .ok (.ifCond .lt 17, 3) := by decide +kernel
theorem dX7_slotOf_4 : decode cX7_slotOf 4 = .ok (.iload_n 1, 1) := by decide +kernel
theorem dX7_slotOf_5 : decode cX7_slotOf 5 = .ok (.iconst 5, 1) := by decide +kernel
theorem dX7_slotOf_6 : decode cX7_slotOf 6 = .ok (.if_icmp .ge 12, 3) := by decide +kernel
theorem dX7_slotOf_9 : decode cX7_slotOf 9 = .ok (.aload_n 0, 1) := by decide +kernel
theorem dX7_slotOf_10 : decode cX7_slotOf 10 = .ok (.getfield 59, 3) := by decide +kernel
theorem dX7_slotOf_13 : decode cX7_slotOf 13 = .ok (.iload_n 1, 1) := by decide +kernel
theorem dX7_slotOf_14 : decode cX7_slotOf 14 = .ok (.aaload, 1) := by decide +kernel
theorem dX7_slotOf_15 : decode cX7_slotOf 15 = .ok (.goto 4, 3) := by decide +kernel
theorem dX7_slotOf_18 : decode cX7_slotOf 18 = .ok (.aconst_null, 1) := by decide +kernel
theorem dX7_slotOf_19 : decode cX7_slotOf 19 = .ok (.areturn, 1) := by decide +kernel
theorem dX7_clearTally_0 : decode cX7_clearTally 0 = .ok (.iconst 0, 1) := by decide +kernel
theorem dX7_clearTally_1 : decode cX7_clearTally 1 = .ok (.istore_n 1, 1) := by decide +kernel
theorem dX7_clearTally_2 : decode cX7_clearTally 2 = .ok (.iload_n 1, 1) := by decide +kernel
theorem dX7_clearTally_3 : decode cX7_clearTally 3 = .ok (.aload_n 0, 1) := by decide +kernel
theorem dX7_clearTally_4 : decode cX7_clearTally 4 = .ok (.getfield 26, 3) := by decide +kernel
theorem dX7_clearTally_7 : decode cX7_clearTally 7 = .ok (.arraylength, 1) := by decide +kernel
theorem dX7_clearTally_8 : decode cX7_clearTally 8 = .ok (.if_icmp .ge 16, 3) := by decide +kernel
theorem dX7_clearTally_11 : decode cX7_clearTally 11 = .ok (.aload_n 0, 1) := by decide +kernel
theorem dX7_clearTally_12 : decode cX7_clearTally 12 = .ok (.getfield 26, 3) := by decide +kernel
theorem dX7_clearTally_15 : decode cX7_clearTally 15 = .ok (.iload_n 1, 1) := by decide +kernel
theorem dX7_clearTally_16 : decode cX7_clearTally 16 = .ok (.iconst 0, 1) := by decide +kernel
theorem dX7_clearTally_17 : decode cX7_clearTally 17 = .ok (.iastore, 1) := by decide +kernel
theorem dX7_clearTally_18 : decode cX7_clearTally 18 = .ok (.iinc 1 1, 3) := by decide +kernel
theorem dX7_clearTally_21 : decode cX7_clearTally 21 = .ok (.goto (-19), 3) := by decide +kernel
theorem dX7_clearTally_24 : decode cX7_clearTally 24 = .ok (.return_, 1) := by decide +kernel
theorem dX7_tallyDifferences_0 : decode cX7_tallyDifferences 0 = .ok (.aload_n 0, 1) := by decide +kernel
theorem dX7_tallyDifferences_1 : decode cX7_tallyDifferences 1 = .ok (.invokevirtual 215, 3) := by decide +kernel
theorem dX7_tallyDifferences_4 : decode cX7_tallyDifferences 4 = .ok (.aload_n 0, 1) := by decide +kernel
theorem dX7_tallyDifferences_5 : decode cX7_tallyDifferences 5 = .ok (.getfield 23, 3) := by decide +kernel
theorem dX7_tallyDifferences_8 : decode cX7_tallyDifferences 8 = .ok (.aload_n 0, 1) := by decide +kernel
theorem dX7_tallyDifferences_9 : decode cX7_tallyDifferences 9 = .ok (.getfield 10, 3) := by decide +kernel
theorem dX7_tallyDifferences_12 : decode cX7_tallyDifferences 12 = .ok (.invokevirtual 195, 3) := by decide +kernel
theorem dX7_tallyDifferences_15 : decode cX7_tallyDifferences 15 = .ok (.iconst 0, 1) := by decide +kernel
theorem dX7_tallyDifferences_16 : decode cX7_tallyDifferences 16 = .ok (.istore_n 2, 1) := by decide +kernel
theorem dX7_tallyDifferences_17 : decode cX7_tallyDifferences 17 = .ok (.iload_n 2, 1) := by decide +kernel
theorem dX7_tallyDifferences_18 : decode cX7_tallyDifferences 18 = .ok (.aload_n 1, 1) := by decide +kernel
theorem dX7_tallyDifferences_19 : decode cX7_tallyDifferences 19 = .ok (.getfield 288, 3) := by decide +kernel
theorem dX7_tallyDifferences_22 : decode cX7_tallyDifferences 22 = .ok (.if_icmp .ge 83, 3) := by decide +kernel
theorem dX7_tallyDifferences_25 : decode cX7_tallyDifferences 25 = .ok (.iload_n 2, 1) := by decide +kernel
theorem dX7_tallyDifferences_26 : decode cX7_tallyDifferences 26 = .ok (.ifCond .le 15, 3) := by decide +kernel
theorem dX7_tallyDifferences_29 : decode cX7_tallyDifferences 29 = .ok (.aload_n 0, 1) := by decide +kernel
theorem dX7_tallyDifferences_30 : decode cX7_tallyDifferences 30 = .ok (.getfield 23, 3) := by decide +kernel
theorem dX7_tallyDifferences_33 : decode cX7_tallyDifferences 33 = .ok (.aload_n 0, 1) := by decide +kernel
theorem dX7_tallyDifferences_34 : decode cX7_tallyDifferences 34 = .ok (.getfield 47, 3) := by decide +kernel
theorem dX7_tallyDifferences_37 : decode cX7_tallyDifferences 37 = .ok (.invokevirtual 204, 3) := by decide +kernel
theorem dX7_tallyDifferences_40 : decode cX7_tallyDifferences 40 = .ok (.pop, 1) := by decide +kernel
theorem dX7_tallyDifferences_41 : decode cX7_tallyDifferences 41 = .ok (.aload_n 1, 1) := by decide +kernel
theorem dX7_tallyDifferences_42 : decode cX7_tallyDifferences 42 = .ok (.iload_n 2, 1) := by decide +kernel
theorem dX7_tallyDifferences_43 : decode cX7_tallyDifferences 43 = .ok (.invokevirtual 291, 3) := by decide +kernel
theorem dX7_tallyDifferences_46 : decode cX7_tallyDifferences 46 = .ok (.ifCond .ne 6, 3) := by decide +kernel
theorem dX7_tallyDifferences_49 : decode cX7_tallyDifferences 49 = .ok (.goto 50, 3) := by decide +kernel
theorem dX7_tallyDifferences_52 : decode cX7_tallyDifferences 52 = .ok (.iconst 0, 1) := by decide +kernel
theorem dX7_tallyDifferences_53 : decode cX7_tallyDifferences 53 = .ok (.istore_n 3, 1) := by decide +kernel
theorem dX7_tallyDifferences_54 : decode cX7_tallyDifferences 54 = .ok (.iload_n 3, 1) := by decide +kernel
theorem dX7_tallyDifferences_55 : decode cX7_tallyDifferences 55 = .ok (.aload_n 0, 1) := by decide +kernel
theorem dX7_tallyDifferences_56 : decode cX7_tallyDifferences 56 = .ok (.getfield 23, 3) := by decide +kernel
theorem dX7_tallyDifferences_59 : decode cX7_tallyDifferences 59 = .ok (.getfield 86, 3) := by decide +kernel
theorem dX7_tallyDifferences_62 : decode cX7_tallyDifferences 62 = .ok (.if_icmp .ge 37, 3) := by decide +kernel
theorem dX7_tallyDifferences_65 : decode cX7_tallyDifferences 65 = .ok (.aload_n 0, 1) := by decide +kernel
theorem dX7_tallyDifferences_66 : decode cX7_tallyDifferences 66 = .ok (.getfield 26, 3) := by decide +kernel
theorem dX7_tallyDifferences_69 : decode cX7_tallyDifferences 69 = .ok (.iload_n 3, 1) := by decide +kernel
theorem dX7_tallyDifferences_70 : decode cX7_tallyDifferences 70 = .ok (.dup2, 1) := by decide +kernel
theorem dX7_tallyDifferences_71 : decode cX7_tallyDifferences 71 = .ok (.iaload, 1) := by decide +kernel
theorem dX7_tallyDifferences_72 : decode cX7_tallyDifferences 72 = .ok (.aload_n 0, 1) := by decide +kernel
theorem dX7_tallyDifferences_73 : decode cX7_tallyDifferences 73 = .ok (.getfield 23, 3) := by decide +kernel
theorem dX7_tallyDifferences_76 : decode cX7_tallyDifferences 76 = .ok (.getfield 103, 3) := by decide +kernel
theorem dX7_tallyDifferences_79 : decode cX7_tallyDifferences 79 = .ok (.iload_n 3, 1) := by decide +kernel
theorem dX7_tallyDifferences_80 : decode cX7_tallyDifferences 80 = .ok (.iaload, 1) := by decide +kernel
theorem dX7_tallyDifferences_81 : decode cX7_tallyDifferences 81 = .ok (.aload_n 1, 1) := by decide +kernel
theorem dX7_tallyDifferences_82 : decode cX7_tallyDifferences 82 = .ok (.getfield 283, 3) := by decide +kernel
theorem dX7_tallyDifferences_85 : decode cX7_tallyDifferences 85 = .ok (.iload_n 2, 1) := by decide +kernel
theorem dX7_tallyDifferences_86 : decode cX7_tallyDifferences 86 = .ok (.iaload, 1) := by decide +kernel
theorem dX7_tallyDifferences_87 : decode cX7_tallyDifferences 87 = .ok (.isub, 1) := by decide +kernel
theorem dX7_tallyDifferences_88 : decode cX7_tallyDifferences 88 = .ok (.invokestatic 324, 3) := by decide +kernel
theorem dX7_tallyDifferences_91 : decode cX7_tallyDifferences 91 = .ok (.iadd, 1) := by decide +kernel
theorem dX7_tallyDifferences_92 : decode cX7_tallyDifferences 92 = .ok (.iastore, 1) := by decide +kernel
theorem dX7_tallyDifferences_93 : decode cX7_tallyDifferences 93 = .ok (.iinc 3 1, 3) := by decide +kernel
theorem dX7_tallyDifferences_96 : decode cX7_tallyDifferences 96 = .ok (.goto (-42), 3) := by decide +kernel
theorem dX7_tallyDifferences_99 : decode cX7_tallyDifferences 99 = .ok (.iinc 2 1, 3) := by decide +kernel
theorem dX7_tallyDifferences_102 : decode cX7_tallyDifferences 102 = .ok (.goto (-85), 3) := by decide +kernel
theorem dX7_tallyDifferences_105 : decode cX7_tallyDifferences 105 = .ok (.return_, 1) := by decide +kernel
theorem dX7_isKind_0 : decode cX7_isKind 0 = .ok (.iload_n 0, 1) := by decide +kernel
theorem dX7_isKind_1 : decode cX7_isKind 1 = .ok (.ifCond .lt 13, 3) := by decide +kernel
theorem dX7_isKind_4 : decode cX7_isKind 4 = .ok (.iload_n 0, 1) := by decide +kernel
theorem dX7_isKind_5 : decode cX7_isKind 5 = .ok (.bipush 6, 2) := by decide +kernel
theorem dX7_isKind_7 : decode cX7_isKind 7 = .ok (.if_icmp .ge 7, 3) := by decide +kernel
theorem dX7_isKind_10 : decode cX7_isKind 10 = .ok (.iconst 1, 1) := by decide +kernel
theorem dX7_isKind_11 : decode cX7_isKind 11 = .ok (.goto 4, 3) := by decide +kernel
theorem dX7_isKind_14 : decode cX7_isKind 14 = .ok (.iconst 0, 1) := by decide +kernel
theorem dX7_isKind_15 : decode cX7_isKind 15 = .ok (.ireturn, 1) := by decide +kernel
theorem dX7_isRoom_0 : decode cX7_isRoom 0 = .ok (.iload_n 0, 1) := by decide +kernel
theorem dX7_isRoom_1 : decode cX7_isRoom 1 = .ok (.ifCond .lt 13, 3) := by decide +kernel
theorem dX7_isRoom_4 : decode cX7_isRoom 4 = .ok (.iload_n 0, 1) := by decide +kernel
theorem dX7_isRoom_5 : decode cX7_isRoom 5 = .ok (.bipush 10, 2) := by decide +kernel
theorem dX7_isRoom_7 : decode cX7_isRoom 7 = .ok (.if_icmp .ge 7, 3) := by decide +kernel
theorem dX7_isRoom_10 : decode cX7_isRoom 10 = .ok (.iconst 1, 1) := by decide +kernel
theorem dX7_isRoom_11 : decode cX7_isRoom 11 = .ok (.goto 4, 3) := by decide +kernel
theorem dX7_isRoom_14 : decode cX7_isRoom 14 = .ok (.iconst 0, 1) := by decide +kernel
theorem dX7_isRoom_15 : decode cX7_isRoom 15 = .ok (.ireturn, 1) := by decide +kernel
theorem dX7_isSole_0 : decode cX7_isSole 0 = .ok (.iload_n 0, 1) := by decide +kernel
theorem dX7_isSole_1 : decode cX7_isSole 1 = .ok (.ifCond .lt 14, 3) := by decide +kernel
theorem dX7_isSole_4 : decode cX7_isSole 4 = .ok (.iload_n 0, 1) := by decide +kernel
theorem dX7_isSole_5 : decode cX7_isSole 5 = .ok (.sipush 999, 3) := by decide +kernel
theorem dX7_isSole_8 : decode cX7_isSole 8 = .ok (.if_icmp .gt 7, 3) := by decide +kernel
theorem dX7_isSole_11 : decode cX7_isSole 11 = .ok (.iconst 1, 1) := by decide +kernel
theorem dX7_isSole_12 : decode cX7_isSole 12 = .ok (.goto 4, 3) := by decide +kernel
theorem dX7_isSole_15 : decode cX7_isSole 15 = .ok (.iconst 0, 1) := by decide +kernel
theorem dX7_isSole_16 : decode cX7_isSole 16 = .ok (.ireturn, 1) := by decide +kernel
theorem dX7_isSteps_0 : decode cX7_isSteps 0 = .ok (.iload_n 0, 1) := by decide +kernel
theorem dX7_isSteps_1 : decode cX7_isSteps 1 = .ok (.ifCond .lt 12, 3) := by decide +kernel
theorem dX7_isSteps_4 : decode cX7_isSteps 4 = .ok (.iload_n 0, 1) := by decide +kernel
theorem dX7_isSteps_5 : decode cX7_isSteps 5 = .ok (.iconst 5, 1) := by decide +kernel
theorem dX7_isSteps_6 : decode cX7_isSteps 6 = .ok (.if_icmp .gt 7, 3) := by decide +kernel
theorem dX7_isSteps_9 : decode cX7_isSteps 9 = .ok (.iconst 1, 1) := by decide +kernel
theorem dX7_isSteps_10 : decode cX7_isSteps 10 = .ok (.goto 4, 3) := by decide +kernel
theorem dX7_isSteps_13 : decode cX7_isSteps 13 = .ok (.iconst 0, 1) := by decide +kernel
theorem dX7_isSteps_14 : decode cX7_isSteps 14 = .ok (.ireturn, 1) := by decide +kernel
theorem dX7_isShortRun_0 : decode cX7_isShortRun 0 = .ok (.iload_n 0, 1) := by decide +kernel
theorem dX7_isShortRun_1 : decode cX7_isShortRun 1 = .ok (.iconst 1, 1) := by decide +kernel
theorem dX7_isShortRun_2 : decode cX7_isShortRun 2 = .ok (.if_icmp .lt 13, 3) := by decide +kernel
theorem dX7_isShortRun_5 : decode cX7_isShortRun 5 = .ok (.iload_n 0, 1) := by decide +kernel
theorem dX7_isShortRun_6 : decode cX7_isShortRun 6 = .ok (.bipush 60, 2) := by decide +kernel
theorem dX7_isShortRun_8 : decode cX7_isShortRun 8 = .ok (.if_icmp .gt 7, 3) := by decide +kernel
theorem dX7_isShortRun_11 : decode cX7_isShortRun 11 = .ok (.iconst 1, 1) := by decide +kernel
theorem dX7_isShortRun_12 : decode cX7_isShortRun 12 = .ok (.goto 4, 3) := by decide +kernel
theorem dX7_isShortRun_15 : decode cX7_isShortRun 15 = .ok (.iconst 0, 1) := by decide +kernel
theorem dX7_isShortRun_16 : decode cX7_isShortRun 16 = .ok (.ireturn, 1) := by decide +kernel
theorem dX7_isOneOfTwo_0 : decode cX7_isOneOfTwo 0 = .ok (.iload_n 0, 1) := by decide +kernel
theorem dX7_isOneOfTwo_1 : decode cX7_isOneOfTwo 1 = .ok (.ifCond .eq 8, 3) := by decide +kernel
theorem dX7_isOneOfTwo_4 : decode cX7_isOneOfTwo 4 = .ok (.iload_n 0, 1) := by decide +kernel
theorem dX7_isOneOfTwo_5 : decode cX7_isOneOfTwo 5 = .ok (.iconst 1, 1) := by decide +kernel
theorem dX7_isOneOfTwo_6 : decode cX7_isOneOfTwo 6 = .ok (.if_icmp .ne 7, 3) := by decide +kernel
theorem dX7_isOneOfTwo_9 : decode cX7_isOneOfTwo 9 = .ok (.iconst 1, 1) := by decide +kernel
theorem dX7_isOneOfTwo_10 : decode cX7_isOneOfTwo 10 = .ok (.goto 4, 3) := by decide +kernel
theorem dX7_isOneOfTwo_13 : decode cX7_isOneOfTwo 13 = .ok (.iconst 0, 1) := by decide +kernel
theorem dX7_isOneOfTwo_14 : decode cX7_isOneOfTwo 14 = .ok (.ireturn, 1) := by decide +kernel
theorem dX7_held_0 : decode cX7_held 0 = .ok (.iconst 0, 1) := by decide +kernel
theorem dX7_held_1 : decode cX7_held 1 = .ok (.iload_n 0, 1) := by decide +kernel
theorem dX7_held_2 : decode cX7_held 2 = .ok (.iload_n 1, 1) := by decide +kernel
theorem dX7_held_3 : decode cX7_held 3 = .ok (.invokestatic 159, 3) := by decide +kernel
theorem dX7_held_6 : decode cX7_held 6 = .ok (.invokestatic 327, 3) := by decide +kernel
theorem dX7_held_9 : decode cX7_held 9 = .ok (.ireturn, 1) := by decide +kernel
theorem dX7_changed_0 : decode cX7_changed 0 = .ok (.aload_n 0, 1) := by decide +kernel
theorem dX7_changed_1 : decode cX7_changed 1 = .ok (.iload_n 1, 1) := by decide +kernel
theorem dX7_changed_2 : decode cX7_changed 2 = .ok (.iaload, 1) := by decide +kernel
theorem dX7_changed_3 : decode cX7_changed 3 = .ok (.istore_n 3, 1) := by decide +kernel
theorem dX7_changed_4 : decode cX7_changed 4 = .ok (.aload_n 0, 1) := by decide +kernel
theorem dX7_changed_5 : decode cX7_changed 5 = .ok (.iload_n 1, 1) := by decide +kernel
theorem dX7_changed_6 : decode cX7_changed 6 = .ok (.iload_n 2, 1) := by decide +kernel
theorem dX7_changed_7 : decode cX7_changed 7 = .ok (.iastore, 1) := by decide +kernel
theorem dX7_changed_8 : decode cX7_changed 8 = .ok (.iload_n 3, 1) := by decide +kernel
theorem dX7_changed_9 : decode cX7_changed 9 = .ok (.ireturn, 1) := by decide +kernel
theorem dX8_init_0 : decode cX8_init 0 = .ok (.aload_n 0, 1) := by decide +kernel
theorem dX8_init_1 : decode cX8_init 1 = .ok (.invokespecial 1, 3) := by decide +kernel
theorem dX8_init_4 : decode cX8_init 4 = .ok (.aload_n 0, 1) := by decide +kernel
theorem dX8_init_5 : decode cX8_init 5 = .ok (.sipush 1469, 3) := by decide +kernel
theorem dX8_init_8 : decode cX8_init 8 = .ok (.newarray .int, 2) := by decide +kernel
theorem dX8_init_10 : decode cX8_init 10 = .ok (.putfield 9, 3) := by decide +kernel
theorem dX8_init_13 : decode cX8_init 13 = .ok (.aload_n 0, 1) := by decide +kernel
theorem dX8_init_14 : decode cX8_init 14 = .ok (.sipush 1469, 3) := by decide +kernel
theorem dX8_init_17 : decode cX8_init 17 = .ok (.newarray .int, 2) := by decide +kernel
theorem dX8_init_19 : decode cX8_init 19 = .ok (.putfield 13, 3) := by decide +kernel
theorem dX8_init_22 : decode cX8_init 22 = .ok (.aload_n 0, 1) := by decide +kernel
theorem dX8_init_23 : decode cX8_init 23 = .ok (.sipush 1469, 3) := by decide +kernel
theorem dX8_init_26 : decode cX8_init 26 = .ok (.newarray .int, 2) := by decide +kernel
theorem dX8_init_28 : decode cX8_init 28 = .ok (.putfield 16, 3) := by decide +kernel
theorem dX8_init_31 : decode cX8_init 31 = .ok (.aload_n 0, 1) := by decide +kernel
theorem dX8_init_32 : decode cX8_init 32 = .ok (.bipush 97, 2) := by decide +kernel
theorem dX8_init_34 : decode cX8_init 34 = .ok (.newarray .int, 2) := by decide +kernel
theorem dX8_init_36 : decode cX8_init 36 = .ok (.putfield 19, 3) := by decide +kernel
theorem dX8_init_39 : decode cX8_init 39 = .ok (.aload_n 0, 1) := by decide +kernel
theorem dX8_init_40 : decode cX8_init 40 = .ok (.bipush 10, 2) := by decide +kernel
theorem dX8_init_42 : decode cX8_init 42 = .ok (.newarray .int, 2) := by decide +kernel
theorem dX8_init_44 : decode cX8_init 44 = .ok (.putfield 22, 3) := by decide +kernel
theorem dX8_init_47 : decode cX8_init 47 = .ok (.aload_n 0, 1) := by decide +kernel
theorem dX8_init_48 : decode cX8_init 48 = .ok (.bipush 12, 2) := by decide +kernel
theorem dX8_init_50 : decode cX8_init 50 = .ok (.newarray .long, 2) := by decide +kernel
theorem dX8_init_52 : decode cX8_init 52 = .ok (.putfield 25, 3) := by decide +kernel
theorem dX8_init_55 : decode cX8_init 55 = .ok (.aload_n 0, 1) := by decide +kernel
theorem dX8_init_56 : decode cX8_init 56 = .ok (.bipush 96, 2) := by decide +kernel
theorem dX8_init_58 : decode cX8_init 58 = .ok (.newarray .int, 2) := by decide +kernel
theorem dX8_init_60 : decode cX8_init 60 = .ok (.putfield 29, 3) := by decide +kernel
theorem dX8_init_63 : decode cX8_init 63 = .ok (.aload_n 0, 1) := by decide +kernel
theorem dX8_init_64 : decode cX8_init 64 = .ok (.bipush 11, 2) := by decide +kernel
theorem dX8_init_66 : decode cX8_init 66 = .ok (.newarray .char, 2) := by decide +kernel
theorem dX8_init_68 : decode cX8_init 68 = .ok (.dup, 1) := by decide +kernel
theorem dX8_init_69 : decode cX8_init 69 = .ok (.iconst 0, 1) := by decide +kernel
theorem dX8_init_70 : decode cX8_init 70 = .ok (.bipush 119, 2) := by decide +kernel
theorem dX8_init_72 : decode cX8_init 72 = .ok (.castore, 1) := by decide +kernel
theorem dX8_init_73 : decode cX8_init 73 = .ok (.dup, 1) := by decide +kernel
theorem dX8_init_74 : decode cX8_init 74 = .ok (.iconst 1, 1) := by decide +kernel
theorem dX8_init_75 : decode cX8_init 75 = .ok (.bipush 101, 2) := by decide +kernel
theorem dX8_init_77 : decode cX8_init 77 = .ok (.castore, 1) := by decide +kernel
theorem dX8_init_78 : decode cX8_init 78 = .ok (.dup, 1) := by decide +kernel
theorem dX8_init_79 : decode cX8_init 79 = .ok (.iconst 2, 1) := by decide +kernel
theorem dX8_init_80 : decode cX8_init 80 = .ok (.bipush 97, 2) := by decide +kernel
theorem dX8_init_82 : decode cX8_init 82 = .ok (.castore, 1) := by decide +kernel
theorem dX8_init_83 : decode cX8_init 83 = .ok (.dup, 1) := by decide +kernel
theorem dX8_init_84 : decode cX8_init 84 = .ok (.iconst 3, 1) := by decide +kernel
theorem dX8_init_85 : decode cX8_init 85 = .ok (.bipush 114, 2) := by decide +kernel
theorem dX8_init_87 : decode cX8_init 87 = .ok (.castore, 1) := by decide +kernel
theorem dX8_init_88 : decode cX8_init 88 = .ok (.dup, 1) := by decide +kernel
theorem dX8_init_89 : decode cX8_init 89 = .ok (.iconst 4, 1) := by decide +kernel
theorem dX8_init_90 : decode cX8_init 90 = .ok (.bipush 102, 2) := by decide +kernel
theorem dX8_init_92 : decode cX8_init 92 = .ok (.castore, 1) := by decide +kernel
theorem dX8_init_93 : decode cX8_init 93 = .ok (.dup, 1) := by decide +kernel
theorem dX8_init_94 : decode cX8_init 94 = .ok (.iconst 5, 1) := by decide +kernel
theorem dX8_init_95 : decode cX8_init 95 = .ok (.bipush 101, 2) := by decide +kernel
theorem dX8_init_97 : decode cX8_init 97 = .ok (.castore, 1) := by decide +kernel
theorem dX8_init_98 : decode cX8_init 98 = .ok (.dup, 1) := by decide +kernel
theorem dX8_init_99 : decode cX8_init 99 = .ok (.bipush 6, 2) := by decide +kernel
theorem dX8_init_101 : decode cX8_init 101 = .ok (.bipush 101, 2) := by decide +kernel
theorem dX8_init_103 : decode cX8_init 103 = .ok (.castore, 1) := by decide +kernel
theorem dX8_init_104 : decode cX8_init 104 = .ok (.dup, 1) := by decide +kernel
theorem dX8_init_105 : decode cX8_init 105 = .ok (.bipush 7, 2) := by decide +kernel
theorem dX8_init_107 : decode cX8_init 107 = .ok (.bipush 102, 2) := by decide +kernel
theorem dX8_init_109 : decode cX8_init 109 = .ok (.castore, 1) := by decide +kernel
theorem dX8_init_110 : decode cX8_init 110 = .ok (.dup, 1) := by decide +kernel
theorem dX8_init_111 : decode cX8_init 111 = .ok (.bipush 8, 2) := by decide +kernel
theorem dX8_init_113 : decode cX8_init 113 = .ok (.bipush 105, 2) := by decide +kernel
theorem dX8_init_115 : decode cX8_init 115 = .ok (.castore, 1) := by decide +kernel
theorem dX8_init_116 : decode cX8_init 116 = .ok (.dup, 1) := by decide +kernel
theorem dX8_init_117 : decode cX8_init 117 = .ok (.bipush 9, 2) := by decide +kernel
theorem dX8_init_119 : decode cX8_init 119 = .ok (.bipush 110, 2) := by decide +kernel
theorem dX8_init_121 : decode cX8_init 121 = .ok (.castore, 1) := by decide +kernel
theorem dX8_init_122 : decode cX8_init 122 = .ok (.dup, 1) := by decide +kernel
theorem dX8_init_123 : decode cX8_init 123 = .ok (.bipush 10, 2) := by decide +kernel
theorem dX8_init_125 : decode cX8_init 125 = .ok (.bipush 101, 2) := by decide +kernel
theorem dX8_init_127 : decode cX8_init 127 = .ok (.castore, 1) := by decide +kernel
theorem dX8_init_128 : decode cX8_init 128 = .ok (.putfield 32, 3) := by decide +kernel
theorem dX8_init_131 : decode cX8_init 131 = .ok (.aload_n 0, 1) := by decide +kernel
theorem dX8_init_132 : decode cX8_init 132 = .ok (.iconst 4, 1) := by decide +kernel
theorem dX8_init_133 : decode cX8_init 133 = .ok (.newarray .int, 2) := by decide +kernel
theorem dX8_init_135 : decode cX8_init 135 = .ok (.dup, 1) := by decide +kernel
theorem dX8_init_136 : decode cX8_init 136 = .ok (.iconst 0, 1) := by decide +kernel
theorem dX8_init_137 : decode cX8_init 137 = .ok (.iconst 0, 1) := by decide +kernel
theorem dX8_init_138 : decode cX8_init 138 = .ok (.iastore, 1) := by decide +kernel
theorem dX8_init_139 : decode cX8_init 139 = .ok (.dup, 1) := by decide +kernel
theorem dX8_init_140 : decode cX8_init 140 = .ok (.iconst 1, 1) := by decide +kernel
theorem dX8_init_141 : decode cX8_init 141 = .ok (.iconst 4, 1) := by decide +kernel
theorem dX8_init_142 : decode cX8_init 142 = .ok (.iastore, 1) := by decide +kernel
theorem dX8_init_143 : decode cX8_init 143 = .ok (.dup, 1) := by decide +kernel
theorem dX8_init_144 : decode cX8_init 144 = .ok (.iconst 2, 1) := by decide +kernel
theorem dX8_init_145 : decode cX8_init 145 = .ok (.bipush 7, 2) := by decide +kernel
theorem dX8_init_147 : decode cX8_init 147 = .ok (.iastore, 1) := by decide +kernel
theorem dX8_init_148 : decode cX8_init 148 = .ok (.dup, 1) := by decide +kernel
theorem dX8_init_149 : decode cX8_init 149 = .ok (.iconst 3, 1) := by decide +kernel
theorem dX8_init_150 : decode cX8_init 150 = .ok (.bipush 11, 2) := by decide +kernel
theorem dX8_init_152 : decode cX8_init 152 = .ok (.iastore, 1) := by decide +kernel
theorem dX8_init_153 : decode cX8_init 153 = .ok (.putfield 36, 3) := by decide +kernel
theorem dX8_init_156 : decode cX8_init 156 = .ok (.aload_n 0, 1) := by decide +kernel
theorem dX8_init_157 : decode cX8_init 157 = .ok (.bipush 96, 2) := by decide +kernel
theorem dX8_init_159 : decode cX8_init 159 = .ok (.newarray .int, 2) := by decide +kernel
theorem dX8_init_161 : decode cX8_init 161 = .ok (.putfield 39, 3) := by decide +kernel
theorem dX8_init_164 : decode cX8_init 164 = .ok (.aload_n 0, 1) := by decide +kernel
theorem dX8_init_165 : decode cX8_init 165 = .ok (.bipush 96, 2) := by decide +kernel
theorem dX8_init_167 : decode cX8_init 167 = .ok (.newarray .int, 2) := by decide +kernel
theorem dX8_init_169 : decode cX8_init 169 = .ok (.putfield 42, 3) := by decide +kernel
theorem dX8_init_172 : decode cX8_init 172 = .ok (.aload_n 0, 1) := by decide +kernel
theorem dX8_init_173 : decode cX8_init 173 = .ok (.bipush 10, 2) := by decide +kernel
theorem dX8_init_175 : decode cX8_init 175 = .ok (.newarray .boolean, 2) := by decide +kernel
theorem dX8_init_177 : decode cX8_init 177 = .ok (.putfield 45, 3) := by decide +kernel
theorem dX8_init_180 : decode cX8_init 180 = .ok (.aload_n 0, 1) := by decide +kernel
theorem dX8_init_181 : decode cX8_init 181 = .ok (.bipush 96, 2) := by decide +kernel
theorem dX8_init_183 : decode cX8_init 183 = .ok (.newarray .int, 2) := by decide +kernel
theorem dX8_init_185 : decode cX8_init 185 = .ok (.putfield 49, 3) := by decide +kernel
theorem dX8_init_188 : decode cX8_init 188 = .ok (.aload_n 0, 1) := by decide +kernel
theorem dX8_init_189 : decode cX8_init 189 = .ok (.iconst 4, 1) := by decide +kernel
theorem dX8_init_190 : decode cX8_init 190 = .ok (.newarray .int, 2) := by decide +kernel
theorem dX8_init_192 : decode cX8_init 192 = .ok (.putfield 52, 3) := by decide +kernel
theorem dX8_init_195 : decode cX8_init 195 = .ok (.aload_n 0, 1) := by decide +kernel
theorem dX8_init_196 : decode cX8_init 196 = .ok (.iconst 4, 1) := by decide +kernel
theorem dX8_init_197 : decode cX8_init 197 = .ok (.newarray .int, 2) := by decide +kernel
theorem dX8_init_199 : decode cX8_init 199 = .ok (.dup, 1) := by decide +kernel
theorem dX8_init_200 : decode cX8_init 200 = .ok (.iconst 0, 1) := by decide +kernel
theorem dX8_init_201 : decode cX8_init 201 = .ok (.iconst (-1), 1) := by decide +kernel
theorem dX8_init_202 : decode cX8_init 202 = .ok (.iastore, 1) := by decide +kernel
theorem dX8_init_203 : decode cX8_init 203 = .ok (.dup, 1) := by decide +kernel
theorem dX8_init_204 : decode cX8_init 204 = .ok (.iconst 1, 1) := by decide +kernel
theorem dX8_init_205 : decode cX8_init 205 = .ok (.iconst (-1), 1) := by decide +kernel
theorem dX8_init_206 : decode cX8_init 206 = .ok (.iastore, 1) := by decide +kernel
theorem dX8_init_207 : decode cX8_init 207 = .ok (.dup, 1) := by decide +kernel
theorem dX8_init_208 : decode cX8_init 208 = .ok (.iconst 2, 1) := by decide +kernel
theorem dX8_init_209 : decode cX8_init 209 = .ok (.iconst (-1), 1) := by decide +kernel
theorem dX8_init_210 : decode cX8_init 210 = .ok (.iastore, 1) := by decide +kernel
theorem dX8_init_211 : decode cX8_init 211 = .ok (.dup, 1) := by decide +kernel
theorem dX8_init_212 : decode cX8_init 212 = .ok (.iconst 3, 1) := by decide +kernel
theorem dX8_init_213 : decode cX8_init 213 = .ok (.iconst (-1), 1) := by decide +kernel
theorem dX8_init_214 : decode cX8_init 214 = .ok (.iastore, 1) := by decide +kernel
theorem dX8_init_215 : decode cX8_init 215 = .ok (.putfield 55, 3) := by decide +kernel
theorem dX8_init_218 : decode cX8_init 218 = .ok (.aload_n 0, 1) := by decide +kernel
theorem dX8_init_219 : decode cX8_init 219 = .ok (.iconst 4, 1) := by decide +kernel
theorem dX8_init_220 : decode cX8_init 220 = .ok (.newarray .int, 2) := by decide +kernel
theorem dX8_init_222 : decode cX8_init 222 = .ok (.putfield 58, 3) := by decide +kernel
theorem dX8_init_225 : decode cX8_init 225 = .ok (.aload_n 0, 1) := by decide +kernel
theorem dX8_init_226 : decode cX8_init 226 = .ok (.bipush 96, 2) := by decide +kernel
theorem dX8_init_228 : decode cX8_init 228 = .ok (.newarray .int, 2) := by decide +kernel
theorem dX8_init_230 : decode cX8_init 230 = .ok (.putfield 61, 3) := by decide +kernel
theorem dX8_init_233 : decode cX8_init 233 = .ok (.aload_n 0, 1) := by decide +kernel
theorem dX8_init_234 : decode cX8_init 234 = .ok (.iconst 5, 1) := by decide +kernel
theorem dX8_init_235 : decode cX8_init 235 = .ok (.newarray .int, 2) := by decide +kernel
theorem dX8_init_237 : decode cX8_init 237 = .ok (.putfield 64, 3) := by decide +kernel
theorem dX8_init_240 : decode cX8_init 240 = .ok (.aload_n 0, 1) := by decide +kernel
theorem dX8_init_241 : decode cX8_init 241 = .ok (.iconst 5, 1) := by decide +kernel
theorem dX8_init_242 : decode cX8_init 242 = .ok (.newarray .int, 2) := by decide +kernel
theorem dX8_init_244 : decode cX8_init 244 = .ok (.putfield 67, 3) := by decide +kernel
theorem dX8_init_247 : decode cX8_init 247 = .ok (.aload_n 0, 1) := by decide +kernel
theorem dX8_init_248 : decode cX8_init 248 = .ok (.iconst 5, 1) := by decide +kernel
theorem dX8_init_249 : decode cX8_init 249 = .ok (.newarray .int, 2) := by decide +kernel
theorem dX8_init_251 : decode cX8_init 251 = .ok (.putfield 70, 3) := by decide +kernel
theorem dX8_init_254 : decode cX8_init 254 = .ok (.aload_n 0, 1) := by decide +kernel
theorem dX8_init_255 : decode cX8_init 255 = .ok (.bipush 120, 2) := by decide +kernel
theorem dX8_init_257 : decode cX8_init 257 = .ok (.newarray .int, 2) := by decide +kernel
theorem dX8_init_259 : decode cX8_init 259 = .ok (.putfield 73, 3) := by decide +kernel
theorem dX8_init_262 : decode cX8_init 262 = .ok (.aload_n 0, 1) := by decide +kernel
theorem dX8_init_263 : decode cX8_init 263 = .ok (.bipush 24, 2) := by decide +kernel
theorem dX8_init_265 : decode cX8_init 265 = .ok (.newarray .int, 2) := by decide +kernel
theorem dX8_init_267 : decode cX8_init 267 = .ok (.putfield 76, 3) := by decide +kernel
theorem dX8_init_270 : decode cX8_init 270 = .ok (.aload_n 0, 1) := by decide +kernel
theorem dX8_init_271 : decode cX8_init 271 = .ok (.bipush 60, 2) := by decide +kernel
theorem dX8_init_273 : decode cX8_init 273 = .ok (.newarray .int, 2) := by decide +kernel
theorem dX8_init_275 : decode cX8_init 275 = .ok (.putfield 79, 3) := by decide +kernel
theorem dX8_init_278 : decode cX8_init 278 = .ok (.aload_n 0, 1) := by decide +kernel
theorem dX8_init_279 : decode cX8_init 279 = .ok (.getfield 9, 3) := by decide +kernel
theorem dX8_init_282 : decode cX8_init 282 = .ok (.iconst 0, 1) := by decide +kernel
theorem dX8_init_283 : decode cX8_init 283 = .ok (.iconst 1, 1) := by decide +kernel
theorem dX8_init_284 : decode cX8_init 284 = .ok (.iastore, 1) := by decide +kernel
theorem dX8_init_285 : decode cX8_init 285 = .ok (.iconst 0, 1) := by decide +kernel
theorem dX8_init_286 : decode cX8_init 286 = .ok (.istore_n 1, 1) := by decide +kernel
theorem dX8_init_287 : decode cX8_init 287 = .ok (.iload_n 1, 1) := by decide +kernel
theorem dX8_init_288 : decode cX8_init 288 = .ok (.bipush 10, 2) := by decide +kernel
theorem dX8_init_290 : decode cX8_init 290 = .ok (.if_icmp .ge 29, 3) := by decide +kernel
theorem dX8_init_293 : decode cX8_init 293 = .ok (.aload_n 0, 1) := by decide +kernel
theorem dX8_init_294 : decode cX8_init 294 = .ok (.getfield 9, 3) := by decide +kernel
theorem dX8_init_297 : decode cX8_init 297 = .ok (.bipush 7, 2) := by decide +kernel
theorem dX8_init_299 : decode cX8_init 299 = .ok (.iload_n 1, 1) := by decide +kernel
theorem dX8_init_300 : decode cX8_init 300 = .ok (.iadd, 1) := by decide +kernel
theorem dX8_init_301 : decode cX8_init 301 = .ok (.iconst 1, 1) := by decide +kernel
theorem dX8_init_302 : decode cX8_init 302 = .ok (.iastore, 1) := by decide +kernel
theorem dX8_init_303 : decode cX8_init 303 = .ok (.aload_n 0, 1) := by decide +kernel
theorem dX8_init_304 : decode cX8_init 304 = .ok (.getfield 9, 3) := by decide +kernel
theorem dX8_init_307 : decode cX8_init 307 = .ok (.bipush 17, 2) := by decide +kernel
theorem dX8_init_309 : decode cX8_init 309 = .ok (.iload_n 1, 1) := by decide +kernel
theorem dX8_init_310 : decode cX8_init 310 = .ok (.iadd, 1) := by decide +kernel
theorem dX8_init_311 : decode cX8_init 311 = .ok (.iload_n 1, 1) := by decide +kernel
theorem dX8_init_312 : decode cX8_init 312 = .ok (.iastore, 1) := by decide +kernel
theorem dX8_init_313 : decode cX8_init 313 = .ok (.iinc 1 1, 3) := by decide +kernel
theorem dX8_init_316 : decode cX8_init 316 = .ok (.goto (-29), 3) := by decide +kernel
theorem dX8_init_319 : decode cX8_init 319 = .ok (.return_, 1) := by decide +kernel
theorem dX8_in_0 : decode cX8_in 0 = .ok (.iload_n 0, 1) := by decide +kernel
theorem dX8_in_1 : decode cX8_in 1 = .ok (.iload_n 1, 1) := by decide +kernel
theorem dX8_in_2 : decode cX8_in 2 = .ok (.if_icmp .lt 12, 3) := by decide +kernel
theorem dX8_in_5 : decode cX8_in 5 = .ok (.iload_n 0, 1) := by decide +kernel
theorem dX8_in_6 : decode cX8_in 6 = .ok (.iload_n 2, 1) := by decide +kernel
theorem dX8_in_7 : decode cX8_in 7 = .ok (.if_icmp .gt 7, 3) := by decide +kernel
theorem dX8_in_10 : decode cX8_in 10 = .ok (.iconst 1, 1) := by decide +kernel
theorem dX8_in_11 : decode cX8_in 11 = .ok (.goto 4, 3) := by decide +kernel
theorem dX8_in_14 : decode cX8_in 14 = .ok (.iconst 0, 1) := by decide +kernel
theorem dX8_in_15 : decode cX8_in 15 = .ok (.ireturn, 1) := by decide +kernel
theorem dX8_within_0 : decode cX8_within 0 = .ok (.iload_n 0, 1) := by decide +kernel
theorem dX8_within_1 : decode cX8_within 1 = .ok (.iload_n 1, 1) := by decide +kernel
theorem dX8_within_2 : decode cX8_within 2 = .ok (.if_icmp .ge 7, 3) := by decide +kernel
theorem dX8_within_5 : decode cX8_within 5 = .ok (.iload_n 1, 1) := by decide +kernel
theorem dX8_within_6 : decode cX8_within 6 = .ok (.goto 13, 3) := by decide +kernel
theorem dX8_within_9 : decode cX8_within 9 = .ok (.iload_n 0, 1) := by decide +kernel
theorem dX8_within_10 : decode cX8_within 10 = .ok (.iload_n 2, 1) := by decide +kernel
theorem dX8_within_11 : decode cX8_within 11 = .ok (.if_icmp .le 7, 3) := by decide +kernel
theorem dX8_within_14 : decode cX8_within 14 = .ok (.iload_n 2, 1) := by decide +kernel
theorem dX8_within_15 : decode cX8_within 15 = .ok (.goto 4, 3) := by decide +kernel
theorem dX8_within_18 : decode cX8_within 18 = .ok (.iload_n 0, 1) := by decide +kernel
theorem dX8_within_19 : decode cX8_within 19 = .ok (.ireturn, 1) := by decide +kernel
theorem dX8_copyAll_0 : decode cX8_copyAll 0 = .ok (.iconst 0, 1) := by decide +kernel
theorem dX8_copyAll_1 : decode cX8_copyAll 1 = .ok (.istore_n 2, 1) := by decide +kernel
theorem dX8_copyAll_2 : decode cX8_copyAll 2 = .ok (.iload_n 2, 1) := by decide +kernel
theorem dX8_copyAll_3 : decode cX8_copyAll 3 = .ok (.sipush 1469, 3) := by decide +kernel
theorem dX8_copyAll_6 : decode cX8_copyAll 6 = .ok (.if_icmp .ge 15, 3) := by decide +kernel
theorem dX8_copyAll_9 : decode cX8_copyAll 9 = .ok (.aload_n 1, 1) := by decide +kernel
theorem dX8_copyAll_10 : decode cX8_copyAll 10 = .ok (.iload_n 2, 1) := by decide +kernel
theorem dX8_copyAll_11 : decode cX8_copyAll 11 = .ok (.aload_n 0, 1) := by decide +kernel
theorem dX8_copyAll_12 : decode cX8_copyAll 12 = .ok (.iload_n 2, 1) := by decide +kernel
theorem dX8_copyAll_13 : decode cX8_copyAll 13 = .ok (.iaload, 1) := by decide +kernel
theorem dX8_copyAll_14 : decode cX8_copyAll 14 = .ok (.iastore, 1) := by decide +kernel
theorem dX8_copyAll_15 : decode cX8_copyAll 15 = .ok (.iinc 2 1, 3) := by decide +kernel
theorem dX8_copyAll_18 : decode cX8_copyAll 18 = .ok (.goto (-16), 3) := by decide +kernel
theorem dX8_copyAll_21 : decode cX8_copyAll 21 = .ok (.return_, 1) := by decide +kernel
theorem dX8_isDancer_0 : decode cX8_isDancer 0 = .ok (.iload_n 1, 1) := by decide +kernel
theorem dX8_isDancer_1 : decode cX8_isDancer 1 = .ok (.iconst 0, 1) := by decide +kernel
theorem dX8_isDancer_2 : decode cX8_isDancer 2 = .ok (.aload_n 0, 1) := by decide +kernel
theorem dX8_isDancer_3 : decode cX8_isDancer 3 = .ok (.getfield 9, 3) := by decide +kernel
theorem dX8_isDancer_6 : decode cX8_isDancer 6 = .ok (.iconst 1, 1) := by decide +kernel
theorem dX8_isDancer_7 : decode cX8_isDancer 7 = .ok (.iaload, 1) := by decide +kernel
theorem dX8_isDancer_8 : decode cX8_isDancer 8 = .ok (.iconst 1, 1) := by decide +kernel
theorem dX8_isDancer_9 : decode cX8_isDancer 9 = .ok (.isub, 1) := by decide +kernel
theorem dX8_isDancer_10 : decode cX8_isDancer 10 = .ok (.invokestatic 82, 3) := by decide +kernel
theorem dX8_isDancer_13 : decode cX8_isDancer 13 = .ok (.ireturn, 1) := by decide +kernel
theorem dX8_isRoom_0 : decode cX8_isRoom 0 = .ok (.iload_n 0, 1) := by decide +kernel
theorem dX8_isRoom_1 : decode cX8_isRoom 1 = .ok (.iconst 0, 1) := by decide +kernel
theorem dX8_isRoom_2 : decode cX8_isRoom 2 = .ok (.bipush 9, 2) := by decide +kernel
theorem dX8_isRoom_4 : decode cX8_isRoom 4 = .ok (.invokestatic 82, 3) := by decide +kernel
theorem dX8_isRoom_7 : decode cX8_isRoom 7 = .ok (.ireturn, 1) := by decide +kernel
theorem dX8_of_0 : decode cX8_of 0 = .ok (.aload_n 0, 1) := by decide +kernel
theorem dX8_of_1 : decode cX8_of 1 = .ok (.getfield 9, 3) := by decide +kernel
theorem dX8_of_4 : decode cX8_of 4 = .ok (.bipush 37, 2) := by decide +kernel
theorem dX8_of_6 : decode cX8_of 6 = .ok (.iconst 5, 1) := by decide +kernel
theorem dX8_of_7 : decode cX8_of 7 = .ok (.iload_n 1, 1) := by decide +kernel
theorem dX8_of_8 : decode cX8_of 8 = .ok (.imul, 1) := by decide +kernel
theorem dX8_of_9 : decode cX8_of 9 = .ok (.iadd, 1) := by decide +kernel
theorem dX8_of_10 : decode cX8_of 10 = .ok (.iload_n 2, 1) := by decide +kernel
theorem dX8_of_11 : decode cX8_of 11 = .ok (.iadd, 1) := by decide +kernel
theorem dX8_of_12 : decode cX8_of 12 = .ok (.iaload, 1) := by decide +kernel
theorem dX8_of_13 : decode cX8_of 13 = .ok (.ireturn, 1) := by decide +kernel
theorem dX8_put_0 : decode cX8_put 0 = .ok (.aload_n 0, 1) := by decide +kernel
theorem dX8_put_1 : decode cX8_put 1 = .ok (.getfield 9, 3) := by decide +kernel
theorem dX8_put_4 : decode cX8_put 4 = .ok (.bipush 37, 2) := by decide +kernel
theorem dX8_put_6 : decode cX8_put 6 = .ok (.iconst 5, 1) := by decide +kernel
theorem dX8_put_7 : decode cX8_put 7 = .ok (.iload_n 1, 1) := by decide +kernel
theorem dX8_put_8 : decode cX8_put 8 = .ok (.imul, 1) := by decide +kernel
theorem dX8_put_9 : decode cX8_put 9 = .ok (.iadd, 1) := by decide +kernel
theorem dX8_put_10 : decode cX8_put 10 = .ok (.iload_n 2, 1) := by decide +kernel
theorem dX8_put_11 : decode cX8_put 11 = .ok (.iadd, 1) := by decide +kernel
theorem dX8_put_12 : decode cX8_put 12 = .ok (.iload_n 3, 1) := by decide +kernel
theorem dX8_put_13 : decode cX8_put 13 = .ok (.iastore, 1) := by decide +kernel
theorem dX8_put_14 : decode cX8_put 14 = .ok (.return_, 1) := by decide +kernel
theorem dX8_becomes_0 : decode cX8_becomes 0 = .ok (.aload_n 0, 1) := by decide +kernel
theorem dX8_becomes_1 : decode cX8_becomes 1 = .ok (.getfield 9, 3) := by decide +kernel
theorem dX8_becomes_4 : decode cX8_becomes 4 = .ok (.iload_n 1, 1) := by decide +kernel
theorem dX8_becomes_5 : decode cX8_becomes 5 = .ok (.iaload, 1) := by decide +kernel
theorem dX8_becomes_6 : decode cX8_becomes 6 = .ok (.istore_n 3, 1) := by decide +kernel
theorem dX8_becomes_7 : decode cX8_becomes 7 = .ok (.aload_n 0, 1) := by decide +kernel
theorem dX8_becomes_8 : decode cX8_becomes 8 = .ok (.getfield 9, 3) := by decide +kernel
theorem dX8_becomes_11 : decode cX8_becomes 11 = .ok (.iload_n 1, 1) := by decide +kernel
theorem dX8_becomes_12 : decode cX8_becomes 12 = .ok (.iload_n 2, 1) := by decide +kernel
theorem dX8_becomes_13 : decode cX8_becomes 13 = .ok (.iastore, 1) := by decide +kernel
theorem dX8_becomes_14 : decode cX8_becomes 14 = .ok (.iload_n 3, 1) := by decide +kernel
theorem dX8_becomes_15 : decode cX8_becomes 15 = .ok (.ireturn, 1) := by decide +kernel
theorem dX8_comes_0 : decode cX8_comes 0 = .ok (.aload_n 0, 1) := by decide +kernel
theorem dX8_comes_1 : decode cX8_comes 1 = .ok (.getfield 9, 3) := by decide +kernel
theorem dX8_comes_4 : decode cX8_comes 4 = .ok (.iconst 1, 1) := by decide +kernel
theorem dX8_comes_5 : decode cX8_comes 5 = .ok (.iaload, 1) := by decide +kernel
theorem dX8_comes_6 : decode cX8_comes 6 = .ok (.istore 5, 2) := by decide +kernel
theorem dX8_comes_8 : decode cX8_comes 8 = .ok (.aload_n 0, 1) := by decide +kernel
theorem dX8_comes_9 : decode cX8_comes 9 = .ok (.getfield 9, 3) := by decide +kernel
theorem dX8_comes_12 : decode cX8_comes 12 = .ok (.iconst 1, 1) := by decide +kernel
theorem dX8_comes_13 : decode cX8_comes 13 = .ok (.dup2, 1) := by decide +kernel
theorem dX8_comes_14 : decode cX8_comes 14 = .ok (.iaload, 1) := by decide +kernel
theorem dX8_comes_15 : decode cX8_comes 15 = .ok (.iconst 1, 1) := by decide +kernel
theorem dX8_comes_16 : decode cX8_comes 16 = .ok (.iadd, 1) := by decide +kernel
theorem dX8_comes_17 : decode cX8_comes 17 = .ok (.iastore, 1) := by decide +kernel
theorem dX8_comes_18 : decode cX8_comes 18 = .ok (.aload_n 0, 1) := by decide +kernel
theorem dX8_comes_19 : decode cX8_comes 19 = .ok (.iload 5, 2) := by decide +kernel
theorem dX8_comes_21 : decode cX8_comes 21 = .ok (.iconst 0, 1) := by decide +kernel
theorem dX8_comes_22 : decode cX8_comes 22 = .ok (.iload_n 1, 1) := by decide +kernel
theorem dX8_comes_23 : decode cX8_comes 23 = .ok (.invokevirtual 86, 3) := by decide +kernel
theorem dX8_comes_26 : decode cX8_comes 26 = .ok (.aload_n 0, 1) := by decide +kernel
theorem dX8_comes_27 : decode cX8_comes 27 = .ok (.iload 5, 2) := by decide +kernel
theorem dX8_comes_29 : decode cX8_comes 29 = .ok (.iconst 1, 1) := by decide +kernel
theorem dX8_comes_30 : decode cX8_comes 30 = .ok (.iload_n 2, 1) := by decide +kernel
theorem dX8_comes_31 : decode cX8_comes 31 = .ok (.invokevirtual 86, 3) := by decide +kernel
theorem dX8_comes_34 : decode cX8_comes 34 = .ok (.aload_n 0, 1) := by decide +kernel
theorem dX8_comes_35 : decode cX8_comes 35 = .ok (.iload 5, 2) := by decide +kernel
theorem dX8_comes_37 : decode cX8_comes 37 = .ok (.iconst 2, 1) := by decide +kernel
theorem dX8_comes_38 : decode cX8_comes 38 = .ok (.iload_n 3, 1) := by decide +kernel
theorem dX8_comes_39 : decode cX8_comes 39 = .ok (.invokevirtual 86, 3) := by decide +kernel
theorem dX8_comes_42 : decode cX8_comes 42 = .ok (.aload_n 0, 1) := by decide +kernel
theorem dX8_comes_43 : decode cX8_comes 43 = .ok (.iload 5, 2) := by decide +kernel
theorem dX8_comes_45 : decode cX8_comes 45 = .ok (.iconst 3, 1) := by decide +kernel
theorem dX8_comes_46 : decode cX8_comes 46 = .ok (.iload 4, 2) := by decide +kernel
theorem dX8_comes_48 : decode cX8_comes 48 = .ok (.invokevirtual 86, 3) := by decide +kernel
theorem dX8_comes_51 : decode cX8_comes 51 = .ok (.aload_n 0, 1) := by decide +kernel
theorem dX8_comes_52 : decode cX8_comes 52 = .ok (.iload 5, 2) := by decide +kernel
theorem dX8_comes_54 : decode cX8_comes 54 = .ok (.iconst 4, 1) := by decide +kernel
theorem dX8_comes_55 : decode cX8_comes 55 = .ok (.iconst 0, 1) := by decide +kernel
theorem dX8_comes_56 : decode cX8_comes 56 = .ok (.invokevirtual 86, 3) := by decide +kernel
theorem dX8_comes_59 : decode cX8_comes 59 = .ok (.iload 5, 2) := by decide +kernel
theorem dX8_comes_61 : decode cX8_comes 61 = .ok (.ireturn, 1) := by decide +kernel
theorem dX8_isOf_0 : decode cX8_isOf 0 = .ok (.iload_n 1, 1) := by decide +kernel
theorem dX8_isOf_1 : decode cX8_isOf 1 = .ok (.iconst 0, 1) := by decide +kernel
theorem dX8_isOf_2 : decode cX8_isOf 2 = .ok (.iload_n 0, 1) := by decide +kernel
theorem dX8_isOf_3 : decode cX8_isOf 3 = .ok (.iconst 1, 1) := by decide +kernel
theorem dX8_isOf_4 : decode cX8_isOf 4 = .ok (.if_icmp .ne 8, 3) := by decide +kernel
theorem dX8_isOf_7 : decode cX8_isOf 7 = .ok (.bipush 9, 2) := by decide +kernel
theorem dX8_isOf_9 : decode cX8_isOf 9 = .ok (.goto 15, 3) := by decide +kernel
theorem dX8_isOf_12 : decode cX8_isOf 12 = .ok (.iload_n 0, 1) := by decide +kernel
theorem dX8_isOf_13 : decode cX8_isOf 13 = .ok (.iconst 2, 1) := by decide +kernel
theorem dX8_isOf_14 : decode cX8_isOf 14 = .ok (.if_icmp .ne 9, 3) := by decide +kernel
theorem dX8_isOf_17 : decode cX8_isOf 17 = .ok (.sipush 999, 3) := by decide +kernel
theorem dX8_isOf_20 : decode cX8_isOf 20 = .ok (.goto 4, 3) := by decide +kernel
theorem dX8_isOf_23 : decode cX8_isOf 23 = .ok (.iconst 5, 1) := by decide +kernel
theorem dX8_isOf_24 : decode cX8_isOf 24 = .ok (.invokestatic 82, 3) := by decide +kernel
theorem dX8_isOf_27 : decode cX8_isOf 27 = .ok (.ireturn, 1) := by decide +kernel
theorem dX8_dancer_0 : decode cX8_dancer 0 = .ok (.iload_n 1, 1) := by decide +kernel
theorem dX8_dancer_1 : decode cX8_dancer 1 = .ok (.iconst 0, 1) := by decide +kernel
theorem dX8_dancer_2 : decode cX8_dancer 2 = .ok (.iconst 5, 1) := by decide +kernel
theorem dX8_dancer_3 : decode cX8_dancer 3 = .ok (.invokestatic 82, 3) := by decide +kernel
theorem dX8_dancer_6 : decode cX8_dancer 6 = .ok (.ifCond .eq 28, 3) := by decide +kernel
theorem dX8_dancer_9 : decode cX8_dancer 9 = .ok (.iconst 1, 1) := by decide +kernel
theorem dX8_dancer_10 : decode cX8_dancer 10 = .ok (.iload_n 2, 1) := by decide +kernel
theorem dX8_dancer_11 : decode cX8_dancer 11 = .ok (.invokestatic 90, 3) := by decide +kernel
theorem dX8_dancer_14 : decode cX8_dancer 14 = .ok (.ifCond .eq 20, 3) := by decide +kernel
theorem dX8_dancer_17 : decode cX8_dancer 17 = .ok (.iconst 2, 1) := by decide +kernel
theorem dX8_dancer_18 : decode cX8_dancer 18 = .ok (.iload_n 3, 1) := by decide +kernel
theorem dX8_dancer_19 : decode cX8_dancer 19 = .ok (.invokestatic 90, 3) := by decide +kernel
theorem dX8_dancer_22 : decode cX8_dancer 22 = .ok (.ifCond .eq 12, 3) := by decide +kernel
theorem dX8_dancer_25 : decode cX8_dancer 25 = .ok (.iconst 3, 1) := by decide +kernel
theorem dX8_dancer_26 : decode cX8_dancer 26 = .ok (.iload 4, 2) := by decide +kernel
theorem dX8_dancer_28 : decode cX8_dancer 28 = .ok (.invokestatic 90, 3) := by decide +kernel
theorem dX8_dancer_31 : decode cX8_dancer 31 = .ok (.ifCond .ne 6, 3) := by decide +kernel
theorem dX8_dancer_34 : decode cX8_dancer 34 = .ok (.ldc 94, 2) := by decide +kernel
theorem dX8_dancer_36 : decode cX8_dancer 36 = .ok (.ireturn, 1) := by decide +kernel
theorem dX8_dancer_37 : decode cX8_dancer 37 = .ok (.aload_n 0, 1) := by decide +kernel
theorem dX8_dancer_38 : decode cX8_dancer 38 = .ok (.getfield 9, 3) := by decide +kernel
theorem dX8_dancer_41 : decode cX8_dancer 41 = .ok (.iconst 1, 1) := by decide +kernel
theorem dX8_dancer_42 : decode cX8_dancer 42 = .ok (.iaload, 1) := by decide +kernel
theorem dX8_dancer_43 : decode cX8_dancer 43 = .ok (.bipush 12, 2) := by decide +kernel
theorem dX8_dancer_45 : decode cX8_dancer 45 = .ok (.if_icmp .ne 8, 3) := by decide +kernel
theorem dX8_dancer_48 : decode cX8_dancer 48 = .ok (.ldc 95, 2) := by decide +kernel
theorem dX8_dancer_50 : decode cX8_dancer 50 = .ok (.goto 12, 3) := by decide +kernel
theorem dX8_dancer_53 : decode cX8_dancer 53 = .ok (.aload_n 0, 1) := by decide +kernel
theorem dX8_dancer_54 : decode cX8_dancer 54 = .ok (.iload_n 1, 1) := by decide +kernel
theorem dX8_dancer_55 : decode cX8_dancer 55 = .ok (.iload_n 2, 1) := by decide +kernel
theorem dX8_dancer_56 : decode cX8_dancer 56 = .ok (.iload_n 3, 1) := by decide +kernel
theorem dX8_dancer_57 : decode cX8_dancer 57 = .ok (.iload 4, 2) := by decide +kernel
theorem dX8_dancer_59 : decode cX8_dancer 59 = .ok (.invokevirtual 96, 3) := by decide +kernel
theorem dX8_dancer_62 : decode cX8_dancer 62 = .ok (.ireturn, 1) := by decide +kernel
theorem dX8_wearsOn_0 : decode cX8_wearsOn 0 = .ok (.aload_n 0, 1) := by decide +kernel
theorem dX8_wearsOn_1 : decode cX8_wearsOn 1 = .ok (.iconst 0, 1) := by decide +kernel
theorem dX8_wearsOn_2 : decode cX8_wearsOn 2 = .ok (.invokevirtual 100, 3) := by decide +kernel
theorem dX8_wearsOn_5 : decode cX8_wearsOn 5 = .ok (.istore_n 3, 1) := by decide +kernel
theorem dX8_wearsOn_6 : decode cX8_wearsOn 6 = .ok (.aload_n 0, 1) := by decide +kernel
theorem dX8_wearsOn_7 : decode cX8_wearsOn 7 = .ok (.getfield 52, 3) := by decide +kernel
theorem dX8_wearsOn_10 : decode cX8_wearsOn 10 = .ok (.iconst 0, 1) := by decide +kernel
theorem dX8_wearsOn_11 : decode cX8_wearsOn 11 = .ok (.iload_n 2, 1) := by decide +kernel
theorem dX8_wearsOn_12 : decode cX8_wearsOn 12 = .ok (.iastore, 1) := by decide +kernel
theorem dX8_wearsOn_13 : decode cX8_wearsOn 13 = .ok (.aload_n 0, 1) := by decide +kernel
theorem dX8_wearsOn_14 : decode cX8_wearsOn 14 = .ok (.getfield 52, 3) := by decide +kernel
theorem dX8_wearsOn_17 : decode cX8_wearsOn 17 = .ok (.iconst 1, 1) := by decide +kernel
theorem dX8_wearsOn_18 : decode cX8_wearsOn 18 = .ok (.aload_n 0, 1) := by decide +kernel
theorem dX8_wearsOn_19 : decode cX8_wearsOn 19 = .ok (.iload_n 1, 1) := by decide +kernel
theorem dX8_wearsOn_20 : decode cX8_wearsOn 20 = .ok (.iconst 2, 1) := by decide +kernel
theorem dX8_wearsOn_21 : decode cX8_wearsOn 21 = .ok (.invokevirtual 104, 3) := by decide +kernel
theorem dX8_wearsOn_24 : decode cX8_wearsOn 24 = .ok (.iastore, 1) := by decide +kernel
theorem dX8_wearsOn_25 : decode cX8_wearsOn 25 = .ok (.aload_n 0, 1) := by decide +kernel
theorem dX8_wearsOn_26 : decode cX8_wearsOn 26 = .ok (.getfield 52, 3) := by decide +kernel
theorem dX8_wearsOn_29 : decode cX8_wearsOn 29 = .ok (.iconst 2, 1) := by decide +kernel
theorem dX8_wearsOn_30 : decode cX8_wearsOn 30 = .ok (.aload_n 0, 1) := by decide +kernel
theorem dX8_wearsOn_31 : decode cX8_wearsOn 31 = .ok (.iload_n 1, 1) := by decide +kernel
theorem dX8_wearsOn_32 : decode cX8_wearsOn 32 = .ok (.iconst 4, 1) := by decide +kernel
theorem dX8_wearsOn_33 : decode cX8_wearsOn 33 = .ok (.invokevirtual 104, 3) := by decide +kernel
theorem dX8_wearsOn_36 : decode cX8_wearsOn 36 = .ok (.iastore, 1) := by decide +kernel
theorem dX8_wearsOn_37 : decode cX8_wearsOn 37 = .ok (.iload_n 3, 1) := by decide +kernel
theorem dX8_wearsOn_38 : decode cX8_wearsOn 38 = .ok (.ifCond .ge 7, 3) := by decide +kernel
theorem dX8_wearsOn_41 : decode cX8_wearsOn 41 = .ok (.iload_n 2, 1) := by decide +kernel
theorem dX8_wearsOn_42 : decode cX8_wearsOn 42 = .ok (.goto 14, 3) := by decide +kernel
theorem dX8_wearsOn_45 : decode cX8_wearsOn 45 = .ok (.aload_n 0, 1) := by decide +kernel
theorem dX8_wearsOn_46 : decode cX8_wearsOn 46 = .ok (.iload_n 3, 1) := by decide +kernel
theorem dX8_wearsOn_47 : decode cX8_wearsOn 47 = .ok (.invokevirtual 108, 3) := by decide +kernel
theorem dX8_wearsOn_50 : decode cX8_wearsOn 50 = .ok (.iconst 0, 1) := by decide +kernel
theorem dX8_wearsOn_51 : decode cX8_wearsOn 51 = .ok (.bipush 99, 2) := by decide +kernel
theorem dX8_wearsOn_53 : decode cX8_wearsOn 53 = .ok (.invokestatic 111, 3) := by decide +kernel
theorem dX8_wearsOn_56 : decode cX8_wearsOn 56 = .ok (.istore 4, 2) := by decide +kernel
theorem dX8_wearsOn_58 : decode cX8_wearsOn 58 = .ok (.aload_n 0, 1) := by decide +kernel
theorem dX8_wearsOn_59 : decode cX8_wearsOn 59 = .ok (.iload_n 1, 1) := by decide +kernel
theorem dX8_wearsOn_60 : decode cX8_wearsOn 60 = .ok (.iconst 0, 1) := by decide +kernel
theorem dX8_wearsOn_61 : decode cX8_wearsOn 61 = .ok (.invokevirtual 104, 3) := by decide +kernel
theorem dX8_wearsOn_64 : decode cX8_wearsOn 64 = .ok (.tableswitch 75 1 5 #[36, 41, 46, 63, 70], 36) := by decide +kernel
theorem dX8_wearsOn_100 : decode cX8_wearsOn 100 = .ok (.iload 4, 2) := by decide +kernel
theorem dX8_wearsOn_102 : decode cX8_wearsOn 102 = .ok (.iconst 2, 1) := by decide +kernel
theorem dX8_wearsOn_103 : decode cX8_wearsOn 103 = .ok (.idiv, 1) := by decide +kernel
theorem dX8_wearsOn_104 : decode cX8_wearsOn 104 = .ok (.ireturn, 1) := by decide +kernel
theorem dX8_wearsOn_105 : decode cX8_wearsOn 105 = .ok (.iconst 2, 1) := by decide +kernel
theorem dX8_wearsOn_106 : decode cX8_wearsOn 106 = .ok (.iload 4, 2) := by decide +kernel
theorem dX8_wearsOn_108 : decode cX8_wearsOn 108 = .ok (.imul, 1) := by decide +kernel
theorem dX8_wearsOn_109 : decode cX8_wearsOn 109 = .ok (.ireturn, 1) := by decide +kernel
theorem dX8_wearsOn_110 : decode cX8_wearsOn 110 = .ok (.iload 4, 2) := by decide +kernel
theorem dX8_wearsOn_112 : decode cX8_wearsOn 112 = .ok (.iconst 2, 1) := by decide +kernel
theorem dX8_wearsOn_113 : decode cX8_wearsOn 113 = .ok (.if_icmp .ge 7, 3) := by decide +kernel
theorem dX8_wearsOn_116 : decode cX8_wearsOn 116 = .ok (.iconst 0, 1) := by decide +kernel
theorem dX8_wearsOn_117 : decode cX8_wearsOn 117 = .ok (.goto 9, 3) := by decide +kernel
theorem dX8_wearsOn_120 : decode cX8_wearsOn 120 = .ok (.iload 4, 2) := by decide +kernel
theorem dX8_wearsOn_122 : decode cX8_wearsOn 122 = .ok (.iconst 2, 1) := by decide +kernel
theorem dX8_wearsOn_123 : decode cX8_wearsOn 123 = .ok (.idiv, 1) := by decide +kernel
theorem dX8_wearsOn_124 : decode cX8_wearsOn 124 = .ok (.iconst 1, 1) := by decide +kernel
theorem dX8_wearsOn_125 : decode cX8_wearsOn 125 = .ok (.isub, 1) := by decide +kernel
theorem dX8_wearsOn_126 : decode cX8_wearsOn 126 = .ok (.ireturn, 1) := by decide +kernel
theorem dX8_wearsOn_127 : decode cX8_wearsOn 127 = .ok (.iconst 2, 1) := by decide +kernel
theorem dX8_wearsOn_128 : decode cX8_wearsOn 128 = .ok (.iload 4, 2) := by decide +kernel
theorem dX8_wearsOn_130 : decode cX8_wearsOn 130 = .ok (.imul, 1) := by decide +kernel
theorem dX8_wearsOn_131 : decode cX8_wearsOn 131 = .ok (.iconst 3, 1) := by decide +kernel
theorem dX8_wearsOn_132 : decode cX8_wearsOn 132 = .ok (.iadd, 1) := by decide +kernel
theorem dX8_wearsOn_133 : decode cX8_wearsOn 133 = .ok (.ireturn, 1) := by decide +kernel
theorem dX8_wearsOn_134 : decode cX8_wearsOn 134 = .ok (.iload 4, 2) := by decide +kernel
theorem dX8_wearsOn_136 : decode cX8_wearsOn 136 = .ok (.iconst 1, 1) := by decide +kernel
theorem dX8_wearsOn_137 : decode cX8_wearsOn 137 = .ok (.iadd, 1) := by decide +kernel
theorem dX8_wearsOn_138 : decode cX8_wearsOn 138 = .ok (.ireturn, 1) := by decide +kernel
theorem dX8_wearsOn_139 : decode cX8_wearsOn 139 = .ok (.iload 4, 2) := by decide +kernel
theorem dX8_wearsOn_141 : decode cX8_wearsOn 141 = .ok (.ireturn, 1) := by decide +kernel
theorem dX8_goesOf_0 : decode cX8_goesOf 0 = .ok (.aload_n 0, 1) := by decide +kernel
theorem dX8_goesOf_1 : decode cX8_goesOf 1 = .ok (.iload_n 1, 1) := by decide +kernel
theorem dX8_goesOf_2 : decode cX8_goesOf 2 = .ok (.iconst 3, 1) := by decide +kernel
theorem dX8_goesOf_3 : decode cX8_goesOf 3 = .ok (.invokevirtual 104, 3) := by decide +kernel
theorem dX8_goesOf_6 : decode cX8_goesOf 6 = .ok (.istore_n 2, 1) := by decide +kernel
theorem dX8_goesOf_7 : decode cX8_goesOf 7 = .ok (.aload_n 0, 1) := by decide +kernel
theorem dX8_goesOf_8 : decode cX8_goesOf 8 = .ok (.iload_n 1, 1) := by decide +kernel
theorem dX8_goesOf_9 : decode cX8_goesOf 9 = .ok (.iconst 2, 1) := by decide +kernel
theorem dX8_goesOf_10 : decode cX8_goesOf 10 = .ok (.invokevirtual 104, 3) := by decide +kernel
theorem dX8_goesOf_13 : decode cX8_goesOf 13 = .ok (.ifCond .ne 5, 3) := by decide +kernel
theorem dX8_goesOf_16 : decode cX8_goesOf 16 = .ok (.iconst 0, 1) := by decide +kernel
theorem dX8_goesOf_17 : decode cX8_goesOf 17 = .ok (.ireturn, 1) := by decide +kernel
theorem dX8_goesOf_18 : decode cX8_goesOf 18 = .ok (.aload_n 0, 1) := by decide +kernel
theorem dX8_goesOf_19 : decode cX8_goesOf 19 = .ok (.iload_n 1, 1) := by decide +kernel
theorem dX8_goesOf_20 : decode cX8_goesOf 20 = .ok (.iconst 0, 1) := by decide +kernel
theorem dX8_goesOf_21 : decode cX8_goesOf 21 = .ok (.invokevirtual 104, 3) := by decide +kernel
theorem dX8_goesOf_24 : decode cX8_goesOf 24 = .ok (.tableswitch 82 1 5 #[36, 82, 45, 56, 60], 36) := by decide +kernel
theorem dX8_goesOf_60 : decode cX8_goesOf 60 = .ok (.iload_n 2, 1) := by decide +kernel
theorem dX8_goesOf_61 : decode cX8_goesOf 61 = .ok (.iconst 1, 1) := by decide +kernel
theorem dX8_goesOf_62 : decode cX8_goesOf 62 = .ok (.isub, 1) := by decide +kernel
theorem dX8_goesOf_63 : decode cX8_goesOf 63 = .ok (.iconst 0, 1) := by decide +kernel
theorem dX8_goesOf_64 : decode cX8_goesOf 64 = .ok (.iconst 5, 1) := by decide +kernel
theorem dX8_goesOf_65 : decode cX8_goesOf 65 = .ok (.invokestatic 111, 3) := by decide +kernel
theorem dX8_goesOf_68 : decode cX8_goesOf 68 = .ok (.ireturn, 1) := by decide +kernel
theorem dX8_goesOf_69 : decode cX8_goesOf 69 = .ok (.iload_n 2, 1) := by decide +kernel
theorem dX8_goesOf_70 : decode cX8_goesOf 70 = .ok (.iconst 1, 1) := by decide +kernel
theorem dX8_goesOf_71 : decode cX8_goesOf 71 = .ok (.isub, 1) := by decide +kernel
theorem dX8_goesOf_72 : decode cX8_goesOf 72 = .ok (.iconst 0, 1) := by decide +kernel
theorem dX8_goesOf_73 : decode cX8_goesOf 73 = .ok (.iconst 5, 1) := by decide +kernel
theorem dX8_goesOf_74 : decode cX8_goesOf 74 = .ok (.invokestatic 111, 3) := by decide +kernel
theorem dX8_goesOf_77 : decode cX8_goesOf 77 = .ok (.iconst 2, 1) := by decide +kernel
theorem dX8_goesOf_78 : decode cX8_goesOf 78 = .ok (.iadd, 1) := by decide +kernel
theorem dX8_goesOf_79 : decode cX8_goesOf 79 = .ok (.ireturn, 1) := by decide +kernel
theorem dX8_goesOf_80 : decode cX8_goesOf 80 = .ok (.iload_n 2, 1) := by decide +kernel
theorem dX8_goesOf_81 : decode cX8_goesOf 81 = .ok (.iconst 2, 1) := by decide +kernel
theorem dX8_goesOf_82 : decode cX8_goesOf 82 = .ok (.idiv, 1) := by decide +kernel
theorem dX8_goesOf_83 : decode cX8_goesOf 83 = .ok (.ireturn, 1) := by decide +kernel
theorem dX8_goesOf_84 : decode cX8_goesOf 84 = .ok (.aload_n 0, 1) := by decide +kernel
theorem dX8_goesOf_85 : decode cX8_goesOf 85 = .ok (.getfield 9, 3) := by decide +kernel
theorem dX8_goesOf_88 : decode cX8_goesOf 88 = .ok (.iconst 2, 1) := by decide +kernel
theorem dX8_goesOf_89 : decode cX8_goesOf 89 = .ok (.iaload, 1) := by decide +kernel
theorem dX8_goesOf_90 : decode cX8_goesOf 90 = .ok (.bipush 12, 2) := by decide +kernel
theorem dX8_goesOf_92 : decode cX8_goesOf 92 = .ok (.irem, 1) := by decide +kernel
theorem dX8_goesOf_93 : decode cX8_goesOf 93 = .ok (.bipush 11, 2) := by decide +kernel
theorem dX8_goesOf_95 : decode cX8_goesOf 95 = .ok (.if_icmp .ne 9, 3) := by decide +kernel
theorem dX8_goesOf_98 : decode cX8_goesOf 98 = .ok (.iload_n 2, 1) := by decide +kernel
theorem dX8_goesOf_99 : decode cX8_goesOf 99 = .ok (.iconst 1, 1) := by decide +kernel
theorem dX8_goesOf_100 : decode cX8_goesOf 100 = .ok (.iadd, 1) := by decide +kernel
theorem dX8_goesOf_101 : decode cX8_goesOf 101 = .ok (.goto 4, 3) := by decide +kernel
theorem dX8_goesOf_104 : decode cX8_goesOf 104 = .ok (.iload_n 2, 1) := by decide +kernel
theorem dX8_goesOf_105 : decode cX8_goesOf 105 = .ok (.ireturn, 1) := by decide +kernel
theorem dX8_goesOf_106 : decode cX8_goesOf 106 = .ok (.iload_n 2, 1) := by decide +kernel
theorem dX8_goesOf_107 : decode cX8_goesOf 107 = .ok (.ireturn, 1) := by decide +kernel
theorem dX8_leavesOn_0 : decode cX8_leavesOn 0 = .ok (.iload_n 2, 1) := by decide +kernel
theorem dX8_leavesOn_1 : decode cX8_leavesOn 1 = .ok (.iconst 4, 1) := by decide +kernel
theorem dX8_leavesOn_2 : decode cX8_leavesOn 2 = .ok (.if_icmp .le 7, 3) := by decide +kernel
theorem dX8_leavesOn_5 : decode cX8_leavesOn 5 = .ok (.iconst 1, 1) := by decide +kernel
theorem dX8_leavesOn_6 : decode cX8_leavesOn 6 = .ok (.goto 4, 3) := by decide +kernel
theorem dX8_leavesOn_9 : decode cX8_leavesOn 9 = .ok (.iconst 0, 1) := by decide +kernel
theorem dX8_leavesOn_10 : decode cX8_leavesOn 10 = .ok (.istore_n 3, 1) := by decide +kernel
theorem dX8_leavesOn_11 : decode cX8_leavesOn 11 = .ok (.aload_n 0, 1) := by decide +kernel
theorem dX8_leavesOn_12 : decode cX8_leavesOn 12 = .ok (.iload_n 1, 1) := by decide +kernel
theorem dX8_leavesOn_13 : decode cX8_leavesOn 13 = .ok (.iconst 0, 1) := by decide +kernel
theorem dX8_leavesOn_14 : decode cX8_leavesOn 14 = .ok (.invokevirtual 104, 3) := by decide +kernel
theorem dX8_leavesOn_17 : decode cX8_leavesOn 17 = .ok (.tableswitch 33 2 4 #[29, 27, 29], 27) := by decide +kernel
theorem dX8_leavesOn_44 : decode cX8_leavesOn 44 = .ok (.iconst 0, 1) := by decide +kernel
theorem dX8_leavesOn_45 : decode cX8_leavesOn 45 = .ok (.ireturn, 1) := by decide +kernel
theorem dX8_leavesOn_46 : decode cX8_leavesOn 46 = .ok (.iload_n 3, 1) := by decide +kernel
theorem dX8_leavesOn_47 : decode cX8_leavesOn 47 = .ok (.iconst 1, 1) := by decide +kernel
theorem dX8_leavesOn_48 : decode cX8_leavesOn 48 = .ok (.iadd, 1) := by decide +kernel
theorem dX8_leavesOn_49 : decode cX8_leavesOn 49 = .ok (.ireturn, 1) := by decide +kernel
theorem dX8_leavesOn_50 : decode cX8_leavesOn 50 = .ok (.iload_n 3, 1) := by decide +kernel
theorem dX8_leavesOn_51 : decode cX8_leavesOn 51 = .ok (.ireturn, 1) := by decide +kernel
theorem dX8_worthOf_0 : decode cX8_worthOf 0 = .ok (.aload_n 0, 1) := by decide +kernel
theorem dX8_worthOf_1 : decode cX8_worthOf 1 = .ok (.iload_n 1, 1) := by decide +kernel
theorem dX8_worthOf_2 : decode cX8_worthOf 2 = .ok (.iconst 2, 1) := by decide +kernel
theorem dX8_worthOf_3 : decode cX8_worthOf 3 = .ok (.invokevirtual 104, 3) := by decide +kernel
theorem dX8_worthOf_6 : decode cX8_worthOf 6 = .ok (.istore_n 2, 1) := by decide +kernel
theorem dX8_worthOf_7 : decode cX8_worthOf 7 = .ok (.aload_n 0, 1) := by decide +kernel
theorem dX8_worthOf_8 : decode cX8_worthOf 8 = .ok (.iload_n 1, 1) := by decide +kernel
theorem dX8_worthOf_9 : decode cX8_worthOf 9 = .ok (.iconst 0, 1) := by decide +kernel
theorem dX8_worthOf_10 : decode cX8_worthOf 10 = .ok (.invokevirtual 104, 3) := by decide +kernel
theorem dX8_worthOf_13 : decode cX8_worthOf 13 = .ok (.tableswitch 62 1 5 #[35, 40, 46, 53, 59], 35) := by decide +kernel
theorem dX8_worthOf_48 : decode cX8_worthOf 48 = .ok (.iload_n 2, 1) := by decide +kernel
theorem dX8_worthOf_49 : decode cX8_worthOf 49 = .ok (.bipush 8, 2) := by decide +kernel
theorem dX8_worthOf_51 : decode cX8_worthOf 51 = .ok (.iadd, 1) := by decide +kernel
theorem dX8_worthOf_52 : decode cX8_worthOf 52 = .ok (.ireturn, 1) := by decide +kernel
theorem dX8_worthOf_53 : decode cX8_worthOf 53 = .ok (.sipush 999, 3) := by decide +kernel
theorem dX8_worthOf_56 : decode cX8_worthOf 56 = .ok (.iload_n 2, 1) := by decide +kernel
theorem dX8_worthOf_57 : decode cX8_worthOf 57 = .ok (.isub, 1) := by decide +kernel
theorem dX8_worthOf_58 : decode cX8_worthOf 58 = .ok (.ireturn, 1) := by decide +kernel
theorem dX8_worthOf_59 : decode cX8_worthOf 59 = .ok (.iconst 2, 1) := by decide +kernel
theorem dX8_worthOf_60 : decode cX8_worthOf 60 = .ok (.iload_n 2, 1) := by decide +kernel
theorem dX8_worthOf_61 : decode cX8_worthOf 61 = .ok (.bipush 8, 2) := by decide +kernel
theorem dX8_worthOf_63 : decode cX8_worthOf 63 = .ok (.iadd, 1) := by decide +kernel
theorem dX8_worthOf_64 : decode cX8_worthOf 64 = .ok (.imul, 1) := by decide +kernel
theorem dX8_worthOf_65 : decode cX8_worthOf 65 = .ok (.ireturn, 1) := by decide +kernel
theorem dX8_worthOf_66 : decode cX8_worthOf 66 = .ok (.sipush 992, 3) := by decide +kernel
theorem dX8_worthOf_69 : decode cX8_worthOf 69 = .ok (.iload_n 2, 1) := by decide +kernel
theorem dX8_worthOf_70 : decode cX8_worthOf 70 = .ok (.isub, 1) := by decide +kernel
theorem dX8_worthOf_71 : decode cX8_worthOf 71 = .ok (.ireturn, 1) := by decide +kernel
theorem dX8_worthOf_72 : decode cX8_worthOf 72 = .ok (.bipush 12, 2) := by decide +kernel
theorem dX8_worthOf_74 : decode cX8_worthOf 74 = .ok (.ireturn, 1) := by decide +kernel
theorem dX8_worthOf_75 : decode cX8_worthOf 75 = .ok (.iload_n 2, 1) := by decide +kernel
theorem dX8_worthOf_76 : decode cX8_worthOf 76 = .ok (.ireturn, 1) := by decide +kernel
theorem dX8_floorUnder_0 : decode cX8_floorUnder 0 = .ok (.aload_n 0, 1) := by decide +kernel
theorem dX8_floorUnder_1 : decode cX8_floorUnder 1 = .ok (.getfield 9, 3) := by decide +kernel
theorem dX8_floorUnder_4 : decode cX8_floorUnder 4 = .ok (.bipush 7, 2) := by decide +kernel
theorem dX8_floorUnder_6 : decode cX8_floorUnder 6 = .ok (.aload_n 0, 1) := by decide +kernel
theorem dX8_floorUnder_7 : decode cX8_floorUnder 7 = .ok (.iload_n 1, 1) := by decide +kernel
theorem dX8_floorUnder_8 : decode cX8_floorUnder 8 = .ok (.iconst 1, 1) := by decide +kernel
theorem dX8_floorUnder_9 : decode cX8_floorUnder 9 = .ok (.invokevirtual 104, 3) := by decide +kernel
theorem dX8_floorUnder_12 : decode cX8_floorUnder 12 = .ok (.iadd, 1) := by decide +kernel
theorem dX8_floorUnder_13 : decode cX8_floorUnder 13 = .ok (.iaload, 1) := by decide +kernel
theorem dX8_floorUnder_14 : decode cX8_floorUnder 14 = .ok (.ireturn, 1) := by decide +kernel
theorem dX8_told_0 : decode cX8_told 0 = .ok (.aload_n 0, 1) := by decide +kernel
theorem dX8_told_1 : decode cX8_told 1 = .ok (.iload_n 1, 1) := by decide +kernel
theorem dX8_told_2 : decode cX8_told 2 = .ok (.invokevirtual 115, 3) := by decide +kernel
theorem dX8_told_5 : decode cX8_told 5 = .ok (.ifCond .ne 6, 3) := by decide +kernel
theorem dX8_told_8 : decode cX8_told 8 = .ok (.ldc 94, 2) := by decide +kernel
theorem dX8_told_10 : decode cX8_told 10 = .ok (.ireturn, 1) := by decide +kernel
theorem dX8_told_11 : decode cX8_told 11 = .ok (.iload_n 2, 1) := by decide +kernel
theorem dX8_told_12 : decode cX8_told 12 = .ok (.tableswitch 93 0 8 #[52, 52, 52, 52, 52, 59, 65, 76, 87], 52) := by decide +kernel
theorem dX8_told_64 : decode cX8_told 64 = .ok (.aload_n 0, 1) := by decide +kernel
theorem dX8_told_65 : decode cX8_told 65 = .ok (.iload_n 1, 1) := by decide +kernel
theorem dX8_told_66 : decode cX8_told 66 = .ok (.iload_n 2, 1) := by decide +kernel
theorem dX8_told_67 : decode cX8_told 67 = .ok (.invokevirtual 104, 3) := by decide +kernel
theorem dX8_told_70 : decode cX8_told 70 = .ok (.ireturn, 1) := by decide +kernel
theorem dX8_told_71 : decode cX8_told 71 = .ok (.aload_n 0, 1) := by decide +kernel
theorem dX8_told_72 : decode cX8_told 72 = .ok (.iload_n 1, 1) := by decide +kernel
theorem dX8_told_73 : decode cX8_told 73 = .ok (.invokevirtual 119, 3) := by decide +kernel
theorem dX8_told_76 : decode cX8_told 76 = .ok (.ireturn, 1) := by decide +kernel
theorem dX8_told_77 : decode cX8_told 77 = .ok (.aload_n 0, 1) := by decide +kernel
theorem dX8_told_78 : decode cX8_told 78 = .ok (.iload_n 1, 1) := by decide +kernel
theorem dX8_told_79 : decode cX8_told 79 = .ok (.aload_n 0, 1) := by decide +kernel
theorem dX8_told_80 : decode cX8_told 80 = .ok (.iload_n 1, 1) := by decide +kernel
theorem dX8_told_81 : decode cX8_told 81 = .ok (.invokevirtual 122, 3) := by decide +kernel
theorem dX8_told_84 : decode cX8_told 84 = .ok (.invokevirtual 125, 3) := by decide +kernel
theorem dX8_told_87 : decode cX8_told 87 = .ok (.ireturn, 1) := by decide +kernel
theorem dX8_told_88 : decode cX8_told 88 = .ok (.aload_n 0, 1) := by decide +kernel
theorem dX8_told_89 : decode cX8_told 89 = .ok (.iload_n 1, 1) := by decide +kernel
theorem dX8_told_90 : decode cX8_told 90 = .ok (.aload_n 0, 1) := by decide +kernel
theorem dX8_told_91 : decode cX8_told 91 = .ok (.iload_n 1, 1) := by decide +kernel
theorem dX8_told_92 : decode cX8_told 92 = .ok (.invokevirtual 122, 3) := by decide +kernel
theorem dX8_told_95 : decode cX8_told 95 = .ok (.invokevirtual 128, 3) := by decide +kernel
theorem dX8_told_98 : decode cX8_told 98 = .ok (.ireturn, 1) := by decide +kernel
theorem dX8_told_99 : decode cX8_told 99 = .ok (.aload_n 0, 1) := by decide +kernel
theorem dX8_told_100 : decode cX8_told 100 = .ok (.iload_n 1, 1) := by decide +kernel
theorem dX8_told_101 : decode cX8_told 101 = .ok (.invokevirtual 131, 3) := by decide +kernel
theorem dX8_told_104 : decode cX8_told 104 = .ok (.ireturn, 1) := by decide +kernel
theorem dX8_told_105 : decode cX8_told 105 = .ok (.ldc 94, 2) := by decide +kernel
theorem dX8_told_107 : decode cX8_told 107 = .ok (.ireturn, 1) := by decide +kernel
theorem dX8_isUnder_0 : decode cX8_isUnder 0 = .ok (.iload_n 1, 1) := by decide +kernel
theorem dX8_isUnder_1 : decode cX8_isUnder 1 = .ok (.ifCond .eq 28, 3) := by decide +kernel
theorem dX8_isUnder_4 : decode cX8_isUnder 4 = .ok (.iload_n 0, 1) := by decide +kernel
theorem dX8_isUnder_5 : decode cX8_isUnder 5 = .ok (.iload_n 1, 1) := by decide +kernel
theorem dX8_isUnder_6 : decode cX8_isUnder 6 = .ok (.if_icmp .eq 23, 3) := by decide +kernel
theorem dX8_isUnder_9 : decode cX8_isUnder 9 = .ok (.iload_n 1, 1) := by decide +kernel
theorem dX8_isUnder_10 : decode cX8_isUnder 10 = .ok (.iconst 1, 1) := by decide +kernel
theorem dX8_isUnder_11 : decode cX8_isUnder 11 = .ok (.if_icmp .ne 8, 3) := by decide +kernel
theorem dX8_isUnder_14 : decode cX8_isUnder 14 = .ok (.iload_n 0, 1) := by decide +kernel
theorem dX8_isUnder_15 : decode cX8_isUnder 15 = .ok (.iconst 3, 1) := by decide +kernel
theorem dX8_isUnder_16 : decode cX8_isUnder 16 = .ok (.if_icmp .eq 13, 3) := by decide +kernel
theorem dX8_isUnder_19 : decode cX8_isUnder 19 = .ok (.iload_n 1, 1) := by decide +kernel
theorem dX8_isUnder_20 : decode cX8_isUnder 20 = .ok (.iconst 2, 1) := by decide +kernel
theorem dX8_isUnder_21 : decode cX8_isUnder 21 = .ok (.if_icmp .ne 12, 3) := by decide +kernel
theorem dX8_isUnder_24 : decode cX8_isUnder 24 = .ok (.iload_n 0, 1) := by decide +kernel
theorem dX8_isUnder_25 : decode cX8_isUnder 25 = .ok (.iconst 4, 1) := by decide +kernel
theorem dX8_isUnder_26 : decode cX8_isUnder 26 = .ok (.if_icmp .ne 7, 3) := by decide +kernel
theorem dX8_isUnder_29 : decode cX8_isUnder 29 = .ok (.iconst 1, 1) := by decide +kernel
theorem dX8_isUnder_30 : decode cX8_isUnder 30 = .ok (.goto 4, 3) := by decide +kernel
theorem dX8_isUnder_33 : decode cX8_isUnder 33 = .ok (.iconst 0, 1) := by decide +kernel
theorem dX8_isUnder_34 : decode cX8_isUnder 34 = .ok (.ireturn, 1) := by decide +kernel
theorem dX8_as_0 : decode cX8_as 0 = .ok (.aload_n 0, 1) := by decide +kernel
theorem dX8_as_1 : decode cX8_as 1 = .ok (.iload_n 1, 1) := by decide +kernel
theorem dX8_as_2 : decode cX8_as 2 = .ok (.invokevirtual 115, 3) := by decide +kernel
theorem dX8_as_5 : decode cX8_as 5 = .ok (.ifCond .eq 12, 3) := by decide +kernel
theorem dX8_as_8 : decode cX8_as 8 = .ok (.iload_n 2, 1) := by decide +kernel
theorem dX8_as_9 : decode cX8_as 9 = .ok (.iconst 0, 1) := by decide +kernel
theorem dX8_as_10 : decode cX8_as 10 = .ok (.iconst 5, 1) := by decide +kernel
theorem dX8_as_11 : decode cX8_as 11 = .ok (.invokestatic 82, 3) := by decide +kernel
theorem dX8_as_14 : decode cX8_as 14 = .ok (.ifCond .ne 6, 3) := by decide +kernel
theorem dX8_as_17 : decode cX8_as 17 = .ok (.ldc 94, 2) := by decide +kernel
theorem dX8_as_19 : decode cX8_as 19 = .ok (.ireturn, 1) := by decide +kernel
theorem dX8_as_20 : decode cX8_as 20 = .ok (.aload_n 0, 1) := by decide +kernel
theorem dX8_as_21 : decode cX8_as 21 = .ok (.iload_n 1, 1) := by decide +kernel
theorem dX8_as_22 : decode cX8_as 22 = .ok (.iconst 0, 1) := by decide +kernel
theorem dX8_as_23 : decode cX8_as 23 = .ok (.invokevirtual 104, 3) := by decide +kernel
theorem dX8_as_26 : decode cX8_as 26 = .ok (.iload_n 2, 1) := by decide +kernel
theorem dX8_as_27 : decode cX8_as 27 = .ok (.invokestatic 134, 3) := by decide +kernel
theorem dX8_as_30 : decode cX8_as 30 = .ok (.ifCond .eq 12, 3) := by decide +kernel
theorem dX8_as_33 : decode cX8_as 33 = .ok (.aload_n 0, 1) := by decide +kernel
theorem dX8_as_34 : decode cX8_as 34 = .ok (.iload_n 1, 1) := by decide +kernel
theorem dX8_as_35 : decode cX8_as 35 = .ok (.iconst 2, 1) := by decide +kernel
theorem dX8_as_36 : decode cX8_as 36 = .ok (.invokevirtual 104, 3) := by decide +kernel
theorem dX8_as_39 : decode cX8_as 39 = .ok (.goto 5, 3) := by decide +kernel
theorem dX8_as_42 : decode cX8_as 42 = .ok (.ldc 137, 2) := by decide +kernel
theorem dX8_as_44 : decode cX8_as 44 = .ok (.ireturn, 1) := by decide +kernel
theorem dX8_turns_0 : decode cX8_turns 0 = .ok (.aload_n 0, 1) := by decide +kernel
theorem dX8_turns_1 : decode cX8_turns 1 = .ok (.iload_n 1, 1) := by decide +kernel
theorem dX8_turns_2 : decode cX8_turns 2 = .ok (.invokevirtual 115, 3) := by decide +kernel
theorem dX8_turns_5 : decode cX8_turns 5 = .ok (.ifCond .eq 26, 3) := by decide +kernel
theorem dX8_turns_8 : decode cX8_turns 8 = .ok (.iload_n 2, 1) := by decide +kernel
theorem dX8_turns_9 : decode cX8_turns 9 = .ok (.iconst 0, 1) := by decide +kernel
theorem dX8_turns_10 : decode cX8_turns 10 = .ok (.iconst 5, 1) := by decide +kernel
theorem dX8_turns_11 : decode cX8_turns 11 = .ok (.invokestatic 82, 3) := by decide +kernel
theorem dX8_turns_14 : decode cX8_turns 14 = .ok (.ifCond .eq 17, 3) := by decide +kernel
theorem dX8_turns_17 : decode cX8_turns 17 = .ok (.aload_n 0, 1) := by decide +kernel
theorem dX8_turns_18 : decode cX8_turns 18 = .ok (.bipush 37, 2) := by decide +kernel
theorem dX8_turns_20 : decode cX8_turns 20 = .ok (.iconst 5, 1) := by decide +kernel
theorem dX8_turns_21 : decode cX8_turns 21 = .ok (.iload_n 1, 1) := by decide +kernel
theorem dX8_turns_22 : decode cX8_turns 22 = .ok (.imul, 1) := by decide +kernel
theorem dX8_turns_23 : decode cX8_turns 23 = .ok (.iadd, 1) := by decide +kernel
theorem dX8_turns_24 : decode cX8_turns 24 = .ok (.iload_n 2, 1) := by decide +kernel
theorem dX8_turns_25 : decode cX8_turns 25 = .ok (.invokevirtual 138, 3) := by decide +kernel
theorem dX8_turns_28 : decode cX8_turns 28 = .ok (.goto 5, 3) := by decide +kernel
theorem dX8_turns_31 : decode cX8_turns 31 = .ok (.ldc 94, 2) := by decide +kernel
theorem dX8_turns_33 : decode cX8_turns 33 = .ok (.ireturn, 1) := by decide +kernel
theorem dX8_set_0 : decode cX8_set 0 = .ok (.aload_n 0, 1) := by decide +kernel
theorem dX8_set_1 : decode cX8_set 1 = .ok (.iload_n 1, 1) := by decide +kernel
theorem dX8_set_2 : decode cX8_set 2 = .ok (.invokevirtual 115, 3) := by decide +kernel
theorem dX8_set_5 : decode cX8_set 5 = .ok (.ifCond .eq 36, 3) := by decide +kernel
theorem dX8_set_8 : decode cX8_set 8 = .ok (.iload_n 2, 1) := by decide +kernel
theorem dX8_set_9 : decode cX8_set 9 = .ok (.iconst 1, 1) := by decide +kernel
theorem dX8_set_10 : decode cX8_set 10 = .ok (.iconst 3, 1) := by decide +kernel
theorem dX8_set_11 : decode cX8_set 11 = .ok (.invokestatic 82, 3) := by decide +kernel
theorem dX8_set_14 : decode cX8_set 14 = .ok (.ifCond .eq 27, 3) := by decide +kernel
theorem dX8_set_17 : decode cX8_set 17 = .ok (.iload_n 2, 1) := by decide +kernel
theorem dX8_set_18 : decode cX8_set 18 = .ok (.iload_n 3, 1) := by decide +kernel
theorem dX8_set_19 : decode cX8_set 19 = .ok (.invokestatic 90, 3) := by decide +kernel
theorem dX8_set_22 : decode cX8_set 22 = .ok (.ifCond .eq 19, 3) := by decide +kernel
theorem dX8_set_25 : decode cX8_set 25 = .ok (.aload_n 0, 1) := by decide +kernel
theorem dX8_set_26 : decode cX8_set 26 = .ok (.bipush 37, 2) := by decide +kernel
theorem dX8_set_28 : decode cX8_set 28 = .ok (.iconst 5, 1) := by decide +kernel
theorem dX8_set_29 : decode cX8_set 29 = .ok (.iload_n 1, 1) := by decide +kernel
theorem dX8_set_30 : decode cX8_set 30 = .ok (.imul, 1) := by decide +kernel
theorem dX8_set_31 : decode cX8_set 31 = .ok (.iadd, 1) := by decide +kernel
theorem dX8_set_32 : decode cX8_set 32 = .ok (.iload_n 2, 1) := by decide +kernel
theorem dX8_set_33 : decode cX8_set 33 = .ok (.iadd, 1) := by decide +kernel
theorem dX8_set_34 : decode cX8_set 34 = .ok (.iload_n 3, 1) := by decide +kernel
theorem dX8_set_35 : decode cX8_set 35 = .ok (.invokevirtual 138, 3) := by decide +kernel
theorem dX8_set_38 : decode cX8_set 38 = .ok (.goto 5, 3) := by decide +kernel
theorem dX8_set_41 : decode cX8_set 41 = .ok (.ldc 94, 2) := by decide +kernel
theorem dX8_set_43 : decode cX8_set 43 = .ok (.ireturn, 1) := by decide +kernel
theorem dX8_room_0 : decode cX8_room 0 = .ok (.iload_n 1, 1) := by decide +kernel
theorem dX8_room_1 : decode cX8_room 1 = .ok (.invokestatic 141, 3) := by decide +kernel
theorem dX8_room_4 : decode cX8_room 4 = .ok (.ifCond .eq 39, 3) := by decide +kernel
theorem dX8_room_7 : decode cX8_room 7 = .ok (.iload_n 2, 1) := by decide +kernel
theorem dX8_room_8 : decode cX8_room 8 = .ok (.iconst 0, 1) := by decide +kernel
theorem dX8_room_9 : decode cX8_room 9 = .ok (.iconst 1, 1) := by decide +kernel
theorem dX8_room_10 : decode cX8_room 10 = .ok (.invokestatic 82, 3) := by decide +kernel
theorem dX8_room_13 : decode cX8_room 13 = .ok (.ifCond .eq 30, 3) := by decide +kernel
theorem dX8_room_16 : decode cX8_room 16 = .ok (.iload_n 3, 1) := by decide +kernel
theorem dX8_room_17 : decode cX8_room 17 = .ok (.iconst 0, 1) := by decide +kernel
theorem dX8_room_18 : decode cX8_room 18 = .ok (.bipush 9, 2) := by decide +kernel
theorem dX8_room_20 : decode cX8_room 20 = .ok (.invokestatic 82, 3) := by decide +kernel
theorem dX8_room_23 : decode cX8_room 23 = .ok (.ifCond .eq 20, 3) := by decide +kernel
theorem dX8_room_26 : decode cX8_room 26 = .ok (.aload_n 0, 1) := by decide +kernel
theorem dX8_room_27 : decode cX8_room 27 = .ok (.bipush 7, 2) := by decide +kernel
theorem dX8_room_29 : decode cX8_room 29 = .ok (.bipush 10, 2) := by decide +kernel
theorem dX8_room_31 : decode cX8_room 31 = .ok (.iload_n 2, 1) := by decide +kernel
theorem dX8_room_32 : decode cX8_room 32 = .ok (.imul, 1) := by decide +kernel
theorem dX8_room_33 : decode cX8_room 33 = .ok (.iadd, 1) := by decide +kernel
theorem dX8_room_34 : decode cX8_room 34 = .ok (.iload_n 1, 1) := by decide +kernel
theorem dX8_room_35 : decode cX8_room 35 = .ok (.iadd, 1) := by decide +kernel
theorem dX8_room_36 : decode cX8_room 36 = .ok (.iload_n 3, 1) := by decide +kernel
theorem dX8_room_37 : decode cX8_room 37 = .ok (.invokevirtual 138, 3) := by decide +kernel
theorem dX8_room_40 : decode cX8_room 40 = .ok (.goto 5, 3) := by decide +kernel
theorem dX8_room_43 : decode cX8_room 43 = .ok (.ldc 94, 2) := by decide +kernel
theorem dX8_room_45 : decode cX8_room 45 = .ok (.ireturn, 1) := by decide +kernel
theorem dX8_sweep_0 : decode cX8_sweep 0 = .ok (.iload_n 1, 1) := by decide +kernel
theorem dX8_sweep_1 : decode cX8_sweep 1 = .ok (.invokestatic 141, 3) := by decide +kernel
theorem dX8_sweep_4 : decode cX8_sweep 4 = .ok (.ifCond .eq 15, 3) := by decide +kernel
theorem dX8_sweep_7 : decode cX8_sweep 7 = .ok (.aload_n 0, 1) := by decide +kernel
theorem dX8_sweep_8 : decode cX8_sweep 8 = .ok (.bipush 27, 2) := by decide +kernel
theorem dX8_sweep_10 : decode cX8_sweep 10 = .ok (.iload_n 1, 1) := by decide +kernel
theorem dX8_sweep_11 : decode cX8_sweep 11 = .ok (.iadd, 1) := by decide +kernel
theorem dX8_sweep_12 : decode cX8_sweep 12 = .ok (.iconst 0, 1) := by decide +kernel
theorem dX8_sweep_13 : decode cX8_sweep 13 = .ok (.invokevirtual 138, 3) := by decide +kernel
theorem dX8_sweep_16 : decode cX8_sweep 16 = .ok (.goto 5, 3) := by decide +kernel
theorem dX8_sweep_19 : decode cX8_sweep 19 = .ok (.ldc 94, 2) := by decide +kernel
theorem dX8_sweep_21 : decode cX8_sweep 21 = .ok (.ireturn, 1) := by decide +kernel
theorem dX8_watch_0 : decode cX8_watch 0 = .ok (.iload_n 1, 1) := by decide +kernel
theorem dX8_watch_1 : decode cX8_watch 1 = .ok (.iconst 0, 1) := by decide +kernel
theorem dX8_watch_2 : decode cX8_watch 2 = .ok (.bipush 100, 2) := by decide +kernel
theorem dX8_watch_4 : decode cX8_watch 4 = .ok (.invokestatic 82, 3) := by decide +kernel
theorem dX8_watch_7 : decode cX8_watch 7 = .ok (.ifCond .eq 12, 3) := by decide +kernel
theorem dX8_watch_10 : decode cX8_watch 10 = .ok (.aload_n 0, 1) := by decide +kernel
theorem dX8_watch_11 : decode cX8_watch 11 = .ok (.iconst 3, 1) := by decide +kernel
theorem dX8_watch_12 : decode cX8_watch 12 = .ok (.iload_n 1, 1) := by decide +kernel
theorem dX8_watch_13 : decode cX8_watch 13 = .ok (.invokevirtual 138, 3) := by decide +kernel
theorem dX8_watch_16 : decode cX8_watch 16 = .ok (.goto 5, 3) := by decide +kernel
theorem dX8_watch_19 : decode cX8_watch 19 = .ok (.ldc 94, 2) := by decide +kernel
theorem dX8_watch_21 : decode cX8_watch 21 = .ok (.ireturn, 1) := by decide +kernel
theorem dX8_those_0 : decode cX8_those 0 = .ok (.iconst 0, 1) := by decide +kernel
theorem dX8_those_1 : decode cX8_those 1 = .ok (.istore_n 2, 1) := by decide +kernel
theorem dX8_those_2 : decode cX8_those 2 = .ok (.iconst 0, 1) := by decide +kernel
theorem dX8_those_3 : decode cX8_those 3 = .ok (.istore_n 3, 1) := by decide +kernel
theorem dX8_those_4 : decode cX8_those 4 = .ok (.iload_n 3, 1) := by decide +kernel
theorem dX8_those_5 : decode cX8_those 5 = .ok (.aload_n 0, 1) := by decide +kernel
theorem dX8_those_6 : decode cX8_those 6 = .ok (.getfield 9, 3) := by decide +kernel
theorem dX8_those_9 : decode cX8_those 9 = .ok (.iconst 1, 1) := by decide +kernel
theorem dX8_those_10 : decode cX8_those 10 = .ok (.iaload, 1) := by decide +kernel
theorem dX8_those_11 : decode cX8_those 11 = .ok (.if_icmp .ge 29, 3) := by decide +kernel
theorem dX8_those_14 : decode cX8_those 14 = .ok (.iload_n 2, 1) := by decide +kernel
theorem dX8_those_15 : decode cX8_those 15 = .ok (.aload_n 0, 1) := by decide +kernel
theorem dX8_those_16 : decode cX8_those 16 = .ok (.iload_n 3, 1) := by decide +kernel
theorem dX8_those_17 : decode cX8_those 17 = .ok (.iconst 1, 1) := by decide +kernel
theorem dX8_those_18 : decode cX8_those 18 = .ok (.invokevirtual 104, 3) := by decide +kernel
theorem dX8_those_21 : decode cX8_those 21 = .ok (.iload_n 1, 1) := by decide +kernel
theorem dX8_those_22 : decode cX8_those 22 = .ok (.if_icmp .ne 9, 3) := by decide +kernel
theorem dX8_those_25 : decode cX8_those 25 = .ok (.iconst 1, 1) := by decide +kernel
theorem dX8_those_26 : decode cX8_those 26 = .ok (.iload_n 3, 1) := by decide +kernel
theorem dX8_those_27 : decode cX8_those 27 = .ok (.ishl, 1) := by decide +kernel
theorem dX8_those_28 : decode cX8_those 28 = .ok (.goto 4, 3) := by decide +kernel
theorem dX8_those_31 : decode cX8_those 31 = .ok (.iconst 0, 1) := by decide +kernel
theorem dX8_those_32 : decode cX8_those 32 = .ok (.ior, 1) := by decide +kernel
theorem dX8_those_33 : decode cX8_those 33 = .ok (.istore_n 2, 1) := by decide +kernel
theorem dX8_those_34 : decode cX8_those 34 = .ok (.iinc 3 1, 3) := by decide +kernel
theorem dX8_those_37 : decode cX8_those 37 = .ok (.goto (-33), 3) := by decide +kernel
theorem dX8_those_40 : decode cX8_those 40 = .ok (.iload_n 2, 1) := by decide +kernel
theorem dX8_those_41 : decode cX8_those 41 = .ok (.ireturn, 1) := by decide +kernel
theorem dX8_manyOf_0 : decode cX8_manyOf 0 = .ok (.iconst 0, 1) := by decide +kernel
theorem dX8_manyOf_1 : decode cX8_manyOf 1 = .ok (.istore_n 1, 1) := by decide +kernel
theorem dX8_manyOf_2 : decode cX8_manyOf 2 = .ok (.iload_n 0, 1) := by decide +kernel
theorem dX8_manyOf_3 : decode cX8_manyOf 3 = .ok (.istore_n 2, 1) := by decide +kernel
theorem dX8_manyOf_4 : decode cX8_manyOf 4 = .ok (.iload_n 2, 1) := by decide +kernel
theorem dX8_manyOf_5 : decode cX8_manyOf 5 = .ok (.ifCond .eq 15, 3) := by decide +kernel
theorem dX8_manyOf_8 : decode cX8_manyOf 8 = .ok (.iinc 1 1, 3) := by decide +kernel
theorem dX8_manyOf_11 : decode cX8_manyOf 11 = .ok (.iload_n 2, 1) := by decide +kernel
theorem dX8_manyOf_12 : decode cX8_manyOf 12 = .ok (.iload_n 2, 1) := by decide +kernel
theorem dX8_manyOf_13 : decode cX8_manyOf 13 = .ok (.iconst 1, 1) := by decide +kernel
theorem dX8_manyOf_14 : decode cX8_manyOf 14 = .ok (.isub, 1) := by decide +kernel
theorem dX8_manyOf_15 : decode cX8_manyOf 15 = .ok (.iand, 1) := by decide +kernel
theorem dX8_manyOf_16 : decode cX8_manyOf 16 = .ok (.istore_n 2, 1) := by decide +kernel
theorem dX8_manyOf_17 : decode cX8_manyOf 17 = .ok (.goto (-13), 3) := by decide +kernel
theorem dX8_manyOf_20 : decode cX8_manyOf 20 = .ok (.iload_n 1, 1) := by decide +kernel
theorem dX8_manyOf_21 : decode cX8_manyOf 21 = .ok (.ireturn, 1) := by decide +kernel
theorem dX8_at_0 : decode cX8_at 0 = .ok (.iload_n 1, 1) := by decide +kernel
theorem dX8_at_1 : decode cX8_at 1 = .ok (.invokestatic 141, 3) := by decide +kernel
theorem dX8_at_4 : decode cX8_at 4 = .ok (.ifCond .eq 11, 3) := by decide +kernel
theorem dX8_at_7 : decode cX8_at 7 = .ok (.aload_n 0, 1) := by decide +kernel
theorem dX8_at_8 : decode cX8_at 8 = .ok (.iload_n 1, 1) := by decide +kernel
theorem dX8_at_9 : decode cX8_at 9 = .ok (.invokevirtual 144, 3) := by decide +kernel
theorem dX8_at_12 : decode cX8_at 12 = .ok (.goto 5, 3) := by decide +kernel
theorem dX8_at_15 : decode cX8_at 15 = .ok (.ldc 94, 2) := by decide +kernel
theorem dX8_at_17 : decode cX8_at 17 = .ok (.ireturn, 1) := by decide +kernel
theorem dX8_waysTo_0 : decode cX8_waysTo 0 = .ok (.aload_n 0, 1) := by decide +kernel
theorem dX8_waysTo_1 : decode cX8_waysTo 1 = .ok (.getfield 9, 3) := by decide +kernel
theorem dX8_waysTo_4 : decode cX8_waysTo 4 = .ok (.bipush 17, 2) := by decide +kernel
theorem dX8_waysTo_6 : decode cX8_waysTo 6 = .ok (.iload_n 1, 1) := by decide +kernel
theorem dX8_waysTo_7 : decode cX8_waysTo 7 = .ok (.iadd, 1) := by decide +kernel
theorem dX8_waysTo_8 : decode cX8_waysTo 8 = .ok (.iaload, 1) := by decide +kernel
theorem dX8_waysTo_9 : decode cX8_waysTo 9 = .ok (.istore_n 3, 1) := by decide +kernel
theorem dX8_waysTo_10 : decode cX8_waysTo 10 = .ok (.iconst 1, 1) := by decide +kernel
theorem dX8_waysTo_11 : decode cX8_waysTo 11 = .ok (.istore 4, 2) := by decide +kernel
theorem dX8_waysTo_13 : decode cX8_waysTo 13 = .ok (.iload 4, 2) := by decide +kernel
theorem dX8_waysTo_15 : decode cX8_waysTo 15 = .ok (.bipush 10, 2) := by decide +kernel
theorem dX8_waysTo_17 : decode cX8_waysTo 17 = .ok (.if_icmp .gt 27, 3) := by decide +kernel
theorem dX8_waysTo_20 : decode cX8_waysTo 20 = .ok (.iload_n 3, 1) := by decide +kernel
theorem dX8_waysTo_21 : decode cX8_waysTo 21 = .ok (.iload_n 2, 1) := by decide +kernel
theorem dX8_waysTo_22 : decode cX8_waysTo 22 = .ok (.if_icmp .ne 6, 3) := by decide +kernel
theorem dX8_waysTo_25 : decode cX8_waysTo 25 = .ok (.iload 4, 2) := by decide +kernel
theorem dX8_waysTo_27 : decode cX8_waysTo 27 = .ok (.ireturn, 1) := by decide +kernel
theorem dX8_waysTo_28 : decode cX8_waysTo 28 = .ok (.aload_n 0, 1) := by decide +kernel
theorem dX8_waysTo_29 : decode cX8_waysTo 29 = .ok (.getfield 9, 3) := by decide +kernel
theorem dX8_waysTo_32 : decode cX8_waysTo 32 = .ok (.bipush 17, 2) := by decide +kernel
theorem dX8_waysTo_34 : decode cX8_waysTo 34 = .ok (.iload_n 3, 1) := by decide +kernel
theorem dX8_waysTo_35 : decode cX8_waysTo 35 = .ok (.iadd, 1) := by decide +kernel
theorem dX8_waysTo_36 : decode cX8_waysTo 36 = .ok (.iaload, 1) := by decide +kernel
theorem dX8_waysTo_37 : decode cX8_waysTo 37 = .ok (.istore_n 3, 1) := by decide +kernel
theorem dX8_waysTo_38 : decode cX8_waysTo 38 = .ok (.iinc 4 1, 3) := by decide +kernel
theorem dX8_waysTo_41 : decode cX8_waysTo 41 = .ok (.goto (-28), 3) := by decide +kernel
theorem dX8_waysTo_44 : decode cX8_waysTo 44 = .ok (.iconst (-1), 1) := by decide +kernel
theorem dX8_waysTo_45 : decode cX8_waysTo 45 = .ok (.ireturn, 1) := by decide +kernel
theorem dX8_round_0 : decode cX8_round 0 = .ok (.iload_n 1, 1) := by decide +kernel
theorem dX8_round_1 : decode cX8_round 1 = .ok (.invokestatic 141, 3) := by decide +kernel
theorem dX8_round_4 : decode cX8_round 4 = .ok (.ifCond .ne 6, 3) := by decide +kernel
theorem dX8_round_7 : decode cX8_round 7 = .ok (.ldc 94, 2) := by decide +kernel
theorem dX8_round_9 : decode cX8_round 9 = .ok (.ireturn, 1) := by decide +kernel
theorem dX8_round_10 : decode cX8_round 10 = .ok (.iload_n 1, 1) := by decide +kernel
theorem dX8_round_11 : decode cX8_round 11 = .ok (.istore_n 2, 1) := by decide +kernel
theorem dX8_round_12 : decode cX8_round 12 = .ok (.iconst 0, 1) := by decide +kernel
theorem dX8_round_13 : decode cX8_round 13 = .ok (.istore_n 3, 1) := by decide +kernel
theorem dX8_round_14 : decode cX8_round 14 = .ok (.iload_n 3, 1) := by decide +kernel
theorem dX8_round_15 : decode cX8_round 15 = .ok (.bipush 10, 2) := by decide +kernel
theorem dX8_round_17 : decode cX8_round 17 = .ok (.if_icmp .ge 19, 3) := by decide +kernel
theorem dX8_round_20 : decode cX8_round 20 = .ok (.aload_n 0, 1) := by decide +kernel
theorem dX8_round_21 : decode cX8_round 21 = .ok (.getfield 9, 3) := by decide +kernel
theorem dX8_round_24 : decode cX8_round 24 = .ok (.bipush 17, 2) := by decide +kernel
theorem dX8_round_26 : decode cX8_round 26 = .ok (.iload_n 2, 1) := by decide +kernel
theorem dX8_round_27 : decode cX8_round 27 = .ok (.iadd, 1) := by decide +kernel
theorem dX8_round_28 : decode cX8_round 28 = .ok (.iaload, 1) := by decide +kernel
theorem dX8_round_29 : decode cX8_round 29 = .ok (.istore_n 2, 1) := by decide +kernel
theorem dX8_round_30 : decode cX8_round 30 = .ok (.iinc 3 1, 3) := by decide +kernel
theorem dX8_round_33 : decode cX8_round 33 = .ok (.goto (-19), 3) := by decide +kernel
theorem dX8_round_36 : decode cX8_round 36 = .ok (.aload_n 0, 1) := by decide +kernel
theorem dX8_round_37 : decode cX8_round 37 = .ok (.iload_n 2, 1) := by decide +kernel
theorem dX8_round_38 : decode cX8_round 38 = .ok (.iload_n 2, 1) := by decide +kernel
theorem dX8_round_39 : decode cX8_round 39 = .ok (.invokevirtual 147, 3) := by decide +kernel
theorem dX8_round_42 : decode cX8_round 42 = .ok (.ireturn, 1) := by decide +kernel
theorem dX8_to_0 : decode cX8_to 0 = .ok (.iload_n 1, 1) := by decide +kernel
theorem dX8_to_1 : decode cX8_to 1 = .ok (.invokestatic 141, 3) := by decide +kernel
theorem dX8_to_4 : decode cX8_to 4 = .ok (.ifCond .eq 10, 3) := by decide +kernel
theorem dX8_to_7 : decode cX8_to 7 = .ok (.iload_n 2, 1) := by decide +kernel
theorem dX8_to_8 : decode cX8_to 8 = .ok (.invokestatic 141, 3) := by decide +kernel
theorem dX8_to_11 : decode cX8_to 11 = .ok (.ifCond .ne 6, 3) := by decide +kernel
theorem dX8_to_14 : decode cX8_to 14 = .ok (.ldc 94, 2) := by decide +kernel
theorem dX8_to_16 : decode cX8_to 16 = .ok (.ireturn, 1) := by decide +kernel
theorem dX8_to_17 : decode cX8_to 17 = .ok (.iload_n 1, 1) := by decide +kernel
theorem dX8_to_18 : decode cX8_to 18 = .ok (.iload_n 2, 1) := by decide +kernel
theorem dX8_to_19 : decode cX8_to 19 = .ok (.if_icmp .ne 7, 3) := by decide +kernel
theorem dX8_to_22 : decode cX8_to 22 = .ok (.iconst 0, 1) := by decide +kernel
theorem dX8_to_23 : decode cX8_to 23 = .ok (.goto 9, 3) := by decide +kernel
theorem dX8_to_26 : decode cX8_to 26 = .ok (.aload_n 0, 1) := by decide +kernel
theorem dX8_to_27 : decode cX8_to 27 = .ok (.iload_n 1, 1) := by decide +kernel
theorem dX8_to_28 : decode cX8_to 28 = .ok (.iload_n 2, 1) := by decide +kernel
theorem dX8_to_29 : decode cX8_to 29 = .ok (.invokevirtual 147, 3) := by decide +kernel
theorem dX8_to_32 : decode cX8_to 32 = .ok (.istore_n 3, 1) := by decide +kernel
theorem dX8_to_33 : decode cX8_to 33 = .ok (.iload_n 3, 1) := by decide +kernel
theorem dX8_to_34 : decode cX8_to 34 = .ok (.ifCond .ge 8, 3) := by decide +kernel
theorem dX8_to_37 : decode cX8_to 37 = .ok (.ldc 150, 2) := by decide +kernel
theorem dX8_to_39 : decode cX8_to 39 = .ok (.goto 4, 3) := by decide +kernel
theorem dX8_to_42 : decode cX8_to 42 = .ok (.iload_n 3, 1) := by decide +kernel
theorem dX8_to_43 : decode cX8_to 43 = .ok (.ireturn, 1) := by decide +kernel
theorem dX8_draw_0 : decode cX8_draw 0 = .ok (.aload_n 0, 1) := by decide +kernel
theorem dX8_draw_1 : decode cX8_draw 1 = .ok (.getfield 9, 3) := by decide +kernel
theorem dX8_draw_4 : decode cX8_draw 4 = .ok (.iconst 0, 1) := by decide +kernel
theorem dX8_draw_5 : decode cX8_draw 5 = .ok (.aload_n 0, 1) := by decide +kernel
theorem dX8_draw_6 : decode cX8_draw 6 = .ok (.getfield 9, 3) := by decide +kernel
theorem dX8_draw_9 : decode cX8_draw 9 = .ok (.iconst 0, 1) := by decide +kernel
theorem dX8_draw_10 : decode cX8_draw 10 = .ok (.iaload, 1) := by decide +kernel
theorem dX8_draw_11 : decode cX8_draw 11 = .ok (.ldc 151, 2) := by decide +kernel
theorem dX8_draw_13 : decode cX8_draw 13 = .ok (.imul, 1) := by decide +kernel
theorem dX8_draw_14 : decode cX8_draw 14 = .ok (.sipush 12345, 3) := by decide +kernel
theorem dX8_draw_17 : decode cX8_draw 17 = .ok (.iadd, 1) := by decide +kernel
theorem dX8_draw_18 : decode cX8_draw 18 = .ok (.iastore, 1) := by decide +kernel
theorem dX8_draw_19 : decode cX8_draw 19 = .ok (.aload_n 0, 1) := by decide +kernel
theorem dX8_draw_20 : decode cX8_draw 20 = .ok (.getfield 9, 3) := by decide +kernel
theorem dX8_draw_23 : decode cX8_draw 23 = .ok (.iconst 0, 1) := by decide +kernel
theorem dX8_draw_24 : decode cX8_draw 24 = .ok (.iaload, 1) := by decide +kernel
theorem dX8_draw_25 : decode cX8_draw 25 = .ok (.bipush 8, 2) := by decide +kernel
theorem dX8_draw_27 : decode cX8_draw 27 = .ok (.iushr, 1) := by decide +kernel
theorem dX8_draw_28 : decode cX8_draw 28 = .ok (.ireturn, 1) := by decide +kernel
theorem dX8_deal_0 : decode cX8_deal 0 = .ok (.iload_n 1, 1) := by decide +kernel
theorem dX8_deal_1 : decode cX8_deal 1 = .ok (.iconst 1, 1) := by decide +kernel
theorem dX8_deal_2 : decode cX8_deal 2 = .ok (.bipush 12, 2) := by decide +kernel
theorem dX8_deal_4 : decode cX8_deal 4 = .ok (.invokestatic 82, 3) := by decide +kernel
theorem dX8_deal_7 : decode cX8_deal 7 = .ok (.ifCond .ne 6, 3) := by decide +kernel
theorem dX8_deal_10 : decode cX8_deal 10 = .ok (.ldc 94, 2) := by decide +kernel
theorem dX8_deal_12 : decode cX8_deal 12 = .ok (.ireturn, 1) := by decide +kernel
theorem dX8_deal_13 : decode cX8_deal 13 = .ok (.iconst 0, 1) := by decide +kernel
theorem dX8_deal_14 : decode cX8_deal 14 = .ok (.istore_n 2, 1) := by decide +kernel
theorem dX8_deal_15 : decode cX8_deal 15 = .ok (.iload_n 2, 1) := by decide +kernel
theorem dX8_deal_16 : decode cX8_deal 16 = .ok (.iload_n 1, 1) := by decide +kernel
theorem dX8_deal_17 : decode cX8_deal 17 = .ok (.if_icmp .ge 67, 3) := by decide +kernel
theorem dX8_deal_20 : decode cX8_deal 20 = .ok (.aload_n 0, 1) := by decide +kernel
theorem dX8_deal_21 : decode cX8_deal 21 = .ok (.getfield 9, 3) := by decide +kernel
theorem dX8_deal_24 : decode cX8_deal 24 = .ok (.iconst 1, 1) := by decide +kernel
theorem dX8_deal_25 : decode cX8_deal 25 = .ok (.iaload, 1) := by decide +kernel
theorem dX8_deal_26 : decode cX8_deal 26 = .ok (.bipush 12, 2) := by decide +kernel
theorem dX8_deal_28 : decode cX8_deal 28 = .ok (.if_icmp .ge 56, 3) := by decide +kernel
theorem dX8_deal_31 : decode cX8_deal 31 = .ok (.aload_n 0, 1) := by decide +kernel
theorem dX8_deal_32 : decode cX8_deal 32 = .ok (.invokevirtual 152, 3) := by decide +kernel
theorem dX8_deal_35 : decode cX8_deal 35 = .ok (.bipush 6, 2) := by decide +kernel
theorem dX8_deal_37 : decode cX8_deal 37 = .ok (.irem, 1) := by decide +kernel
theorem dX8_deal_38 : decode cX8_deal 38 = .ok (.istore_n 3, 1) := by decide +kernel
theorem dX8_deal_39 : decode cX8_deal 39 = .ok (.aload_n 0, 1) := by decide +kernel
theorem dX8_deal_40 : decode cX8_deal 40 = .ok (.invokevirtual 152, 3) := by decide +kernel
theorem dX8_deal_43 : decode cX8_deal 43 = .ok (.bipush 10, 2) := by decide +kernel
theorem dX8_deal_45 : decode cX8_deal 45 = .ok (.irem, 1) := by decide +kernel
theorem dX8_deal_46 : decode cX8_deal 46 = .ok (.istore 4, 2) := by decide +kernel
theorem dX8_deal_48 : decode cX8_deal 48 = .ok (.iconst 1, 1) := by decide +kernel
theorem dX8_deal_49 : decode cX8_deal 49 = .ok (.aload_n 0, 1) := by decide +kernel
theorem dX8_deal_50 : decode cX8_deal 50 = .ok (.invokevirtual 152, 3) := by decide +kernel
theorem dX8_deal_53 : decode cX8_deal 53 = .ok (.sipush 200, 3) := by decide +kernel
theorem dX8_deal_56 : decode cX8_deal 56 = .ok (.irem, 1) := by decide +kernel
theorem dX8_deal_57 : decode cX8_deal 57 = .ok (.iadd, 1) := by decide +kernel
theorem dX8_deal_58 : decode cX8_deal 58 = .ok (.istore 5, 2) := by decide +kernel
theorem dX8_deal_60 : decode cX8_deal 60 = .ok (.aload_n 0, 1) := by decide +kernel
theorem dX8_deal_61 : decode cX8_deal 61 = .ok (.iload_n 3, 1) := by decide +kernel
theorem dX8_deal_62 : decode cX8_deal 62 = .ok (.iload 4, 2) := by decide +kernel
theorem dX8_deal_64 : decode cX8_deal 64 = .ok (.iload 5, 2) := by decide +kernel
theorem dX8_deal_66 : decode cX8_deal 66 = .ok (.aload_n 0, 1) := by decide +kernel
theorem dX8_deal_67 : decode cX8_deal 67 = .ok (.invokevirtual 152, 3) := by decide +kernel
theorem dX8_deal_70 : decode cX8_deal 70 = .ok (.bipush 6, 2) := by decide +kernel
theorem dX8_deal_72 : decode cX8_deal 72 = .ok (.irem, 1) := by decide +kernel
theorem dX8_deal_73 : decode cX8_deal 73 = .ok (.invokevirtual 96, 3) := by decide +kernel
theorem dX8_deal_76 : decode cX8_deal 76 = .ok (.istore 6, 2) := by decide +kernel
theorem dX8_deal_78 : decode cX8_deal 78 = .ok (.iinc 2 1, 3) := by decide +kernel
theorem dX8_deal_81 : decode cX8_deal 81 = .ok (.goto (-66), 3) := by decide +kernel
theorem dX8_deal_84 : decode cX8_deal 84 = .ok (.iload_n 2, 1) := by decide +kernel
theorem dX8_deal_85 : decode cX8_deal 85 = .ok (.ireturn, 1) := by decide +kernel
theorem dX8_seed_0 : decode cX8_seed 0 = .ok (.aload_n 0, 1) := by decide +kernel
theorem dX8_seed_1 : decode cX8_seed 1 = .ok (.iconst 0, 1) := by decide +kernel
theorem dX8_seed_2 : decode cX8_seed 2 = .ok (.iload_n 1, 1) := by decide +kernel
theorem dX8_seed_3 : decode cX8_seed 3 = .ok (.invokevirtual 138, 3) := by decide +kernel
theorem dX8_seed_6 : decode cX8_seed 6 = .ok (.ireturn, 1) := by decide +kernel
theorem dX8_steps_0 : decode cX8_steps 0 = .ok (.aload_n 0, 1) := by decide +kernel
theorem dX8_steps_1 : decode cX8_steps 1 = .ok (.getfield 9, 3) := by decide +kernel
theorem dX8_steps_4 : decode cX8_steps 4 = .ok (.bipush 17, 2) := by decide +kernel
theorem dX8_steps_6 : decode cX8_steps 6 = .ok (.aload_n 0, 1) := by decide +kernel
theorem dX8_steps_7 : decode cX8_steps 7 = .ok (.iload_n 1, 1) := by decide +kernel
theorem dX8_steps_8 : decode cX8_steps 8 = .ok (.iconst 1, 1) := by decide +kernel
theorem dX8_steps_9 : decode cX8_steps 9 = .ok (.invokevirtual 104, 3) := by decide +kernel
theorem dX8_steps_12 : decode cX8_steps 12 = .ok (.iadd, 1) := by decide +kernel
theorem dX8_steps_13 : decode cX8_steps 13 = .ok (.iaload, 1) := by decide +kernel
theorem dX8_steps_14 : decode cX8_steps 14 = .ok (.istore_n 2, 1) := by decide +kernel
theorem dX8_steps_15 : decode cX8_steps 15 = .ok (.aload_n 0, 1) := by decide +kernel
theorem dX8_steps_16 : decode cX8_steps 16 = .ok (.iload_n 1, 1) := by decide +kernel
theorem dX8_steps_17 : decode cX8_steps 17 = .ok (.iconst 1, 1) := by decide +kernel
theorem dX8_steps_18 : decode cX8_steps 18 = .ok (.iload_n 2, 1) := by decide +kernel
theorem dX8_steps_19 : decode cX8_steps 19 = .ok (.invokevirtual 86, 3) := by decide +kernel
theorem dX8_steps_22 : decode cX8_steps 22 = .ok (.aload_n 0, 1) := by decide +kernel
theorem dX8_steps_23 : decode cX8_steps 23 = .ok (.iload_n 1, 1) := by decide +kernel
theorem dX8_steps_24 : decode cX8_steps 24 = .ok (.iconst 4, 1) := by decide +kernel
theorem dX8_steps_25 : decode cX8_steps 25 = .ok (.aload_n 0, 1) := by decide +kernel
theorem dX8_steps_26 : decode cX8_steps 26 = .ok (.iload_n 1, 1) := by decide +kernel
theorem dX8_steps_27 : decode cX8_steps 27 = .ok (.iconst 4, 1) := by decide +kernel
theorem dX8_steps_28 : decode cX8_steps 28 = .ok (.invokevirtual 104, 3) := by decide +kernel
theorem dX8_steps_31 : decode cX8_steps 31 = .ok (.iconst 1, 1) := by decide +kernel
theorem dX8_steps_32 : decode cX8_steps 32 = .ok (.iadd, 1) := by decide +kernel
theorem dX8_steps_33 : decode cX8_steps 33 = .ok (.invokevirtual 86, 3) := by decide +kernel
theorem dX8_steps_36 : decode cX8_steps 36 = .ok (.aload_n 0, 1) := by decide +kernel
theorem dX8_steps_37 : decode cX8_steps 37 = .ok (.iload_n 1, 1) := by decide +kernel
theorem dX8_steps_38 : decode cX8_steps 38 = .ok (.aload_n 0, 1) := by decide +kernel
theorem dX8_steps_39 : decode cX8_steps 39 = .ok (.getfield 9, 3) := by decide +kernel
theorem dX8_steps_42 : decode cX8_steps 42 = .ok (.bipush 7, 2) := by decide +kernel
theorem dX8_steps_44 : decode cX8_steps 44 = .ok (.iload_n 2, 1) := by decide +kernel
theorem dX8_steps_45 : decode cX8_steps 45 = .ok (.iadd, 1) := by decide +kernel
theorem dX8_steps_46 : decode cX8_steps 46 = .ok (.iaload, 1) := by decide +kernel
theorem dX8_steps_47 : decode cX8_steps 47 = .ok (.invokevirtual 125, 3) := by decide +kernel
theorem dX8_steps_50 : decode cX8_steps 50 = .ok (.istore_n 3, 1) := by decide +kernel
theorem dX8_steps_51 : decode cX8_steps 51 = .ok (.aload_n 0, 1) := by decide +kernel
theorem dX8_steps_52 : decode cX8_steps 52 = .ok (.iload_n 1, 1) := by decide +kernel
theorem dX8_steps_53 : decode cX8_steps 53 = .ok (.iconst 2, 1) := by decide +kernel
theorem dX8_steps_54 : decode cX8_steps 54 = .ok (.aload_n 0, 1) := by decide +kernel
theorem dX8_steps_55 : decode cX8_steps 55 = .ok (.iload_n 1, 1) := by decide +kernel
theorem dX8_steps_56 : decode cX8_steps 56 = .ok (.iconst 2, 1) := by decide +kernel
theorem dX8_steps_57 : decode cX8_steps 57 = .ok (.invokevirtual 104, 3) := by decide +kernel
theorem dX8_steps_60 : decode cX8_steps 60 = .ok (.iload_n 3, 1) := by decide +kernel
theorem dX8_steps_61 : decode cX8_steps 61 = .ok (.isub, 1) := by decide +kernel
theorem dX8_steps_62 : decode cX8_steps 62 = .ok (.iconst 0, 1) := by decide +kernel
theorem dX8_steps_63 : decode cX8_steps 63 = .ok (.sipush 999, 3) := by decide +kernel
theorem dX8_steps_66 : decode cX8_steps 66 = .ok (.invokestatic 111, 3) := by decide +kernel
theorem dX8_steps_69 : decode cX8_steps 69 = .ok (.invokevirtual 86, 3) := by decide +kernel
theorem dX8_steps_72 : decode cX8_steps 72 = .ok (.aload_n 0, 1) := by decide +kernel
theorem dX8_steps_73 : decode cX8_steps 73 = .ok (.getfield 9, 3) := by decide +kernel
theorem dX8_steps_76 : decode cX8_steps 76 = .ok (.bipush 27, 2) := by decide +kernel
theorem dX8_steps_78 : decode cX8_steps 78 = .ok (.iload_n 2, 1) := by decide +kernel
theorem dX8_steps_79 : decode cX8_steps 79 = .ok (.iadd, 1) := by decide +kernel
theorem dX8_steps_80 : decode cX8_steps 80 = .ok (.dup2, 1) := by decide +kernel
theorem dX8_steps_81 : decode cX8_steps 81 = .ok (.iaload, 1) := by decide +kernel
theorem dX8_steps_82 : decode cX8_steps 82 = .ok (.aload_n 0, 1) := by decide +kernel
theorem dX8_steps_83 : decode cX8_steps 83 = .ok (.iload_n 1, 1) := by decide +kernel
theorem dX8_steps_84 : decode cX8_steps 84 = .ok (.aload_n 0, 1) := by decide +kernel
theorem dX8_steps_85 : decode cX8_steps 85 = .ok (.getfield 9, 3) := by decide +kernel
theorem dX8_steps_88 : decode cX8_steps 88 = .ok (.bipush 7, 2) := by decide +kernel
theorem dX8_steps_90 : decode cX8_steps 90 = .ok (.iload_n 2, 1) := by decide +kernel
theorem dX8_steps_91 : decode cX8_steps 91 = .ok (.iadd, 1) := by decide +kernel
theorem dX8_steps_92 : decode cX8_steps 92 = .ok (.iaload, 1) := by decide +kernel
theorem dX8_steps_93 : decode cX8_steps 93 = .ok (.invokevirtual 128, 3) := by decide +kernel
theorem dX8_steps_96 : decode cX8_steps 96 = .ok (.iadd, 1) := by decide +kernel
theorem dX8_steps_97 : decode cX8_steps 97 = .ok (.iastore, 1) := by decide +kernel
theorem dX8_steps_98 : decode cX8_steps 98 = .ok (.return_, 1) := by decide +kernel
theorem dX8_hour_0 : decode cX8_hour 0 = .ok (.iconst 0, 1) := by decide +kernel
theorem dX8_hour_1 : decode cX8_hour 1 = .ok (.istore_n 1, 1) := by decide +kernel
theorem dX8_hour_2 : decode cX8_hour 2 = .ok (.iload_n 1, 1) := by decide +kernel
theorem dX8_hour_3 : decode cX8_hour 3 = .ok (.aload_n 0, 1) := by decide +kernel
theorem dX8_hour_4 : decode cX8_hour 4 = .ok (.getfield 9, 3) := by decide +kernel
theorem dX8_hour_7 : decode cX8_hour 7 = .ok (.iconst 1, 1) := by decide +kernel
theorem dX8_hour_8 : decode cX8_hour 8 = .ok (.iaload, 1) := by decide +kernel
theorem dX8_hour_9 : decode cX8_hour 9 = .ok (.if_icmp .ge 42, 3) := by decide +kernel
theorem dX8_hour_12 : decode cX8_hour 12 = .ok (.aload_n 0, 1) := by decide +kernel
theorem dX8_hour_13 : decode cX8_hour 13 = .ok (.iload_n 1, 1) := by decide +kernel
theorem dX8_hour_14 : decode cX8_hour 14 = .ok (.invokevirtual 119, 3) := by decide +kernel
theorem dX8_hour_17 : decode cX8_hour 17 = .ok (.istore_n 2, 1) := by decide +kernel
theorem dX8_hour_18 : decode cX8_hour 18 = .ok (.iconst 0, 1) := by decide +kernel
theorem dX8_hour_19 : decode cX8_hour 19 = .ok (.istore_n 3, 1) := by decide +kernel
theorem dX8_hour_20 : decode cX8_hour 20 = .ok (.iload_n 3, 1) := by decide +kernel
theorem dX8_hour_21 : decode cX8_hour 21 = .ok (.iload_n 2, 1) := by decide +kernel
theorem dX8_hour_22 : decode cX8_hour 22 = .ok (.if_icmp .ge 23, 3) := by decide +kernel
theorem dX8_hour_25 : decode cX8_hour 25 = .ok (.aload_n 0, 1) := by decide +kernel
theorem dX8_hour_26 : decode cX8_hour 26 = .ok (.iload_n 1, 1) := by decide +kernel
theorem dX8_hour_27 : decode cX8_hour 27 = .ok (.iconst 2, 1) := by decide +kernel
theorem dX8_hour_28 : decode cX8_hour 28 = .ok (.invokevirtual 104, 3) := by decide +kernel
theorem dX8_hour_31 : decode cX8_hour 31 = .ok (.ifCond .le 14, 3) := by decide +kernel
theorem dX8_hour_34 : decode cX8_hour 34 = .ok (.aload_n 0, 1) := by decide +kernel
theorem dX8_hour_35 : decode cX8_hour 35 = .ok (.iload_n 1, 1) := by decide +kernel
theorem dX8_hour_36 : decode cX8_hour 36 = .ok (.invokevirtual 156, 3) := by decide +kernel
theorem dX8_hour_39 : decode cX8_hour 39 = .ok (.iinc 3 1, 3) := by decide +kernel
theorem dX8_hour_42 : decode cX8_hour 42 = .ok (.goto (-22), 3) := by decide +kernel
theorem dX8_hour_45 : decode cX8_hour 45 = .ok (.iinc 1 1, 3) := by decide +kernel
theorem dX8_hour_48 : decode cX8_hour 48 = .ok (.goto (-46), 3) := by decide +kernel
theorem dX8_hour_51 : decode cX8_hour 51 = .ok (.aload_n 0, 1) := by decide +kernel
theorem dX8_hour_52 : decode cX8_hour 52 = .ok (.invokevirtual 152, 3) := by decide +kernel
theorem dX8_hour_55 : decode cX8_hour 55 = .ok (.bipush 100, 2) := by decide +kernel
theorem dX8_hour_57 : decode cX8_hour 57 = .ok (.irem, 1) := by decide +kernel
theorem dX8_hour_58 : decode cX8_hour 58 = .ok (.aload_n 0, 1) := by decide +kernel
theorem dX8_hour_59 : decode cX8_hour 59 = .ok (.getfield 9, 3) := by decide +kernel
theorem dX8_hour_62 : decode cX8_hour 62 = .ok (.iconst 3, 1) := by decide +kernel
theorem dX8_hour_63 : decode cX8_hour 63 = .ok (.iaload, 1) := by decide +kernel
theorem dX8_hour_64 : decode cX8_hour 64 = .ok (.if_icmp .ge 38, 3) := by decide +kernel
theorem dX8_hour_67 : decode cX8_hour 67 = .ok (.aload_n 0, 1) := by decide +kernel
theorem dX8_hour_68 : decode cX8_hour 68 = .ok (.invokevirtual 152, 3) := by decide +kernel
theorem dX8_hour_71 : decode cX8_hour 71 = .ok (.bipush 10, 2) := by decide +kernel
theorem dX8_hour_73 : decode cX8_hour 73 = .ok (.irem, 1) := by decide +kernel
theorem dX8_hour_74 : decode cX8_hour 74 = .ok (.istore_n 1, 1) := by decide +kernel
theorem dX8_hour_75 : decode cX8_hour 75 = .ok (.aload_n 0, 1) := by decide +kernel
theorem dX8_hour_76 : decode cX8_hour 76 = .ok (.getfield 9, 3) := by decide +kernel
theorem dX8_hour_79 : decode cX8_hour 79 = .ok (.iconst 5, 1) := by decide +kernel
theorem dX8_hour_80 : decode cX8_hour 80 = .ok (.dup2, 1) := by decide +kernel
theorem dX8_hour_81 : decode cX8_hour 81 = .ok (.iaload, 1) := by decide +kernel
theorem dX8_hour_82 : decode cX8_hour 82 = .ok (.iconst 1, 1) := by decide +kernel
theorem dX8_hour_83 : decode cX8_hour 83 = .ok (.iadd, 1) := by decide +kernel
theorem dX8_hour_84 : decode cX8_hour 84 = .ok (.iastore, 1) := by decide +kernel
theorem dX8_hour_85 : decode cX8_hour 85 = .ok (.aload_n 0, 1) := by decide +kernel
theorem dX8_hour_86 : decode cX8_hour 86 = .ok (.getfield 9, 3) := by decide +kernel
theorem dX8_hour_89 : decode cX8_hour 89 = .ok (.iconst 4, 1) := by decide +kernel
theorem dX8_hour_90 : decode cX8_hour 90 = .ok (.dup2, 1) := by decide +kernel
theorem dX8_hour_91 : decode cX8_hour 91 = .ok (.iaload, 1) := by decide +kernel
theorem dX8_hour_92 : decode cX8_hour 92 = .ok (.aload_n 0, 1) := by decide +kernel
theorem dX8_hour_93 : decode cX8_hour 93 = .ok (.iload_n 1, 1) := by decide +kernel
theorem dX8_hour_94 : decode cX8_hour 94 = .ok (.invokevirtual 144, 3) := by decide +kernel
theorem dX8_hour_97 : decode cX8_hour 97 = .ok (.invokestatic 160, 3) := by decide +kernel
theorem dX8_hour_100 : decode cX8_hour 100 = .ok (.iadd, 1) := by decide +kernel
theorem dX8_hour_101 : decode cX8_hour 101 = .ok (.iastore, 1) := by decide +kernel
theorem dX8_hour_102 : decode cX8_hour 102 = .ok (.aload_n 0, 1) := by decide +kernel
theorem dX8_hour_103 : decode cX8_hour 103 = .ok (.getfield 9, 3) := by decide +kernel
theorem dX8_hour_106 : decode cX8_hour 106 = .ok (.iconst 2, 1) := by decide +kernel
theorem dX8_hour_107 : decode cX8_hour 107 = .ok (.dup2, 1) := by decide +kernel
theorem dX8_hour_108 : decode cX8_hour 108 = .ok (.iaload, 1) := by decide +kernel
theorem dX8_hour_109 : decode cX8_hour 109 = .ok (.iconst 1, 1) := by decide +kernel
theorem dX8_hour_110 : decode cX8_hour 110 = .ok (.iadd, 1) := by decide +kernel
theorem dX8_hour_111 : decode cX8_hour 111 = .ok (.iastore, 1) := by decide +kernel
theorem dX8_hour_112 : decode cX8_hour 112 = .ok (.return_, 1) := by decide +kernel
theorem dX8_goesOn_0 : decode cX8_goesOn 0 = .ok (.iconst 0, 1) := by decide +kernel
theorem dX8_goesOn_1 : decode cX8_goesOn 1 = .ok (.istore_n 2, 1) := by decide +kernel
theorem dX8_goesOn_2 : decode cX8_goesOn 2 = .ok (.iload_n 2, 1) := by decide +kernel
theorem dX8_goesOn_3 : decode cX8_goesOn 3 = .ok (.iload_n 1, 1) := by decide +kernel
theorem dX8_goesOn_4 : decode cX8_goesOn 4 = .ok (.if_icmp .ge 13, 3) := by decide +kernel
theorem dX8_goesOn_7 : decode cX8_goesOn 7 = .ok (.aload_n 0, 1) := by decide +kernel
theorem dX8_goesOn_8 : decode cX8_goesOn 8 = .ok (.invokevirtual 163, 3) := by decide +kernel
theorem dX8_goesOn_11 : decode cX8_goesOn 11 = .ok (.iinc 2 1, 3) := by decide +kernel
theorem dX8_goesOn_14 : decode cX8_goesOn 14 = .ok (.goto (-12), 3) := by decide +kernel
theorem dX8_goesOn_17 : decode cX8_goesOn 17 = .ok (.return_, 1) := by decide +kernel
theorem dX8_sumOf_0 : decode cX8_sumOf 0 = .ok (.iconst 0, 1) := by decide +kernel
theorem dX8_sumOf_1 : decode cX8_sumOf 1 = .ok (.istore_n 2, 1) := by decide +kernel
theorem dX8_sumOf_2 : decode cX8_sumOf 2 = .ok (.iconst 0, 1) := by decide +kernel
theorem dX8_sumOf_3 : decode cX8_sumOf 3 = .ok (.istore_n 3, 1) := by decide +kernel
theorem dX8_sumOf_4 : decode cX8_sumOf 4 = .ok (.iload_n 3, 1) := by decide +kernel
theorem dX8_sumOf_5 : decode cX8_sumOf 5 = .ok (.aload_n 0, 1) := by decide +kernel
theorem dX8_sumOf_6 : decode cX8_sumOf 6 = .ok (.getfield 9, 3) := by decide +kernel
theorem dX8_sumOf_9 : decode cX8_sumOf 9 = .ok (.iconst 1, 1) := by decide +kernel
theorem dX8_sumOf_10 : decode cX8_sumOf 10 = .ok (.iaload, 1) := by decide +kernel
theorem dX8_sumOf_11 : decode cX8_sumOf 11 = .ok (.if_icmp .ge 18, 3) := by decide +kernel
theorem dX8_sumOf_14 : decode cX8_sumOf 14 = .ok (.iload_n 2, 1) := by decide +kernel
theorem dX8_sumOf_15 : decode cX8_sumOf 15 = .ok (.aload_n 0, 1) := by decide +kernel
theorem dX8_sumOf_16 : decode cX8_sumOf 16 = .ok (.iload_n 3, 1) := by decide +kernel
theorem dX8_sumOf_17 : decode cX8_sumOf 17 = .ok (.iload_n 1, 1) := by decide +kernel
theorem dX8_sumOf_18 : decode cX8_sumOf 18 = .ok (.invokevirtual 104, 3) := by decide +kernel
theorem dX8_sumOf_21 : decode cX8_sumOf 21 = .ok (.iadd, 1) := by decide +kernel
theorem dX8_sumOf_22 : decode cX8_sumOf 22 = .ok (.istore_n 2, 1) := by decide +kernel
theorem dX8_sumOf_23 : decode cX8_sumOf 23 = .ok (.iinc 3 1, 3) := by decide +kernel
theorem dX8_sumOf_26 : decode cX8_sumOf 26 = .ok (.goto (-22), 3) := by decide +kernel
theorem dX8_sumOf_29 : decode cX8_sumOf 29 = .ok (.iload_n 2, 1) := by decide +kernel
theorem dX8_sumOf_30 : decode cX8_sumOf 30 = .ok (.ireturn, 1) := by decide +kernel
theorem dX8_hours_0 : decode cX8_hours 0 = .ok (.iload_n 1, 1) := by decide +kernel
theorem dX8_hours_1 : decode cX8_hours 1 = .ok (.iconst 1, 1) := by decide +kernel
theorem dX8_hours_2 : decode cX8_hours 2 = .ok (.bipush 100, 2) := by decide +kernel
theorem dX8_hours_4 : decode cX8_hours 4 = .ok (.invokestatic 82, 3) := by decide +kernel
theorem dX8_hours_7 : decode cX8_hours 7 = .ok (.ifCond .ne 6, 3) := by decide +kernel
theorem dX8_hours_10 : decode cX8_hours 10 = .ok (.ldc 94, 2) := by decide +kernel
theorem dX8_hours_12 : decode cX8_hours 12 = .ok (.ireturn, 1) := by decide +kernel
theorem dX8_hours_13 : decode cX8_hours 13 = .ok (.aload_n 0, 1) := by decide +kernel
theorem dX8_hours_14 : decode cX8_hours 14 = .ok (.iconst 4, 1) := by decide +kernel
theorem dX8_hours_15 : decode cX8_hours 15 = .ok (.invokevirtual 166, 3) := by decide +kernel
theorem dX8_hours_18 : decode cX8_hours 18 = .ok (.istore_n 2, 1) := by decide +kernel
theorem dX8_hours_19 : decode cX8_hours 19 = .ok (.aload_n 0, 1) := by decide +kernel
theorem dX8_hours_20 : decode cX8_hours 20 = .ok (.sipush 9999, 3) := by decide +kernel
theorem dX8_hours_23 : decode cX8_hours 23 = .ok (.aload_n 0, 1) := by decide +kernel
theorem dX8_hours_24 : decode cX8_hours 24 = .ok (.getfield 9, 3) := by decide +kernel
theorem dX8_hours_27 : decode cX8_hours 27 = .ok (.iconst 2, 1) := by decide +kernel
theorem dX8_hours_28 : decode cX8_hours 28 = .ok (.iaload, 1) := by decide +kernel
theorem dX8_hours_29 : decode cX8_hours 29 = .ok (.isub, 1) := by decide +kernel
theorem dX8_hours_30 : decode cX8_hours 30 = .ok (.iconst 0, 1) := by decide +kernel
theorem dX8_hours_31 : decode cX8_hours 31 = .ok (.iload_n 1, 1) := by decide +kernel
theorem dX8_hours_32 : decode cX8_hours 32 = .ok (.invokestatic 111, 3) := by decide +kernel
theorem dX8_hours_35 : decode cX8_hours 35 = .ok (.invokevirtual 169, 3) := by decide +kernel
theorem dX8_hours_38 : decode cX8_hours 38 = .ok (.aload_n 0, 1) := by decide +kernel
theorem dX8_hours_39 : decode cX8_hours 39 = .ok (.iconst 4, 1) := by decide +kernel
theorem dX8_hours_40 : decode cX8_hours 40 = .ok (.invokevirtual 166, 3) := by decide +kernel
theorem dX8_hours_43 : decode cX8_hours 43 = .ok (.iload_n 2, 1) := by decide +kernel
theorem dX8_hours_44 : decode cX8_hours 44 = .ok (.isub, 1) := by decide +kernel
theorem dX8_hours_45 : decode cX8_hours 45 = .ok (.ireturn, 1) := by decide +kernel
theorem dX8_marks_0 : decode cX8_marks 0 = .ok (.iconst 0, 1) := by decide +kernel
theorem dX8_marks_1 : decode cX8_marks 1 = .ok (.istore_n 1, 1) := by decide +kernel
theorem dX8_marks_2 : decode cX8_marks 2 = .ok (.iconst 0, 1) := by decide +kernel
theorem dX8_marks_3 : decode cX8_marks 3 = .ok (.istore_n 2, 1) := by decide +kernel
theorem dX8_marks_4 : decode cX8_marks 4 = .ok (.iload_n 2, 1) := by decide +kernel
theorem dX8_marks_5 : decode cX8_marks 5 = .ok (.bipush 10, 2) := by decide +kernel
theorem dX8_marks_7 : decode cX8_marks 7 = .ok (.if_icmp .ge 21, 3) := by decide +kernel
theorem dX8_marks_10 : decode cX8_marks 10 = .ok (.iload_n 1, 1) := by decide +kernel
theorem dX8_marks_11 : decode cX8_marks 11 = .ok (.aload_n 0, 1) := by decide +kernel
theorem dX8_marks_12 : decode cX8_marks 12 = .ok (.getfield 9, 3) := by decide +kernel
theorem dX8_marks_15 : decode cX8_marks 15 = .ok (.bipush 27, 2) := by decide +kernel
theorem dX8_marks_17 : decode cX8_marks 17 = .ok (.iload_n 2, 1) := by decide +kernel
theorem dX8_marks_18 : decode cX8_marks 18 = .ok (.iadd, 1) := by decide +kernel
theorem dX8_marks_19 : decode cX8_marks 19 = .ok (.iaload, 1) := by decide +kernel
theorem dX8_marks_20 : decode cX8_marks 20 = .ok (.iadd, 1) := by decide +kernel
theorem dX8_marks_21 : decode cX8_marks 21 = .ok (.istore_n 1, 1) := by decide +kernel
theorem dX8_marks_22 : decode cX8_marks 22 = .ok (.iinc 2 1, 3) := by decide +kernel
theorem dX8_marks_25 : decode cX8_marks 25 = .ok (.goto (-21), 3) := by decide +kernel
theorem dX8_marks_28 : decode cX8_marks 28 = .ok (.iload_n 1, 1) := by decide +kernel
theorem dX8_marks_29 : decode cX8_marks 29 = .ok (.ireturn, 1) := by decide +kernel
theorem dX8_bare_0 : decode cX8_bare 0 = .ok (.iconst 0, 1) := by decide +kernel
theorem dX8_bare_1 : decode cX8_bare 1 = .ok (.istore_n 1, 1) := by decide +kernel
theorem dX8_bare_2 : decode cX8_bare 2 = .ok (.iconst 0, 1) := by decide +kernel
theorem dX8_bare_3 : decode cX8_bare 3 = .ok (.istore_n 2, 1) := by decide +kernel
theorem dX8_bare_4 : decode cX8_bare 4 = .ok (.iload_n 2, 1) := by decide +kernel
theorem dX8_bare_5 : decode cX8_bare 5 = .ok (.aload_n 0, 1) := by decide +kernel
theorem dX8_bare_6 : decode cX8_bare 6 = .ok (.getfield 9, 3) := by decide +kernel
theorem dX8_bare_9 : decode cX8_bare 9 = .ok (.iconst 1, 1) := by decide +kernel
theorem dX8_bare_10 : decode cX8_bare 10 = .ok (.iaload, 1) := by decide +kernel
theorem dX8_bare_11 : decode cX8_bare 11 = .ok (.if_icmp .ge 28, 3) := by decide +kernel
theorem dX8_bare_14 : decode cX8_bare 14 = .ok (.iload_n 1, 1) := by decide +kernel
theorem dX8_bare_15 : decode cX8_bare 15 = .ok (.aload_n 0, 1) := by decide +kernel
theorem dX8_bare_16 : decode cX8_bare 16 = .ok (.iload_n 2, 1) := by decide +kernel
theorem dX8_bare_17 : decode cX8_bare 17 = .ok (.iconst 2, 1) := by decide +kernel
theorem dX8_bare_18 : decode cX8_bare 18 = .ok (.invokevirtual 104, 3) := by decide +kernel
theorem dX8_bare_21 : decode cX8_bare 21 = .ok (.ifCond .ne 9, 3) := by decide +kernel
theorem dX8_bare_24 : decode cX8_bare 24 = .ok (.iconst 1, 1) := by decide +kernel
theorem dX8_bare_25 : decode cX8_bare 25 = .ok (.iload_n 2, 1) := by decide +kernel
theorem dX8_bare_26 : decode cX8_bare 26 = .ok (.ishl, 1) := by decide +kernel
theorem dX8_bare_27 : decode cX8_bare 27 = .ok (.goto 4, 3) := by decide +kernel
theorem dX8_bare_30 : decode cX8_bare 30 = .ok (.iconst 0, 1) := by decide +kernel
theorem dX8_bare_31 : decode cX8_bare 31 = .ok (.ior, 1) := by decide +kernel
theorem dX8_bare_32 : decode cX8_bare 32 = .ok (.istore_n 1, 1) := by decide +kernel
theorem dX8_bare_33 : decode cX8_bare 33 = .ok (.iinc 2 1, 3) := by decide +kernel
theorem dX8_bare_36 : decode cX8_bare 36 = .ok (.goto (-32), 3) := by decide +kernel
theorem dX8_bare_39 : decode cX8_bare 39 = .ok (.iload_n 1, 1) := by decide +kernel
theorem dX8_bare_40 : decode cX8_bare 40 = .ok (.ireturn, 1) := by decide +kernel
theorem dX8_house_0 : decode cX8_house 0 = .ok (.iconst 0, 1) := by decide +kernel
theorem dX8_house_1 : decode cX8_house 1 = .ok (.istore_n 2, 1) := by decide +kernel
theorem dX8_house_2 : decode cX8_house 2 = .ok (.iload_n 1, 1) := by decide +kernel
theorem dX8_house_3 : decode cX8_house 3 = .ok (.tableswitch 100 0 5 #[37, 37, 46, 51, 57, 62], 37) := by decide +kernel
theorem dX8_house_40 : decode cX8_house 40 = .ok (.aload_n 0, 1) := by decide +kernel
theorem dX8_house_41 : decode cX8_house 41 = .ok (.getfield 9, 3) := by decide +kernel
theorem dX8_house_44 : decode cX8_house 44 = .ok (.iconst 4, 1) := by decide +kernel
theorem dX8_house_45 : decode cX8_house 45 = .ok (.iload_n 1, 1) := by decide +kernel
theorem dX8_house_46 : decode cX8_house 46 = .ok (.iadd, 1) := by decide +kernel
theorem dX8_house_47 : decode cX8_house 47 = .ok (.iaload, 1) := by decide +kernel
theorem dX8_house_48 : decode cX8_house 48 = .ok (.ireturn, 1) := by decide +kernel
theorem dX8_house_49 : decode cX8_house 49 = .ok (.aload_n 0, 1) := by decide +kernel
theorem dX8_house_50 : decode cX8_house 50 = .ok (.invokevirtual 172, 3) := by decide +kernel
theorem dX8_house_53 : decode cX8_house 53 = .ok (.ireturn, 1) := by decide +kernel
theorem dX8_house_54 : decode cX8_house 54 = .ok (.aload_n 0, 1) := by decide +kernel
theorem dX8_house_55 : decode cX8_house 55 = .ok (.iconst 2, 1) := by decide +kernel
theorem dX8_house_56 : decode cX8_house 56 = .ok (.invokevirtual 166, 3) := by decide +kernel
theorem dX8_house_59 : decode cX8_house 59 = .ok (.ireturn, 1) := by decide +kernel
theorem dX8_house_60 : decode cX8_house 60 = .ok (.aload_n 0, 1) := by decide +kernel
theorem dX8_house_61 : decode cX8_house 61 = .ok (.invokevirtual 175, 3) := by decide +kernel
theorem dX8_house_64 : decode cX8_house 64 = .ok (.ireturn, 1) := by decide +kernel
theorem dX8_house_65 : decode cX8_house 65 = .ok (.iconst 0, 1) := by decide +kernel
theorem dX8_house_66 : decode cX8_house 66 = .ok (.istore_n 3, 1) := by decide +kernel
theorem dX8_house_67 : decode cX8_house 67 = .ok (.iload_n 3, 1) := by decide +kernel
theorem dX8_house_68 : decode cX8_house 68 = .ok (.bipush 10, 2) := by decide +kernel
theorem dX8_house_70 : decode cX8_house 70 = .ok (.if_icmp .ge 31, 3) := by decide +kernel
theorem dX8_house_73 : decode cX8_house 73 = .ok (.iload_n 2, 1) := by decide +kernel
theorem dX8_house_74 : decode cX8_house 74 = .ok (.aload_n 0, 1) := by decide +kernel
theorem dX8_house_75 : decode cX8_house 75 = .ok (.getfield 9, 3) := by decide +kernel
theorem dX8_house_78 : decode cX8_house 78 = .ok (.bipush 27, 2) := by decide +kernel
theorem dX8_house_80 : decode cX8_house 80 = .ok (.iload_n 3, 1) := by decide +kernel
theorem dX8_house_81 : decode cX8_house 81 = .ok (.iadd, 1) := by decide +kernel
theorem dX8_house_82 : decode cX8_house 82 = .ok (.iaload, 1) := by decide +kernel
theorem dX8_house_83 : decode cX8_house 83 = .ok (.ifCond .le 9, 3) := by decide +kernel
theorem dX8_house_86 : decode cX8_house 86 = .ok (.iconst 1, 1) := by decide +kernel
theorem dX8_house_87 : decode cX8_house 87 = .ok (.iload_n 3, 1) := by decide +kernel
theorem dX8_house_88 : decode cX8_house 88 = .ok (.ishl, 1) := by decide +kernel
theorem dX8_house_89 : decode cX8_house 89 = .ok (.goto 4, 3) := by decide +kernel
theorem dX8_house_92 : decode cX8_house 92 = .ok (.iconst 0, 1) := by decide +kernel
theorem dX8_house_93 : decode cX8_house 93 = .ok (.ior, 1) := by decide +kernel
theorem dX8_house_94 : decode cX8_house 94 = .ok (.istore_n 2, 1) := by decide +kernel
theorem dX8_house_95 : decode cX8_house 95 = .ok (.iinc 3 1, 3) := by decide +kernel
theorem dX8_house_98 : decode cX8_house 98 = .ok (.goto (-31), 3) := by decide +kernel
theorem dX8_house_101 : decode cX8_house 101 = .ok (.iload_n 2, 1) := by decide +kernel
theorem dX8_house_102 : decode cX8_house 102 = .ok (.ireturn, 1) := by decide +kernel
theorem dX8_house_103 : decode cX8_house 103 = .ok (.ldc 94, 2) := by decide +kernel
theorem dX8_house_105 : decode cX8_house 105 = .ok (.ireturn, 1) := by decide +kernel
theorem dX8_thinks_0 : decode cX8_thinks 0 = .ok (.iconst 0, 1) := by decide +kernel
theorem dX8_thinks_1 : decode cX8_thinks 1 = .ok (.istore_n 1, 1) := by decide +kernel
theorem dX8_thinks_2 : decode cX8_thinks 2 = .ok (.iload_n 1, 1) := by decide +kernel
theorem dX8_thinks_3 : decode cX8_thinks 3 = .ok (.bipush 97, 2) := by decide +kernel
theorem dX8_thinks_5 : decode cX8_thinks 5 = .ok (.if_icmp .ge 21, 3) := by decide +kernel
theorem dX8_thinks_8 : decode cX8_thinks 8 = .ok (.aload_n 0, 1) := by decide +kernel
theorem dX8_thinks_9 : decode cX8_thinks 9 = .ok (.getfield 19, 3) := by decide +kernel
theorem dX8_thinks_12 : decode cX8_thinks 12 = .ok (.iload_n 1, 1) := by decide +kernel
theorem dX8_thinks_13 : decode cX8_thinks 13 = .ok (.aload_n 0, 1) := by decide +kernel
theorem dX8_thinks_14 : decode cX8_thinks 14 = .ok (.getfield 9, 3) := by decide +kernel
theorem dX8_thinks_17 : decode cX8_thinks 17 = .ok (.iload_n 1, 1) := by decide +kernel
theorem dX8_thinks_18 : decode cX8_thinks 18 = .ok (.iaload, 1) := by decide +kernel
theorem dX8_thinks_19 : decode cX8_thinks 19 = .ok (.iastore, 1) := by decide +kernel
theorem dX8_thinks_20 : decode cX8_thinks 20 = .ok (.iinc 1 1, 3) := by decide +kernel
theorem dX8_thinks_23 : decode cX8_thinks 23 = .ok (.goto (-21), 3) := by decide +kernel
theorem dX8_thinks_26 : decode cX8_thinks 26 = .ok (.return_, 1) := by decide +kernel
theorem dX8_putsBack_0 : decode cX8_putsBack 0 = .ok (.iconst 0, 1) := by decide +kernel
theorem dX8_putsBack_1 : decode cX8_putsBack 1 = .ok (.istore_n 1, 1) := by decide +kernel
theorem dX8_putsBack_2 : decode cX8_putsBack 2 = .ok (.iload_n 1, 1) := by decide +kernel
theorem dX8_putsBack_3 : decode cX8_putsBack 3 = .ok (.bipush 97, 2) := by decide +kernel
theorem dX8_putsBack_5 : decode cX8_putsBack 5 = .ok (.if_icmp .ge 21, 3) := by decide +kernel
theorem dX8_putsBack_8 : decode cX8_putsBack 8 = .ok (.aload_n 0, 1) := by decide +kernel
theorem dX8_putsBack_9 : decode cX8_putsBack 9 = .ok (.getfield 9, 3) := by decide +kernel
theorem dX8_putsBack_12 : decode cX8_putsBack 12 = .ok (.iload_n 1, 1) := by decide +kernel
theorem dX8_putsBack_13 : decode cX8_putsBack 13 = .ok (.aload_n 0, 1) := by decide +kernel
theorem dX8_putsBack_14 : decode cX8_putsBack 14 = .ok (.getfield 19, 3) := by decide +kernel
theorem dX8_putsBack_17 : decode cX8_putsBack 17 = .ok (.iload_n 1, 1) := by decide +kernel
theorem dX8_putsBack_18 : decode cX8_putsBack 18 = .ok (.iaload, 1) := by decide +kernel
theorem dX8_putsBack_19 : decode cX8_putsBack 19 = .ok (.iastore, 1) := by decide +kernel
theorem dX8_putsBack_20 : decode cX8_putsBack 20 = .ok (.iinc 1 1, 3) := by decide +kernel
theorem dX8_putsBack_23 : decode cX8_putsBack 23 = .ok (.goto (-21), 3) := by decide +kernel
theorem dX8_putsBack_26 : decode cX8_putsBack 26 = .ok (.return_, 1) := by decide +kernel
theorem dX8_behind_0 : decode cX8_behind 0 = .ok (.iload_n 1, 1) := by decide +kernel
theorem dX8_behind_1 : decode cX8_behind 1 = .ok (.iconst 0, 1) := by decide +kernel
theorem dX8_behind_2 : decode cX8_behind 2 = .ok (.bipush 100, 2) := by decide +kernel
theorem dX8_behind_4 : decode cX8_behind 4 = .ok (.invokestatic 82, 3) := by decide +kernel
theorem dX8_behind_7 : decode cX8_behind 7 = .ok (.ifCond .eq 22, 3) := by decide +kernel
theorem dX8_behind_10 : decode cX8_behind 10 = .ok (.iload_n 2, 1) := by decide +kernel
theorem dX8_behind_11 : decode cX8_behind 11 = .ok (.ifCond .lt 18, 3) := by decide +kernel
theorem dX8_behind_14 : decode cX8_behind 14 = .ok (.iload_n 2, 1) := by decide +kernel
theorem dX8_behind_15 : decode cX8_behind 15 = .ok (.iconst 2, 1) := by decide +kernel
theorem dX8_behind_16 : decode cX8_behind 16 = .ok (.if_icmp .le 16, 3) := by decide +kernel
theorem dX8_behind_19 : decode cX8_behind 19 = .ok (.aload_n 0, 1) := by decide +kernel
theorem dX8_behind_20 : decode cX8_behind 20 = .ok (.iload_n 2, 1) := by decide +kernel
theorem dX8_behind_21 : decode cX8_behind 21 = .ok (.iconst 3, 1) := by decide +kernel
theorem dX8_behind_22 : decode cX8_behind 22 = .ok (.isub, 1) := by decide +kernel
theorem dX8_behind_23 : decode cX8_behind 23 = .ok (.invokevirtual 115, 3) := by decide +kernel
theorem dX8_behind_26 : decode cX8_behind 26 = .ok (.ifCond .ne 6, 3) := by decide +kernel
theorem dX8_behind_29 : decode cX8_behind 29 = .ok (.ldc 94, 2) := by decide +kernel
theorem dX8_behind_31 : decode cX8_behind 31 = .ok (.ireturn, 1) := by decide +kernel
theorem dX8_behind_32 : decode cX8_behind 32 = .ok (.aload_n 0, 1) := by decide +kernel
theorem dX8_behind_33 : decode cX8_behind 33 = .ok (.invokevirtual 178, 3) := by decide +kernel
theorem dX8_behind_36 : decode cX8_behind 36 = .ok (.aload_n 0, 1) := by decide +kernel
theorem dX8_behind_37 : decode cX8_behind 37 = .ok (.iload_n 1, 1) := by decide +kernel
theorem dX8_behind_38 : decode cX8_behind 38 = .ok (.invokevirtual 169, 3) := by decide +kernel
theorem dX8_behind_41 : decode cX8_behind 41 = .ok (.iload_n 2, 1) := by decide +kernel
theorem dX8_behind_42 : decode cX8_behind 42 = .ok (.ifCond .ne 12, 3) := by decide +kernel
theorem dX8_behind_45 : decode cX8_behind 45 = .ok (.aload_n 0, 1) := by decide +kernel
theorem dX8_behind_46 : decode cX8_behind 46 = .ok (.getfield 9, 3) := by decide +kernel
theorem dX8_behind_49 : decode cX8_behind 49 = .ok (.iconst 4, 1) := by decide +kernel
theorem dX8_behind_50 : decode cX8_behind 50 = .ok (.iaload, 1) := by decide +kernel
theorem dX8_behind_51 : decode cX8_behind 51 = .ok (.goto 35, 3) := by decide +kernel
theorem dX8_behind_54 : decode cX8_behind 54 = .ok (.iload_n 2, 1) := by decide +kernel
theorem dX8_behind_55 : decode cX8_behind 55 = .ok (.iconst 1, 1) := by decide +kernel
theorem dX8_behind_56 : decode cX8_behind 56 = .ok (.if_icmp .ne 10, 3) := by decide +kernel
theorem dX8_behind_59 : decode cX8_behind 59 = .ok (.aload_n 0, 1) := by decide +kernel
theorem dX8_behind_60 : decode cX8_behind 60 = .ok (.invokevirtual 172, 3) := by decide +kernel
theorem dX8_behind_63 : decode cX8_behind 63 = .ok (.goto 23, 3) := by decide +kernel
theorem dX8_behind_66 : decode cX8_behind 66 = .ok (.iload_n 2, 1) := by decide +kernel
theorem dX8_behind_67 : decode cX8_behind 67 = .ok (.iconst 2, 1) := by decide +kernel
theorem dX8_behind_68 : decode cX8_behind 68 = .ok (.if_icmp .ne 10, 3) := by decide +kernel
theorem dX8_behind_71 : decode cX8_behind 71 = .ok (.aload_n 0, 1) := by decide +kernel
theorem dX8_behind_72 : decode cX8_behind 72 = .ok (.invokevirtual 175, 3) := by decide +kernel
theorem dX8_behind_75 : decode cX8_behind 75 = .ok (.goto 11, 3) := by decide +kernel
theorem dX8_behind_78 : decode cX8_behind 78 = .ok (.aload_n 0, 1) := by decide +kernel
theorem dX8_behind_79 : decode cX8_behind 79 = .ok (.iload_n 2, 1) := by decide +kernel
theorem dX8_behind_80 : decode cX8_behind 80 = .ok (.iconst 3, 1) := by decide +kernel
theorem dX8_behind_81 : decode cX8_behind 81 = .ok (.isub, 1) := by decide +kernel
theorem dX8_behind_82 : decode cX8_behind 82 = .ok (.iconst 1, 1) := by decide +kernel
theorem dX8_behind_83 : decode cX8_behind 83 = .ok (.invokevirtual 104, 3) := by decide +kernel
theorem dX8_behind_86 : decode cX8_behind 86 = .ok (.istore_n 3, 1) := by decide +kernel
theorem dX8_behind_87 : decode cX8_behind 87 = .ok (.aload_n 0, 1) := by decide +kernel
theorem dX8_behind_88 : decode cX8_behind 88 = .ok (.invokevirtual 181, 3) := by decide +kernel
theorem dX8_behind_91 : decode cX8_behind 91 = .ok (.iload_n 3, 1) := by decide +kernel
theorem dX8_behind_92 : decode cX8_behind 92 = .ok (.ireturn, 1) := by decide +kernel
theorem dX8_through_0 : decode cX8_through 0 = .ok (.aload_n 0, 1) := by decide +kernel
theorem dX8_through_1 : decode cX8_through 1 = .ok (.invokevirtual 178, 3) := by decide +kernel
theorem dX8_through_4 : decode cX8_through 4 = .ok (.aload_n 0, 1) := by decide +kernel
theorem dX8_through_5 : decode cX8_through 5 = .ok (.invokevirtual 175, 3) := by decide +kernel
theorem dX8_through_8 : decode cX8_through 8 = .ok (.invokestatic 160, 3) := by decide +kernel
theorem dX8_through_11 : decode cX8_through 11 = .ok (.istore_n 1, 1) := by decide +kernel
theorem dX8_through_12 : decode cX8_through 12 = .ok (.iconst 0, 1) := by decide +kernel
theorem dX8_through_13 : decode cX8_through 13 = .ok (.istore_n 2, 1) := by decide +kernel
theorem dX8_through_14 : decode cX8_through 14 = .ok (.iload_n 2, 1) := by decide +kernel
theorem dX8_through_15 : decode cX8_through 15 = .ok (.sipush 200, 3) := by decide +kernel
theorem dX8_through_18 : decode cX8_through 18 = .ok (.if_icmp .gt 24, 3) := by decide +kernel
theorem dX8_through_21 : decode cX8_through 21 = .ok (.aload_n 0, 1) := by decide +kernel
theorem dX8_through_22 : decode cX8_through 22 = .ok (.invokevirtual 175, 3) := by decide +kernel
theorem dX8_through_25 : decode cX8_through 25 = .ok (.invokestatic 160, 3) := by decide +kernel
theorem dX8_through_28 : decode cX8_through 28 = .ok (.iload_n 1, 1) := by decide +kernel
theorem dX8_through_29 : decode cX8_through 29 = .ok (.if_icmp .ne 13, 3) := by decide +kernel
theorem dX8_through_32 : decode cX8_through 32 = .ok (.aload_n 0, 1) := by decide +kernel
theorem dX8_through_33 : decode cX8_through 33 = .ok (.invokevirtual 163, 3) := by decide +kernel
theorem dX8_through_36 : decode cX8_through 36 = .ok (.iinc 2 1, 3) := by decide +kernel
theorem dX8_through_39 : decode cX8_through 39 = .ok (.goto (-25), 3) := by decide +kernel
theorem dX8_through_42 : decode cX8_through 42 = .ok (.aload_n 0, 1) := by decide +kernel
theorem dX8_through_43 : decode cX8_through 43 = .ok (.invokevirtual 181, 3) := by decide +kernel
theorem dX8_through_46 : decode cX8_through 46 = .ok (.iload_n 2, 1) := by decide +kernel
theorem dX8_through_47 : decode cX8_through 47 = .ok (.sipush 200, 3) := by decide +kernel
theorem dX8_through_50 : decode cX8_through 50 = .ok (.if_icmp .le 8, 3) := by decide +kernel
theorem dX8_through_53 : decode cX8_through 53 = .ok (.ldc 150, 2) := by decide +kernel
theorem dX8_through_55 : decode cX8_through 55 = .ok (.goto 4, 3) := by decide +kernel
theorem dX8_through_58 : decode cX8_through 58 = .ok (.iload_n 2, 1) := by decide +kernel
theorem dX8_through_59 : decode cX8_through 59 = .ok (.ireturn, 1) := by decide +kernel
theorem dX8_post_0 : decode cX8_post 0 = .ok (.iload_n 1, 1) := by decide +kernel
theorem dX8_post_1 : decode cX8_post 1 = .ok (.iconst 1, 1) := by decide +kernel
theorem dX8_post_2 : decode cX8_post 2 = .ok (.bipush 60, 2) := by decide +kernel
theorem dX8_post_4 : decode cX8_post 4 = .ok (.invokestatic 82, 3) := by decide +kernel
theorem dX8_post_7 : decode cX8_post 7 = .ok (.ifCond .eq 12, 3) := by decide +kernel
theorem dX8_post_10 : decode cX8_post 10 = .ok (.iload_n 2, 1) := by decide +kernel
theorem dX8_post_11 : decode cX8_post 11 = .ok (.iconst 0, 1) := by decide +kernel
theorem dX8_post_12 : decode cX8_post 12 = .ok (.iconst 1, 1) := by decide +kernel
theorem dX8_post_13 : decode cX8_post 13 = .ok (.invokestatic 82, 3) := by decide +kernel
theorem dX8_post_16 : decode cX8_post 16 = .ok (.ifCond .ne 6, 3) := by decide +kernel
theorem dX8_post_19 : decode cX8_post 19 = .ok (.ldc 94, 2) := by decide +kernel
theorem dX8_post_21 : decode cX8_post 21 = .ok (.ireturn, 1) := by decide +kernel
theorem dX8_post_22 : decode cX8_post 22 = .ok (.aload_n 0, 1) := by decide +kernel
theorem dX8_post_23 : decode cX8_post 23 = .ok (.invokevirtual 178, 3) := by decide +kernel
theorem dX8_post_26 : decode cX8_post 26 = .ok (.iconst 0, 1) := by decide +kernel
theorem dX8_post_27 : decode cX8_post 27 = .ok (.istore_n 3, 1) := by decide +kernel
theorem dX8_post_28 : decode cX8_post 28 = .ok (.iload_n 3, 1) := by decide +kernel
theorem dX8_post_29 : decode cX8_post 29 = .ok (.bipush 10, 2) := by decide +kernel
theorem dX8_post_31 : decode cX8_post 31 = .ok (.if_icmp .ge 16, 3) := by decide +kernel
theorem dX8_post_34 : decode cX8_post 34 = .ok (.aload_n 0, 1) := by decide +kernel
theorem dX8_post_35 : decode cX8_post 35 = .ok (.getfield 22, 3) := by decide +kernel
theorem dX8_post_38 : decode cX8_post 38 = .ok (.iload_n 3, 1) := by decide +kernel
theorem dX8_post_39 : decode cX8_post 39 = .ok (.iconst 0, 1) := by decide +kernel
theorem dX8_post_40 : decode cX8_post 40 = .ok (.iastore, 1) := by decide +kernel
theorem dX8_post_41 : decode cX8_post 41 = .ok (.iinc 3 1, 3) := by decide +kernel
theorem dX8_post_44 : decode cX8_post 44 = .ok (.goto (-16), 3) := by decide +kernel
theorem dX8_post_47 : decode cX8_post 47 = .ok (.iconst 0, 1) := by decide +kernel
theorem dX8_post_48 : decode cX8_post 48 = .ok (.istore_n 3, 1) := by decide +kernel
theorem dX8_post_49 : decode cX8_post 49 = .ok (.iload_n 3, 1) := by decide +kernel
theorem dX8_post_50 : decode cX8_post 50 = .ok (.iload_n 1, 1) := by decide +kernel
theorem dX8_post_51 : decode cX8_post 51 = .ok (.if_icmp .ge 49, 3) := by decide +kernel
theorem dX8_post_54 : decode cX8_post 54 = .ok (.aload_n 0, 1) := by decide +kernel
theorem dX8_post_55 : decode cX8_post 55 = .ok (.invokevirtual 163, 3) := by decide +kernel
theorem dX8_post_58 : decode cX8_post 58 = .ok (.iconst 0, 1) := by decide +kernel
theorem dX8_post_59 : decode cX8_post 59 = .ok (.istore 4, 2) := by decide +kernel
theorem dX8_post_61 : decode cX8_post 61 = .ok (.iload 4, 2) := by decide +kernel
theorem dX8_post_63 : decode cX8_post 63 = .ok (.aload_n 0, 1) := by decide +kernel
theorem dX8_post_64 : decode cX8_post 64 = .ok (.getfield 9, 3) := by decide +kernel
theorem dX8_post_67 : decode cX8_post 67 = .ok (.iconst 1, 1) := by decide +kernel
theorem dX8_post_68 : decode cX8_post 68 = .ok (.iaload, 1) := by decide +kernel
theorem dX8_post_69 : decode cX8_post 69 = .ok (.if_icmp .ge 25, 3) := by decide +kernel
theorem dX8_post_72 : decode cX8_post 72 = .ok (.aload_n 0, 1) := by decide +kernel
theorem dX8_post_73 : decode cX8_post 73 = .ok (.getfield 22, 3) := by decide +kernel
theorem dX8_post_76 : decode cX8_post 76 = .ok (.aload_n 0, 1) := by decide +kernel
theorem dX8_post_77 : decode cX8_post 77 = .ok (.iload 4, 2) := by decide +kernel
theorem dX8_post_79 : decode cX8_post 79 = .ok (.iconst 1, 1) := by decide +kernel
theorem dX8_post_80 : decode cX8_post 80 = .ok (.invokevirtual 104, 3) := by decide +kernel
theorem dX8_post_83 : decode cX8_post 83 = .ok (.dup2, 1) := by decide +kernel
theorem dX8_post_84 : decode cX8_post 84 = .ok (.iaload, 1) := by decide +kernel
theorem dX8_post_85 : decode cX8_post 85 = .ok (.iconst 1, 1) := by decide +kernel
theorem dX8_post_86 : decode cX8_post 86 = .ok (.iadd, 1) := by decide +kernel
theorem dX8_post_87 : decode cX8_post 87 = .ok (.iastore, 1) := by decide +kernel
theorem dX8_post_88 : decode cX8_post 88 = .ok (.iinc 4 1, 3) := by decide +kernel
theorem dX8_post_91 : decode cX8_post 91 = .ok (.goto (-30), 3) := by decide +kernel
theorem dX8_post_94 : decode cX8_post 94 = .ok (.iinc 3 1, 3) := by decide +kernel
theorem dX8_post_97 : decode cX8_post 97 = .ok (.goto (-48), 3) := by decide +kernel
theorem dX8_post_100 : decode cX8_post 100 = .ok (.aload_n 0, 1) := by decide +kernel
theorem dX8_post_101 : decode cX8_post 101 = .ok (.invokevirtual 181, 3) := by decide +kernel
theorem dX8_post_104 : decode cX8_post 104 = .ok (.iconst 0, 1) := by decide +kernel
theorem dX8_post_105 : decode cX8_post 105 = .ok (.istore_n 3, 1) := by decide +kernel
theorem dX8_post_106 : decode cX8_post 106 = .ok (.iconst 1, 1) := by decide +kernel
theorem dX8_post_107 : decode cX8_post 107 = .ok (.istore 4, 2) := by decide +kernel
theorem dX8_post_109 : decode cX8_post 109 = .ok (.iload 4, 2) := by decide +kernel
theorem dX8_post_111 : decode cX8_post 111 = .ok (.bipush 10, 2) := by decide +kernel
theorem dX8_post_113 : decode cX8_post 113 = .ok (.if_icmp .ge 32, 3) := by decide +kernel
theorem dX8_post_116 : decode cX8_post 116 = .ok (.aload_n 0, 1) := by decide +kernel
theorem dX8_post_117 : decode cX8_post 117 = .ok (.getfield 22, 3) := by decide +kernel
theorem dX8_post_120 : decode cX8_post 120 = .ok (.iload 4, 2) := by decide +kernel
theorem dX8_post_122 : decode cX8_post 122 = .ok (.iaload, 1) := by decide +kernel
theorem dX8_post_123 : decode cX8_post 123 = .ok (.aload_n 0, 1) := by decide +kernel
theorem dX8_post_124 : decode cX8_post 124 = .ok (.getfield 22, 3) := by decide +kernel
theorem dX8_post_127 : decode cX8_post 127 = .ok (.iload_n 3, 1) := by decide +kernel
theorem dX8_post_128 : decode cX8_post 128 = .ok (.iaload, 1) := by decide +kernel
theorem dX8_post_129 : decode cX8_post 129 = .ok (.if_icmp .le 8, 3) := by decide +kernel
theorem dX8_post_132 : decode cX8_post 132 = .ok (.iload 4, 2) := by decide +kernel
theorem dX8_post_134 : decode cX8_post 134 = .ok (.goto 4, 3) := by decide +kernel
theorem dX8_post_137 : decode cX8_post 137 = .ok (.iload_n 3, 1) := by decide +kernel
theorem dX8_post_138 : decode cX8_post 138 = .ok (.istore_n 3, 1) := by decide +kernel
theorem dX8_post_139 : decode cX8_post 139 = .ok (.iinc 4 1, 3) := by decide +kernel
theorem dX8_post_142 : decode cX8_post 142 = .ok (.goto (-33), 3) := by decide +kernel
theorem dX8_post_145 : decode cX8_post 145 = .ok (.iload_n 2, 1) := by decide +kernel
theorem dX8_post_146 : decode cX8_post 146 = .ok (.ifCond .ne 7, 3) := by decide +kernel
theorem dX8_post_149 : decode cX8_post 149 = .ok (.iload_n 3, 1) := by decide +kernel
theorem dX8_post_150 : decode cX8_post 150 = .ok (.goto 9, 3) := by decide +kernel
theorem dX8_post_153 : decode cX8_post 153 = .ok (.aload_n 0, 1) := by decide +kernel
theorem dX8_post_154 : decode cX8_post 154 = .ok (.getfield 22, 3) := by decide +kernel
theorem dX8_post_157 : decode cX8_post 157 = .ok (.iload_n 3, 1) := by decide +kernel
theorem dX8_post_158 : decode cX8_post 158 = .ok (.iaload, 1) := by decide +kernel
theorem dX8_post_159 : decode cX8_post 159 = .ok (.ireturn, 1) := by decide +kernel
theorem dX8_began_0 : decode cX8_began 0 = .ok (.aload_n 0, 1) := by decide +kernel
theorem dX8_began_1 : decode cX8_began 1 = .ok (.iload_n 1, 1) := by decide +kernel
theorem dX8_began_2 : decode cX8_began 2 = .ok (.invokevirtual 115, 3) := by decide +kernel
theorem dX8_began_5 : decode cX8_began 5 = .ok (.ifCond .eq 13, 3) := by decide +kernel
theorem dX8_began_8 : decode cX8_began 8 = .ok (.iload_n 2, 1) := by decide +kernel
theorem dX8_began_9 : decode cX8_began 9 = .ok (.iconst 0, 1) := by decide +kernel
theorem dX8_began_10 : decode cX8_began 10 = .ok (.bipush 60, 2) := by decide +kernel
theorem dX8_began_12 : decode cX8_began 12 = .ok (.invokestatic 82, 3) := by decide +kernel
theorem dX8_began_15 : decode cX8_began 15 = .ok (.ifCond .ne 6, 3) := by decide +kernel
theorem dX8_began_18 : decode cX8_began 18 = .ok (.ldc 94, 2) := by decide +kernel
theorem dX8_began_20 : decode cX8_began 20 = .ok (.ireturn, 1) := by decide +kernel
theorem dX8_began_21 : decode cX8_began 21 = .ok (.aload_n 0, 1) := by decide +kernel
theorem dX8_began_22 : decode cX8_began 22 = .ok (.invokevirtual 178, 3) := by decide +kernel
theorem dX8_began_25 : decode cX8_began 25 = .ok (.aload_n 0, 1) := by decide +kernel
theorem dX8_began_26 : decode cX8_began 26 = .ok (.iload_n 1, 1) := by decide +kernel
theorem dX8_began_27 : decode cX8_began 27 = .ok (.iconst 1, 1) := by decide +kernel
theorem dX8_began_28 : decode cX8_began 28 = .ok (.invokevirtual 104, 3) := by decide +kernel
theorem dX8_began_31 : decode cX8_began 31 = .ok (.istore_n 3, 1) := by decide +kernel
theorem dX8_began_32 : decode cX8_began 32 = .ok (.iconst 0, 1) := by decide +kernel
theorem dX8_began_33 : decode cX8_began 33 = .ok (.istore 4, 2) := by decide +kernel
theorem dX8_began_35 : decode cX8_began 35 = .ok (.iconst 0, 1) := by decide +kernel
theorem dX8_began_36 : decode cX8_began 36 = .ok (.istore 5, 2) := by decide +kernel
theorem dX8_began_38 : decode cX8_began 38 = .ok (.iload 5, 2) := by decide +kernel
theorem dX8_began_40 : decode cX8_began 40 = .ok (.bipush 10, 2) := by decide +kernel
theorem dX8_began_42 : decode cX8_began 42 = .ok (.if_icmp .ge 49, 3) := by decide +kernel
theorem dX8_began_45 : decode cX8_began 45 = .ok (.aload_n 0, 1) := by decide +kernel
theorem dX8_began_46 : decode cX8_began 46 = .ok (.iload_n 1, 1) := by decide +kernel
theorem dX8_began_47 : decode cX8_began 47 = .ok (.iconst 1, 1) := by decide +kernel
theorem dX8_began_48 : decode cX8_began 48 = .ok (.iload 5, 2) := by decide +kernel
theorem dX8_began_50 : decode cX8_began 50 = .ok (.invokevirtual 86, 3) := by decide +kernel
theorem dX8_began_53 : decode cX8_began 53 = .ok (.aload_n 0, 1) := by decide +kernel
theorem dX8_began_54 : decode cX8_began 54 = .ok (.iload_n 2, 1) := by decide +kernel
theorem dX8_began_55 : decode cX8_began 55 = .ok (.invokevirtual 169, 3) := by decide +kernel
theorem dX8_began_58 : decode cX8_began 58 = .ok (.iload 4, 2) := by decide +kernel
theorem dX8_began_60 : decode cX8_began 60 = .ok (.aload_n 0, 1) := by decide +kernel
theorem dX8_began_61 : decode cX8_began 61 = .ok (.iload_n 1, 1) := by decide +kernel
theorem dX8_began_62 : decode cX8_began 62 = .ok (.iconst 1, 1) := by decide +kernel
theorem dX8_began_63 : decode cX8_began 63 = .ok (.invokevirtual 104, 3) := by decide +kernel
theorem dX8_began_66 : decode cX8_began 66 = .ok (.iload_n 3, 1) := by decide +kernel
theorem dX8_began_67 : decode cX8_began 67 = .ok (.if_icmp .ne 10, 3) := by decide +kernel
theorem dX8_began_70 : decode cX8_began 70 = .ok (.iconst 1, 1) := by decide +kernel
theorem dX8_began_71 : decode cX8_began 71 = .ok (.iload 5, 2) := by decide +kernel
theorem dX8_began_73 : decode cX8_began 73 = .ok (.ishl, 1) := by decide +kernel
theorem dX8_began_74 : decode cX8_began 74 = .ok (.goto 4, 3) := by decide +kernel
theorem dX8_began_77 : decode cX8_began 77 = .ok (.iconst 0, 1) := by decide +kernel
theorem dX8_began_78 : decode cX8_began 78 = .ok (.ior, 1) := by decide +kernel
theorem dX8_began_79 : decode cX8_began 79 = .ok (.istore 4, 2) := by decide +kernel
theorem dX8_began_81 : decode cX8_began 81 = .ok (.aload_n 0, 1) := by decide +kernel
theorem dX8_began_82 : decode cX8_began 82 = .ok (.invokevirtual 181, 3) := by decide +kernel
theorem dX8_began_85 : decode cX8_began 85 = .ok (.iinc 5 1, 3) := by decide +kernel
theorem dX8_began_88 : decode cX8_began 88 = .ok (.goto (-50), 3) := by decide +kernel
theorem dX8_began_91 : decode cX8_began 91 = .ok (.iload 4, 2) := by decide +kernel
theorem dX8_began_93 : decode cX8_began 93 = .ok (.ireturn, 1) := by decide +kernel
theorem dX8_mended_0 : decode cX8_mended 0 = .ok (.iload_n 1, 1) := by decide +kernel
theorem dX8_mended_1 : decode cX8_mended 1 = .ok (.iconst 1, 1) := by decide +kernel
theorem dX8_mended_2 : decode cX8_mended 2 = .ok (.bipush 60, 2) := by decide +kernel
theorem dX8_mended_4 : decode cX8_mended 4 = .ok (.invokestatic 82, 3) := by decide +kernel
theorem dX8_mended_7 : decode cX8_mended 7 = .ok (.ifCond .eq 12, 3) := by decide +kernel
theorem dX8_mended_10 : decode cX8_mended 10 = .ok (.iload_n 2, 1) := by decide +kernel
theorem dX8_mended_11 : decode cX8_mended 11 = .ok (.iconst 0, 1) := by decide +kernel
theorem dX8_mended_12 : decode cX8_mended 12 = .ok (.iconst 1, 1) := by decide +kernel
theorem dX8_mended_13 : decode cX8_mended 13 = .ok (.invokestatic 82, 3) := by decide +kernel
theorem dX8_mended_16 : decode cX8_mended 16 = .ok (.ifCond .ne 6, 3) := by decide +kernel
theorem dX8_mended_19 : decode cX8_mended 19 = .ok (.ldc 94, 2) := by decide +kernel
theorem dX8_mended_21 : decode cX8_mended 21 = .ok (.ireturn, 1) := by decide +kernel
theorem dX8_mended_22 : decode cX8_mended 22 = .ok (.aload_n 0, 1) := by decide +kernel
theorem dX8_mended_23 : decode cX8_mended 23 = .ok (.invokevirtual 178, 3) := by decide +kernel
theorem dX8_mended_26 : decode cX8_mended 26 = .ok (.iconst (-1), 1) := by decide +kernel
theorem dX8_mended_27 : decode cX8_mended 27 = .ok (.istore_n 3, 1) := by decide +kernel
theorem dX8_mended_28 : decode cX8_mended 28 = .ok (.iconst 0, 1) := by decide +kernel
theorem dX8_mended_29 : decode cX8_mended 29 = .ok (.istore 4, 2) := by decide +kernel
theorem dX8_mended_31 : decode cX8_mended 31 = .ok (.iconst 0, 1) := by decide +kernel
theorem dX8_mended_32 : decode cX8_mended 32 = .ok (.istore 5, 2) := by decide +kernel
theorem dX8_mended_34 : decode cX8_mended 34 = .ok (.iload 5, 2) := by decide +kernel
theorem dX8_mended_36 : decode cX8_mended 36 = .ok (.bipush 10, 2) := by decide +kernel
theorem dX8_mended_38 : decode cX8_mended 38 = .ok (.if_icmp .ge 54, 3) := by decide +kernel
theorem dX8_mended_41 : decode cX8_mended 41 = .ok (.aload_n 0, 1) := by decide +kernel
theorem dX8_mended_42 : decode cX8_mended 42 = .ok (.getfield 9, 3) := by decide +kernel
theorem dX8_mended_45 : decode cX8_mended 45 = .ok (.bipush 7, 2) := by decide +kernel
theorem dX8_mended_47 : decode cX8_mended 47 = .ok (.iload 5, 2) := by decide +kernel
theorem dX8_mended_49 : decode cX8_mended 49 = .ok (.iadd, 1) := by decide +kernel
theorem dX8_mended_50 : decode cX8_mended 50 = .ok (.iconst 0, 1) := by decide +kernel
theorem dX8_mended_51 : decode cX8_mended 51 = .ok (.iastore, 1) := by decide +kernel
theorem dX8_mended_52 : decode cX8_mended 52 = .ok (.aload_n 0, 1) := by decide +kernel
theorem dX8_mended_53 : decode cX8_mended 53 = .ok (.iload_n 1, 1) := by decide +kernel
theorem dX8_mended_54 : decode cX8_mended 54 = .ok (.invokevirtual 169, 3) := by decide +kernel
theorem dX8_mended_57 : decode cX8_mended 57 = .ok (.aload_n 0, 1) := by decide +kernel
theorem dX8_mended_58 : decode cX8_mended 58 = .ok (.iconst 2, 1) := by decide +kernel
theorem dX8_mended_59 : decode cX8_mended 59 = .ok (.invokevirtual 166, 3) := by decide +kernel
theorem dX8_mended_62 : decode cX8_mended 62 = .ok (.istore 6, 2) := by decide +kernel
theorem dX8_mended_64 : decode cX8_mended 64 = .ok (.aload_n 0, 1) := by decide +kernel
theorem dX8_mended_65 : decode cX8_mended 65 = .ok (.invokevirtual 181, 3) := by decide +kernel
theorem dX8_mended_68 : decode cX8_mended 68 = .ok (.iload_n 3, 1) := by decide +kernel
theorem dX8_mended_69 : decode cX8_mended 69 = .ok (.ifCond .lt 10, 3) := by decide +kernel
theorem dX8_mended_72 : decode cX8_mended 72 = .ok (.iload 6, 2) := by decide +kernel
theorem dX8_mended_74 : decode cX8_mended 74 = .ok (.iload 4, 2) := by decide +kernel
theorem dX8_mended_76 : decode cX8_mended 76 = .ok (.if_icmp .le 10, 3) := by decide +kernel
theorem dX8_mended_79 : decode cX8_mended 79 = .ok (.iload 5, 2) := by decide +kernel
theorem dX8_mended_81 : decode cX8_mended 81 = .ok (.istore_n 3, 1) := by decide +kernel
theorem dX8_mended_82 : decode cX8_mended 82 = .ok (.iload 6, 2) := by decide +kernel
theorem dX8_mended_84 : decode cX8_mended 84 = .ok (.istore 4, 2) := by decide +kernel
theorem dX8_mended_86 : decode cX8_mended 86 = .ok (.iinc 5 1, 3) := by decide +kernel
theorem dX8_mended_89 : decode cX8_mended 89 = .ok (.goto (-55), 3) := by decide +kernel
theorem dX8_mended_92 : decode cX8_mended 92 = .ok (.iload_n 2, 1) := by decide +kernel
theorem dX8_mended_93 : decode cX8_mended 93 = .ok (.ifCond .ne 7, 3) := by decide +kernel
theorem dX8_mended_96 : decode cX8_mended 96 = .ok (.iload_n 3, 1) := by decide +kernel
theorem dX8_mended_97 : decode cX8_mended 97 = .ok (.goto 5, 3) := by decide +kernel
theorem dX8_mended_100 : decode cX8_mended 100 = .ok (.iload 4, 2) := by decide +kernel
theorem dX8_mended_102 : decode cX8_mended 102 = .ok (.ireturn, 1) := by decide +kernel
theorem dX8_meets_0 : decode cX8_meets 0 = .ok (.aload_n 0, 1) := by decide +kernel
theorem dX8_meets_1 : decode cX8_meets 1 = .ok (.iload_n 1, 1) := by decide +kernel
theorem dX8_meets_2 : decode cX8_meets 2 = .ok (.invokevirtual 115, 3) := by decide +kernel
theorem dX8_meets_5 : decode cX8_meets 5 = .ok (.ifCond .eq 26, 3) := by decide +kernel
theorem dX8_meets_8 : decode cX8_meets 8 = .ok (.aload_n 0, 1) := by decide +kernel
theorem dX8_meets_9 : decode cX8_meets 9 = .ok (.iload_n 2, 1) := by decide +kernel
theorem dX8_meets_10 : decode cX8_meets 10 = .ok (.invokevirtual 115, 3) := by decide +kernel
theorem dX8_meets_13 : decode cX8_meets 13 = .ok (.ifCond .eq 18, 3) := by decide +kernel
theorem dX8_meets_16 : decode cX8_meets 16 = .ok (.iload_n 1, 1) := by decide +kernel
theorem dX8_meets_17 : decode cX8_meets 17 = .ok (.iload_n 2, 1) := by decide +kernel
theorem dX8_meets_18 : decode cX8_meets 18 = .ok (.if_icmp .eq 13, 3) := by decide +kernel
theorem dX8_meets_21 : decode cX8_meets 21 = .ok (.iload_n 3, 1) := by decide +kernel
theorem dX8_meets_22 : decode cX8_meets 22 = .ok (.iconst 0, 1) := by decide +kernel
theorem dX8_meets_23 : decode cX8_meets 23 = .ok (.bipush 100, 2) := by decide +kernel
theorem dX8_meets_25 : decode cX8_meets 25 = .ok (.invokestatic 82, 3) := by decide +kernel
theorem dX8_meets_28 : decode cX8_meets 28 = .ok (.ifCond .ne 6, 3) := by decide +kernel
theorem dX8_meets_31 : decode cX8_meets 31 = .ok (.ldc 94, 2) := by decide +kernel
theorem dX8_meets_33 : decode cX8_meets 33 = .ok (.ireturn, 1) := by decide +kernel
theorem dX8_meets_34 : decode cX8_meets 34 = .ok (.aload_n 0, 1) := by decide +kernel
theorem dX8_meets_35 : decode cX8_meets 35 = .ok (.invokevirtual 178, 3) := by decide +kernel
theorem dX8_meets_38 : decode cX8_meets 38 = .ok (.iconst 0, 1) := by decide +kernel
theorem dX8_meets_39 : decode cX8_meets 39 = .ok (.istore 4, 2) := by decide +kernel
theorem dX8_meets_41 : decode cX8_meets 41 = .ok (.iload 4, 2) := by decide +kernel
theorem dX8_meets_43 : decode cX8_meets 43 = .ok (.iload_n 3, 1) := by decide +kernel
theorem dX8_meets_44 : decode cX8_meets 44 = .ok (.if_icmp .gt 28, 3) := by decide +kernel
theorem dX8_meets_47 : decode cX8_meets 47 = .ok (.aload_n 0, 1) := by decide +kernel
theorem dX8_meets_48 : decode cX8_meets 48 = .ok (.iload_n 1, 1) := by decide +kernel
theorem dX8_meets_49 : decode cX8_meets 49 = .ok (.iconst 1, 1) := by decide +kernel
theorem dX8_meets_50 : decode cX8_meets 50 = .ok (.invokevirtual 104, 3) := by decide +kernel
theorem dX8_meets_53 : decode cX8_meets 53 = .ok (.aload_n 0, 1) := by decide +kernel
theorem dX8_meets_54 : decode cX8_meets 54 = .ok (.iload_n 2, 1) := by decide +kernel
theorem dX8_meets_55 : decode cX8_meets 55 = .ok (.iconst 1, 1) := by decide +kernel
theorem dX8_meets_56 : decode cX8_meets 56 = .ok (.invokevirtual 104, 3) := by decide +kernel
theorem dX8_meets_59 : decode cX8_meets 59 = .ok (.if_icmp .eq 13, 3) := by decide +kernel
theorem dX8_meets_62 : decode cX8_meets 62 = .ok (.aload_n 0, 1) := by decide +kernel
theorem dX8_meets_63 : decode cX8_meets 63 = .ok (.invokevirtual 163, 3) := by decide +kernel
theorem dX8_meets_66 : decode cX8_meets 66 = .ok (.iinc 4 1, 3) := by decide +kernel
theorem dX8_meets_69 : decode cX8_meets 69 = .ok (.goto (-28), 3) := by decide +kernel
theorem dX8_meets_72 : decode cX8_meets 72 = .ok (.aload_n 0, 1) := by decide +kernel
theorem dX8_meets_73 : decode cX8_meets 73 = .ok (.invokevirtual 181, 3) := by decide +kernel
theorem dX8_meets_76 : decode cX8_meets 76 = .ok (.iload 4, 2) := by decide +kernel
theorem dX8_meets_78 : decode cX8_meets 78 = .ok (.iload_n 3, 1) := by decide +kernel
theorem dX8_meets_79 : decode cX8_meets 79 = .ok (.if_icmp .le 8, 3) := by decide +kernel
theorem dX8_meets_82 : decode cX8_meets 82 = .ok (.ldc 150, 2) := by decide +kernel
theorem dX8_meets_84 : decode cX8_meets 84 = .ok (.goto 5, 3) := by decide +kernel
theorem dX8_meets_87 : decode cX8_meets 87 = .ok (.iload 4, 2) := by decide +kernel
theorem dX8_meets_89 : decode cX8_meets 89 = .ok (.ireturn, 1) := by decide +kernel
theorem dX8_leads_0 : decode cX8_leads 0 = .ok (.iload_n 1, 1) := by decide +kernel
theorem dX8_leads_1 : decode cX8_leads 1 = .ok (.invokestatic 141, 3) := by decide +kernel
theorem dX8_leads_4 : decode cX8_leads 4 = .ok (.ifCond .eq 22, 3) := by decide +kernel
theorem dX8_leads_7 : decode cX8_leads 7 = .ok (.iload_n 2, 1) := by decide +kernel
theorem dX8_leads_8 : decode cX8_leads 8 = .ok (.iconst 1, 1) := by decide +kernel
theorem dX8_leads_9 : decode cX8_leads 9 = .ok (.bipush 60, 2) := by decide +kernel
theorem dX8_leads_11 : decode cX8_leads 11 = .ok (.invokestatic 82, 3) := by decide +kernel
theorem dX8_leads_14 : decode cX8_leads 14 = .ok (.ifCond .eq 12, 3) := by decide +kernel
theorem dX8_leads_17 : decode cX8_leads 17 = .ok (.iload_n 3, 1) := by decide +kernel
theorem dX8_leads_18 : decode cX8_leads 18 = .ok (.iconst 0, 1) := by decide +kernel
theorem dX8_leads_19 : decode cX8_leads 19 = .ok (.iconst 1, 1) := by decide +kernel
theorem dX8_leads_20 : decode cX8_leads 20 = .ok (.invokestatic 82, 3) := by decide +kernel
theorem dX8_leads_23 : decode cX8_leads 23 = .ok (.ifCond .ne 6, 3) := by decide +kernel
theorem dX8_leads_26 : decode cX8_leads 26 = .ok (.ldc 94, 2) := by decide +kernel
theorem dX8_leads_28 : decode cX8_leads 28 = .ok (.ireturn, 1) := by decide +kernel
theorem dX8_leads_29 : decode cX8_leads 29 = .ok (.aload_n 0, 1) := by decide +kernel
theorem dX8_leads_30 : decode cX8_leads 30 = .ok (.invokevirtual 178, 3) := by decide +kernel
theorem dX8_leads_33 : decode cX8_leads 33 = .ok (.iconst (-1), 1) := by decide +kernel
theorem dX8_leads_34 : decode cX8_leads 34 = .ok (.istore 4, 2) := by decide +kernel
theorem dX8_leads_36 : decode cX8_leads 36 = .ok (.iconst 0, 1) := by decide +kernel
theorem dX8_leads_37 : decode cX8_leads 37 = .ok (.istore 5, 2) := by decide +kernel
theorem dX8_leads_39 : decode cX8_leads 39 = .ok (.iconst 0, 1) := by decide +kernel
theorem dX8_leads_40 : decode cX8_leads 40 = .ok (.istore 6, 2) := by decide +kernel
theorem dX8_leads_42 : decode cX8_leads 42 = .ok (.iload 6, 2) := by decide +kernel
theorem dX8_leads_44 : decode cX8_leads 44 = .ok (.bipush 10, 2) := by decide +kernel
theorem dX8_leads_46 : decode cX8_leads 46 = .ok (.if_icmp .ge 57, 3) := by decide +kernel
theorem dX8_leads_49 : decode cX8_leads 49 = .ok (.aload_n 0, 1) := by decide +kernel
theorem dX8_leads_50 : decode cX8_leads 50 = .ok (.getfield 9, 3) := by decide +kernel
theorem dX8_leads_53 : decode cX8_leads 53 = .ok (.bipush 17, 2) := by decide +kernel
theorem dX8_leads_55 : decode cX8_leads 55 = .ok (.iload_n 1, 1) := by decide +kernel
theorem dX8_leads_56 : decode cX8_leads 56 = .ok (.iadd, 1) := by decide +kernel
theorem dX8_leads_57 : decode cX8_leads 57 = .ok (.iload 6, 2) := by decide +kernel
theorem dX8_leads_59 : decode cX8_leads 59 = .ok (.iastore, 1) := by decide +kernel
theorem dX8_leads_60 : decode cX8_leads 60 = .ok (.aload_n 0, 1) := by decide +kernel
theorem dX8_leads_61 : decode cX8_leads 61 = .ok (.iload_n 2, 1) := by decide +kernel
theorem dX8_leads_62 : decode cX8_leads 62 = .ok (.invokevirtual 169, 3) := by decide +kernel
theorem dX8_leads_65 : decode cX8_leads 65 = .ok (.aload_n 0, 1) := by decide +kernel
theorem dX8_leads_66 : decode cX8_leads 66 = .ok (.getfield 9, 3) := by decide +kernel
theorem dX8_leads_69 : decode cX8_leads 69 = .ok (.iconst 4, 1) := by decide +kernel
theorem dX8_leads_70 : decode cX8_leads 70 = .ok (.iaload, 1) := by decide +kernel
theorem dX8_leads_71 : decode cX8_leads 71 = .ok (.istore 7, 2) := by decide +kernel
theorem dX8_leads_73 : decode cX8_leads 73 = .ok (.aload_n 0, 1) := by decide +kernel
theorem dX8_leads_74 : decode cX8_leads 74 = .ok (.invokevirtual 181, 3) := by decide +kernel
theorem dX8_leads_77 : decode cX8_leads 77 = .ok (.iload 4, 2) := by decide +kernel
theorem dX8_leads_79 : decode cX8_leads 79 = .ok (.ifCond .lt 10, 3) := by decide +kernel
theorem dX8_leads_82 : decode cX8_leads 82 = .ok (.iload 7, 2) := by decide +kernel
theorem dX8_leads_84 : decode cX8_leads 84 = .ok (.iload 5, 2) := by decide +kernel
theorem dX8_leads_86 : decode cX8_leads 86 = .ok (.if_icmp .ge 11, 3) := by decide +kernel
theorem dX8_leads_89 : decode cX8_leads 89 = .ok (.iload 6, 2) := by decide +kernel
theorem dX8_leads_91 : decode cX8_leads 91 = .ok (.istore 4, 2) := by decide +kernel
theorem dX8_leads_93 : decode cX8_leads 93 = .ok (.iload 7, 2) := by decide +kernel
theorem dX8_leads_95 : decode cX8_leads 95 = .ok (.istore 5, 2) := by decide +kernel
theorem dX8_leads_97 : decode cX8_leads 97 = .ok (.iinc 6 1, 3) := by decide +kernel
theorem dX8_leads_100 : decode cX8_leads 100 = .ok (.goto (-58), 3) := by decide +kernel
theorem dX8_leads_103 : decode cX8_leads 103 = .ok (.iload_n 3, 1) := by decide +kernel
theorem dX8_leads_104 : decode cX8_leads 104 = .ok (.ifCond .ne 8, 3) := by decide +kernel
theorem dX8_leads_107 : decode cX8_leads 107 = .ok (.iload 4, 2) := by decide +kernel
theorem dX8_leads_109 : decode cX8_leads 109 = .ok (.goto 5, 3) := by decide +kernel
theorem dX8_leads_112 : decode cX8_leads 112 = .ok (.iload 5, 2) := by decide +kernel
theorem dX8_leads_114 : decode cX8_leads 114 = .ok (.ireturn, 1) := by decide +kernel
theorem dX8_whose_0 : decode cX8_whose 0 = .ok (.iload_n 1, 1) := by decide +kernel
theorem dX8_whose_1 : decode cX8_whose 1 = .ok (.invokestatic 184, 3) := by decide +kernel
theorem dX8_whose_4 : decode cX8_whose 4 = .ok (.ifCond .eq 12, 3) := by decide +kernel
theorem dX8_whose_7 : decode cX8_whose 7 = .ok (.iload_n 2, 1) := by decide +kernel
theorem dX8_whose_8 : decode cX8_whose 8 = .ok (.iconst 0, 1) := by decide +kernel
theorem dX8_whose_9 : decode cX8_whose 9 = .ok (.iconst 1, 1) := by decide +kernel
theorem dX8_whose_10 : decode cX8_whose 10 = .ok (.invokestatic 82, 3) := by decide +kernel
theorem dX8_whose_13 : decode cX8_whose 13 = .ok (.ifCond .ne 6, 3) := by decide +kernel
theorem dX8_whose_16 : decode cX8_whose 16 = .ok (.ldc 94, 2) := by decide +kernel
theorem dX8_whose_18 : decode cX8_whose 18 = .ok (.ireturn, 1) := by decide +kernel
theorem dX8_whose_19 : decode cX8_whose 19 = .ok (.aload_n 0, 1) := by decide +kernel
theorem dX8_whose_20 : decode cX8_whose 20 = .ok (.getfield 55, 3) := by decide +kernel
theorem dX8_whose_23 : decode cX8_whose 23 = .ok (.iload_n 1, 1) := by decide +kernel
theorem dX8_whose_24 : decode cX8_whose 24 = .ok (.iaload, 1) := by decide +kernel
theorem dX8_whose_25 : decode cX8_whose 25 = .ok (.ifCond .ge 6, 3) := by decide +kernel
theorem dX8_whose_28 : decode cX8_whose 28 = .ok (.ldc 187, 2) := by decide +kernel
theorem dX8_whose_30 : decode cX8_whose 30 = .ok (.ireturn, 1) := by decide +kernel
theorem dX8_whose_31 : decode cX8_whose 31 = .ok (.aload_n 0, 1) := by decide +kernel
theorem dX8_whose_32 : decode cX8_whose 32 = .ok (.invokevirtual 178, 3) := by decide +kernel
theorem dX8_whose_35 : decode cX8_whose 35 = .ok (.aload_n 0, 1) := by decide +kernel
theorem dX8_whose_36 : decode cX8_whose 36 = .ok (.getfield 9, 3) := by decide +kernel
theorem dX8_whose_39 : decode cX8_whose 39 = .ok (.iconst 1, 1) := by decide +kernel
theorem dX8_whose_40 : decode cX8_whose 40 = .ok (.iaload, 1) := by decide +kernel
theorem dX8_whose_41 : decode cX8_whose 41 = .ok (.istore_n 3, 1) := by decide +kernel
theorem dX8_whose_42 : decode cX8_whose 42 = .ok (.iconst 0, 1) := by decide +kernel
theorem dX8_whose_43 : decode cX8_whose 43 = .ok (.istore 4, 2) := by decide +kernel
theorem dX8_whose_45 : decode cX8_whose 45 = .ok (.iload 4, 2) := by decide +kernel
theorem dX8_whose_47 : decode cX8_whose 47 = .ok (.iload_n 3, 1) := by decide +kernel
theorem dX8_whose_48 : decode cX8_whose 48 = .ok (.if_icmp .ge 17, 3) := by decide +kernel
theorem dX8_whose_51 : decode cX8_whose 51 = .ok (.aload_n 0, 1) := by decide +kernel
theorem dX8_whose_52 : decode cX8_whose 52 = .ok (.getfield 25, 3) := by decide +kernel
theorem dX8_whose_55 : decode cX8_whose 55 = .ok (.iload 4, 2) := by decide +kernel
theorem dX8_whose_57 : decode cX8_whose 57 = .ok (.lconst 0, 1) := by decide +kernel
theorem dX8_whose_58 : decode cX8_whose 58 = .ok (.lastore, 1) := by decide +kernel
theorem dX8_whose_59 : decode cX8_whose 59 = .ok (.iinc 4 1, 3) := by decide +kernel
theorem dX8_whose_62 : decode cX8_whose 62 = .ok (.goto (-17), 3) := by decide +kernel
theorem dX8_whose_65 : decode cX8_whose 65 = .ok (.iconst 0, 1) := by decide +kernel
theorem dX8_whose_66 : decode cX8_whose 66 = .ok (.istore 4, 2) := by decide +kernel
theorem dX8_whose_68 : decode cX8_whose 68 = .ok (.iload 4, 2) := by decide +kernel
theorem dX8_whose_70 : decode cX8_whose 70 = .ok (.aload_n 0, 1) := by decide +kernel
theorem dX8_whose_71 : decode cX8_whose 71 = .ok (.getfield 58, 3) := by decide +kernel
theorem dX8_whose_74 : decode cX8_whose 74 = .ok (.iload_n 1, 1) := by decide +kernel
theorem dX8_whose_75 : decode cX8_whose 75 = .ok (.iaload, 1) := by decide +kernel
theorem dX8_whose_76 : decode cX8_whose 76 = .ok (.if_icmp .ge 92, 3) := by decide +kernel
theorem dX8_whose_79 : decode cX8_whose 79 = .ok (.aload_n 0, 1) := by decide +kernel
theorem dX8_whose_80 : decode cX8_whose 80 = .ok (.getfield 61, 3) := by decide +kernel
theorem dX8_whose_83 : decode cX8_whose 83 = .ok (.bipush 24, 2) := by decide +kernel
theorem dX8_whose_85 : decode cX8_whose 85 = .ok (.iload_n 1, 1) := by decide +kernel
theorem dX8_whose_86 : decode cX8_whose 86 = .ok (.imul, 1) := by decide +kernel
theorem dX8_whose_87 : decode cX8_whose 87 = .ok (.iload 4, 2) := by decide +kernel
theorem dX8_whose_89 : decode cX8_whose 89 = .ok (.iadd, 1) := by decide +kernel
theorem dX8_whose_90 : decode cX8_whose 90 = .ok (.iaload, 1) := by decide +kernel
theorem dX8_whose_91 : decode cX8_whose 91 = .ok (.istore 5, 2) := by decide +kernel
theorem dX8_whose_93 : decode cX8_whose 93 = .ok (.iconst 0, 1) := by decide +kernel
theorem dX8_whose_94 : decode cX8_whose 94 = .ok (.istore 6, 2) := by decide +kernel
theorem dX8_whose_96 : decode cX8_whose 96 = .ok (.iload 6, 2) := by decide +kernel
theorem dX8_whose_98 : decode cX8_whose 98 = .ok (.iload_n 3, 1) := by decide +kernel
theorem dX8_whose_99 : decode cX8_whose 99 = .ok (.if_icmp .ge 59, 3) := by decide +kernel
theorem dX8_whose_102 : decode cX8_whose 102 = .ok (.iload 5, 2) := by decide +kernel
theorem dX8_whose_104 : decode cX8_whose 104 = .ok (.i2l, 1) := by decide +kernel
theorem dX8_whose_105 : decode cX8_whose 105 = .ok (.aload_n 0, 1) := by decide +kernel
theorem dX8_whose_106 : decode cX8_whose 106 = .ok (.iload 6, 2) := by decide +kernel
theorem dX8_whose_108 : decode cX8_whose 108 = .ok (.iconst 2, 1) := by decide +kernel
theorem dX8_whose_109 : decode cX8_whose 109 = .ok (.invokevirtual 104, 3) := by decide +kernel
theorem dX8_whose_112 : decode cX8_whose 112 = .ok (.i2l, 1) := by decide +kernel
theorem dX8_whose_113 : decode cX8_whose 113 = .ok (.lsub, 1) := by decide +kernel
theorem dX8_whose_114 : decode cX8_whose 114 = .ok (.lstore 7, 2) := by decide +kernel
theorem dX8_whose_116 : decode cX8_whose 116 = .ok (.aload_n 0, 1) := by decide +kernel
theorem dX8_whose_117 : decode cX8_whose 117 = .ok (.getfield 25, 3) := by decide +kernel
theorem dX8_whose_120 : decode cX8_whose 120 = .ok (.iload 6, 2) := by decide +kernel
theorem dX8_whose_122 : decode cX8_whose 122 = .ok (.dup2, 1) := by decide +kernel
theorem dX8_whose_123 : decode cX8_whose 123 = .ok (.laload, 1) := by decide +kernel
theorem dX8_whose_124 : decode cX8_whose 124 = .ok (.iload 5, 2) := by decide +kernel
theorem dX8_whose_126 : decode cX8_whose 126 = .ok (.ldc 150, 2) := by decide +kernel
theorem dX8_whose_128 : decode cX8_whose 128 = .ok (.if_icmp .ne 7, 3) := by decide +kernel
theorem dX8_whose_131 : decode cX8_whose 131 = .ok (.lconst 0, 1) := by decide +kernel
theorem dX8_whose_132 : decode cX8_whose 132 = .ok (.goto 18, 3) := by decide +kernel
theorem dX8_whose_135 : decode cX8_whose 135 = .ok (.lload 7, 2) := by decide +kernel
theorem dX8_whose_137 : decode cX8_whose 137 = .ok (.lconst 0, 1) := by decide +kernel
theorem dX8_whose_138 : decode cX8_whose 138 = .ok (.lcmp, 1) := by decide +kernel
theorem dX8_whose_139 : decode cX8_whose 139 = .ok (.ifCond .ge 9, 3) := by decide +kernel
theorem dX8_whose_142 : decode cX8_whose 142 = .ok (.lload 7, 2) := by decide +kernel
theorem dX8_whose_144 : decode cX8_whose 144 = .ok (.lneg, 1) := by decide +kernel
theorem dX8_whose_145 : decode cX8_whose 145 = .ok (.goto 5, 3) := by decide +kernel
theorem dX8_whose_148 : decode cX8_whose 148 = .ok (.lload 7, 2) := by decide +kernel
theorem dX8_whose_150 : decode cX8_whose 150 = .ok (.ladd, 1) := by decide +kernel
theorem dX8_whose_151 : decode cX8_whose 151 = .ok (.lastore, 1) := by decide +kernel
theorem dX8_whose_152 : decode cX8_whose 152 = .ok (.iinc 6 1, 3) := by decide +kernel
theorem dX8_whose_155 : decode cX8_whose 155 = .ok (.goto (-59), 3) := by decide +kernel
theorem dX8_whose_158 : decode cX8_whose 158 = .ok (.aload_n 0, 1) := by decide +kernel
theorem dX8_whose_159 : decode cX8_whose 159 = .ok (.invokevirtual 163, 3) := by decide +kernel
theorem dX8_whose_162 : decode cX8_whose 162 = .ok (.iinc 4 1, 3) := by decide +kernel
theorem dX8_whose_165 : decode cX8_whose 165 = .ok (.goto (-97), 3) := by decide +kernel
theorem dX8_whose_168 : decode cX8_whose 168 = .ok (.aload_n 0, 1) := by decide +kernel
theorem dX8_whose_169 : decode cX8_whose 169 = .ok (.invokevirtual 181, 3) := by decide +kernel
theorem dX8_whose_172 : decode cX8_whose 172 = .ok (.iconst 0, 1) := by decide +kernel
theorem dX8_whose_173 : decode cX8_whose 173 = .ok (.istore 4, 2) := by decide +kernel
theorem dX8_whose_175 : decode cX8_whose 175 = .ok (.iconst 1, 1) := by decide +kernel
theorem dX8_whose_176 : decode cX8_whose 176 = .ok (.istore 5, 2) := by decide +kernel
theorem dX8_whose_178 : decode cX8_whose 178 = .ok (.iload 5, 2) := by decide +kernel
theorem dX8_whose_180 : decode cX8_whose 180 = .ok (.iload_n 3, 1) := by decide +kernel
theorem dX8_whose_181 : decode cX8_whose 181 = .ok (.if_icmp .ge 36, 3) := by decide +kernel
theorem dX8_whose_184 : decode cX8_whose 184 = .ok (.aload_n 0, 1) := by decide +kernel
theorem dX8_whose_185 : decode cX8_whose 185 = .ok (.getfield 25, 3) := by decide +kernel
theorem dX8_whose_188 : decode cX8_whose 188 = .ok (.iload 5, 2) := by decide +kernel
theorem dX8_whose_190 : decode cX8_whose 190 = .ok (.laload, 1) := by decide +kernel
theorem dX8_whose_191 : decode cX8_whose 191 = .ok (.aload_n 0, 1) := by decide +kernel
theorem dX8_whose_192 : decode cX8_whose 192 = .ok (.getfield 25, 3) := by decide +kernel
theorem dX8_whose_195 : decode cX8_whose 195 = .ok (.iload 4, 2) := by decide +kernel
theorem dX8_whose_197 : decode cX8_whose 197 = .ok (.laload, 1) := by decide +kernel
theorem dX8_whose_198 : decode cX8_whose 198 = .ok (.lcmp, 1) := by decide +kernel
theorem dX8_whose_199 : decode cX8_whose 199 = .ok (.ifCond .ge 8, 3) := by decide +kernel
theorem dX8_whose_202 : decode cX8_whose 202 = .ok (.iload 5, 2) := by decide +kernel
theorem dX8_whose_204 : decode cX8_whose 204 = .ok (.goto 5, 3) := by decide +kernel
theorem dX8_whose_207 : decode cX8_whose 207 = .ok (.iload 4, 2) := by decide +kernel
theorem dX8_whose_209 : decode cX8_whose 209 = .ok (.istore 4, 2) := by decide +kernel
theorem dX8_whose_211 : decode cX8_whose 211 = .ok (.iinc 5 1, 3) := by decide +kernel
theorem dX8_whose_214 : decode cX8_whose 214 = .ok (.goto (-36), 3) := by decide +kernel
theorem dX8_whose_217 : decode cX8_whose 217 = .ok (.iload_n 3, 1) := by decide +kernel
theorem dX8_whose_218 : decode cX8_whose 218 = .ok (.ifCond .ne 8, 3) := by decide +kernel
theorem dX8_whose_221 : decode cX8_whose 221 = .ok (.ldc 150, 2) := by decide +kernel
theorem dX8_whose_223 : decode cX8_whose 223 = .ok (.goto 20, 3) := by decide +kernel
theorem dX8_whose_226 : decode cX8_whose 226 = .ok (.iload_n 2, 1) := by decide +kernel
theorem dX8_whose_227 : decode cX8_whose 227 = .ok (.ifCond .ne 8, 3) := by decide +kernel
theorem dX8_whose_230 : decode cX8_whose 230 = .ok (.iload 4, 2) := by decide +kernel
theorem dX8_whose_232 : decode cX8_whose 232 = .ok (.goto 11, 3) := by decide +kernel
theorem dX8_whose_235 : decode cX8_whose 235 = .ok (.aload_n 0, 1) := by decide +kernel
theorem dX8_whose_236 : decode cX8_whose 236 = .ok (.getfield 25, 3) := by decide +kernel
theorem dX8_whose_239 : decode cX8_whose 239 = .ok (.iload 4, 2) := by decide +kernel
theorem dX8_whose_241 : decode cX8_whose 241 = .ok (.laload, 1) := by decide +kernel
theorem dX8_whose_242 : decode cX8_whose 242 = .ok (.l2i, 1) := by decide +kernel
theorem dX8_whose_243 : decode cX8_whose 243 = .ok (.ireturn, 1) := by decide +kernel
theorem dX8_fee_0 : decode cX8_fee 0 = .ok (.aload_n 0, 1) := by decide +kernel
theorem dX8_fee_1 : decode cX8_fee 1 = .ok (.iconst 1, 1) := by decide +kernel
theorem dX8_fee_2 : decode cX8_fee 2 = .ok (.invokevirtual 100, 3) := by decide +kernel
theorem dX8_fee_5 : decode cX8_fee 5 = .ok (.istore_n 1, 1) := by decide +kernel
theorem dX8_fee_6 : decode cX8_fee 6 = .ok (.aload_n 0, 1) := by decide +kernel
theorem dX8_fee_7 : decode cX8_fee 7 = .ok (.getfield 52, 3) := by decide +kernel
theorem dX8_fee_10 : decode cX8_fee 10 = .ok (.iconst 0, 1) := by decide +kernel
theorem dX8_fee_11 : decode cX8_fee 11 = .ok (.aload_n 0, 1) := by decide +kernel
theorem dX8_fee_12 : decode cX8_fee 12 = .ok (.getfield 9, 3) := by decide +kernel
theorem dX8_fee_15 : decode cX8_fee 15 = .ok (.iconst 4, 1) := by decide +kernel
theorem dX8_fee_16 : decode cX8_fee 16 = .ok (.iaload, 1) := by decide +kernel
theorem dX8_fee_17 : decode cX8_fee 17 = .ok (.iastore, 1) := by decide +kernel
theorem dX8_fee_18 : decode cX8_fee 18 = .ok (.aload_n 0, 1) := by decide +kernel
theorem dX8_fee_19 : decode cX8_fee 19 = .ok (.getfield 52, 3) := by decide +kernel
theorem dX8_fee_22 : decode cX8_fee 22 = .ok (.iconst 1, 1) := by decide +kernel
theorem dX8_fee_23 : decode cX8_fee 23 = .ok (.aload_n 0, 1) := by decide +kernel
theorem dX8_fee_24 : decode cX8_fee 24 = .ok (.getfield 9, 3) := by decide +kernel
theorem dX8_fee_27 : decode cX8_fee 27 = .ok (.iconst 5, 1) := by decide +kernel
theorem dX8_fee_28 : decode cX8_fee 28 = .ok (.iaload, 1) := by decide +kernel
theorem dX8_fee_29 : decode cX8_fee 29 = .ok (.iastore, 1) := by decide +kernel
theorem dX8_fee_30 : decode cX8_fee 30 = .ok (.iload_n 1, 1) := by decide +kernel
theorem dX8_fee_31 : decode cX8_fee 31 = .ok (.ifCond .ge 12, 3) := by decide +kernel
theorem dX8_fee_34 : decode cX8_fee 34 = .ok (.aload_n 0, 1) := by decide +kernel
theorem dX8_fee_35 : decode cX8_fee 35 = .ok (.getfield 9, 3) := by decide +kernel
theorem dX8_fee_38 : decode cX8_fee 38 = .ok (.iconst 4, 1) := by decide +kernel
theorem dX8_fee_39 : decode cX8_fee 39 = .ok (.iaload, 1) := by decide +kernel
theorem dX8_fee_40 : decode cX8_fee 40 = .ok (.goto 8, 3) := by decide +kernel
theorem dX8_fee_43 : decode cX8_fee 43 = .ok (.aload_n 0, 1) := by decide +kernel
theorem dX8_fee_44 : decode cX8_fee 44 = .ok (.iload_n 1, 1) := by decide +kernel
theorem dX8_fee_45 : decode cX8_fee 45 = .ok (.invokevirtual 108, 3) := by decide +kernel
theorem dX8_fee_48 : decode cX8_fee 48 = .ok (.ireturn, 1) := by decide +kernel
theorem dX8_fine_0 : decode cX8_fine 0 = .ok (.aload_n 0, 1) := by decide +kernel
theorem dX8_fine_1 : decode cX8_fine 1 = .ok (.iload_n 1, 1) := by decide +kernel
theorem dX8_fine_2 : decode cX8_fine 2 = .ok (.invokevirtual 115, 3) := by decide +kernel
theorem dX8_fine_5 : decode cX8_fine 5 = .ok (.ifCond .ne 6, 3) := by decide +kernel
theorem dX8_fine_8 : decode cX8_fine 8 = .ok (.ldc 94, 2) := by decide +kernel
theorem dX8_fine_10 : decode cX8_fine 10 = .ok (.ireturn, 1) := by decide +kernel
theorem dX8_fine_11 : decode cX8_fine 11 = .ok (.aload_n 0, 1) := by decide +kernel
theorem dX8_fine_12 : decode cX8_fine 12 = .ok (.iconst 2, 1) := by decide +kernel
theorem dX8_fine_13 : decode cX8_fine 13 = .ok (.invokevirtual 100, 3) := by decide +kernel
theorem dX8_fine_16 : decode cX8_fine 16 = .ok (.istore_n 2, 1) := by decide +kernel
theorem dX8_fine_17 : decode cX8_fine 17 = .ok (.aload_n 0, 1) := by decide +kernel
theorem dX8_fine_18 : decode cX8_fine 18 = .ok (.getfield 52, 3) := by decide +kernel
theorem dX8_fine_21 : decode cX8_fine 21 = .ok (.iconst 0, 1) := by decide +kernel
theorem dX8_fine_22 : decode cX8_fine 22 = .ok (.aload_n 0, 1) := by decide +kernel
theorem dX8_fine_23 : decode cX8_fine 23 = .ok (.iload_n 1, 1) := by decide +kernel
theorem dX8_fine_24 : decode cX8_fine 24 = .ok (.iconst 2, 1) := by decide +kernel
theorem dX8_fine_25 : decode cX8_fine 25 = .ok (.invokevirtual 104, 3) := by decide +kernel
theorem dX8_fine_28 : decode cX8_fine 28 = .ok (.iastore, 1) := by decide +kernel
theorem dX8_fine_29 : decode cX8_fine 29 = .ok (.aload_n 0, 1) := by decide +kernel
theorem dX8_fine_30 : decode cX8_fine 30 = .ok (.getfield 52, 3) := by decide +kernel
theorem dX8_fine_33 : decode cX8_fine 33 = .ok (.iconst 1, 1) := by decide +kernel
theorem dX8_fine_34 : decode cX8_fine 34 = .ok (.aload_n 0, 1) := by decide +kernel
theorem dX8_fine_35 : decode cX8_fine 35 = .ok (.iload_n 1, 1) := by decide +kernel
theorem dX8_fine_36 : decode cX8_fine 36 = .ok (.iconst 4, 1) := by decide +kernel
theorem dX8_fine_37 : decode cX8_fine 37 = .ok (.invokevirtual 104, 3) := by decide +kernel
theorem dX8_fine_40 : decode cX8_fine 40 = .ok (.iastore, 1) := by decide +kernel
theorem dX8_fine_41 : decode cX8_fine 41 = .ok (.iload_n 2, 1) := by decide +kernel
theorem dX8_fine_42 : decode cX8_fine 42 = .ok (.ifCond .ge 12, 3) := by decide +kernel
theorem dX8_fine_45 : decode cX8_fine 45 = .ok (.aload_n 0, 1) := by decide +kernel
theorem dX8_fine_46 : decode cX8_fine 46 = .ok (.iload_n 1, 1) := by decide +kernel
theorem dX8_fine_47 : decode cX8_fine 47 = .ok (.iconst 4, 1) := by decide +kernel
theorem dX8_fine_48 : decode cX8_fine 48 = .ok (.invokevirtual 104, 3) := by decide +kernel
theorem dX8_fine_51 : decode cX8_fine 51 = .ok (.goto 8, 3) := by decide +kernel
theorem dX8_fine_54 : decode cX8_fine 54 = .ok (.aload_n 0, 1) := by decide +kernel
theorem dX8_fine_55 : decode cX8_fine 55 = .ok (.iload_n 2, 1) := by decide +kernel
theorem dX8_fine_56 : decode cX8_fine 56 = .ok (.invokevirtual 108, 3) := by decide +kernel
theorem dX8_fine_59 : decode cX8_fine 59 = .ok (.ireturn, 1) := by decide +kernel
theorem dX8_feed_0 : decode cX8_feed 0 = .ok (.aload_n 0, 1) := by decide +kernel
theorem dX8_feed_1 : decode cX8_feed 1 = .ok (.getfield 188, 3) := by decide +kernel
theorem dX8_feed_4 : decode cX8_feed 4 = .ok (.bipush 12, 2) := by decide +kernel
theorem dX8_feed_6 : decode cX8_feed 6 = .ok (.iadd, 1) := by decide +kernel
theorem dX8_feed_7 : decode cX8_feed 7 = .ok (.bipush 96, 2) := by decide +kernel
theorem dX8_feed_9 : decode cX8_feed 9 = .ok (.if_icmp .le 6, 3) := by decide +kernel
theorem dX8_feed_12 : decode cX8_feed 12 = .ok (.ldc 95, 2) := by decide +kernel
theorem dX8_feed_14 : decode cX8_feed 14 = .ok (.ireturn, 1) := by decide +kernel
theorem dX8_feed_15 : decode cX8_feed 15 = .ok (.iconst 0, 1) := by decide +kernel
theorem dX8_feed_16 : decode cX8_feed 16 = .ok (.istore 4, 2) := by decide +kernel
theorem dX8_feed_18 : decode cX8_feed 18 = .ok (.iload 4, 2) := by decide +kernel
theorem dX8_feed_20 : decode cX8_feed 20 = .ok (.bipush 12, 2) := by decide +kernel
theorem dX8_feed_22 : decode cX8_feed 22 = .ok (.if_icmp .ge 62, 3) := by decide +kernel
theorem dX8_feed_25 : decode cX8_feed 25 = .ok (.iload 4, 2) := by decide +kernel
theorem dX8_feed_27 : decode cX8_feed 27 = .ok (.iconst 4, 1) := by decide +kernel
theorem dX8_feed_28 : decode cX8_feed 28 = .ok (.if_icmp .ge 7, 3) := by decide +kernel
theorem dX8_feed_31 : decode cX8_feed 31 = .ok (.iload_n 1, 1) := by decide +kernel
theorem dX8_feed_32 : decode cX8_feed 32 = .ok (.goto 15, 3) := by decide +kernel
theorem dX8_feed_35 : decode cX8_feed 35 = .ok (.iload 4, 2) := by decide +kernel
theorem dX8_feed_37 : decode cX8_feed 37 = .ok (.bipush 8, 2) := by decide +kernel
theorem dX8_feed_39 : decode cX8_feed 39 = .ok (.if_icmp .ge 7, 3) := by decide +kernel
theorem dX8_feed_42 : decode cX8_feed 42 = .ok (.iload_n 2, 1) := by decide +kernel
theorem dX8_feed_43 : decode cX8_feed 43 = .ok (.goto 4, 3) := by decide +kernel
theorem dX8_feed_46 : decode cX8_feed 46 = .ok (.iload_n 3, 1) := by decide +kernel
theorem dX8_feed_47 : decode cX8_feed 47 = .ok (.istore 5, 2) := by decide +kernel
theorem dX8_feed_49 : decode cX8_feed 49 = .ok (.aload_n 0, 1) := by decide +kernel
theorem dX8_feed_50 : decode cX8_feed 50 = .ok (.getfield 29, 3) := by decide +kernel
theorem dX8_feed_53 : decode cX8_feed 53 = .ok (.aload_n 0, 1) := by decide +kernel
theorem dX8_feed_54 : decode cX8_feed 54 = .ok (.getfield 188, 3) := by decide +kernel
theorem dX8_feed_57 : decode cX8_feed 57 = .ok (.iload 4, 2) := by decide +kernel
theorem dX8_feed_59 : decode cX8_feed 59 = .ok (.iadd, 1) := by decide +kernel
theorem dX8_feed_60 : decode cX8_feed 60 = .ok (.iload 5, 2) := by decide +kernel
theorem dX8_feed_62 : decode cX8_feed 62 = .ok (.bipush 24, 2) := by decide +kernel
theorem dX8_feed_64 : decode cX8_feed 64 = .ok (.bipush 8, 2) := by decide +kernel
theorem dX8_feed_66 : decode cX8_feed 66 = .ok (.iload 4, 2) := by decide +kernel
theorem dX8_feed_68 : decode cX8_feed 68 = .ok (.iconst 4, 1) := by decide +kernel
theorem dX8_feed_69 : decode cX8_feed 69 = .ok (.irem, 1) := by decide +kernel
theorem dX8_feed_70 : decode cX8_feed 70 = .ok (.imul, 1) := by decide +kernel
theorem dX8_feed_71 : decode cX8_feed 71 = .ok (.isub, 1) := by decide +kernel
theorem dX8_feed_72 : decode cX8_feed 72 = .ok (.ishr, 1) := by decide +kernel
theorem dX8_feed_73 : decode cX8_feed 73 = .ok (.sipush 255, 3) := by decide +kernel
theorem dX8_feed_76 : decode cX8_feed 76 = .ok (.iand, 1) := by decide +kernel
theorem dX8_feed_77 : decode cX8_feed 77 = .ok (.iastore, 1) := by decide +kernel
theorem dX8_feed_78 : decode cX8_feed 78 = .ok (.iinc 4 1, 3) := by decide +kernel
theorem dX8_feed_81 : decode cX8_feed 81 = .ok (.goto (-63), 3) := by decide +kernel
theorem dX8_feed_84 : decode cX8_feed 84 = .ok (.aload_n 0, 1) := by decide +kernel
theorem dX8_feed_85 : decode cX8_feed 85 = .ok (.dup, 1) := by decide +kernel
theorem dX8_feed_86 : decode cX8_feed 86 = .ok (.getfield 188, 3) := by decide +kernel
theorem dX8_feed_89 : decode cX8_feed 89 = .ok (.bipush 12, 2) := by decide +kernel
theorem dX8_feed_91 : decode cX8_feed 91 = .ok (.iadd, 1) := by decide +kernel
theorem dX8_feed_92 : decode cX8_feed 92 = .ok (.putfield 188, 3) := by decide +kernel
theorem dX8_feed_95 : decode cX8_feed 95 = .ok (.aload_n 0, 1) := by decide +kernel
theorem dX8_feed_96 : decode cX8_feed 96 = .ok (.getfield 188, 3) := by decide +kernel
theorem dX8_feed_99 : decode cX8_feed 99 = .ok (.ireturn, 1) := by decide +kernel
theorem dX8_trim_0 : decode cX8_trim 0 = .ok (.iload_n 1, 1) := by decide +kernel
theorem dX8_trim_1 : decode cX8_trim 1 = .ok (.iconst 0, 1) := by decide +kernel
theorem dX8_trim_2 : decode cX8_trim 2 = .ok (.aload_n 0, 1) := by decide +kernel
theorem dX8_trim_3 : decode cX8_trim 3 = .ok (.getfield 188, 3) := by decide +kernel
theorem dX8_trim_6 : decode cX8_trim 6 = .ok (.invokestatic 82, 3) := by decide +kernel
theorem dX8_trim_9 : decode cX8_trim 9 = .ok (.ifCond .ne 6, 3) := by decide +kernel
theorem dX8_trim_12 : decode cX8_trim 12 = .ok (.ldc 94, 2) := by decide +kernel
theorem dX8_trim_14 : decode cX8_trim 14 = .ok (.ireturn, 1) := by decide +kernel
theorem dX8_trim_15 : decode cX8_trim 15 = .ok (.aload_n 0, 1) := by decide +kernel
theorem dX8_trim_16 : decode cX8_trim 16 = .ok (.iload_n 1, 1) := by decide +kernel
theorem dX8_trim_17 : decode cX8_trim 17 = .ok (.putfield 188, 3) := by decide +kernel
theorem dX8_trim_20 : decode cX8_trim 20 = .ok (.iload_n 1, 1) := by decide +kernel
theorem dX8_trim_21 : decode cX8_trim 21 = .ok (.ireturn, 1) := by decide +kernel
theorem dX8_isLetter_0 : decode cX8_isLetter 0 = .ok (.iload_n 1, 1) := by decide +kernel
theorem dX8_isLetter_1 : decode cX8_isLetter 1 = .ok (.aload_n 0, 1) := by decide +kernel
theorem dX8_isLetter_2 : decode cX8_isLetter 2 = .ok (.getfield 188, 3) := by decide +kernel
theorem dX8_isLetter_5 : decode cX8_isLetter 5 = .ok (.if_icmp .ge 29, 3) := by decide +kernel
theorem dX8_isLetter_8 : decode cX8_isLetter 8 = .ok (.aload_n 0, 1) := by decide +kernel
theorem dX8_isLetter_9 : decode cX8_isLetter 9 = .ok (.getfield 29, 3) := by decide +kernel
theorem dX8_isLetter_12 : decode cX8_isLetter 12 = .ok (.iload_n 1, 1) := by decide +kernel
theorem dX8_isLetter_13 : decode cX8_isLetter 13 = .ok (.iaload, 1) := by decide +kernel
theorem dX8_isLetter_14 : decode cX8_isLetter 14 = .ok (.bipush 97, 2) := by decide +kernel
theorem dX8_isLetter_16 : decode cX8_isLetter 16 = .ok (.if_icmp .lt 18, 3) := by decide +kernel
theorem dX8_isLetter_19 : decode cX8_isLetter 19 = .ok (.aload_n 0, 1) := by decide +kernel
theorem dX8_isLetter_20 : decode cX8_isLetter 20 = .ok (.getfield 29, 3) := by decide +kernel
theorem dX8_isLetter_23 : decode cX8_isLetter 23 = .ok (.iload_n 1, 1) := by decide +kernel
theorem dX8_isLetter_24 : decode cX8_isLetter 24 = .ok (.iaload, 1) := by decide +kernel
theorem dX8_isLetter_25 : decode cX8_isLetter 25 = .ok (.bipush 122, 2) := by decide +kernel
theorem dX8_isLetter_27 : decode cX8_isLetter 27 = .ok (.if_icmp .gt 7, 3) := by decide +kernel
theorem dX8_isLetter_30 : decode cX8_isLetter 30 = .ok (.iconst 1, 1) := by decide +kernel
theorem dX8_isLetter_31 : decode cX8_isLetter 31 = .ok (.goto 4, 3) := by decide +kernel
theorem dX8_isLetter_34 : decode cX8_isLetter 34 = .ok (.iconst 0, 1) := by decide +kernel
theorem dX8_isLetter_35 : decode cX8_isLetter 35 = .ok (.ireturn, 1) := by decide +kernel
theorem dX8_isFigure_0 : decode cX8_isFigure 0 = .ok (.iload_n 1, 1) := by decide +kernel
theorem dX8_isFigure_1 : decode cX8_isFigure 1 = .ok (.aload_n 0, 1) := by decide +kernel
theorem dX8_isFigure_2 : decode cX8_isFigure 2 = .ok (.getfield 188, 3) := by decide +kernel
theorem dX8_isFigure_5 : decode cX8_isFigure 5 = .ok (.if_icmp .ge 29, 3) := by decide +kernel
theorem dX8_isFigure_8 : decode cX8_isFigure 8 = .ok (.aload_n 0, 1) := by decide +kernel
theorem dX8_isFigure_9 : decode cX8_isFigure 9 = .ok (.getfield 29, 3) := by decide +kernel
theorem dX8_isFigure_12 : decode cX8_isFigure 12 = .ok (.iload_n 1, 1) := by decide +kernel
theorem dX8_isFigure_13 : decode cX8_isFigure 13 = .ok (.iaload, 1) := by decide +kernel
theorem dX8_isFigure_14 : decode cX8_isFigure 14 = .ok (.bipush 48, 2) := by decide +kernel
theorem dX8_isFigure_16 : decode cX8_isFigure 16 = .ok (.if_icmp .lt 18, 3) := by decide +kernel
theorem dX8_isFigure_19 : decode cX8_isFigure 19 = .ok (.aload_n 0, 1) := by decide +kernel
theorem dX8_isFigure_20 : decode cX8_isFigure 20 = .ok (.getfield 29, 3) := by decide +kernel
theorem dX8_isFigure_23 : decode cX8_isFigure 23 = .ok (.iload_n 1, 1) := by decide +kernel
theorem dX8_isFigure_24 : decode cX8_isFigure 24 = .ok (.iaload, 1) := by decide +kernel
theorem dX8_isFigure_25 : decode cX8_isFigure 25 = .ok (.bipush 57, 2) := by decide +kernel
theorem dX8_isFigure_27 : decode cX8_isFigure 27 = .ok (.if_icmp .gt 7, 3) := by decide +kernel
theorem dX8_isFigure_30 : decode cX8_isFigure 30 = .ok (.iconst 1, 1) := by decide +kernel
theorem dX8_isFigure_31 : decode cX8_isFigure 31 = .ok (.goto 4, 3) := by decide +kernel
theorem dX8_isFigure_34 : decode cX8_isFigure 34 = .ok (.iconst 0, 1) := by decide +kernel
theorem dX8_isFigure_35 : decode cX8_isFigure 35 = .ok (.ireturn, 1) := by decide +kernel
theorem dX8_go_0 : decode cX8_go 0 = .ok (.aload_n 0, 1) := by decide +kernel
theorem dX8_go_1 : decode cX8_go 1 = .ok (.getfield 192, 3) := by decide +kernel
theorem dX8_go_4 : decode cX8_go 4 = .ok (.aload_n 0, 1) := by decide +kernel
theorem dX8_go_5 : decode cX8_go 5 = .ok (.getfield 188, 3) := by decide +kernel
theorem dX8_go_8 : decode cX8_go 8 = .ok (.if_icmp .ge 30, 3) := by decide +kernel
theorem dX8_go_11 : decode cX8_go 11 = .ok (.aload_n 0, 1) := by decide +kernel
theorem dX8_go_12 : decode cX8_go 12 = .ok (.getfield 29, 3) := by decide +kernel
theorem dX8_go_15 : decode cX8_go 15 = .ok (.aload_n 0, 1) := by decide +kernel
theorem dX8_go_16 : decode cX8_go 16 = .ok (.getfield 192, 3) := by decide +kernel
theorem dX8_go_19 : decode cX8_go 19 = .ok (.iaload, 1) := by decide +kernel
theorem dX8_go_20 : decode cX8_go 20 = .ok (.bipush 32, 2) := by decide +kernel
theorem dX8_go_22 : decode cX8_go 22 = .ok (.if_icmp .ne 16, 3) := by decide +kernel
theorem dX8_go_25 : decode cX8_go 25 = .ok (.aload_n 0, 1) := by decide +kernel
theorem dX8_go_26 : decode cX8_go 26 = .ok (.dup, 1) := by decide +kernel
theorem dX8_go_27 : decode cX8_go 27 = .ok (.getfield 192, 3) := by decide +kernel
theorem dX8_go_30 : decode cX8_go 30 = .ok (.iconst 1, 1) := by decide +kernel
theorem dX8_go_31 : decode cX8_go 31 = .ok (.iadd, 1) := by decide +kernel
theorem dX8_go_32 : decode cX8_go 32 = .ok (.putfield 192, 3) := by decide +kernel
theorem dX8_go_35 : decode cX8_go 35 = .ok (.goto (-35), 3) := by decide +kernel
theorem dX8_go_38 : decode cX8_go 38 = .ok (.aload_n 0, 1) := by decide +kernel
theorem dX8_go_39 : decode cX8_go 39 = .ok (.aload_n 0, 1) := by decide +kernel
theorem dX8_go_40 : decode cX8_go 40 = .ok (.getfield 192, 3) := by decide +kernel
theorem dX8_go_43 : decode cX8_go 43 = .ok (.putfield 195, 3) := by decide +kernel
theorem dX8_go_46 : decode cX8_go 46 = .ok (.aload_n 0, 1) := by decide +kernel
theorem dX8_go_47 : decode cX8_go 47 = .ok (.getfield 195, 3) := by decide +kernel
theorem dX8_go_50 : decode cX8_go 50 = .ok (.aload_n 0, 1) := by decide +kernel
theorem dX8_go_51 : decode cX8_go 51 = .ok (.getfield 198, 3) := by decide +kernel
theorem dX8_go_54 : decode cX8_go 54 = .ok (.if_icmp .ne 7, 3) := by decide +kernel
theorem dX8_go_57 : decode cX8_go 57 = .ok (.iconst 1, 1) := by decide +kernel
theorem dX8_go_58 : decode cX8_go 58 = .ok (.goto 4, 3) := by decide +kernel
theorem dX8_go_61 : decode cX8_go 61 = .ok (.iconst 0, 1) := by decide +kernel
theorem dX8_go_62 : decode cX8_go 62 = .ok (.istore_n 1, 1) := by decide +kernel
theorem dX8_go_63 : decode cX8_go 63 = .ok (.aload_n 0, 1) := by decide +kernel
theorem dX8_go_64 : decode cX8_go 64 = .ok (.getfield 195, 3) := by decide +kernel
theorem dX8_go_67 : decode cX8_go 67 = .ok (.aload_n 0, 1) := by decide +kernel
theorem dX8_go_68 : decode cX8_go 68 = .ok (.getfield 188, 3) := by decide +kernel
theorem dX8_go_71 : decode cX8_go 71 = .ok (.if_icmp .ne 11, 3) := by decide +kernel
theorem dX8_go_74 : decode cX8_go 74 = .ok (.aload_n 0, 1) := by decide +kernel
theorem dX8_go_75 : decode cX8_go 75 = .ok (.iconst 0, 1) := by decide +kernel
theorem dX8_go_76 : decode cX8_go 76 = .ok (.putfield 201, 3) := by decide +kernel
theorem dX8_go_79 : decode cX8_go 79 = .ok (.goto 224, 3) := by decide +kernel
theorem dX8_go_82 : decode cX8_go 82 = .ok (.aload_n 0, 1) := by decide +kernel
theorem dX8_go_83 : decode cX8_go 83 = .ok (.aload_n 0, 1) := by decide +kernel
theorem dX8_go_84 : decode cX8_go 84 = .ok (.getfield 195, 3) := by decide +kernel
theorem dX8_go_87 : decode cX8_go 87 = .ok (.invokevirtual 204, 3) := by decide +kernel
theorem dX8_go_90 : decode cX8_go 90 = .ok (.ifCond .eq 64, 3) := by decide +kernel
theorem dX8_go_93 : decode cX8_go 93 = .ok (.aload_n 0, 1) := by decide +kernel
theorem dX8_go_94 : decode cX8_go 94 = .ok (.aload_n 0, 1) := by decide +kernel
theorem dX8_go_95 : decode cX8_go 95 = .ok (.getfield 192, 3) := by decide +kernel
theorem dX8_go_98 : decode cX8_go 98 = .ok (.invokevirtual 204, 3) := by decide +kernel
theorem dX8_go_101 : decode cX8_go 101 = .ok (.ifCond .eq 16, 3) := by decide +kernel
theorem dX8_go_104 : decode cX8_go 104 = .ok (.aload_n 0, 1) := by decide +kernel
theorem dX8_go_105 : decode cX8_go 105 = .ok (.dup, 1) := by decide +kernel
theorem dX8_go_106 : decode cX8_go 106 = .ok (.getfield 192, 3) := by decide +kernel
theorem dX8_go_109 : decode cX8_go 109 = .ok (.iconst 1, 1) := by decide +kernel
theorem dX8_go_110 : decode cX8_go 110 = .ok (.iadd, 1) := by decide +kernel
theorem dX8_go_111 : decode cX8_go 111 = .ok (.putfield 192, 3) := by decide +kernel
theorem dX8_go_114 : decode cX8_go 114 = .ok (.goto (-21), 3) := by decide +kernel
theorem dX8_go_117 : decode cX8_go 117 = .ok (.aload_n 0, 1) := by decide +kernel
theorem dX8_go_118 : decode cX8_go 118 = .ok (.iload_n 1, 1) := by decide +kernel
theorem dX8_go_119 : decode cX8_go 119 = .ok (.ifCond .eq 7, 3) := by decide +kernel
theorem dX8_go_122 : decode cX8_go 122 = .ok (.iconst 4, 1) := by decide +kernel
theorem dX8_go_123 : decode cX8_go 123 = .ok (.goto 4, 3) := by decide +kernel
theorem dX8_go_126 : decode cX8_go 126 = .ok (.iconst 1, 1) := by decide +kernel
theorem dX8_go_127 : decode cX8_go 127 = .ok (.putfield 201, 3) := by decide +kernel
theorem dX8_go_130 : decode cX8_go 130 = .ok (.aload_n 0, 1) := by decide +kernel
theorem dX8_go_131 : decode cX8_go 131 = .ok (.aload_n 0, 1) := by decide +kernel
theorem dX8_go_132 : decode cX8_go 132 = .ok (.getfield 29, 3) := by decide +kernel
theorem dX8_go_135 : decode cX8_go 135 = .ok (.aload_n 0, 1) := by decide +kernel
theorem dX8_go_136 : decode cX8_go 136 = .ok (.getfield 195, 3) := by decide +kernel
theorem dX8_go_139 : decode cX8_go 139 = .ok (.iaload, 1) := by decide +kernel
theorem dX8_go_140 : decode cX8_go 140 = .ok (.putfield 207, 3) := by decide +kernel
theorem dX8_go_143 : decode cX8_go 143 = .ok (.aload_n 0, 1) := by decide +kernel
theorem dX8_go_144 : decode cX8_go 144 = .ok (.aload_n 0, 1) := by decide +kernel
theorem dX8_go_145 : decode cX8_go 145 = .ok (.getfield 192, 3) := by decide +kernel
theorem dX8_go_148 : decode cX8_go 148 = .ok (.putfield 198, 3) := by decide +kernel
theorem dX8_go_151 : decode cX8_go 151 = .ok (.goto 152, 3) := by decide +kernel
theorem dX8_go_154 : decode cX8_go 154 = .ok (.aload_n 0, 1) := by decide +kernel
theorem dX8_go_155 : decode cX8_go 155 = .ok (.aload_n 0, 1) := by decide +kernel
theorem dX8_go_156 : decode cX8_go 156 = .ok (.getfield 195, 3) := by decide +kernel
theorem dX8_go_159 : decode cX8_go 159 = .ok (.invokevirtual 210, 3) := by decide +kernel
theorem dX8_go_162 : decode cX8_go 162 = .ok (.ifCond .eq 113, 3) := by decide +kernel
theorem dX8_go_165 : decode cX8_go 165 = .ok (.aload_n 0, 1) := by decide +kernel
theorem dX8_go_166 : decode cX8_go 166 = .ok (.iconst 0, 1) := by decide +kernel
theorem dX8_go_167 : decode cX8_go 167 = .ok (.putfield 207, 3) := by decide +kernel
theorem dX8_go_170 : decode cX8_go 170 = .ok (.aload_n 0, 1) := by decide +kernel
theorem dX8_go_171 : decode cX8_go 171 = .ok (.aload_n 0, 1) := by decide +kernel
theorem dX8_go_172 : decode cX8_go 172 = .ok (.getfield 192, 3) := by decide +kernel
theorem dX8_go_175 : decode cX8_go 175 = .ok (.invokevirtual 210, 3) := by decide +kernel
theorem dX8_go_178 : decode cX8_go 178 = .ok (.ifCond .eq 60, 3) := by decide +kernel
theorem dX8_go_181 : decode cX8_go 181 = .ok (.aload_n 0, 1) := by decide +kernel
theorem dX8_go_182 : decode cX8_go 182 = .ok (.aload_n 0, 1) := by decide +kernel
theorem dX8_go_183 : decode cX8_go 183 = .ok (.getfield 192, 3) := by decide +kernel
theorem dX8_go_186 : decode cX8_go 186 = .ok (.aload_n 0, 1) := by decide +kernel
theorem dX8_go_187 : decode cX8_go 187 = .ok (.getfield 195, 3) := by decide +kernel
theorem dX8_go_190 : decode cX8_go 190 = .ok (.isub, 1) := by decide +kernel
theorem dX8_go_191 : decode cX8_go 191 = .ok (.iconst 4, 1) := by decide +kernel
theorem dX8_go_192 : decode cX8_go 192 = .ok (.if_icmp .ge 26, 3) := by decide +kernel
theorem dX8_go_195 : decode cX8_go 195 = .ok (.bipush 10, 2) := by decide +kernel
theorem dX8_go_197 : decode cX8_go 197 = .ok (.aload_n 0, 1) := by decide +kernel
theorem dX8_go_198 : decode cX8_go 198 = .ok (.getfield 207, 3) := by decide +kernel
theorem dX8_go_201 : decode cX8_go 201 = .ok (.imul, 1) := by decide +kernel
theorem dX8_go_202 : decode cX8_go 202 = .ok (.aload_n 0, 1) := by decide +kernel
theorem dX8_go_203 : decode cX8_go 203 = .ok (.getfield 29, 3) := by decide +kernel
theorem dX8_go_206 : decode cX8_go 206 = .ok (.aload_n 0, 1) := by decide +kernel
theorem dX8_go_207 : decode cX8_go 207 = .ok (.getfield 192, 3) := by decide +kernel
theorem dX8_go_210 : decode cX8_go 210 = .ok (.iaload, 1) := by decide +kernel
theorem dX8_go_211 : decode cX8_go 211 = .ok (.iadd, 1) := by decide +kernel
theorem dX8_go_212 : decode cX8_go 212 = .ok (.bipush 48, 2) := by decide +kernel
theorem dX8_go_214 : decode cX8_go 214 = .ok (.isub, 1) := by decide +kernel
theorem dX8_go_215 : decode cX8_go 215 = .ok (.goto 7, 3) := by decide +kernel
theorem dX8_go_218 : decode cX8_go 218 = .ok (.aload_n 0, 1) := by decide +kernel
theorem dX8_go_219 : decode cX8_go 219 = .ok (.getfield 207, 3) := by decide +kernel
theorem dX8_go_222 : decode cX8_go 222 = .ok (.putfield 207, 3) := by decide +kernel
theorem dX8_go_225 : decode cX8_go 225 = .ok (.aload_n 0, 1) := by decide +kernel
theorem dX8_go_226 : decode cX8_go 226 = .ok (.dup, 1) := by decide +kernel
theorem dX8_go_227 : decode cX8_go 227 = .ok (.getfield 192, 3) := by decide +kernel
theorem dX8_go_230 : decode cX8_go 230 = .ok (.iconst 1, 1) := by decide +kernel
theorem dX8_go_231 : decode cX8_go 231 = .ok (.iadd, 1) := by decide +kernel
theorem dX8_go_232 : decode cX8_go 232 = .ok (.putfield 192, 3) := by decide +kernel
theorem dX8_go_235 : decode cX8_go 235 = .ok (.goto (-65), 3) := by decide +kernel
theorem dX8_go_238 : decode cX8_go 238 = .ok (.aload_n 0, 1) := by decide +kernel
theorem dX8_go_239 : decode cX8_go 239 = .ok (.iload_n 1, 1) := by decide +kernel
theorem dX8_go_240 : decode cX8_go 240 = .ok (.ifCond .ne 16, 3) := by decide +kernel
theorem dX8_go_243 : decode cX8_go 243 = .ok (.aload_n 0, 1) := by decide +kernel
theorem dX8_go_244 : decode cX8_go 244 = .ok (.getfield 192, 3) := by decide +kernel
theorem dX8_go_247 : decode cX8_go 247 = .ok (.aload_n 0, 1) := by decide +kernel
theorem dX8_go_248 : decode cX8_go 248 = .ok (.getfield 195, 3) := by decide +kernel
theorem dX8_go_251 : decode cX8_go 251 = .ok (.isub, 1) := by decide +kernel
theorem dX8_go_252 : decode cX8_go 252 = .ok (.iconst 4, 1) := by decide +kernel
theorem dX8_go_253 : decode cX8_go 253 = .ok (.if_icmp .le 7, 3) := by decide +kernel
theorem dX8_go_256 : decode cX8_go 256 = .ok (.iconst 4, 1) := by decide +kernel
theorem dX8_go_257 : decode cX8_go 257 = .ok (.goto 4, 3) := by decide +kernel
theorem dX8_go_260 : decode cX8_go 260 = .ok (.iconst 2, 1) := by decide +kernel
theorem dX8_go_261 : decode cX8_go 261 = .ok (.putfield 201, 3) := by decide +kernel
theorem dX8_go_264 : decode cX8_go 264 = .ok (.aload_n 0, 1) := by decide +kernel
theorem dX8_go_265 : decode cX8_go 265 = .ok (.aload_n 0, 1) := by decide +kernel
theorem dX8_go_266 : decode cX8_go 266 = .ok (.getfield 192, 3) := by decide +kernel
theorem dX8_go_269 : decode cX8_go 269 = .ok (.putfield 198, 3) := by decide +kernel
theorem dX8_go_272 : decode cX8_go 272 = .ok (.goto 31, 3) := by decide +kernel
theorem dX8_go_275 : decode cX8_go 275 = .ok (.aload_n 0, 1) := by decide +kernel
theorem dX8_go_276 : decode cX8_go 276 = .ok (.iconst 3, 1) := by decide +kernel
theorem dX8_go_277 : decode cX8_go 277 = .ok (.putfield 201, 3) := by decide +kernel
theorem dX8_go_280 : decode cX8_go 280 = .ok (.aload_n 0, 1) := by decide +kernel
theorem dX8_go_281 : decode cX8_go 281 = .ok (.aload_n 0, 1) := by decide +kernel
theorem dX8_go_282 : decode cX8_go 282 = .ok (.getfield 29, 3) := by decide +kernel
theorem dX8_go_285 : decode cX8_go 285 = .ok (.aload_n 0, 1) := by decide +kernel
theorem dX8_go_286 : decode cX8_go 286 = .ok (.getfield 195, 3) := by decide +kernel
theorem dX8_go_289 : decode cX8_go 289 = .ok (.iaload, 1) := by decide +kernel
theorem dX8_go_290 : decode cX8_go 290 = .ok (.putfield 207, 3) := by decide +kernel
theorem dX8_go_293 : decode cX8_go 293 = .ok (.aload_n 0, 1) := by decide +kernel
theorem dX8_go_294 : decode cX8_go 294 = .ok (.dup, 1) := by decide +kernel
theorem dX8_go_295 : decode cX8_go 295 = .ok (.getfield 192, 3) := by decide +kernel
theorem dX8_go_298 : decode cX8_go 298 = .ok (.iconst 1, 1) := by decide +kernel
theorem dX8_go_299 : decode cX8_go 299 = .ok (.iadd, 1) := by decide +kernel
theorem dX8_go_300 : decode cX8_go 300 = .ok (.putfield 192, 3) := by decide +kernel
theorem dX8_go_303 : decode cX8_go 303 = .ok (.return_, 1) := by decide +kernel
theorem dX8_takesKey_0 : decode cX8_takesKey 0 = .ok (.aload_n 0, 1) := by decide +kernel
theorem dX8_takesKey_1 : decode cX8_takesKey 1 = .ok (.getfield 201, 3) := by decide +kernel
theorem dX8_takesKey_4 : decode cX8_takesKey 4 = .ok (.iconst 1, 1) := by decide +kernel
theorem dX8_takesKey_5 : decode cX8_takesKey 5 = .ok (.if_icmp .eq 5, 3) := by decide +kernel
theorem dX8_takesKey_8 : decode cX8_takesKey 8 = .ok (.iconst 0, 1) := by decide +kernel
theorem dX8_takesKey_9 : decode cX8_takesKey 9 = .ok (.ireturn, 1) := by decide +kernel
theorem dX8_takesKey_10 : decode cX8_takesKey 10 = .ok (.iconst 0, 1) := by decide +kernel
theorem dX8_takesKey_11 : decode cX8_takesKey 11 = .ok (.istore_n 1, 1) := by decide +kernel
theorem dX8_takesKey_12 : decode cX8_takesKey 12 = .ok (.iload_n 1, 1) := by decide +kernel
theorem dX8_takesKey_13 : decode cX8_takesKey 13 = .ok (.iconst 3, 1) := by decide +kernel
theorem dX8_takesKey_14 : decode cX8_takesKey 14 = .ok (.if_icmp .ge 113, 3) := by decide +kernel
theorem dX8_takesKey_17 : decode cX8_takesKey 17 = .ok (.aload_n 0, 1) := by decide +kernel
theorem dX8_takesKey_18 : decode cX8_takesKey 18 = .ok (.getfield 36, 3) := by decide +kernel
theorem dX8_takesKey_21 : decode cX8_takesKey 21 = .ok (.iload_n 1, 1) := by decide +kernel
theorem dX8_takesKey_22 : decode cX8_takesKey 22 = .ok (.iconst 1, 1) := by decide +kernel
theorem dX8_takesKey_23 : decode cX8_takesKey 23 = .ok (.iadd, 1) := by decide +kernel
theorem dX8_takesKey_24 : decode cX8_takesKey 24 = .ok (.iaload, 1) := by decide +kernel
theorem dX8_takesKey_25 : decode cX8_takesKey 25 = .ok (.aload_n 0, 1) := by decide +kernel
theorem dX8_takesKey_26 : decode cX8_takesKey 26 = .ok (.getfield 36, 3) := by decide +kernel
theorem dX8_takesKey_29 : decode cX8_takesKey 29 = .ok (.iload_n 1, 1) := by decide +kernel
theorem dX8_takesKey_30 : decode cX8_takesKey 30 = .ok (.iaload, 1) := by decide +kernel
theorem dX8_takesKey_31 : decode cX8_takesKey 31 = .ok (.isub, 1) := by decide +kernel
theorem dX8_takesKey_32 : decode cX8_takesKey 32 = .ok (.istore_n 2, 1) := by decide +kernel
theorem dX8_takesKey_33 : decode cX8_takesKey 33 = .ok (.iload_n 2, 1) := by decide +kernel
theorem dX8_takesKey_34 : decode cX8_takesKey 34 = .ok (.aload_n 0, 1) := by decide +kernel
theorem dX8_takesKey_35 : decode cX8_takesKey 35 = .ok (.getfield 192, 3) := by decide +kernel
theorem dX8_takesKey_38 : decode cX8_takesKey 38 = .ok (.aload_n 0, 1) := by decide +kernel
theorem dX8_takesKey_39 : decode cX8_takesKey 39 = .ok (.getfield 195, 3) := by decide +kernel
theorem dX8_takesKey_42 : decode cX8_takesKey 42 = .ok (.isub, 1) := by decide +kernel
theorem dX8_takesKey_43 : decode cX8_takesKey 43 = .ok (.if_icmp .ne 7, 3) := by decide +kernel
theorem dX8_takesKey_46 : decode cX8_takesKey 46 = .ok (.iconst 1, 1) := by decide +kernel
theorem dX8_takesKey_47 : decode cX8_takesKey 47 = .ok (.goto 4, 3) := by decide +kernel
theorem dX8_takesKey_50 : decode cX8_takesKey 50 = .ok (.iconst 0, 1) := by decide +kernel
theorem dX8_takesKey_51 : decode cX8_takesKey 51 = .ok (.istore_n 3, 1) := by decide +kernel
theorem dX8_takesKey_52 : decode cX8_takesKey 52 = .ok (.iconst 0, 1) := by decide +kernel
theorem dX8_takesKey_53 : decode cX8_takesKey 53 = .ok (.istore 4, 2) := by decide +kernel
theorem dX8_takesKey_55 : decode cX8_takesKey 55 = .ok (.iload 4, 2) := by decide +kernel
theorem dX8_takesKey_57 : decode cX8_takesKey 57 = .ok (.iload_n 2, 1) := by decide +kernel
theorem dX8_takesKey_58 : decode cX8_takesKey 58 = .ok (.if_icmp .ge 48, 3) := by decide +kernel
theorem dX8_takesKey_61 : decode cX8_takesKey 61 = .ok (.iload_n 3, 1) := by decide +kernel
theorem dX8_takesKey_62 : decode cX8_takesKey 62 = .ok (.ifCond .eq 44, 3) := by decide +kernel
theorem dX8_takesKey_65 : decode cX8_takesKey 65 = .ok (.aload_n 0, 1) := by decide +kernel
theorem dX8_takesKey_66 : decode cX8_takesKey 66 = .ok (.getfield 29, 3) := by decide +kernel
theorem dX8_takesKey_69 : decode cX8_takesKey 69 = .ok (.aload_n 0, 1) := by decide +kernel
theorem dX8_takesKey_70 : decode cX8_takesKey 70 = .ok (.getfield 195, 3) := by decide +kernel
theorem dX8_takesKey_73 : decode cX8_takesKey 73 = .ok (.iload 4, 2) := by decide +kernel
theorem dX8_takesKey_75 : decode cX8_takesKey 75 = .ok (.iadd, 1) := by decide +kernel
theorem dX8_takesKey_76 : decode cX8_takesKey 76 = .ok (.iaload, 1) := by decide +kernel
theorem dX8_takesKey_77 : decode cX8_takesKey 77 = .ok (.aload_n 0, 1) := by decide +kernel
theorem dX8_takesKey_78 : decode cX8_takesKey 78 = .ok (.getfield 32, 3) := by decide +kernel
theorem dX8_takesKey_81 : decode cX8_takesKey 81 = .ok (.aload_n 0, 1) := by decide +kernel
theorem dX8_takesKey_82 : decode cX8_takesKey 82 = .ok (.getfield 36, 3) := by decide +kernel
theorem dX8_takesKey_85 : decode cX8_takesKey 85 = .ok (.iload_n 1, 1) := by decide +kernel
theorem dX8_takesKey_86 : decode cX8_takesKey 86 = .ok (.iaload, 1) := by decide +kernel
theorem dX8_takesKey_87 : decode cX8_takesKey 87 = .ok (.iload 4, 2) := by decide +kernel
theorem dX8_takesKey_89 : decode cX8_takesKey 89 = .ok (.iadd, 1) := by decide +kernel
theorem dX8_takesKey_90 : decode cX8_takesKey 90 = .ok (.caload, 1) := by decide +kernel
theorem dX8_takesKey_91 : decode cX8_takesKey 91 = .ok (.if_icmp .ne 7, 3) := by decide +kernel
theorem dX8_takesKey_94 : decode cX8_takesKey 94 = .ok (.iconst 1, 1) := by decide +kernel
theorem dX8_takesKey_95 : decode cX8_takesKey 95 = .ok (.goto 4, 3) := by decide +kernel
theorem dX8_takesKey_98 : decode cX8_takesKey 98 = .ok (.iconst 0, 1) := by decide +kernel
theorem dX8_takesKey_99 : decode cX8_takesKey 99 = .ok (.istore_n 3, 1) := by decide +kernel
theorem dX8_takesKey_100 : decode cX8_takesKey 100 = .ok (.iinc 4 1, 3) := by decide +kernel
theorem dX8_takesKey_103 : decode cX8_takesKey 103 = .ok (.goto (-48), 3) := by decide +kernel
theorem dX8_takesKey_106 : decode cX8_takesKey 106 = .ok (.iload_n 3, 1) := by decide +kernel
theorem dX8_takesKey_107 : decode cX8_takesKey 107 = .ok (.ifCond .eq 14, 3) := by decide +kernel
theorem dX8_takesKey_110 : decode cX8_takesKey 110 = .ok (.aload_n 0, 1) := by decide +kernel
theorem dX8_takesKey_111 : decode cX8_takesKey 111 = .ok (.iload_n 1, 1) := by decide +kernel
theorem dX8_takesKey_112 : decode cX8_takesKey 112 = .ok (.putfield 213, 3) := by decide +kernel
theorem dX8_takesKey_115 : decode cX8_takesKey 115 = .ok (.aload_n 0, 1) := by decide +kernel
theorem dX8_takesKey_116 : decode cX8_takesKey 116 = .ok (.invokevirtual 216, 3) := by decide +kernel
theorem dX8_takesKey_119 : decode cX8_takesKey 119 = .ok (.iconst 1, 1) := by decide +kernel
theorem dX8_takesKey_120 : decode cX8_takesKey 120 = .ok (.ireturn, 1) := by decide +kernel
theorem dX8_takesKey_121 : decode cX8_takesKey 121 = .ok (.iinc 1 1, 3) := by decide +kernel
theorem dX8_takesKey_124 : decode cX8_takesKey 124 = .ok (.goto (-112), 3) := by decide +kernel
theorem dX8_takesKey_127 : decode cX8_takesKey 127 = .ok (.iconst 0, 1) := by decide +kernel
theorem dX8_takesKey_128 : decode cX8_takesKey 128 = .ok (.ireturn, 1) := by decide +kernel
theorem dX8_nameOf_0 : decode cX8_nameOf 0 = .ok (.aload_n 0, 1) := by decide +kernel
theorem dX8_nameOf_1 : decode cX8_nameOf 1 = .ok (.getfield 213, 3) := by decide +kernel
theorem dX8_nameOf_4 : decode cX8_nameOf 4 = .ok (.lookupswitch 82 #[(0, 28), (1, 60)], 28) := by decide +kernel
theorem dX8_nameOf_32 : decode cX8_nameOf 32 = .ok (.iload_n 1, 1) := by decide +kernel
theorem dX8_nameOf_33 : decode cX8_nameOf 33 = .ok (.bipush 102, 2) := by decide +kernel
theorem dX8_nameOf_35 : decode cX8_nameOf 35 = .ok (.if_icmp .ne 7, 3) := by decide +kernel
theorem dX8_nameOf_38 : decode cX8_nameOf 38 = .ok (.iconst 0, 1) := by decide +kernel
theorem dX8_nameOf_39 : decode cX8_nameOf 39 = .ok (.goto 24, 3) := by decide +kernel
theorem dX8_nameOf_42 : decode cX8_nameOf 42 = .ok (.iload_n 1, 1) := by decide +kernel
theorem dX8_nameOf_43 : decode cX8_nameOf 43 = .ok (.bipush 115, 2) := by decide +kernel
theorem dX8_nameOf_45 : decode cX8_nameOf 45 = .ok (.if_icmp .ne 7, 3) := by decide +kernel
theorem dX8_nameOf_48 : decode cX8_nameOf 48 = .ok (.iconst 1, 1) := by decide +kernel
theorem dX8_nameOf_49 : decode cX8_nameOf 49 = .ok (.goto 14, 3) := by decide +kernel
theorem dX8_nameOf_52 : decode cX8_nameOf 52 = .ok (.iload_n 1, 1) := by decide +kernel
theorem dX8_nameOf_53 : decode cX8_nameOf 53 = .ok (.bipush 100, 2) := by decide +kernel
theorem dX8_nameOf_55 : decode cX8_nameOf 55 = .ok (.if_icmp .ne 7, 3) := by decide +kernel
theorem dX8_nameOf_58 : decode cX8_nameOf 58 = .ok (.iconst 2, 1) := by decide +kernel
theorem dX8_nameOf_59 : decode cX8_nameOf 59 = .ok (.goto 4, 3) := by decide +kernel
theorem dX8_nameOf_62 : decode cX8_nameOf 62 = .ok (.iconst (-1), 1) := by decide +kernel
theorem dX8_nameOf_63 : decode cX8_nameOf 63 = .ok (.ireturn, 1) := by decide +kernel
theorem dX8_nameOf_64 : decode cX8_nameOf 64 = .ok (.iload_n 1, 1) := by decide +kernel
theorem dX8_nameOf_65 : decode cX8_nameOf 65 = .ok (.bipush 115, 2) := by decide +kernel
theorem dX8_nameOf_67 : decode cX8_nameOf 67 = .ok (.if_icmp .ne 7, 3) := by decide +kernel
theorem dX8_nameOf_70 : decode cX8_nameOf 70 = .ok (.iconst 0, 1) := by decide +kernel
theorem dX8_nameOf_71 : decode cX8_nameOf 71 = .ok (.goto 14, 3) := by decide +kernel
theorem dX8_nameOf_74 : decode cX8_nameOf 74 = .ok (.iload_n 1, 1) := by decide +kernel
theorem dX8_nameOf_75 : decode cX8_nameOf 75 = .ok (.bipush 108, 2) := by decide +kernel
theorem dX8_nameOf_77 : decode cX8_nameOf 77 = .ok (.if_icmp .ne 7, 3) := by decide +kernel
theorem dX8_nameOf_80 : decode cX8_nameOf 80 = .ok (.iconst 1, 1) := by decide +kernel
theorem dX8_nameOf_81 : decode cX8_nameOf 81 = .ok (.goto 4, 3) := by decide +kernel
theorem dX8_nameOf_84 : decode cX8_nameOf 84 = .ok (.iconst (-1), 1) := by decide +kernel
theorem dX8_nameOf_85 : decode cX8_nameOf 85 = .ok (.ireturn, 1) := by decide +kernel
theorem dX8_nameOf_86 : decode cX8_nameOf 86 = .ok (.iload_n 1, 1) := by decide +kernel
theorem dX8_nameOf_87 : decode cX8_nameOf 87 = .ok (.bipush 115, 2) := by decide +kernel
theorem dX8_nameOf_89 : decode cX8_nameOf 89 = .ok (.if_icmp .ne 7, 3) := by decide +kernel
theorem dX8_nameOf_92 : decode cX8_nameOf 92 = .ok (.iconst 0, 1) := by decide +kernel
theorem dX8_nameOf_93 : decode cX8_nameOf 93 = .ok (.goto 14, 3) := by decide +kernel
theorem dX8_nameOf_96 : decode cX8_nameOf 96 = .ok (.iload_n 1, 1) := by decide +kernel
theorem dX8_nameOf_97 : decode cX8_nameOf 97 = .ok (.bipush 100, 2) := by decide +kernel
theorem dX8_nameOf_99 : decode cX8_nameOf 99 = .ok (.if_icmp .ne 7, 3) := by decide +kernel
theorem dX8_nameOf_102 : decode cX8_nameOf 102 = .ok (.iconst 1, 1) := by decide +kernel
theorem dX8_nameOf_103 : decode cX8_nameOf 103 = .ok (.goto 4, 3) := by decide +kernel
theorem dX8_nameOf_106 : decode cX8_nameOf 106 = .ok (.iconst (-1), 1) := by decide +kernel
theorem dX8_nameOf_107 : decode cX8_nameOf 107 = .ok (.ireturn, 1) := by decide +kernel
theorem dX8_rank_0 : decode cX8_rank 0 = .ok (.iload_n 0, 1) := by decide +kernel
theorem dX8_rank_1 : decode cX8_rank 1 = .ok (.iconst (-1), 1) := by decide +kernel
theorem dX8_rank_2 : decode cX8_rank 2 = .ok (.if_icmp .ne 7, 3) := by decide +kernel
theorem dX8_rank_5 : decode cX8_rank 5 = .ok (.iconst 1, 1) := by decide +kernel
theorem dX8_rank_6 : decode cX8_rank 6 = .ok (.goto 45, 3) := by decide +kernel
theorem dX8_rank_9 : decode cX8_rank 9 = .ok (.iload_n 0, 1) := by decide +kernel
theorem dX8_rank_10 : decode cX8_rank 10 = .ok (.bipush (-2), 2) := by decide +kernel
theorem dX8_rank_12 : decode cX8_rank 12 = .ok (.if_icmp .ne 7, 3) := by decide +kernel
theorem dX8_rank_15 : decode cX8_rank 15 = .ok (.iconst 2, 1) := by decide +kernel
theorem dX8_rank_16 : decode cX8_rank 16 = .ok (.goto 35, 3) := by decide +kernel
theorem dX8_rank_19 : decode cX8_rank 19 = .ok (.iload_n 0, 1) := by decide +kernel
theorem dX8_rank_20 : decode cX8_rank 20 = .ok (.bipush (-5), 2) := by decide +kernel
theorem dX8_rank_22 : decode cX8_rank 22 = .ok (.if_icmp .lt 7, 3) := by decide +kernel
theorem dX8_rank_25 : decode cX8_rank 25 = .ok (.iconst 3, 1) := by decide +kernel
theorem dX8_rank_26 : decode cX8_rank 26 = .ok (.goto 25, 3) := by decide +kernel
theorem dX8_rank_29 : decode cX8_rank 29 = .ok (.iload_n 0, 1) := by decide +kernel
theorem dX8_rank_30 : decode cX8_rank 30 = .ok (.bipush (-7), 2) := by decide +kernel
theorem dX8_rank_32 : decode cX8_rank 32 = .ok (.if_icmp .lt 7, 3) := by decide +kernel
theorem dX8_rank_35 : decode cX8_rank 35 = .ok (.iconst 4, 1) := by decide +kernel
theorem dX8_rank_36 : decode cX8_rank 36 = .ok (.goto 15, 3) := by decide +kernel
theorem dX8_rank_39 : decode cX8_rank 39 = .ok (.iload_n 0, 1) := by decide +kernel
theorem dX8_rank_40 : decode cX8_rank 40 = .ok (.bipush (-9), 2) := by decide +kernel
theorem dX8_rank_42 : decode cX8_rank 42 = .ok (.if_icmp .lt 7, 3) := by decide +kernel
theorem dX8_rank_45 : decode cX8_rank 45 = .ok (.iconst 5, 1) := by decide +kernel
theorem dX8_rank_46 : decode cX8_rank 46 = .ok (.goto 5, 3) := by decide +kernel
theorem dX8_rank_49 : decode cX8_rank 49 = .ok (.bipush 6, 2) := by decide +kernel
theorem dX8_rank_51 : decode cX8_rank 51 = .ok (.ireturn, 1) := by decide +kernel
theorem dX8_settle_0 : decode cX8_settle 0 = .ok (.aload_n 0, 1) := by decide +kernel
theorem dX8_settle_1 : decode cX8_settle 1 = .ok (.getfield 219, 3) := by decide +kernel
theorem dX8_settle_4 : decode cX8_settle 4 = .ok (.ifCond .le 78, 3) := by decide +kernel
theorem dX8_settle_7 : decode cX8_settle 7 = .ok (.aload_n 0, 1) := by decide +kernel
theorem dX8_settle_8 : decode cX8_settle 8 = .ok (.getfield 42, 3) := by decide +kernel
theorem dX8_settle_11 : decode cX8_settle 11 = .ok (.aload_n 0, 1) := by decide +kernel
theorem dX8_settle_12 : decode cX8_settle 12 = .ok (.getfield 219, 3) := by decide +kernel
theorem dX8_settle_15 : decode cX8_settle 15 = .ok (.iconst 1, 1) := by decide +kernel
theorem dX8_settle_16 : decode cX8_settle 16 = .ok (.isub, 1) := by decide +kernel
theorem dX8_settle_17 : decode cX8_settle 17 = .ok (.iaload, 1) := by decide +kernel
theorem dX8_settle_18 : decode cX8_settle 18 = .ok (.bipush (-11), 2) := by decide +kernel
theorem dX8_settle_20 : decode cX8_settle 20 = .ok (.if_icmp .eq 62, 3) := by decide +kernel
theorem dX8_settle_23 : decode cX8_settle 23 = .ok (.aload_n 0, 1) := by decide +kernel
theorem dX8_settle_24 : decode cX8_settle 24 = .ok (.getfield 42, 3) := by decide +kernel
theorem dX8_settle_27 : decode cX8_settle 27 = .ok (.aload_n 0, 1) := by decide +kernel
theorem dX8_settle_28 : decode cX8_settle 28 = .ok (.getfield 219, 3) := by decide +kernel
theorem dX8_settle_31 : decode cX8_settle 31 = .ok (.iconst 1, 1) := by decide +kernel
theorem dX8_settle_32 : decode cX8_settle 32 = .ok (.isub, 1) := by decide +kernel
theorem dX8_settle_33 : decode cX8_settle 33 = .ok (.iaload, 1) := by decide +kernel
theorem dX8_settle_34 : decode cX8_settle 34 = .ok (.invokestatic 222, 3) := by decide +kernel
theorem dX8_settle_37 : decode cX8_settle 37 = .ok (.iload_n 1, 1) := by decide +kernel
theorem dX8_settle_38 : decode cX8_settle 38 = .ok (.if_icmp .lt 44, 3) := by decide +kernel
theorem dX8_settle_41 : decode cX8_settle 41 = .ok (.aload_n 0, 1) := by decide +kernel
theorem dX8_settle_42 : decode cX8_settle 42 = .ok (.dup, 1) := by decide +kernel
theorem dX8_settle_43 : decode cX8_settle 43 = .ok (.getfield 219, 3) := by decide +kernel
theorem dX8_settle_46 : decode cX8_settle 46 = .ok (.iconst 1, 1) := by decide +kernel
theorem dX8_settle_47 : decode cX8_settle 47 = .ok (.isub, 1) := by decide +kernel
theorem dX8_settle_48 : decode cX8_settle 48 = .ok (.putfield 219, 3) := by decide +kernel
theorem dX8_settle_51 : decode cX8_settle 51 = .ok (.aload_n 0, 1) := by decide +kernel
theorem dX8_settle_52 : decode cX8_settle 52 = .ok (.getfield 39, 3) := by decide +kernel
theorem dX8_settle_55 : decode cX8_settle 55 = .ok (.aload_n 0, 1) := by decide +kernel
theorem dX8_settle_56 : decode cX8_settle 56 = .ok (.getfield 225, 3) := by decide +kernel
theorem dX8_settle_59 : decode cX8_settle 59 = .ok (.aload_n 0, 1) := by decide +kernel
theorem dX8_settle_60 : decode cX8_settle 60 = .ok (.getfield 42, 3) := by decide +kernel
theorem dX8_settle_63 : decode cX8_settle 63 = .ok (.aload_n 0, 1) := by decide +kernel
theorem dX8_settle_64 : decode cX8_settle 64 = .ok (.getfield 219, 3) := by decide +kernel
theorem dX8_settle_67 : decode cX8_settle 67 = .ok (.iaload, 1) := by decide +kernel
theorem dX8_settle_68 : decode cX8_settle 68 = .ok (.iastore, 1) := by decide +kernel
theorem dX8_settle_69 : decode cX8_settle 69 = .ok (.aload_n 0, 1) := by decide +kernel
theorem dX8_settle_70 : decode cX8_settle 70 = .ok (.dup, 1) := by decide +kernel
theorem dX8_settle_71 : decode cX8_settle 71 = .ok (.getfield 225, 3) := by decide +kernel
theorem dX8_settle_74 : decode cX8_settle 74 = .ok (.iconst 1, 1) := by decide +kernel
theorem dX8_settle_75 : decode cX8_settle 75 = .ok (.iadd, 1) := by decide +kernel
theorem dX8_settle_76 : decode cX8_settle 76 = .ok (.putfield 225, 3) := by decide +kernel
theorem dX8_settle_79 : decode cX8_settle 79 = .ok (.goto (-79), 3) := by decide +kernel
theorem dX8_settle_82 : decode cX8_settle 82 = .ok (.return_, 1) := by decide +kernel
theorem dX8_signHere_0 : decode cX8_signHere 0 = .ok (.aload_n 0, 1) := by decide +kernel
theorem dX8_signHere_1 : decode cX8_signHere 1 = .ok (.getfield 201, 3) := by decide +kernel
theorem dX8_signHere_4 : decode cX8_signHere 4 = .ok (.iconst 3, 1) := by decide +kernel
theorem dX8_signHere_5 : decode cX8_signHere 5 = .ok (.if_icmp .eq 5, 3) := by decide +kernel
theorem dX8_signHere_8 : decode cX8_signHere 8 = .ok (.iconst 0, 1) := by decide +kernel
theorem dX8_signHere_9 : decode cX8_signHere 9 = .ok (.ireturn, 1) := by decide +kernel
theorem dX8_signHere_10 : decode cX8_signHere 10 = .ok (.aload_n 0, 1) := by decide +kernel
theorem dX8_signHere_11 : decode cX8_signHere 11 = .ok (.getfield 207, 3) := by decide +kernel
theorem dX8_signHere_14 : decode cX8_signHere 14 = .ok (.lookupswitch 108 #[(38, 84), (42, 102), (43, 96), (45, 99), (47, 105), (60, 87), (61, 90), (62, 93), (124, 82)], 82) := by decide +kernel
theorem dX8_signHere_96 : decode cX8_signHere 96 = .ok (.iconst (-1), 1) := by decide +kernel
theorem dX8_signHere_97 : decode cX8_signHere 97 = .ok (.ireturn, 1) := by decide +kernel
theorem dX8_signHere_98 : decode cX8_signHere 98 = .ok (.bipush (-2), 2) := by decide +kernel
theorem dX8_signHere_100 : decode cX8_signHere 100 = .ok (.ireturn, 1) := by decide +kernel
theorem dX8_signHere_101 : decode cX8_signHere 101 = .ok (.bipush (-3), 2) := by decide +kernel
theorem dX8_signHere_103 : decode cX8_signHere 103 = .ok (.ireturn, 1) := by decide +kernel
theorem dX8_signHere_104 : decode cX8_signHere 104 = .ok (.bipush (-4), 2) := by decide +kernel
theorem dX8_signHere_106 : decode cX8_signHere 106 = .ok (.ireturn, 1) := by decide +kernel
theorem dX8_signHere_107 : decode cX8_signHere 107 = .ok (.bipush (-5), 2) := by decide +kernel
theorem dX8_signHere_109 : decode cX8_signHere 109 = .ok (.ireturn, 1) := by decide +kernel
theorem dX8_signHere_110 : decode cX8_signHere 110 = .ok (.bipush (-6), 2) := by decide +kernel
theorem dX8_signHere_112 : decode cX8_signHere 112 = .ok (.ireturn, 1) := by decide +kernel
theorem dX8_signHere_113 : decode cX8_signHere 113 = .ok (.bipush (-7), 2) := by decide +kernel
theorem dX8_signHere_115 : decode cX8_signHere 115 = .ok (.ireturn, 1) := by decide +kernel
theorem dX8_signHere_116 : decode cX8_signHere 116 = .ok (.bipush (-8), 2) := by decide +kernel
theorem dX8_signHere_118 : decode cX8_signHere 118 = .ok (.ireturn, 1) := by decide +kernel
theorem dX8_signHere_119 : decode cX8_signHere 119 = .ok (.bipush (-9), 2) := by decide +kernel
theorem dX8_signHere_121 : decode cX8_signHere 121 = .ok (.ireturn, 1) := by decide +kernel
theorem dX8_signHere_122 : decode cX8_signHere 122 = .ok (.iconst 0, 1) := by decide +kernel
theorem dX8_signHere_123 : decode cX8_signHere 123 = .ok (.ireturn, 1) := by decide +kernel
theorem dX8_takesPart_0 : decode cX8_takesPart 0 = .ok (.aload_n 0, 1) := by decide +kernel
theorem dX8_takesPart_1 : decode cX8_takesPart 1 = .ok (.getfield 201, 3) := by decide +kernel
theorem dX8_takesPart_4 : decode cX8_takesPart 4 = .ok (.iconst 1, 1) := by decide +kernel
theorem dX8_takesPart_5 : decode cX8_takesPart 5 = .ok (.if_icmp .ne 31, 3) := by decide +kernel
theorem dX8_takesPart_8 : decode cX8_takesPart 8 = .ok (.aload_n 0, 1) := by decide +kernel
theorem dX8_takesPart_9 : decode cX8_takesPart 9 = .ok (.getfield 192, 3) := by decide +kernel
theorem dX8_takesPart_12 : decode cX8_takesPart 12 = .ok (.aload_n 0, 1) := by decide +kernel
theorem dX8_takesPart_13 : decode cX8_takesPart 13 = .ok (.getfield 195, 3) := by decide +kernel
theorem dX8_takesPart_16 : decode cX8_takesPart 16 = .ok (.isub, 1) := by decide +kernel
theorem dX8_takesPart_17 : decode cX8_takesPart 17 = .ok (.iconst 1, 1) := by decide +kernel
theorem dX8_takesPart_18 : decode cX8_takesPart 18 = .ok (.if_icmp .ne 18, 3) := by decide +kernel
theorem dX8_takesPart_21 : decode cX8_takesPart 21 = .ok (.aload_n 0, 1) := by decide +kernel
theorem dX8_takesPart_22 : decode cX8_takesPart 22 = .ok (.aload_n 0, 1) := by decide +kernel
theorem dX8_takesPart_23 : decode cX8_takesPart 23 = .ok (.getfield 207, 3) := by decide +kernel
theorem dX8_takesPart_26 : decode cX8_takesPart 26 = .ok (.invokevirtual 228, 3) := by decide +kernel
theorem dX8_takesPart_29 : decode cX8_takesPart 29 = .ok (.ifCond .lt 7, 3) := by decide +kernel
theorem dX8_takesPart_32 : decode cX8_takesPart 32 = .ok (.iconst 1, 1) := by decide +kernel
theorem dX8_takesPart_33 : decode cX8_takesPart 33 = .ok (.goto 4, 3) := by decide +kernel
theorem dX8_takesPart_36 : decode cX8_takesPart 36 = .ok (.iconst 0, 1) := by decide +kernel
theorem dX8_takesPart_37 : decode cX8_takesPart 37 = .ok (.istore_n 1, 1) := by decide +kernel
theorem dX8_takesPart_38 : decode cX8_takesPart 38 = .ok (.aload_n 0, 1) := by decide +kernel
theorem dX8_takesPart_39 : decode cX8_takesPart 39 = .ok (.getfield 201, 3) := by decide +kernel
theorem dX8_takesPart_42 : decode cX8_takesPart 42 = .ok (.iconst 2, 1) := by decide +kernel
theorem dX8_takesPart_43 : decode cX8_takesPart 43 = .ok (.if_icmp .eq 9, 3) := by decide +kernel
theorem dX8_takesPart_46 : decode cX8_takesPart 46 = .ok (.iload_n 1, 1) := by decide +kernel
theorem dX8_takesPart_47 : decode cX8_takesPart 47 = .ok (.ifCond .ne 5, 3) := by decide +kernel
theorem dX8_takesPart_50 : decode cX8_takesPart 50 = .ok (.iconst 0, 1) := by decide +kernel
theorem dX8_takesPart_51 : decode cX8_takesPart 51 = .ok (.ireturn, 1) := by decide +kernel
theorem dX8_takesPart_52 : decode cX8_takesPart 52 = .ok (.aload_n 0, 1) := by decide +kernel
theorem dX8_takesPart_53 : decode cX8_takesPart 53 = .ok (.getfield 39, 3) := by decide +kernel
theorem dX8_takesPart_56 : decode cX8_takesPart 56 = .ok (.aload_n 0, 1) := by decide +kernel
theorem dX8_takesPart_57 : decode cX8_takesPart 57 = .ok (.getfield 225, 3) := by decide +kernel
theorem dX8_takesPart_60 : decode cX8_takesPart 60 = .ok (.aload_n 0, 1) := by decide +kernel
theorem dX8_takesPart_61 : decode cX8_takesPart 61 = .ok (.getfield 201, 3) := by decide +kernel
theorem dX8_takesPart_64 : decode cX8_takesPart 64 = .ok (.iconst 2, 1) := by decide +kernel
theorem dX8_takesPart_65 : decode cX8_takesPart 65 = .ok (.if_icmp .ne 10, 3) := by decide +kernel
theorem dX8_takesPart_68 : decode cX8_takesPart 68 = .ok (.aload_n 0, 1) := by decide +kernel
theorem dX8_takesPart_69 : decode cX8_takesPart 69 = .ok (.getfield 207, 3) := by decide +kernel
theorem dX8_takesPart_72 : decode cX8_takesPart 72 = .ok (.goto 15, 3) := by decide +kernel
theorem dX8_takesPart_75 : decode cX8_takesPart 75 = .ok (.sipush 10000, 3) := by decide +kernel
theorem dX8_takesPart_78 : decode cX8_takesPart 78 = .ok (.aload_n 0, 1) := by decide +kernel
theorem dX8_takesPart_79 : decode cX8_takesPart 79 = .ok (.aload_n 0, 1) := by decide +kernel
theorem dX8_takesPart_80 : decode cX8_takesPart 80 = .ok (.getfield 207, 3) := by decide +kernel
theorem dX8_takesPart_83 : decode cX8_takesPart 83 = .ok (.invokevirtual 228, 3) := by decide +kernel
theorem dX8_takesPart_86 : decode cX8_takesPart 86 = .ok (.iadd, 1) := by decide +kernel
theorem dX8_takesPart_87 : decode cX8_takesPart 87 = .ok (.iastore, 1) := by decide +kernel
theorem dX8_takesPart_88 : decode cX8_takesPart 88 = .ok (.aload_n 0, 1) := by decide +kernel
theorem dX8_takesPart_89 : decode cX8_takesPart 89 = .ok (.dup, 1) := by decide +kernel
theorem dX8_takesPart_90 : decode cX8_takesPart 90 = .ok (.getfield 225, 3) := by decide +kernel
theorem dX8_takesPart_93 : decode cX8_takesPart 93 = .ok (.iconst 1, 1) := by decide +kernel
theorem dX8_takesPart_94 : decode cX8_takesPart 94 = .ok (.iadd, 1) := by decide +kernel
theorem dX8_takesPart_95 : decode cX8_takesPart 95 = .ok (.putfield 225, 3) := by decide +kernel
theorem dX8_takesPart_98 : decode cX8_takesPart 98 = .ok (.aload_n 0, 1) := by decide +kernel
theorem dX8_takesPart_99 : decode cX8_takesPart 99 = .ok (.dup, 1) := by decide +kernel
theorem dX8_takesPart_100 : decode cX8_takesPart 100 = .ok (.getfield 231, 3) := by decide +kernel
theorem dX8_takesPart_103 : decode cX8_takesPart 103 = .ok (.iconst 1, 1) := by decide +kernel
theorem dX8_takesPart_104 : decode cX8_takesPart 104 = .ok (.iadd, 1) := by decide +kernel
theorem dX8_takesPart_105 : decode cX8_takesPart 105 = .ok (.putfield 231, 3) := by decide +kernel
theorem dX8_takesPart_108 : decode cX8_takesPart 108 = .ok (.aload_n 0, 1) := by decide +kernel
theorem dX8_takesPart_109 : decode cX8_takesPart 109 = .ok (.bipush 6, 2) := by decide +kernel
theorem dX8_takesPart_111 : decode cX8_takesPart 111 = .ok (.invokevirtual 234, 3) := by decide +kernel
theorem dX8_takesPart_114 : decode cX8_takesPart 114 = .ok (.aload_n 0, 1) := by decide +kernel
theorem dX8_takesPart_115 : decode cX8_takesPart 115 = .ok (.invokevirtual 216, 3) := by decide +kernel
theorem dX8_takesPart_118 : decode cX8_takesPart 118 = .ok (.iconst 1, 1) := by decide +kernel
theorem dX8_takesPart_119 : decode cX8_takesPart 119 = .ok (.ireturn, 1) := by decide +kernel
theorem dX8_takesE_0 : decode cX8_takesE 0 = .ok (.iconst 0, 1) := by decide +kernel
theorem dX8_takesE_1 : decode cX8_takesE 1 = .ok (.istore_n 1, 1) := by decide +kernel
theorem dX8_takesE_2 : decode cX8_takesE 2 = .ok (.iconst 0, 1) := by decide +kernel
theorem dX8_takesE_3 : decode cX8_takesE 3 = .ok (.istore_n 2, 1) := by decide +kernel
theorem dX8_takesE_4 : decode cX8_takesE 4 = .ok (.iconst 1, 1) := by decide +kernel
theorem dX8_takesE_5 : decode cX8_takesE 5 = .ok (.istore_n 3, 1) := by decide +kernel
theorem dX8_takesE_6 : decode cX8_takesE 6 = .ok (.aload_n 0, 1) := by decide +kernel
theorem dX8_takesE_7 : decode cX8_takesE 7 = .ok (.iconst 0, 1) := by decide +kernel
theorem dX8_takesE_8 : decode cX8_takesE 8 = .ok (.putfield 225, 3) := by decide +kernel
theorem dX8_takesE_11 : decode cX8_takesE 11 = .ok (.aload_n 0, 1) := by decide +kernel
theorem dX8_takesE_12 : decode cX8_takesE 12 = .ok (.iconst 0, 1) := by decide +kernel
theorem dX8_takesE_13 : decode cX8_takesE 13 = .ok (.putfield 231, 3) := by decide +kernel
theorem dX8_takesE_16 : decode cX8_takesE 16 = .ok (.aload_n 0, 1) := by decide +kernel
theorem dX8_takesE_17 : decode cX8_takesE 17 = .ok (.iconst 0, 1) := by decide +kernel
theorem dX8_takesE_18 : decode cX8_takesE 18 = .ok (.putfield 219, 3) := by decide +kernel
theorem dX8_takesE_21 : decode cX8_takesE 21 = .ok (.aload_n 0, 1) := by decide +kernel
theorem dX8_takesE_22 : decode cX8_takesE 22 = .ok (.getfield 45, 3) := by decide +kernel
theorem dX8_takesE_25 : decode cX8_takesE 25 = .ok (.iconst 0, 1) := by decide +kernel
theorem dX8_takesE_26 : decode cX8_takesE 26 = .ok (.iconst 0, 1) := by decide +kernel
theorem dX8_takesE_27 : decode cX8_takesE 27 = .ok (.bastore, 1) := by decide +kernel
theorem dX8_takesE_28 : decode cX8_takesE 28 = .ok (.iload_n 3, 1) := by decide +kernel
theorem dX8_takesE_29 : decode cX8_takesE 29 = .ok (.ifCond .ne 10, 3) := by decide +kernel
theorem dX8_takesE_32 : decode cX8_takesE 32 = .ok (.aload_n 0, 1) := by decide +kernel
theorem dX8_takesE_33 : decode cX8_takesE 33 = .ok (.getfield 201, 3) := by decide +kernel
theorem dX8_takesE_36 : decode cX8_takesE 36 = .ok (.ifCond .eq 309, 3) := by decide +kernel
theorem dX8_takesE_39 : decode cX8_takesE 39 = .ok (.iload_n 3, 1) := by decide +kernel
theorem dX8_takesE_40 : decode cX8_takesE 40 = .ok (.ifCond .eq 140, 3) := by decide +kernel
theorem dX8_takesE_43 : decode cX8_takesE 43 = .ok (.aload_n 0, 1) := by decide +kernel
theorem dX8_takesE_44 : decode cX8_takesE 44 = .ok (.getfield 201, 3) := by decide +kernel
theorem dX8_takesE_47 : decode cX8_takesE 47 = .ok (.iconst 3, 1) := by decide +kernel
theorem dX8_takesE_48 : decode cX8_takesE 48 = .ok (.if_icmp .ne 49, 3) := by decide +kernel
theorem dX8_takesE_51 : decode cX8_takesE 51 = .ok (.aload_n 0, 1) := by decide +kernel
theorem dX8_takesE_52 : decode cX8_takesE 52 = .ok (.getfield 207, 3) := by decide +kernel
theorem dX8_takesE_55 : decode cX8_takesE 55 = .ok (.bipush 33, 2) := by decide +kernel
theorem dX8_takesE_57 : decode cX8_takesE 57 = .ok (.if_icmp .ne 40, 3) := by decide +kernel
theorem dX8_takesE_60 : decode cX8_takesE 60 = .ok (.iload_n 2, 1) := by decide +kernel
theorem dX8_takesE_61 : decode cX8_takesE 61 = .ok (.bipush 8, 2) := by decide +kernel
theorem dX8_takesE_63 : decode cX8_takesE 63 = .ok (.if_icmp .ge 34, 3) := by decide +kernel
theorem dX8_takesE_66 : decode cX8_takesE 66 = .ok (.aload_n 0, 1) := by decide +kernel
theorem dX8_takesE_67 : decode cX8_takesE 67 = .ok (.getfield 42, 3) := by decide +kernel
theorem dX8_takesE_70 : decode cX8_takesE 70 = .ok (.aload_n 0, 1) := by decide +kernel
theorem dX8_takesE_71 : decode cX8_takesE 71 = .ok (.getfield 219, 3) := by decide +kernel
theorem dX8_takesE_74 : decode cX8_takesE 74 = .ok (.bipush (-10), 2) := by decide +kernel
theorem dX8_takesE_76 : decode cX8_takesE 76 = .ok (.iastore, 1) := by decide +kernel
theorem dX8_takesE_77 : decode cX8_takesE 77 = .ok (.aload_n 0, 1) := by decide +kernel
theorem dX8_takesE_78 : decode cX8_takesE 78 = .ok (.dup, 1) := by decide +kernel
theorem dX8_takesE_79 : decode cX8_takesE 79 = .ok (.getfield 219, 3) := by decide +kernel
theorem dX8_takesE_82 : decode cX8_takesE 82 = .ok (.iconst 1, 1) := by decide +kernel
theorem dX8_takesE_83 : decode cX8_takesE 83 = .ok (.iadd, 1) := by decide +kernel
theorem dX8_takesE_84 : decode cX8_takesE 84 = .ok (.putfield 219, 3) := by decide +kernel
theorem dX8_takesE_87 : decode cX8_takesE 87 = .ok (.iinc 2 1, 3) := by decide +kernel
theorem dX8_takesE_90 : decode cX8_takesE 90 = .ok (.aload_n 0, 1) := by decide +kernel
theorem dX8_takesE_91 : decode cX8_takesE 91 = .ok (.invokevirtual 216, 3) := by decide +kernel
theorem dX8_takesE_94 : decode cX8_takesE 94 = .ok (.goto 78, 3) := by decide +kernel
theorem dX8_takesE_97 : decode cX8_takesE 97 = .ok (.aload_n 0, 1) := by decide +kernel
theorem dX8_takesE_98 : decode cX8_takesE 98 = .ok (.getfield 201, 3) := by decide +kernel
theorem dX8_takesE_101 : decode cX8_takesE 101 = .ok (.iconst 3, 1) := by decide +kernel
theorem dX8_takesE_102 : decode cX8_takesE 102 = .ok (.if_icmp .ne 56, 3) := by decide +kernel
theorem dX8_takesE_105 : decode cX8_takesE 105 = .ok (.aload_n 0, 1) := by decide +kernel
theorem dX8_takesE_106 : decode cX8_takesE 106 = .ok (.getfield 207, 3) := by decide +kernel
theorem dX8_takesE_109 : decode cX8_takesE 109 = .ok (.bipush 40, 2) := by decide +kernel
theorem dX8_takesE_111 : decode cX8_takesE 111 = .ok (.if_icmp .ne 47, 3) := by decide +kernel
theorem dX8_takesE_114 : decode cX8_takesE 114 = .ok (.iload_n 1, 1) := by decide +kernel
theorem dX8_takesE_115 : decode cX8_takesE 115 = .ok (.bipush 8, 2) := by decide +kernel
theorem dX8_takesE_117 : decode cX8_takesE 117 = .ok (.if_icmp .ge 41, 3) := by decide +kernel
theorem dX8_takesE_120 : decode cX8_takesE 120 = .ok (.aload_n 0, 1) := by decide +kernel
theorem dX8_takesE_121 : decode cX8_takesE 121 = .ok (.getfield 42, 3) := by decide +kernel
theorem dX8_takesE_124 : decode cX8_takesE 124 = .ok (.aload_n 0, 1) := by decide +kernel
theorem dX8_takesE_125 : decode cX8_takesE 125 = .ok (.getfield 219, 3) := by decide +kernel
theorem dX8_takesE_128 : decode cX8_takesE 128 = .ok (.bipush (-11), 2) := by decide +kernel
theorem dX8_takesE_130 : decode cX8_takesE 130 = .ok (.iastore, 1) := by decide +kernel
theorem dX8_takesE_131 : decode cX8_takesE 131 = .ok (.aload_n 0, 1) := by decide +kernel
theorem dX8_takesE_132 : decode cX8_takesE 132 = .ok (.dup, 1) := by decide +kernel
theorem dX8_takesE_133 : decode cX8_takesE 133 = .ok (.getfield 219, 3) := by decide +kernel
theorem dX8_takesE_136 : decode cX8_takesE 136 = .ok (.iconst 1, 1) := by decide +kernel
theorem dX8_takesE_137 : decode cX8_takesE 137 = .ok (.iadd, 1) := by decide +kernel
theorem dX8_takesE_138 : decode cX8_takesE 138 = .ok (.putfield 219, 3) := by decide +kernel
theorem dX8_takesE_141 : decode cX8_takesE 141 = .ok (.iinc 1 1, 3) := by decide +kernel
theorem dX8_takesE_144 : decode cX8_takesE 144 = .ok (.aload_n 0, 1) := by decide +kernel
theorem dX8_takesE_145 : decode cX8_takesE 145 = .ok (.getfield 45, 3) := by decide +kernel
theorem dX8_takesE_148 : decode cX8_takesE 148 = .ok (.iload_n 1, 1) := by decide +kernel
theorem dX8_takesE_149 : decode cX8_takesE 149 = .ok (.iconst 0, 1) := by decide +kernel
theorem dX8_takesE_150 : decode cX8_takesE 150 = .ok (.bastore, 1) := by decide +kernel
theorem dX8_takesE_151 : decode cX8_takesE 151 = .ok (.aload_n 0, 1) := by decide +kernel
theorem dX8_takesE_152 : decode cX8_takesE 152 = .ok (.invokevirtual 216, 3) := by decide +kernel
theorem dX8_takesE_155 : decode cX8_takesE 155 = .ok (.goto 17, 3) := by decide +kernel
theorem dX8_takesE_158 : decode cX8_takesE 158 = .ok (.aload_n 0, 1) := by decide +kernel
theorem dX8_takesE_159 : decode cX8_takesE 159 = .ok (.invokevirtual 237, 3) := by decide +kernel
theorem dX8_takesE_162 : decode cX8_takesE 162 = .ok (.ifCond .eq 8, 3) := by decide +kernel
theorem dX8_takesE_165 : decode cX8_takesE 165 = .ok (.iconst 0, 1) := by decide +kernel
theorem dX8_takesE_166 : decode cX8_takesE 166 = .ok (.istore_n 3, 1) := by decide +kernel
theorem dX8_takesE_167 : decode cX8_takesE 167 = .ok (.goto 5, 3) := by decide +kernel
theorem dX8_takesE_170 : decode cX8_takesE 170 = .ok (.iconst 0, 1) := by decide +kernel
theorem dX8_takesE_171 : decode cX8_takesE 171 = .ok (.ireturn, 1) := by decide +kernel
theorem dX8_takesE_172 : decode cX8_takesE 172 = .ok (.aload_n 0, 1) := by decide +kernel
theorem dX8_takesE_173 : decode cX8_takesE 173 = .ok (.invokevirtual 241, 3) := by decide +kernel
theorem dX8_takesE_176 : decode cX8_takesE 176 = .ok (.istore_n 2, 1) := by decide +kernel
theorem dX8_takesE_177 : decode cX8_takesE 177 = .ok (.goto (-149), 3) := by decide +kernel
theorem dX8_takesE_180 : decode cX8_takesE 180 = .ok (.aload_n 0, 1) := by decide +kernel
theorem dX8_takesE_181 : decode cX8_takesE 181 = .ok (.getfield 201, 3) := by decide +kernel
theorem dX8_takesE_184 : decode cX8_takesE 184 = .ok (.iconst 3, 1) := by decide +kernel
theorem dX8_takesE_185 : decode cX8_takesE 185 = .ok (.if_icmp .ne 52, 3) := by decide +kernel
theorem dX8_takesE_188 : decode cX8_takesE 188 = .ok (.aload_n 0, 1) := by decide +kernel
theorem dX8_takesE_189 : decode cX8_takesE 189 = .ok (.getfield 207, 3) := by decide +kernel
theorem dX8_takesE_192 : decode cX8_takesE 192 = .ok (.bipush 41, 2) := by decide +kernel
theorem dX8_takesE_194 : decode cX8_takesE 194 = .ok (.if_icmp .ne 43, 3) := by decide +kernel
theorem dX8_takesE_197 : decode cX8_takesE 197 = .ok (.iload_n 1, 1) := by decide +kernel
theorem dX8_takesE_198 : decode cX8_takesE 198 = .ok (.ifCond .le 39, 3) := by decide +kernel
theorem dX8_takesE_201 : decode cX8_takesE 201 = .ok (.aload_n 0, 1) := by decide +kernel
theorem dX8_takesE_202 : decode cX8_takesE 202 = .ok (.iconst 0, 1) := by decide +kernel
theorem dX8_takesE_203 : decode cX8_takesE 203 = .ok (.invokevirtual 234, 3) := by decide +kernel
theorem dX8_takesE_206 : decode cX8_takesE 206 = .ok (.aload_n 0, 1) := by decide +kernel
theorem dX8_takesE_207 : decode cX8_takesE 207 = .ok (.dup, 1) := by decide +kernel
theorem dX8_takesE_208 : decode cX8_takesE 208 = .ok (.getfield 219, 3) := by decide +kernel
theorem dX8_takesE_211 : decode cX8_takesE 211 = .ok (.iconst 1, 1) := by decide +kernel
theorem dX8_takesE_212 : decode cX8_takesE 212 = .ok (.isub, 1) := by decide +kernel
theorem dX8_takesE_213 : decode cX8_takesE 213 = .ok (.putfield 219, 3) := by decide +kernel
theorem dX8_takesE_216 : decode cX8_takesE 216 = .ok (.iinc 1 (-1), 3) := by decide +kernel
theorem dX8_takesE_219 : decode cX8_takesE 219 = .ok (.aload_n 0, 1) := by decide +kernel
theorem dX8_takesE_220 : decode cX8_takesE 220 = .ok (.bipush 6, 2) := by decide +kernel
theorem dX8_takesE_222 : decode cX8_takesE 222 = .ok (.invokevirtual 234, 3) := by decide +kernel
theorem dX8_takesE_225 : decode cX8_takesE 225 = .ok (.aload_n 0, 1) := by decide +kernel
theorem dX8_takesE_226 : decode cX8_takesE 226 = .ok (.invokevirtual 241, 3) := by decide +kernel
theorem dX8_takesE_229 : decode cX8_takesE 229 = .ok (.istore_n 2, 1) := by decide +kernel
theorem dX8_takesE_230 : decode cX8_takesE 230 = .ok (.aload_n 0, 1) := by decide +kernel
theorem dX8_takesE_231 : decode cX8_takesE 231 = .ok (.invokevirtual 216, 3) := by decide +kernel
theorem dX8_takesE_234 : decode cX8_takesE 234 = .ok (.goto (-206), 3) := by decide +kernel
theorem dX8_takesE_237 : decode cX8_takesE 237 = .ok (.aload_n 0, 1) := by decide +kernel
theorem dX8_takesE_238 : decode cX8_takesE 238 = .ok (.invokevirtual 244, 3) := by decide +kernel
theorem dX8_takesE_241 : decode cX8_takesE 241 = .ok (.istore 4, 2) := by decide +kernel
theorem dX8_takesE_243 : decode cX8_takesE 243 = .ok (.iload 4, 2) := by decide +kernel
theorem dX8_takesE_245 : decode cX8_takesE 245 = .ok (.ifCond .eq 21, 3) := by decide +kernel
theorem dX8_takesE_248 : decode cX8_takesE 248 = .ok (.iload 4, 2) := by decide +kernel
theorem dX8_takesE_250 : decode cX8_takesE 250 = .ok (.invokestatic 222, 3) := by decide +kernel
theorem dX8_takesE_253 : decode cX8_takesE 253 = .ok (.iconst 3, 1) := by decide +kernel
theorem dX8_takesE_254 : decode cX8_takesE 254 = .ok (.if_icmp .ne 14, 3) := by decide +kernel
theorem dX8_takesE_257 : decode cX8_takesE 257 = .ok (.aload_n 0, 1) := by decide +kernel
theorem dX8_takesE_258 : decode cX8_takesE 258 = .ok (.getfield 45, 3) := by decide +kernel
theorem dX8_takesE_261 : decode cX8_takesE 261 = .ok (.iload_n 1, 1) := by decide +kernel
theorem dX8_takesE_262 : decode cX8_takesE 262 = .ok (.baload, 1) := by decide +kernel
theorem dX8_takesE_263 : decode cX8_takesE 263 = .ok (.ifCond .eq 5, 3) := by decide +kernel
theorem dX8_takesE_266 : decode cX8_takesE 266 = .ok (.iconst 0, 1) := by decide +kernel
theorem dX8_takesE_267 : decode cX8_takesE 267 = .ok (.ireturn, 1) := by decide +kernel
theorem dX8_takesE_268 : decode cX8_takesE 268 = .ok (.aload_n 0, 1) := by decide +kernel
theorem dX8_takesE_269 : decode cX8_takesE 269 = .ok (.getfield 45, 3) := by decide +kernel
theorem dX8_takesE_272 : decode cX8_takesE 272 = .ok (.iload_n 1, 1) := by decide +kernel
theorem dX8_takesE_273 : decode cX8_takesE 273 = .ok (.iload 4, 2) := by decide +kernel
theorem dX8_takesE_275 : decode cX8_takesE 275 = .ok (.invokestatic 222, 3) := by decide +kernel
theorem dX8_takesE_278 : decode cX8_takesE 278 = .ok (.iconst 3, 1) := by decide +kernel
theorem dX8_takesE_279 : decode cX8_takesE 279 = .ok (.if_icmp .eq 21, 3) := by decide +kernel
theorem dX8_takesE_282 : decode cX8_takesE 282 = .ok (.iload 4, 2) := by decide +kernel
theorem dX8_takesE_284 : decode cX8_takesE 284 = .ok (.invokestatic 222, 3) := by decide +kernel
theorem dX8_takesE_287 : decode cX8_takesE 287 = .ok (.iconst 3, 1) := by decide +kernel
theorem dX8_takesE_288 : decode cX8_takesE 288 = .ok (.if_icmp .le 16, 3) := by decide +kernel
theorem dX8_takesE_291 : decode cX8_takesE 291 = .ok (.aload_n 0, 1) := by decide +kernel
theorem dX8_takesE_292 : decode cX8_takesE 292 = .ok (.getfield 45, 3) := by decide +kernel
theorem dX8_takesE_295 : decode cX8_takesE 295 = .ok (.iload_n 1, 1) := by decide +kernel
theorem dX8_takesE_296 : decode cX8_takesE 296 = .ok (.baload, 1) := by decide +kernel
theorem dX8_takesE_297 : decode cX8_takesE 297 = .ok (.ifCond .eq 7, 3) := by decide +kernel
theorem dX8_takesE_300 : decode cX8_takesE 300 = .ok (.iconst 1, 1) := by decide +kernel
theorem dX8_takesE_301 : decode cX8_takesE 301 = .ok (.goto 4, 3) := by decide +kernel
theorem dX8_takesE_304 : decode cX8_takesE 304 = .ok (.iconst 0, 1) := by decide +kernel
theorem dX8_takesE_305 : decode cX8_takesE 305 = .ok (.bastore, 1) := by decide +kernel
theorem dX8_takesE_306 : decode cX8_takesE 306 = .ok (.aload_n 0, 1) := by decide +kernel
theorem dX8_takesE_307 : decode cX8_takesE 307 = .ok (.iload 4, 2) := by decide +kernel
theorem dX8_takesE_309 : decode cX8_takesE 309 = .ok (.invokestatic 222, 3) := by decide +kernel
theorem dX8_takesE_312 : decode cX8_takesE 312 = .ok (.invokevirtual 234, 3) := by decide +kernel
theorem dX8_takesE_315 : decode cX8_takesE 315 = .ok (.aload_n 0, 1) := by decide +kernel
theorem dX8_takesE_316 : decode cX8_takesE 316 = .ok (.getfield 42, 3) := by decide +kernel
theorem dX8_takesE_319 : decode cX8_takesE 319 = .ok (.aload_n 0, 1) := by decide +kernel
theorem dX8_takesE_320 : decode cX8_takesE 320 = .ok (.getfield 219, 3) := by decide +kernel
theorem dX8_takesE_323 : decode cX8_takesE 323 = .ok (.iload 4, 2) := by decide +kernel
theorem dX8_takesE_325 : decode cX8_takesE 325 = .ok (.iastore, 1) := by decide +kernel
theorem dX8_takesE_326 : decode cX8_takesE 326 = .ok (.aload_n 0, 1) := by decide +kernel
theorem dX8_takesE_327 : decode cX8_takesE 327 = .ok (.dup, 1) := by decide +kernel
theorem dX8_takesE_328 : decode cX8_takesE 328 = .ok (.getfield 219, 3) := by decide +kernel
theorem dX8_takesE_331 : decode cX8_takesE 331 = .ok (.iconst 1, 1) := by decide +kernel
theorem dX8_takesE_332 : decode cX8_takesE 332 = .ok (.iadd, 1) := by decide +kernel
theorem dX8_takesE_333 : decode cX8_takesE 333 = .ok (.putfield 219, 3) := by decide +kernel
theorem dX8_takesE_336 : decode cX8_takesE 336 = .ok (.iconst 1, 1) := by decide +kernel
theorem dX8_takesE_337 : decode cX8_takesE 337 = .ok (.istore_n 3, 1) := by decide +kernel
theorem dX8_takesE_338 : decode cX8_takesE 338 = .ok (.aload_n 0, 1) := by decide +kernel
theorem dX8_takesE_339 : decode cX8_takesE 339 = .ok (.invokevirtual 216, 3) := by decide +kernel
theorem dX8_takesE_342 : decode cX8_takesE 342 = .ok (.goto (-314), 3) := by decide +kernel
theorem dX8_takesE_345 : decode cX8_takesE 345 = .ok (.aload_n 0, 1) := by decide +kernel
theorem dX8_takesE_346 : decode cX8_takesE 346 = .ok (.iconst 0, 1) := by decide +kernel
theorem dX8_takesE_347 : decode cX8_takesE 347 = .ok (.invokevirtual 234, 3) := by decide +kernel
theorem dX8_takesE_350 : decode cX8_takesE 350 = .ok (.iload_n 1, 1) := by decide +kernel
theorem dX8_takesE_351 : decode cX8_takesE 351 = .ok (.ifCond .ne 7, 3) := by decide +kernel
theorem dX8_takesE_354 : decode cX8_takesE 354 = .ok (.iconst 1, 1) := by decide +kernel
theorem dX8_takesE_355 : decode cX8_takesE 355 = .ok (.goto 4, 3) := by decide +kernel
theorem dX8_takesE_358 : decode cX8_takesE 358 = .ok (.iconst 0, 1) := by decide +kernel
theorem dX8_takesE_359 : decode cX8_takesE 359 = .ok (.ireturn, 1) := by decide +kernel
theorem dX8_notsOpen_0 : decode cX8_notsOpen 0 = .ok (.iconst 0, 1) := by decide +kernel
theorem dX8_notsOpen_1 : decode cX8_notsOpen 1 = .ok (.istore_n 1, 1) := by decide +kernel
theorem dX8_notsOpen_2 : decode cX8_notsOpen 2 = .ok (.iconst 0, 1) := by decide +kernel
theorem dX8_notsOpen_3 : decode cX8_notsOpen 3 = .ok (.istore_n 2, 1) := by decide +kernel
theorem dX8_notsOpen_4 : decode cX8_notsOpen 4 = .ok (.iload_n 2, 1) := by decide +kernel
theorem dX8_notsOpen_5 : decode cX8_notsOpen 5 = .ok (.aload_n 0, 1) := by decide +kernel
theorem dX8_notsOpen_6 : decode cX8_notsOpen 6 = .ok (.getfield 219, 3) := by decide +kernel
theorem dX8_notsOpen_9 : decode cX8_notsOpen 9 = .ok (.if_icmp .ge 28, 3) := by decide +kernel
theorem dX8_notsOpen_12 : decode cX8_notsOpen 12 = .ok (.iload_n 1, 1) := by decide +kernel
theorem dX8_notsOpen_13 : decode cX8_notsOpen 13 = .ok (.aload_n 0, 1) := by decide +kernel
theorem dX8_notsOpen_14 : decode cX8_notsOpen 14 = .ok (.getfield 42, 3) := by decide +kernel
theorem dX8_notsOpen_17 : decode cX8_notsOpen 17 = .ok (.iload_n 2, 1) := by decide +kernel
theorem dX8_notsOpen_18 : decode cX8_notsOpen 18 = .ok (.iaload, 1) := by decide +kernel
theorem dX8_notsOpen_19 : decode cX8_notsOpen 19 = .ok (.bipush (-10), 2) := by decide +kernel
theorem dX8_notsOpen_21 : decode cX8_notsOpen 21 = .ok (.if_icmp .ne 7, 3) := by decide +kernel
theorem dX8_notsOpen_24 : decode cX8_notsOpen 24 = .ok (.iconst 1, 1) := by decide +kernel
theorem dX8_notsOpen_25 : decode cX8_notsOpen 25 = .ok (.goto 4, 3) := by decide +kernel
theorem dX8_notsOpen_28 : decode cX8_notsOpen 28 = .ok (.iconst 0, 1) := by decide +kernel
theorem dX8_notsOpen_29 : decode cX8_notsOpen 29 = .ok (.iadd, 1) := by decide +kernel
theorem dX8_notsOpen_30 : decode cX8_notsOpen 30 = .ok (.istore_n 1, 1) := by decide +kernel
theorem dX8_notsOpen_31 : decode cX8_notsOpen 31 = .ok (.iinc 2 1, 3) := by decide +kernel
theorem dX8_notsOpen_34 : decode cX8_notsOpen 34 = .ok (.goto (-30), 3) := by decide +kernel
theorem dX8_notsOpen_37 : decode cX8_notsOpen 37 = .ok (.iload_n 1, 1) := by decide +kernel
theorem dX8_notsOpen_38 : decode cX8_notsOpen 38 = .ok (.ireturn, 1) := by decide +kernel
theorem dX8_text_0 : decode cX8_text 0 = .ok (.aload_n 0, 1) := by decide +kernel
theorem dX8_text_1 : decode cX8_text 1 = .ok (.iconst 0, 1) := by decide +kernel
theorem dX8_text_2 : decode cX8_text 2 = .ok (.putfield 192, 3) := by decide +kernel
theorem dX8_text_5 : decode cX8_text 5 = .ok (.aload_n 0, 1) := by decide +kernel
theorem dX8_text_6 : decode cX8_text 6 = .ok (.iconst (-1), 1) := by decide +kernel
theorem dX8_text_7 : decode cX8_text 7 = .ok (.putfield 198, 3) := by decide +kernel
theorem dX8_text_10 : decode cX8_text 10 = .ok (.aload_n 0, 1) := by decide +kernel
theorem dX8_text_11 : decode cX8_text 11 = .ok (.invokevirtual 216, 3) := by decide +kernel
theorem dX8_text_14 : decode cX8_text 14 = .ok (.aload_n 0, 1) := by decide +kernel
theorem dX8_text_15 : decode cX8_text 15 = .ok (.invokevirtual 247, 3) := by decide +kernel
theorem dX8_text_18 : decode cX8_text 18 = .ok (.ifCond .eq 14, 3) := by decide +kernel
theorem dX8_text_21 : decode cX8_text 21 = .ok (.aload_n 0, 1) := by decide +kernel
theorem dX8_text_22 : decode cX8_text 22 = .ok (.invokevirtual 250, 3) := by decide +kernel
theorem dX8_text_25 : decode cX8_text 25 = .ok (.ifCond .eq 7, 3) := by decide +kernel
theorem dX8_text_28 : decode cX8_text 28 = .ok (.iconst 1, 1) := by decide +kernel
theorem dX8_text_29 : decode cX8_text 29 = .ok (.goto 4, 3) := by decide +kernel
theorem dX8_text_32 : decode cX8_text 32 = .ok (.iconst 0, 1) := by decide +kernel
theorem dX8_text_33 : decode cX8_text 33 = .ok (.istore_n 1, 1) := by decide +kernel
theorem dX8_text_34 : decode cX8_text 34 = .ok (.aload_n 0, 1) := by decide +kernel
theorem dX8_text_35 : decode cX8_text 35 = .ok (.iconst 0, 1) := by decide +kernel
theorem dX8_text_36 : decode cX8_text 36 = .ok (.putfield 188, 3) := by decide +kernel
theorem dX8_text_39 : decode cX8_text 39 = .ok (.iload_n 1, 1) := by decide +kernel
theorem dX8_text_40 : decode cX8_text 40 = .ok (.ifCond .ne 11, 3) := by decide +kernel
theorem dX8_text_43 : decode cX8_text 43 = .ok (.bipush (-100), 2) := by decide +kernel
theorem dX8_text_45 : decode cX8_text 45 = .ok (.aload_n 0, 1) := by decide +kernel
theorem dX8_text_46 : decode cX8_text 46 = .ok (.getfield 195, 3) := by decide +kernel
theorem dX8_text_49 : decode cX8_text 49 = .ok (.isub, 1) := by decide +kernel
theorem dX8_text_50 : decode cX8_text 50 = .ok (.ireturn, 1) := by decide +kernel
theorem dX8_text_51 : decode cX8_text 51 = .ok (.aload_n 0, 1) := by decide +kernel
theorem dX8_text_52 : decode cX8_text 52 = .ok (.getfield 9, 3) := by decide +kernel
theorem dX8_text_55 : decode cX8_text 55 = .ok (.bipush 6, 2) := by decide +kernel
theorem dX8_text_57 : decode cX8_text 57 = .ok (.iaload, 1) := by decide +kernel
theorem dX8_text_58 : decode cX8_text 58 = .ok (.bipush 14, 2) := by decide +kernel
theorem dX8_text_60 : decode cX8_text 60 = .ok (.if_icmp .ne 6, 3) := by decide +kernel
theorem dX8_text_63 : decode cX8_text 63 = .ok (.ldc 95, 2) := by decide +kernel
theorem dX8_text_65 : decode cX8_text 65 = .ok (.ireturn, 1) := by decide +kernel
theorem dX8_text_66 : decode cX8_text 66 = .ok (.aload_n 0, 1) := by decide +kernel
theorem dX8_text_67 : decode cX8_text 67 = .ok (.getfield 9, 3) := by decide +kernel
theorem dX8_text_70 : decode cX8_text 70 = .ok (.bipush 6, 2) := by decide +kernel
theorem dX8_text_72 : decode cX8_text 72 = .ok (.iaload, 1) := by decide +kernel
theorem dX8_text_73 : decode cX8_text 73 = .ok (.istore_n 2, 1) := by decide +kernel
theorem dX8_text_74 : decode cX8_text 74 = .ok (.aload_n 0, 1) := by decide +kernel
theorem dX8_text_75 : decode cX8_text 75 = .ok (.getfield 9, 3) := by decide +kernel
theorem dX8_text_78 : decode cX8_text 78 = .ok (.bipush 97, 2) := by decide +kernel
theorem dX8_text_80 : decode cX8_text 80 = .ok (.iconst 2, 1) := by decide +kernel
theorem dX8_text_81 : decode cX8_text 81 = .ok (.iload_n 2, 1) := by decide +kernel
theorem dX8_text_82 : decode cX8_text 82 = .ok (.imul, 1) := by decide +kernel
theorem dX8_text_83 : decode cX8_text 83 = .ok (.iadd, 1) := by decide +kernel
theorem dX8_text_84 : decode cX8_text 84 = .ok (.sipush 1000, 3) := by decide +kernel
theorem dX8_text_87 : decode cX8_text 87 = .ok (.aload_n 0, 1) := by decide +kernel
theorem dX8_text_88 : decode cX8_text 88 = .ok (.getfield 213, 3) := by decide +kernel
theorem dX8_text_91 : decode cX8_text 91 = .ok (.imul, 1) := by decide +kernel
theorem dX8_text_92 : decode cX8_text 92 = .ok (.aload_n 0, 1) := by decide +kernel
theorem dX8_text_93 : decode cX8_text 93 = .ok (.getfield 225, 3) := by decide +kernel
theorem dX8_text_96 : decode cX8_text 96 = .ok (.iadd, 1) := by decide +kernel
theorem dX8_text_97 : decode cX8_text 97 = .ok (.iastore, 1) := by decide +kernel
theorem dX8_text_98 : decode cX8_text 98 = .ok (.aload_n 0, 1) := by decide +kernel
theorem dX8_text_99 : decode cX8_text 99 = .ok (.getfield 9, 3) := by decide +kernel
theorem dX8_text_102 : decode cX8_text 102 = .ok (.bipush 97, 2) := by decide +kernel
theorem dX8_text_104 : decode cX8_text 104 = .ok (.iconst 2, 1) := by decide +kernel
theorem dX8_text_105 : decode cX8_text 105 = .ok (.iload_n 2, 1) := by decide +kernel
theorem dX8_text_106 : decode cX8_text 106 = .ok (.imul, 1) := by decide +kernel
theorem dX8_text_107 : decode cX8_text 107 = .ok (.iadd, 1) := by decide +kernel
theorem dX8_text_108 : decode cX8_text 108 = .ok (.iconst 1, 1) := by decide +kernel
theorem dX8_text_109 : decode cX8_text 109 = .ok (.iadd, 1) := by decide +kernel
theorem dX8_text_110 : decode cX8_text 110 = .ok (.aload_n 0, 1) := by decide +kernel
theorem dX8_text_111 : decode cX8_text 111 = .ok (.getfield 231, 3) := by decide +kernel
theorem dX8_text_114 : decode cX8_text 114 = .ok (.iastore, 1) := by decide +kernel
theorem dX8_text_115 : decode cX8_text 115 = .ok (.iconst 0, 1) := by decide +kernel
theorem dX8_text_116 : decode cX8_text 116 = .ok (.istore_n 3, 1) := by decide +kernel
theorem dX8_text_117 : decode cX8_text 117 = .ok (.iload_n 3, 1) := by decide +kernel
theorem dX8_text_118 : decode cX8_text 118 = .ok (.aload_n 0, 1) := by decide +kernel
theorem dX8_text_119 : decode cX8_text 119 = .ok (.getfield 225, 3) := by decide +kernel
theorem dX8_text_122 : decode cX8_text 122 = .ok (.if_icmp .ge 29, 3) := by decide +kernel
theorem dX8_text_125 : decode cX8_text 125 = .ok (.aload_n 0, 1) := by decide +kernel
theorem dX8_text_126 : decode cX8_text 126 = .ok (.getfield 9, 3) := by decide +kernel
theorem dX8_text_129 : decode cX8_text 129 = .ok (.bipush 125, 2) := by decide +kernel
theorem dX8_text_131 : decode cX8_text 131 = .ok (.bipush 96, 2) := by decide +kernel
theorem dX8_text_133 : decode cX8_text 133 = .ok (.iload_n 2, 1) := by decide +kernel
theorem dX8_text_134 : decode cX8_text 134 = .ok (.imul, 1) := by decide +kernel
theorem dX8_text_135 : decode cX8_text 135 = .ok (.iadd, 1) := by decide +kernel
theorem dX8_text_136 : decode cX8_text 136 = .ok (.iload_n 3, 1) := by decide +kernel
theorem dX8_text_137 : decode cX8_text 137 = .ok (.iadd, 1) := by decide +kernel
theorem dX8_text_138 : decode cX8_text 138 = .ok (.aload_n 0, 1) := by decide +kernel
theorem dX8_text_139 : decode cX8_text 139 = .ok (.getfield 39, 3) := by decide +kernel
theorem dX8_text_142 : decode cX8_text 142 = .ok (.iload_n 3, 1) := by decide +kernel
theorem dX8_text_143 : decode cX8_text 143 = .ok (.iaload, 1) := by decide +kernel
theorem dX8_text_144 : decode cX8_text 144 = .ok (.iastore, 1) := by decide +kernel
theorem dX8_text_145 : decode cX8_text 145 = .ok (.iinc 3 1, 3) := by decide +kernel
theorem dX8_text_148 : decode cX8_text 148 = .ok (.goto (-31), 3) := by decide +kernel
theorem dX8_text_151 : decode cX8_text 151 = .ok (.aload_n 0, 1) := by decide +kernel
theorem dX8_text_152 : decode cX8_text 152 = .ok (.getfield 9, 3) := by decide +kernel
theorem dX8_text_155 : decode cX8_text 155 = .ok (.bipush 6, 2) := by decide +kernel
theorem dX8_text_157 : decode cX8_text 157 = .ok (.dup2, 1) := by decide +kernel
theorem dX8_text_158 : decode cX8_text 158 = .ok (.iaload, 1) := by decide +kernel
theorem dX8_text_159 : decode cX8_text 159 = .ok (.iconst 1, 1) := by decide +kernel
theorem dX8_text_160 : decode cX8_text 160 = .ok (.iadd, 1) := by decide +kernel
theorem dX8_text_161 : decode cX8_text 161 = .ok (.iastore, 1) := by decide +kernel
theorem dX8_text_162 : decode cX8_text 162 = .ok (.iload_n 2, 1) := by decide +kernel
theorem dX8_text_163 : decode cX8_text 163 = .ok (.ireturn, 1) := by decide +kernel
theorem dX8_textTold_0 : decode cX8_textTold 0 = .ok (.iload_n 1, 1) := by decide +kernel
theorem dX8_textTold_1 : decode cX8_textTold 1 = .ok (.iconst 0, 1) := by decide +kernel
theorem dX8_textTold_2 : decode cX8_textTold 2 = .ok (.aload_n 0, 1) := by decide +kernel
theorem dX8_textTold_3 : decode cX8_textTold 3 = .ok (.getfield 9, 3) := by decide +kernel
theorem dX8_textTold_6 : decode cX8_textTold 6 = .ok (.bipush 6, 2) := by decide +kernel
theorem dX8_textTold_8 : decode cX8_textTold 8 = .ok (.iaload, 1) := by decide +kernel
theorem dX8_textTold_9 : decode cX8_textTold 9 = .ok (.iconst 1, 1) := by decide +kernel
theorem dX8_textTold_10 : decode cX8_textTold 10 = .ok (.isub, 1) := by decide +kernel
theorem dX8_textTold_11 : decode cX8_textTold 11 = .ok (.invokestatic 82, 3) := by decide +kernel
theorem dX8_textTold_14 : decode cX8_textTold 14 = .ok (.ifCond .eq 12, 3) := by decide +kernel
theorem dX8_textTold_17 : decode cX8_textTold 17 = .ok (.iload_n 2, 1) := by decide +kernel
theorem dX8_textTold_18 : decode cX8_textTold 18 = .ok (.iconst 0, 1) := by decide +kernel
theorem dX8_textTold_19 : decode cX8_textTold 19 = .ok (.iconst 1, 1) := by decide +kernel
theorem dX8_textTold_20 : decode cX8_textTold 20 = .ok (.invokestatic 82, 3) := by decide +kernel
theorem dX8_textTold_23 : decode cX8_textTold 23 = .ok (.ifCond .ne 6, 3) := by decide +kernel
theorem dX8_textTold_26 : decode cX8_textTold 26 = .ok (.ldc 94, 2) := by decide +kernel
theorem dX8_textTold_28 : decode cX8_textTold 28 = .ok (.ireturn, 1) := by decide +kernel
theorem dX8_textTold_29 : decode cX8_textTold 29 = .ok (.iload_n 2, 1) := by decide +kernel
theorem dX8_textTold_30 : decode cX8_textTold 30 = .ok (.ifCond .ne 21, 3) := by decide +kernel
theorem dX8_textTold_33 : decode cX8_textTold 33 = .ok (.aload_n 0, 1) := by decide +kernel
theorem dX8_textTold_34 : decode cX8_textTold 34 = .ok (.getfield 9, 3) := by decide +kernel
theorem dX8_textTold_37 : decode cX8_textTold 37 = .ok (.bipush 97, 2) := by decide +kernel
theorem dX8_textTold_39 : decode cX8_textTold 39 = .ok (.iconst 2, 1) := by decide +kernel
theorem dX8_textTold_40 : decode cX8_textTold 40 = .ok (.iload_n 1, 1) := by decide +kernel
theorem dX8_textTold_41 : decode cX8_textTold 41 = .ok (.imul, 1) := by decide +kernel
theorem dX8_textTold_42 : decode cX8_textTold 42 = .ok (.iadd, 1) := by decide +kernel
theorem dX8_textTold_43 : decode cX8_textTold 43 = .ok (.iaload, 1) := by decide +kernel
theorem dX8_textTold_44 : decode cX8_textTold 44 = .ok (.sipush 1000, 3) := by decide +kernel
theorem dX8_textTold_47 : decode cX8_textTold 47 = .ok (.idiv, 1) := by decide +kernel
theorem dX8_textTold_48 : decode cX8_textTold 48 = .ok (.goto 16, 3) := by decide +kernel
theorem dX8_textTold_51 : decode cX8_textTold 51 = .ok (.aload_n 0, 1) := by decide +kernel
theorem dX8_textTold_52 : decode cX8_textTold 52 = .ok (.getfield 9, 3) := by decide +kernel
theorem dX8_textTold_55 : decode cX8_textTold 55 = .ok (.bipush 97, 2) := by decide +kernel
theorem dX8_textTold_57 : decode cX8_textTold 57 = .ok (.iconst 2, 1) := by decide +kernel
theorem dX8_textTold_58 : decode cX8_textTold 58 = .ok (.iload_n 1, 1) := by decide +kernel
theorem dX8_textTold_59 : decode cX8_textTold 59 = .ok (.imul, 1) := by decide +kernel
theorem dX8_textTold_60 : decode cX8_textTold 60 = .ok (.iadd, 1) := by decide +kernel
theorem dX8_textTold_61 : decode cX8_textTold 61 = .ok (.iconst 1, 1) := by decide +kernel
theorem dX8_textTold_62 : decode cX8_textTold 62 = .ok (.iadd, 1) := by decide +kernel
theorem dX8_textTold_63 : decode cX8_textTold 63 = .ok (.iaload, 1) := by decide +kernel
theorem dX8_textTold_64 : decode cX8_textTold 64 = .ok (.ireturn, 1) := by decide +kernel
theorem dX8_counts_0 : decode cX8_counts 0 = .ok (.aload_n 0, 1) := by decide +kernel
theorem dX8_counts_1 : decode cX8_counts 1 = .ok (.getfield 9, 3) := by decide +kernel
theorem dX8_counts_4 : decode cX8_counts 4 = .ok (.bipush 6, 2) := by decide +kernel
theorem dX8_counts_6 : decode cX8_counts 6 = .ok (.iaload, 1) := by decide +kernel
theorem dX8_counts_7 : decode cX8_counts 7 = .ok (.iconst 1, 1) := by decide +kernel
theorem dX8_counts_8 : decode cX8_counts 8 = .ok (.isub, 1) := by decide +kernel
theorem dX8_counts_9 : decode cX8_counts 9 = .ok (.istore_n 2, 1) := by decide +kernel
theorem dX8_counts_10 : decode cX8_counts 10 = .ok (.iload_n 2, 1) := by decide +kernel
theorem dX8_counts_11 : decode cX8_counts 11 = .ok (.ifCond .lt 30, 3) := by decide +kernel
theorem dX8_counts_14 : decode cX8_counts 14 = .ok (.aload_n 0, 1) := by decide +kernel
theorem dX8_counts_15 : decode cX8_counts 15 = .ok (.getfield 9, 3) := by decide +kernel
theorem dX8_counts_18 : decode cX8_counts 18 = .ok (.bipush 97, 2) := by decide +kernel
theorem dX8_counts_20 : decode cX8_counts 20 = .ok (.iconst 2, 1) := by decide +kernel
theorem dX8_counts_21 : decode cX8_counts 21 = .ok (.iload_n 2, 1) := by decide +kernel
theorem dX8_counts_22 : decode cX8_counts 22 = .ok (.imul, 1) := by decide +kernel
theorem dX8_counts_23 : decode cX8_counts 23 = .ok (.iadd, 1) := by decide +kernel
theorem dX8_counts_24 : decode cX8_counts 24 = .ok (.iaload, 1) := by decide +kernel
theorem dX8_counts_25 : decode cX8_counts 25 = .ok (.sipush 1000, 3) := by decide +kernel
theorem dX8_counts_28 : decode cX8_counts 28 = .ok (.idiv, 1) := by decide +kernel
theorem dX8_counts_29 : decode cX8_counts 29 = .ok (.iload_n 1, 1) := by decide +kernel
theorem dX8_counts_30 : decode cX8_counts 30 = .ok (.if_icmp .ne 5, 3) := by decide +kernel
theorem dX8_counts_33 : decode cX8_counts 33 = .ok (.iload_n 2, 1) := by decide +kernel
theorem dX8_counts_34 : decode cX8_counts 34 = .ok (.ireturn, 1) := by decide +kernel
theorem dX8_counts_35 : decode cX8_counts 35 = .ok (.iinc 2 (-1), 3) := by decide +kernel
theorem dX8_counts_38 : decode cX8_counts 38 = .ok (.goto (-28), 3) := by decide +kernel
theorem dX8_counts_41 : decode cX8_counts 41 = .ok (.iconst (-1), 1) := by decide +kernel
theorem dX8_counts_42 : decode cX8_counts 42 = .ok (.ireturn, 1) := by decide +kernel
theorem dX8_why_0 : decode cX8_why 0 = .ok (.iload_n 1, 1) := by decide +kernel
theorem dX8_why_1 : decode cX8_why 1 = .ok (.iconst 0, 1) := by decide +kernel
theorem dX8_why_2 : decode cX8_why 2 = .ok (.iconst 2, 1) := by decide +kernel
theorem dX8_why_3 : decode cX8_why 3 = .ok (.invokestatic 82, 3) := by decide +kernel
theorem dX8_why_6 : decode cX8_why 6 = .ok (.ifCond .ne 6, 3) := by decide +kernel
theorem dX8_why_9 : decode cX8_why 9 = .ok (.ldc 94, 2) := by decide +kernel
theorem dX8_why_11 : decode cX8_why 11 = .ok (.ireturn, 1) := by decide +kernel
theorem dX8_why_12 : decode cX8_why 12 = .ok (.aload_n 0, 1) := by decide +kernel
theorem dX8_why_13 : decode cX8_why 13 = .ok (.iload_n 1, 1) := by decide +kernel
theorem dX8_why_14 : decode cX8_why 14 = .ok (.invokevirtual 100, 3) := by decide +kernel
theorem dX8_why_17 : decode cX8_why 17 = .ok (.istore_n 2, 1) := by decide +kernel
theorem dX8_why_18 : decode cX8_why 18 = .ok (.iload_n 2, 1) := by decide +kernel
theorem dX8_why_19 : decode cX8_why 19 = .ok (.ifCond .ge 8, 3) := by decide +kernel
theorem dX8_why_22 : decode cX8_why 22 = .ok (.ldc 150, 2) := by decide +kernel
theorem dX8_why_24 : decode cX8_why 24 = .ok (.goto 4, 3) := by decide +kernel
theorem dX8_why_27 : decode cX8_why 27 = .ok (.iload_n 2, 1) := by decide +kernel
theorem dX8_why_28 : decode cX8_why 28 = .ok (.ireturn, 1) := by decide +kernel
theorem dX8_two_0 : decode cX8_two 0 = .ok (.iload_n 0, 1) := by decide +kernel
theorem dX8_two_1 : decode cX8_two 1 = .ok (.tableswitch 120 (-8) (-1) #[116, 112, 108, 97, 86, 75, 61, 47], 47) := by decide +kernel
theorem dX8_two_48 : decode cX8_two 48 = .ok (.iload_n 1, 1) := by decide +kernel
theorem dX8_two_49 : decode cX8_two 49 = .ok (.ifCond .ne 7, 3) := by decide +kernel
theorem dX8_two_52 : decode cX8_two 52 = .ok (.iload_n 2, 1) := by decide +kernel
theorem dX8_two_53 : decode cX8_two 53 = .ok (.ifCond .eq 7, 3) := by decide +kernel
theorem dX8_two_56 : decode cX8_two 56 = .ok (.iconst 1, 1) := by decide +kernel
theorem dX8_two_57 : decode cX8_two 57 = .ok (.goto 4, 3) := by decide +kernel
theorem dX8_two_60 : decode cX8_two 60 = .ok (.iconst 0, 1) := by decide +kernel
theorem dX8_two_61 : decode cX8_two 61 = .ok (.ireturn, 1) := by decide +kernel
theorem dX8_two_62 : decode cX8_two 62 = .ok (.iload_n 1, 1) := by decide +kernel
theorem dX8_two_63 : decode cX8_two 63 = .ok (.ifCond .eq 11, 3) := by decide +kernel
theorem dX8_two_66 : decode cX8_two 66 = .ok (.iload_n 2, 1) := by decide +kernel
theorem dX8_two_67 : decode cX8_two 67 = .ok (.ifCond .eq 7, 3) := by decide +kernel
theorem dX8_two_70 : decode cX8_two 70 = .ok (.iconst 1, 1) := by decide +kernel
theorem dX8_two_71 : decode cX8_two 71 = .ok (.goto 4, 3) := by decide +kernel
theorem dX8_two_74 : decode cX8_two 74 = .ok (.iconst 0, 1) := by decide +kernel
theorem dX8_two_75 : decode cX8_two 75 = .ok (.ireturn, 1) := by decide +kernel
theorem dX8_two_76 : decode cX8_two 76 = .ok (.iload_n 1, 1) := by decide +kernel
theorem dX8_two_77 : decode cX8_two 77 = .ok (.iload_n 2, 1) := by decide +kernel
theorem dX8_two_78 : decode cX8_two 78 = .ok (.if_icmp .ge 7, 3) := by decide +kernel
theorem dX8_two_81 : decode cX8_two 81 = .ok (.iconst 1, 1) := by decide +kernel
theorem dX8_two_82 : decode cX8_two 82 = .ok (.goto 4, 3) := by decide +kernel
theorem dX8_two_85 : decode cX8_two 85 = .ok (.iconst 0, 1) := by decide +kernel
theorem dX8_two_86 : decode cX8_two 86 = .ok (.ireturn, 1) := by decide +kernel
theorem dX8_two_87 : decode cX8_two 87 = .ok (.iload_n 1, 1) := by decide +kernel
theorem dX8_two_88 : decode cX8_two 88 = .ok (.iload_n 2, 1) := by decide +kernel
theorem dX8_two_89 : decode cX8_two 89 = .ok (.if_icmp .ne 7, 3) := by decide +kernel
theorem dX8_two_92 : decode cX8_two 92 = .ok (.iconst 1, 1) := by decide +kernel
theorem dX8_two_93 : decode cX8_two 93 = .ok (.goto 4, 3) := by decide +kernel
theorem dX8_two_96 : decode cX8_two 96 = .ok (.iconst 0, 1) := by decide +kernel
theorem dX8_two_97 : decode cX8_two 97 = .ok (.ireturn, 1) := by decide +kernel
theorem dX8_two_98 : decode cX8_two 98 = .ok (.iload_n 1, 1) := by decide +kernel
theorem dX8_two_99 : decode cX8_two 99 = .ok (.iload_n 2, 1) := by decide +kernel
theorem dX8_two_100 : decode cX8_two 100 = .ok (.if_icmp .le 7, 3) := by decide +kernel
theorem dX8_two_103 : decode cX8_two 103 = .ok (.iconst 1, 1) := by decide +kernel
theorem dX8_two_104 : decode cX8_two 104 = .ok (.goto 4, 3) := by decide +kernel
theorem dX8_two_107 : decode cX8_two 107 = .ok (.iconst 0, 1) := by decide +kernel
theorem dX8_two_108 : decode cX8_two 108 = .ok (.ireturn, 1) := by decide +kernel
theorem dX8_two_109 : decode cX8_two 109 = .ok (.iload_n 1, 1) := by decide +kernel
theorem dX8_two_110 : decode cX8_two 110 = .ok (.iload_n 2, 1) := by decide +kernel
theorem dX8_two_111 : decode cX8_two 111 = .ok (.iadd, 1) := by decide +kernel
theorem dX8_two_112 : decode cX8_two 112 = .ok (.ireturn, 1) := by decide +kernel
theorem dX8_two_113 : decode cX8_two 113 = .ok (.iload_n 1, 1) := by decide +kernel
theorem dX8_two_114 : decode cX8_two 114 = .ok (.iload_n 2, 1) := by decide +kernel
theorem dX8_two_115 : decode cX8_two 115 = .ok (.isub, 1) := by decide +kernel
theorem dX8_two_116 : decode cX8_two 116 = .ok (.ireturn, 1) := by decide +kernel
theorem dX8_two_117 : decode cX8_two 117 = .ok (.iload_n 1, 1) := by decide +kernel
theorem dX8_two_118 : decode cX8_two 118 = .ok (.iload_n 2, 1) := by decide +kernel
theorem dX8_two_119 : decode cX8_two 119 = .ok (.imul, 1) := by decide +kernel
theorem dX8_two_120 : decode cX8_two 120 = .ok (.ireturn, 1) := by decide +kernel
theorem dX8_two_121 : decode cX8_two 121 = .ok (.iload_n 2, 1) := by decide +kernel
theorem dX8_two_122 : decode cX8_two 122 = .ok (.ifCond .ne 7, 3) := by decide +kernel
theorem dX8_two_125 : decode cX8_two 125 = .ok (.iconst 0, 1) := by decide +kernel
theorem dX8_two_126 : decode cX8_two 126 = .ok (.goto 6, 3) := by decide +kernel
theorem dX8_two_129 : decode cX8_two 129 = .ok (.iload_n 1, 1) := by decide +kernel
theorem dX8_two_130 : decode cX8_two 130 = .ok (.iload_n 2, 1) := by decide +kernel
theorem dX8_two_131 : decode cX8_two 131 = .ok (.idiv, 1) := by decide +kernel
theorem dX8_two_132 : decode cX8_two 132 = .ok (.ireturn, 1) := by decide +kernel
theorem dX8_worksOut_0 : decode cX8_worksOut 0 = .ok (.iconst 0, 1) := by decide +kernel
theorem dX8_worksOut_1 : decode cX8_worksOut 1 = .ok (.istore_n 2, 1) := by decide +kernel
theorem dX8_worksOut_2 : decode cX8_worksOut 2 = .ok (.aload_n 0, 1) := by decide +kernel
theorem dX8_worksOut_3 : decode cX8_worksOut 3 = .ok (.getfield 9, 3) := by decide +kernel
theorem dX8_worksOut_6 : decode cX8_worksOut 6 = .ok (.bipush 97, 2) := by decide +kernel
theorem dX8_worksOut_8 : decode cX8_worksOut 8 = .ok (.iconst 2, 1) := by decide +kernel
theorem dX8_worksOut_9 : decode cX8_worksOut 9 = .ok (.iload_n 1, 1) := by decide +kernel
theorem dX8_worksOut_10 : decode cX8_worksOut 10 = .ok (.imul, 1) := by decide +kernel
theorem dX8_worksOut_11 : decode cX8_worksOut 11 = .ok (.iadd, 1) := by decide +kernel
theorem dX8_worksOut_12 : decode cX8_worksOut 12 = .ok (.iaload, 1) := by decide +kernel
theorem dX8_worksOut_13 : decode cX8_worksOut 13 = .ok (.sipush 1000, 3) := by decide +kernel
theorem dX8_worksOut_16 : decode cX8_worksOut 16 = .ok (.irem, 1) := by decide +kernel
theorem dX8_worksOut_17 : decode cX8_worksOut 17 = .ok (.istore_n 3, 1) := by decide +kernel
theorem dX8_worksOut_18 : decode cX8_worksOut 18 = .ok (.iconst 0, 1) := by decide +kernel
theorem dX8_worksOut_19 : decode cX8_worksOut 19 = .ok (.istore 4, 2) := by decide +kernel
theorem dX8_worksOut_21 : decode cX8_worksOut 21 = .ok (.iload 4, 2) := by decide +kernel
theorem dX8_worksOut_23 : decode cX8_worksOut 23 = .ok (.iload_n 3, 1) := by decide +kernel
theorem dX8_worksOut_24 : decode cX8_worksOut 24 = .ok (.if_icmp .ge 131, 3) := by decide +kernel
theorem dX8_worksOut_27 : decode cX8_worksOut 27 = .ok (.aload_n 0, 1) := by decide +kernel
theorem dX8_worksOut_28 : decode cX8_worksOut 28 = .ok (.getfield 9, 3) := by decide +kernel
theorem dX8_worksOut_31 : decode cX8_worksOut 31 = .ok (.bipush 125, 2) := by decide +kernel
theorem dX8_worksOut_33 : decode cX8_worksOut 33 = .ok (.bipush 96, 2) := by decide +kernel
theorem dX8_worksOut_35 : decode cX8_worksOut 35 = .ok (.iload_n 1, 1) := by decide +kernel
theorem dX8_worksOut_36 : decode cX8_worksOut 36 = .ok (.imul, 1) := by decide +kernel
theorem dX8_worksOut_37 : decode cX8_worksOut 37 = .ok (.iadd, 1) := by decide +kernel
theorem dX8_worksOut_38 : decode cX8_worksOut 38 = .ok (.iload 4, 2) := by decide +kernel
theorem dX8_worksOut_40 : decode cX8_worksOut 40 = .ok (.iadd, 1) := by decide +kernel
theorem dX8_worksOut_41 : decode cX8_worksOut 41 = .ok (.iaload, 1) := by decide +kernel
theorem dX8_worksOut_42 : decode cX8_worksOut 42 = .ok (.istore 5, 2) := by decide +kernel
theorem dX8_worksOut_44 : decode cX8_worksOut 44 = .ok (.iload 5, 2) := by decide +kernel
theorem dX8_worksOut_46 : decode cX8_worksOut 46 = .ok (.ifCond .lt 39, 3) := by decide +kernel
theorem dX8_worksOut_49 : decode cX8_worksOut 49 = .ok (.aload_n 0, 1) := by decide +kernel
theorem dX8_worksOut_50 : decode cX8_worksOut 50 = .ok (.getfield 49, 3) := by decide +kernel
theorem dX8_worksOut_53 : decode cX8_worksOut 53 = .ok (.iload_n 2, 1) := by decide +kernel
theorem dX8_worksOut_54 : decode cX8_worksOut 54 = .ok (.iload 5, 2) := by decide +kernel
theorem dX8_worksOut_56 : decode cX8_worksOut 56 = .ok (.sipush 10000, 3) := by decide +kernel
theorem dX8_worksOut_59 : decode cX8_worksOut 59 = .ok (.if_icmp .ge 8, 3) := by decide +kernel
theorem dX8_worksOut_62 : decode cX8_worksOut 62 = .ok (.iload 5, 2) := by decide +kernel
theorem dX8_worksOut_64 : decode cX8_worksOut 64 = .ok (.goto 14, 3) := by decide +kernel
theorem dX8_worksOut_67 : decode cX8_worksOut 67 = .ok (.aload_n 0, 1) := by decide +kernel
theorem dX8_worksOut_68 : decode cX8_worksOut 68 = .ok (.getfield 52, 3) := by decide +kernel
theorem dX8_worksOut_71 : decode cX8_worksOut 71 = .ok (.iload 5, 2) := by decide +kernel
theorem dX8_worksOut_73 : decode cX8_worksOut 73 = .ok (.sipush 10000, 3) := by decide +kernel
theorem dX8_worksOut_76 : decode cX8_worksOut 76 = .ok (.isub, 1) := by decide +kernel
theorem dX8_worksOut_77 : decode cX8_worksOut 77 = .ok (.iaload, 1) := by decide +kernel
theorem dX8_worksOut_78 : decode cX8_worksOut 78 = .ok (.iastore, 1) := by decide +kernel
theorem dX8_worksOut_79 : decode cX8_worksOut 79 = .ok (.iinc 2 1, 3) := by decide +kernel
theorem dX8_worksOut_82 : decode cX8_worksOut 82 = .ok (.goto 67, 3) := by decide +kernel
theorem dX8_worksOut_85 : decode cX8_worksOut 85 = .ok (.iload 5, 2) := by decide +kernel
theorem dX8_worksOut_87 : decode cX8_worksOut 87 = .ok (.bipush (-10), 2) := by decide +kernel
theorem dX8_worksOut_89 : decode cX8_worksOut 89 = .ok (.if_icmp .ne 30, 3) := by decide +kernel
theorem dX8_worksOut_92 : decode cX8_worksOut 92 = .ok (.aload_n 0, 1) := by decide +kernel
theorem dX8_worksOut_93 : decode cX8_worksOut 93 = .ok (.getfield 49, 3) := by decide +kernel
theorem dX8_worksOut_96 : decode cX8_worksOut 96 = .ok (.iload_n 2, 1) := by decide +kernel
theorem dX8_worksOut_97 : decode cX8_worksOut 97 = .ok (.iconst 1, 1) := by decide +kernel
theorem dX8_worksOut_98 : decode cX8_worksOut 98 = .ok (.isub, 1) := by decide +kernel
theorem dX8_worksOut_99 : decode cX8_worksOut 99 = .ok (.aload_n 0, 1) := by decide +kernel
theorem dX8_worksOut_100 : decode cX8_worksOut 100 = .ok (.getfield 49, 3) := by decide +kernel
theorem dX8_worksOut_103 : decode cX8_worksOut 103 = .ok (.iload_n 2, 1) := by decide +kernel
theorem dX8_worksOut_104 : decode cX8_worksOut 104 = .ok (.iconst 1, 1) := by decide +kernel
theorem dX8_worksOut_105 : decode cX8_worksOut 105 = .ok (.isub, 1) := by decide +kernel
theorem dX8_worksOut_106 : decode cX8_worksOut 106 = .ok (.iaload, 1) := by decide +kernel
theorem dX8_worksOut_107 : decode cX8_worksOut 107 = .ok (.ifCond .ne 7, 3) := by decide +kernel
theorem dX8_worksOut_110 : decode cX8_worksOut 110 = .ok (.iconst 1, 1) := by decide +kernel
theorem dX8_worksOut_111 : decode cX8_worksOut 111 = .ok (.goto 4, 3) := by decide +kernel
theorem dX8_worksOut_114 : decode cX8_worksOut 114 = .ok (.iconst 0, 1) := by decide +kernel
theorem dX8_worksOut_115 : decode cX8_worksOut 115 = .ok (.iastore, 1) := by decide +kernel
theorem dX8_worksOut_116 : decode cX8_worksOut 116 = .ok (.goto 33, 3) := by decide +kernel
theorem dX8_worksOut_119 : decode cX8_worksOut 119 = .ok (.iinc 2 (-1), 3) := by decide +kernel
theorem dX8_worksOut_122 : decode cX8_worksOut 122 = .ok (.aload_n 0, 1) := by decide +kernel
theorem dX8_worksOut_123 : decode cX8_worksOut 123 = .ok (.getfield 49, 3) := by decide +kernel
theorem dX8_worksOut_126 : decode cX8_worksOut 126 = .ok (.iload_n 2, 1) := by decide +kernel
theorem dX8_worksOut_127 : decode cX8_worksOut 127 = .ok (.iconst 1, 1) := by decide +kernel
theorem dX8_worksOut_128 : decode cX8_worksOut 128 = .ok (.isub, 1) := by decide +kernel
theorem dX8_worksOut_129 : decode cX8_worksOut 129 = .ok (.iload 5, 2) := by decide +kernel
theorem dX8_worksOut_131 : decode cX8_worksOut 131 = .ok (.aload_n 0, 1) := by decide +kernel
theorem dX8_worksOut_132 : decode cX8_worksOut 132 = .ok (.getfield 49, 3) := by decide +kernel
theorem dX8_worksOut_135 : decode cX8_worksOut 135 = .ok (.iload_n 2, 1) := by decide +kernel
theorem dX8_worksOut_136 : decode cX8_worksOut 136 = .ok (.iconst 1, 1) := by decide +kernel
theorem dX8_worksOut_137 : decode cX8_worksOut 137 = .ok (.isub, 1) := by decide +kernel
theorem dX8_worksOut_138 : decode cX8_worksOut 138 = .ok (.iaload, 1) := by decide +kernel
theorem dX8_worksOut_139 : decode cX8_worksOut 139 = .ok (.aload_n 0, 1) := by decide +kernel
theorem dX8_worksOut_140 : decode cX8_worksOut 140 = .ok (.getfield 49, 3) := by decide +kernel
theorem dX8_worksOut_143 : decode cX8_worksOut 143 = .ok (.iload_n 2, 1) := by decide +kernel
theorem dX8_worksOut_144 : decode cX8_worksOut 144 = .ok (.iaload, 1) := by decide +kernel
theorem dX8_worksOut_145 : decode cX8_worksOut 145 = .ok (.invokestatic 253, 3) := by decide +kernel
theorem dX8_worksOut_148 : decode cX8_worksOut 148 = .ok (.iastore, 1) := by decide +kernel
theorem dX8_worksOut_149 : decode cX8_worksOut 149 = .ok (.iinc 4 1, 3) := by decide +kernel
theorem dX8_worksOut_152 : decode cX8_worksOut 152 = .ok (.goto (-131), 3) := by decide +kernel
theorem dX8_worksOut_155 : decode cX8_worksOut 155 = .ok (.aload_n 0, 1) := by decide +kernel
theorem dX8_worksOut_156 : decode cX8_worksOut 156 = .ok (.getfield 49, 3) := by decide +kernel
theorem dX8_worksOut_159 : decode cX8_worksOut 159 = .ok (.iconst 0, 1) := by decide +kernel
theorem dX8_worksOut_160 : decode cX8_worksOut 160 = .ok (.iaload, 1) := by decide +kernel
theorem dX8_worksOut_161 : decode cX8_worksOut 161 = .ok (.ireturn, 1) := by decide +kernel
theorem dX8_isSheet_0 : decode cX8_isSheet 0 = .ok (.iload_n 0, 1) := by decide +kernel
theorem dX8_isSheet_1 : decode cX8_isSheet 1 = .ok (.iconst 0, 1) := by decide +kernel
theorem dX8_isSheet_2 : decode cX8_isSheet 2 = .ok (.iconst 3, 1) := by decide +kernel
theorem dX8_isSheet_3 : decode cX8_isSheet 3 = .ok (.invokestatic 82, 3) := by decide +kernel
theorem dX8_isSheet_6 : decode cX8_isSheet 6 = .ok (.ireturn, 1) := by decide +kernel
theorem dX8_isSlot_0 : decode cX8_isSlot 0 = .ok (.iload_n 0, 1) := by decide +kernel
theorem dX8_isSlot_1 : decode cX8_isSlot 1 = .ok (.iconst 0, 1) := by decide +kernel
theorem dX8_isSlot_2 : decode cX8_isSlot 2 = .ok (.iconst 4, 1) := by decide +kernel
theorem dX8_isSlot_3 : decode cX8_isSlot 3 = .ok (.invokestatic 82, 3) := by decide +kernel
theorem dX8_isSlot_6 : decode cX8_isSlot 6 = .ok (.ireturn, 1) := by decide +kernel
theorem dX8_sheet_0 : decode cX8_sheet 0 = .ok (.iload_n 1, 1) := by decide +kernel
theorem dX8_sheet_1 : decode cX8_sheet 1 = .ok (.invokestatic 184, 3) := by decide +kernel
theorem dX8_sheet_4 : decode cX8_sheet 4 = .ok (.ifCond .eq 22, 3) := by decide +kernel
theorem dX8_sheet_7 : decode cX8_sheet 7 = .ok (.iload_n 2, 1) := by decide +kernel
theorem dX8_sheet_8 : decode cX8_sheet 8 = .ok (.iconst (-1), 1) := by decide +kernel
theorem dX8_sheet_9 : decode cX8_sheet 9 = .ok (.iconst 1, 1) := by decide +kernel
theorem dX8_sheet_10 : decode cX8_sheet 10 = .ok (.invokestatic 82, 3) := by decide +kernel
theorem dX8_sheet_13 : decode cX8_sheet 13 = .ok (.ifCond .eq 13, 3) := by decide +kernel
theorem dX8_sheet_16 : decode cX8_sheet 16 = .ok (.iload_n 2, 1) := by decide +kernel
theorem dX8_sheet_17 : decode cX8_sheet 17 = .ok (.ifCond .lt 12, 3) := by decide +kernel
theorem dX8_sheet_20 : decode cX8_sheet 20 = .ok (.iload_n 3, 1) := by decide +kernel
theorem dX8_sheet_21 : decode cX8_sheet 21 = .ok (.bipush 24, 2) := by decide +kernel
theorem dX8_sheet_23 : decode cX8_sheet 23 = .ok (.if_icmp .le 6, 3) := by decide +kernel
theorem dX8_sheet_26 : decode cX8_sheet 26 = .ok (.ldc 94, 2) := by decide +kernel
theorem dX8_sheet_28 : decode cX8_sheet 28 = .ok (.ireturn, 1) := by decide +kernel
theorem dX8_sheet_29 : decode cX8_sheet 29 = .ok (.iload_n 2, 1) := by decide +kernel
theorem dX8_sheet_30 : decode cX8_sheet 30 = .ok (.ifCond .lt 11, 3) := by decide +kernel
theorem dX8_sheet_33 : decode cX8_sheet 33 = .ok (.iload_n 3, 1) := by decide +kernel
theorem dX8_sheet_34 : decode cX8_sheet 34 = .ok (.ifCond .ge 7, 3) := by decide +kernel
theorem dX8_sheet_37 : decode cX8_sheet 37 = .ok (.ldc_w 256, 3) := by decide +kernel
theorem dX8_sheet_40 : decode cX8_sheet 40 = .ok (.ireturn, 1) := by decide +kernel
theorem dX8_sheet_41 : decode cX8_sheet 41 = .ok (.aload_n 0, 1) := by decide +kernel
theorem dX8_sheet_42 : decode cX8_sheet 42 = .ok (.getfield 55, 3) := by decide +kernel
theorem dX8_sheet_45 : decode cX8_sheet 45 = .ok (.iload_n 1, 1) := by decide +kernel
theorem dX8_sheet_46 : decode cX8_sheet 46 = .ok (.iload_n 2, 1) := by decide +kernel
theorem dX8_sheet_47 : decode cX8_sheet 47 = .ok (.iastore, 1) := by decide +kernel
theorem dX8_sheet_48 : decode cX8_sheet 48 = .ok (.aload_n 0, 1) := by decide +kernel
theorem dX8_sheet_49 : decode cX8_sheet 49 = .ok (.getfield 58, 3) := by decide +kernel
theorem dX8_sheet_52 : decode cX8_sheet 52 = .ok (.iload_n 1, 1) := by decide +kernel
theorem dX8_sheet_53 : decode cX8_sheet 53 = .ok (.iload_n 2, 1) := by decide +kernel
theorem dX8_sheet_54 : decode cX8_sheet 54 = .ok (.ifCond .ge 7, 3) := by decide +kernel
theorem dX8_sheet_57 : decode cX8_sheet 57 = .ok (.iconst 0, 1) := by decide +kernel
theorem dX8_sheet_58 : decode cX8_sheet 58 = .ok (.goto 4, 3) := by decide +kernel
theorem dX8_sheet_61 : decode cX8_sheet 61 = .ok (.iload_n 3, 1) := by decide +kernel
theorem dX8_sheet_62 : decode cX8_sheet 62 = .ok (.iastore, 1) := by decide +kernel
theorem dX8_sheet_63 : decode cX8_sheet 63 = .ok (.iconst 0, 1) := by decide +kernel
theorem dX8_sheet_64 : decode cX8_sheet 64 = .ok (.istore 4, 2) := by decide +kernel
theorem dX8_sheet_66 : decode cX8_sheet 66 = .ok (.iload 4, 2) := by decide +kernel
theorem dX8_sheet_68 : decode cX8_sheet 68 = .ok (.bipush 24, 2) := by decide +kernel
theorem dX8_sheet_70 : decode cX8_sheet 70 = .ok (.if_icmp .ge 22, 3) := by decide +kernel
theorem dX8_sheet_73 : decode cX8_sheet 73 = .ok (.aload_n 0, 1) := by decide +kernel
theorem dX8_sheet_74 : decode cX8_sheet 74 = .ok (.getfield 61, 3) := by decide +kernel
theorem dX8_sheet_77 : decode cX8_sheet 77 = .ok (.bipush 24, 2) := by decide +kernel
theorem dX8_sheet_79 : decode cX8_sheet 79 = .ok (.iload_n 1, 1) := by decide +kernel
theorem dX8_sheet_80 : decode cX8_sheet 80 = .ok (.imul, 1) := by decide +kernel
theorem dX8_sheet_81 : decode cX8_sheet 81 = .ok (.iload 4, 2) := by decide +kernel
theorem dX8_sheet_83 : decode cX8_sheet 83 = .ok (.iadd, 1) := by decide +kernel
theorem dX8_sheet_84 : decode cX8_sheet 84 = .ok (.iconst 0, 1) := by decide +kernel
theorem dX8_sheet_85 : decode cX8_sheet 85 = .ok (.iastore, 1) := by decide +kernel
theorem dX8_sheet_86 : decode cX8_sheet 86 = .ok (.iinc 4 1, 3) := by decide +kernel
theorem dX8_sheet_89 : decode cX8_sheet 89 = .ok (.goto (-23), 3) := by decide +kernel
theorem dX8_sheet_92 : decode cX8_sheet 92 = .ok (.aload_n 0, 1) := by decide +kernel
theorem dX8_sheet_93 : decode cX8_sheet 93 = .ok (.getfield 58, 3) := by decide +kernel
theorem dX8_sheet_96 : decode cX8_sheet 96 = .ok (.iload_n 1, 1) := by decide +kernel
theorem dX8_sheet_97 : decode cX8_sheet 97 = .ok (.iaload, 1) := by decide +kernel
theorem dX8_sheet_98 : decode cX8_sheet 98 = .ok (.ireturn, 1) := by decide +kernel
theorem dX8_mark_0 : decode cX8_mark 0 = .ok (.iload_n 1, 1) := by decide +kernel
theorem dX8_mark_1 : decode cX8_mark 1 = .ok (.invokestatic 184, 3) := by decide +kernel
theorem dX8_mark_4 : decode cX8_mark 4 = .ok (.ifCond .ne 6, 3) := by decide +kernel
theorem dX8_mark_7 : decode cX8_mark 7 = .ok (.ldc 94, 2) := by decide +kernel
theorem dX8_mark_9 : decode cX8_mark 9 = .ok (.ireturn, 1) := by decide +kernel
theorem dX8_mark_10 : decode cX8_mark 10 = .ok (.aload_n 0, 1) := by decide +kernel
theorem dX8_mark_11 : decode cX8_mark 11 = .ok (.getfield 55, 3) := by decide +kernel
theorem dX8_mark_14 : decode cX8_mark 14 = .ok (.iload_n 1, 1) := by decide +kernel
theorem dX8_mark_15 : decode cX8_mark 15 = .ok (.iaload, 1) := by decide +kernel
theorem dX8_mark_16 : decode cX8_mark 16 = .ok (.ifCond .ge 6, 3) := by decide +kernel
theorem dX8_mark_19 : decode cX8_mark 19 = .ok (.ldc 187, 2) := by decide +kernel
theorem dX8_mark_21 : decode cX8_mark 21 = .ok (.ireturn, 1) := by decide +kernel
theorem dX8_mark_22 : decode cX8_mark 22 = .ok (.iload_n 2, 1) := by decide +kernel
theorem dX8_mark_23 : decode cX8_mark 23 = .ok (.iconst 0, 1) := by decide +kernel
theorem dX8_mark_24 : decode cX8_mark 24 = .ok (.aload_n 0, 1) := by decide +kernel
theorem dX8_mark_25 : decode cX8_mark 25 = .ok (.getfield 58, 3) := by decide +kernel
theorem dX8_mark_28 : decode cX8_mark 28 = .ok (.iload_n 1, 1) := by decide +kernel
theorem dX8_mark_29 : decode cX8_mark 29 = .ok (.iaload, 1) := by decide +kernel
theorem dX8_mark_30 : decode cX8_mark 30 = .ok (.iconst 1, 1) := by decide +kernel
theorem dX8_mark_31 : decode cX8_mark 31 = .ok (.isub, 1) := by decide +kernel
theorem dX8_mark_32 : decode cX8_mark 32 = .ok (.invokestatic 82, 3) := by decide +kernel
theorem dX8_mark_35 : decode cX8_mark 35 = .ok (.ifCond .ne 7, 3) := by decide +kernel
theorem dX8_mark_38 : decode cX8_mark 38 = .ok (.ldc_w 257, 3) := by decide +kernel
theorem dX8_mark_41 : decode cX8_mark 41 = .ok (.ireturn, 1) := by decide +kernel
theorem dX8_mark_42 : decode cX8_mark 42 = .ok (.aload_n 0, 1) := by decide +kernel
theorem dX8_mark_43 : decode cX8_mark 43 = .ok (.getfield 55, 3) := by decide +kernel
theorem dX8_mark_46 : decode cX8_mark 46 = .ok (.iload_n 1, 1) := by decide +kernel
theorem dX8_mark_47 : decode cX8_mark 47 = .ok (.iaload, 1) := by decide +kernel
theorem dX8_mark_48 : decode cX8_mark 48 = .ok (.ifCond .ne 12, 3) := by decide +kernel
theorem dX8_mark_51 : decode cX8_mark 51 = .ok (.iload_n 3, 1) := by decide +kernel
theorem dX8_mark_52 : decode cX8_mark 52 = .ok (.ldc 150, 2) := by decide +kernel
theorem dX8_mark_54 : decode cX8_mark 54 = .ok (.if_icmp .ne 6, 3) := by decide +kernel
theorem dX8_mark_57 : decode cX8_mark 57 = .ok (.ldc 137, 2) := by decide +kernel
theorem dX8_mark_59 : decode cX8_mark 59 = .ok (.ireturn, 1) := by decide +kernel
theorem dX8_mark_60 : decode cX8_mark 60 = .ok (.aload_n 0, 1) := by decide +kernel
theorem dX8_mark_61 : decode cX8_mark 61 = .ok (.getfield 55, 3) := by decide +kernel
theorem dX8_mark_64 : decode cX8_mark 64 = .ok (.iload_n 1, 1) := by decide +kernel
theorem dX8_mark_65 : decode cX8_mark 65 = .ok (.iaload, 1) := by decide +kernel
theorem dX8_mark_66 : decode cX8_mark 66 = .ok (.iconst 1, 1) := by decide +kernel
theorem dX8_mark_67 : decode cX8_mark 67 = .ok (.if_icmp .ne 25, 3) := by decide +kernel
theorem dX8_mark_70 : decode cX8_mark 70 = .ok (.iload_n 3, 1) := by decide +kernel
theorem dX8_mark_71 : decode cX8_mark 71 = .ok (.ldc 150, 2) := by decide +kernel
theorem dX8_mark_73 : decode cX8_mark 73 = .ok (.if_icmp .eq 19, 3) := by decide +kernel
theorem dX8_mark_76 : decode cX8_mark 76 = .ok (.iload_n 3, 1) := by decide +kernel
theorem dX8_mark_77 : decode cX8_mark 77 = .ok (.ldc_w 258, 3) := by decide +kernel
theorem dX8_mark_80 : decode cX8_mark 80 = .ok (.ldc_w 259, 3) := by decide +kernel
theorem dX8_mark_83 : decode cX8_mark 83 = .ok (.invokestatic 82, 3) := by decide +kernel
theorem dX8_mark_86 : decode cX8_mark 86 = .ok (.ifCond .ne 6, 3) := by decide +kernel
theorem dX8_mark_89 : decode cX8_mark 89 = .ok (.ldc 94, 2) := by decide +kernel
theorem dX8_mark_91 : decode cX8_mark 91 = .ok (.ireturn, 1) := by decide +kernel
theorem dX8_mark_92 : decode cX8_mark 92 = .ok (.aload_n 0, 1) := by decide +kernel
theorem dX8_mark_93 : decode cX8_mark 93 = .ok (.getfield 61, 3) := by decide +kernel
theorem dX8_mark_96 : decode cX8_mark 96 = .ok (.bipush 24, 2) := by decide +kernel
theorem dX8_mark_98 : decode cX8_mark 98 = .ok (.iload_n 1, 1) := by decide +kernel
theorem dX8_mark_99 : decode cX8_mark 99 = .ok (.imul, 1) := by decide +kernel
theorem dX8_mark_100 : decode cX8_mark 100 = .ok (.iload_n 2, 1) := by decide +kernel
theorem dX8_mark_101 : decode cX8_mark 101 = .ok (.iadd, 1) := by decide +kernel
theorem dX8_mark_102 : decode cX8_mark 102 = .ok (.aload_n 0, 1) := by decide +kernel
theorem dX8_mark_103 : decode cX8_mark 103 = .ok (.getfield 55, 3) := by decide +kernel
theorem dX8_mark_106 : decode cX8_mark 106 = .ok (.iload_n 1, 1) := by decide +kernel
theorem dX8_mark_107 : decode cX8_mark 107 = .ok (.iaload, 1) := by decide +kernel
theorem dX8_mark_108 : decode cX8_mark 108 = .ok (.ifCond .ne 8, 3) := by decide +kernel
theorem dX8_mark_111 : decode cX8_mark 111 = .ok (.iload_n 3, 1) := by decide +kernel
theorem dX8_mark_112 : decode cX8_mark 112 = .ok (.i2s, 1) := by decide +kernel
theorem dX8_mark_113 : decode cX8_mark 113 = .ok (.goto 4, 3) := by decide +kernel
theorem dX8_mark_116 : decode cX8_mark 116 = .ok (.iload_n 3, 1) := by decide +kernel
theorem dX8_mark_117 : decode cX8_mark 117 = .ok (.iastore, 1) := by decide +kernel
theorem dX8_mark_118 : decode cX8_mark 118 = .ok (.iconst 1, 1) := by decide +kernel
theorem dX8_mark_119 : decode cX8_mark 119 = .ok (.ireturn, 1) := by decide +kernel
theorem dX8_pour_0 : decode cX8_pour 0 = .ok (.iload_n 1, 1) := by decide +kernel
theorem dX8_pour_1 : decode cX8_pour 1 = .ok (.invokestatic 184, 3) := by decide +kernel
theorem dX8_pour_4 : decode cX8_pour 4 = .ok (.ifCond .ne 6, 3) := by decide +kernel
theorem dX8_pour_7 : decode cX8_pour 7 = .ok (.ldc 94, 2) := by decide +kernel
theorem dX8_pour_9 : decode cX8_pour 9 = .ok (.ireturn, 1) := by decide +kernel
theorem dX8_pour_10 : decode cX8_pour 10 = .ok (.aload_n 0, 1) := by decide +kernel
theorem dX8_pour_11 : decode cX8_pour 11 = .ok (.getfield 55, 3) := by decide +kernel
theorem dX8_pour_14 : decode cX8_pour 14 = .ok (.iload_n 1, 1) := by decide +kernel
theorem dX8_pour_15 : decode cX8_pour 15 = .ok (.iaload, 1) := by decide +kernel
theorem dX8_pour_16 : decode cX8_pour 16 = .ok (.ifCond .ge 6, 3) := by decide +kernel
theorem dX8_pour_19 : decode cX8_pour 19 = .ok (.ldc 187, 2) := by decide +kernel
theorem dX8_pour_21 : decode cX8_pour 21 = .ok (.ireturn, 1) := by decide +kernel
theorem dX8_pour_22 : decode cX8_pour 22 = .ok (.iconst 0, 1) := by decide +kernel
theorem dX8_pour_23 : decode cX8_pour 23 = .ok (.istore_n 2, 1) := by decide +kernel
theorem dX8_pour_24 : decode cX8_pour 24 = .ok (.iconst 0, 1) := by decide +kernel
theorem dX8_pour_25 : decode cX8_pour 25 = .ok (.istore_n 3, 1) := by decide +kernel
theorem dX8_pour_26 : decode cX8_pour 26 = .ok (.iload_n 3, 1) := by decide +kernel
theorem dX8_pour_27 : decode cX8_pour 27 = .ok (.aload_n 0, 1) := by decide +kernel
theorem dX8_pour_28 : decode cX8_pour 28 = .ok (.getfield 58, 3) := by decide +kernel
theorem dX8_pour_31 : decode cX8_pour 31 = .ok (.iload_n 1, 1) := by decide +kernel
theorem dX8_pour_32 : decode cX8_pour 32 = .ok (.iaload, 1) := by decide +kernel
theorem dX8_pour_33 : decode cX8_pour 33 = .ok (.if_icmp .ge 80, 3) := by decide +kernel
theorem dX8_pour_36 : decode cX8_pour 36 = .ok (.iload_n 3, 1) := by decide +kernel
theorem dX8_pour_37 : decode cX8_pour 37 = .ok (.bipush 10, 2) := by decide +kernel
theorem dX8_pour_39 : decode cX8_pour 39 = .ok (.if_icmp .ge 74, 3) := by decide +kernel
theorem dX8_pour_42 : decode cX8_pour 42 = .ok (.aload_n 0, 1) := by decide +kernel
theorem dX8_pour_43 : decode cX8_pour 43 = .ok (.getfield 61, 3) := by decide +kernel
theorem dX8_pour_46 : decode cX8_pour 46 = .ok (.bipush 24, 2) := by decide +kernel
theorem dX8_pour_48 : decode cX8_pour 48 = .ok (.iload_n 1, 1) := by decide +kernel
theorem dX8_pour_49 : decode cX8_pour 49 = .ok (.imul, 1) := by decide +kernel
theorem dX8_pour_50 : decode cX8_pour 50 = .ok (.iload_n 3, 1) := by decide +kernel
theorem dX8_pour_51 : decode cX8_pour 51 = .ok (.iadd, 1) := by decide +kernel
theorem dX8_pour_52 : decode cX8_pour 52 = .ok (.iaload, 1) := by decide +kernel
theorem dX8_pour_53 : decode cX8_pour 53 = .ok (.istore 4, 2) := by decide +kernel
theorem dX8_pour_55 : decode cX8_pour 55 = .ok (.iload 4, 2) := by decide +kernel
theorem dX8_pour_57 : decode cX8_pour 57 = .ok (.ldc 150, 2) := by decide +kernel
theorem dX8_pour_59 : decode cX8_pour 59 = .ok (.if_icmp .ne 15, 3) := by decide +kernel
theorem dX8_pour_62 : decode cX8_pour 62 = .ok (.aload_n 0, 1) := by decide +kernel
theorem dX8_pour_63 : decode cX8_pour 63 = .ok (.getfield 9, 3) := by decide +kernel
theorem dX8_pour_66 : decode cX8_pour 66 = .ok (.bipush 7, 2) := by decide +kernel
theorem dX8_pour_68 : decode cX8_pour 68 = .ok (.iload_n 3, 1) := by decide +kernel
theorem dX8_pour_69 : decode cX8_pour 69 = .ok (.iadd, 1) := by decide +kernel
theorem dX8_pour_70 : decode cX8_pour 70 = .ok (.iaload, 1) := by decide +kernel
theorem dX8_pour_71 : decode cX8_pour 71 = .ok (.goto 11, 3) := by decide +kernel
theorem dX8_pour_74 : decode cX8_pour 74 = .ok (.iload 4, 2) := by decide +kernel
theorem dX8_pour_76 : decode cX8_pour 76 = .ok (.iconst 0, 1) := by decide +kernel
theorem dX8_pour_77 : decode cX8_pour 77 = .ok (.bipush 9, 2) := by decide +kernel
theorem dX8_pour_79 : decode cX8_pour 79 = .ok (.invokestatic 111, 3) := by decide +kernel
theorem dX8_pour_82 : decode cX8_pour 82 = .ok (.istore 5, 2) := by decide +kernel
theorem dX8_pour_84 : decode cX8_pour 84 = .ok (.iload_n 2, 1) := by decide +kernel
theorem dX8_pour_85 : decode cX8_pour 85 = .ok (.aload_n 0, 1) := by decide +kernel
theorem dX8_pour_86 : decode cX8_pour 86 = .ok (.bipush 7, 2) := by decide +kernel
theorem dX8_pour_88 : decode cX8_pour 88 = .ok (.iload_n 3, 1) := by decide +kernel
theorem dX8_pour_89 : decode cX8_pour 89 = .ok (.iadd, 1) := by decide +kernel
theorem dX8_pour_90 : decode cX8_pour 90 = .ok (.iload 5, 2) := by decide +kernel
theorem dX8_pour_92 : decode cX8_pour 92 = .ok (.invokevirtual 138, 3) := by decide +kernel
theorem dX8_pour_95 : decode cX8_pour 95 = .ok (.iload 5, 2) := by decide +kernel
theorem dX8_pour_97 : decode cX8_pour 97 = .ok (.if_icmp .ne 7, 3) := by decide +kernel
theorem dX8_pour_100 : decode cX8_pour 100 = .ok (.iconst 0, 1) := by decide +kernel
theorem dX8_pour_101 : decode cX8_pour 101 = .ok (.goto 4, 3) := by decide +kernel
theorem dX8_pour_104 : decode cX8_pour 104 = .ok (.iconst 1, 1) := by decide +kernel
theorem dX8_pour_105 : decode cX8_pour 105 = .ok (.iadd, 1) := by decide +kernel
theorem dX8_pour_106 : decode cX8_pour 106 = .ok (.istore_n 2, 1) := by decide +kernel
theorem dX8_pour_107 : decode cX8_pour 107 = .ok (.iinc 3 1, 3) := by decide +kernel
theorem dX8_pour_110 : decode cX8_pour 110 = .ok (.goto (-84), 3) := by decide +kernel
theorem dX8_pour_113 : decode cX8_pour 113 = .ok (.iload_n 2, 1) := by decide +kernel
theorem dX8_pour_114 : decode cX8_pour 114 = .ok (.ireturn, 1) := by decide +kernel
theorem dX8_reads_0 : decode cX8_reads 0 = .ok (.iload_n 1, 1) := by decide +kernel
theorem dX8_reads_1 : decode cX8_reads 1 = .ok (.invokestatic 184, 3) := by decide +kernel
theorem dX8_reads_4 : decode cX8_reads 4 = .ok (.ifCond .ne 6, 3) := by decide +kernel
theorem dX8_reads_7 : decode cX8_reads 7 = .ok (.ldc 94, 2) := by decide +kernel
theorem dX8_reads_9 : decode cX8_reads 9 = .ok (.ireturn, 1) := by decide +kernel
theorem dX8_reads_10 : decode cX8_reads 10 = .ok (.aload_n 0, 1) := by decide +kernel
theorem dX8_reads_11 : decode cX8_reads 11 = .ok (.getfield 55, 3) := by decide +kernel
theorem dX8_reads_14 : decode cX8_reads 14 = .ok (.iload_n 1, 1) := by decide +kernel
theorem dX8_reads_15 : decode cX8_reads 15 = .ok (.iaload, 1) := by decide +kernel
theorem dX8_reads_16 : decode cX8_reads 16 = .ok (.ifCond .ge 6, 3) := by decide +kernel
theorem dX8_reads_19 : decode cX8_reads 19 = .ok (.ldc 187, 2) := by decide +kernel
theorem dX8_reads_21 : decode cX8_reads 21 = .ok (.ireturn, 1) := by decide +kernel
theorem dX8_reads_22 : decode cX8_reads 22 = .ok (.iconst 0, 1) := by decide +kernel
theorem dX8_reads_23 : decode cX8_reads 23 = .ok (.istore_n 2, 1) := by decide +kernel
theorem dX8_reads_24 : decode cX8_reads 24 = .ok (.iload_n 2, 1) := by decide +kernel
theorem dX8_reads_25 : decode cX8_reads 25 = .ok (.aload_n 0, 1) := by decide +kernel
theorem dX8_reads_26 : decode cX8_reads 26 = .ok (.getfield 58, 3) := by decide +kernel
theorem dX8_reads_29 : decode cX8_reads 29 = .ok (.iload_n 1, 1) := by decide +kernel
theorem dX8_reads_30 : decode cX8_reads 30 = .ok (.iaload, 1) := by decide +kernel
theorem dX8_reads_31 : decode cX8_reads 31 = .ok (.if_icmp .ge 49, 3) := by decide +kernel
theorem dX8_reads_34 : decode cX8_reads 34 = .ok (.aload_n 0, 1) := by decide +kernel
theorem dX8_reads_35 : decode cX8_reads 35 = .ok (.getfield 61, 3) := by decide +kernel
theorem dX8_reads_38 : decode cX8_reads 38 = .ok (.bipush 24, 2) := by decide +kernel
theorem dX8_reads_40 : decode cX8_reads 40 = .ok (.iload_n 1, 1) := by decide +kernel
theorem dX8_reads_41 : decode cX8_reads 41 = .ok (.imul, 1) := by decide +kernel
theorem dX8_reads_42 : decode cX8_reads 42 = .ok (.iload_n 2, 1) := by decide +kernel
theorem dX8_reads_43 : decode cX8_reads 43 = .ok (.iadd, 1) := by decide +kernel
theorem dX8_reads_44 : decode cX8_reads 44 = .ok (.iaload, 1) := by decide +kernel
theorem dX8_reads_45 : decode cX8_reads 45 = .ok (.istore_n 3, 1) := by decide +kernel
theorem dX8_reads_46 : decode cX8_reads 46 = .ok (.iload_n 3, 1) := by decide +kernel
theorem dX8_reads_47 : decode cX8_reads 47 = .ok (.ldc 150, 2) := by decide +kernel
theorem dX8_reads_49 : decode cX8_reads 49 = .ok (.if_icmp .eq 25, 3) := by decide +kernel
theorem dX8_reads_52 : decode cX8_reads 52 = .ok (.iload_n 2, 1) := by decide +kernel
theorem dX8_reads_53 : decode cX8_reads 53 = .ok (.invokestatic 141, 3) := by decide +kernel
theorem dX8_reads_56 : decode cX8_reads 56 = .ok (.ifCond .eq 16, 3) := by decide +kernel
theorem dX8_reads_59 : decode cX8_reads 59 = .ok (.iload_n 3, 1) := by decide +kernel
theorem dX8_reads_60 : decode cX8_reads 60 = .ok (.aload_n 0, 1) := by decide +kernel
theorem dX8_reads_61 : decode cX8_reads 61 = .ok (.getfield 9, 3) := by decide +kernel
theorem dX8_reads_64 : decode cX8_reads 64 = .ok (.bipush 27, 2) := by decide +kernel
theorem dX8_reads_66 : decode cX8_reads 66 = .ok (.iload_n 2, 1) := by decide +kernel
theorem dX8_reads_67 : decode cX8_reads 67 = .ok (.iadd, 1) := by decide +kernel
theorem dX8_reads_68 : decode cX8_reads 68 = .ok (.iaload, 1) := by decide +kernel
theorem dX8_reads_69 : decode cX8_reads 69 = .ok (.if_icmp .eq 5, 3) := by decide +kernel
theorem dX8_reads_72 : decode cX8_reads 72 = .ok (.iload_n 2, 1) := by decide +kernel
theorem dX8_reads_73 : decode cX8_reads 73 = .ok (.ireturn, 1) := by decide +kernel
theorem dX8_reads_74 : decode cX8_reads 74 = .ok (.iinc 2 1, 3) := by decide +kernel
theorem dX8_reads_77 : decode cX8_reads 77 = .ok (.goto (-53), 3) := by decide +kernel
theorem dX8_reads_80 : decode cX8_reads 80 = .ok (.ldc 150, 2) := by decide +kernel
theorem dX8_reads_82 : decode cX8_reads 82 = .ok (.ireturn, 1) := by decide +kernel
theorem dX8_copy_0 : decode cX8_copy 0 = .ok (.iload_n 1, 1) := by decide +kernel
theorem dX8_copy_1 : decode cX8_copy 1 = .ok (.invokestatic 184, 3) := by decide +kernel
theorem dX8_copy_4 : decode cX8_copy 4 = .ok (.ifCond .eq 10, 3) := by decide +kernel
theorem dX8_copy_7 : decode cX8_copy 7 = .ok (.iload_n 3, 1) := by decide +kernel
theorem dX8_copy_8 : decode cX8_copy 8 = .ok (.invokestatic 184, 3) := by decide +kernel
theorem dX8_copy_11 : decode cX8_copy 11 = .ok (.ifCond .ne 6, 3) := by decide +kernel
theorem dX8_copy_14 : decode cX8_copy 14 = .ok (.ldc 94, 2) := by decide +kernel
theorem dX8_copy_16 : decode cX8_copy 16 = .ok (.ireturn, 1) := by decide +kernel
theorem dX8_copy_17 : decode cX8_copy 17 = .ok (.aload_n 0, 1) := by decide +kernel
theorem dX8_copy_18 : decode cX8_copy 18 = .ok (.getfield 55, 3) := by decide +kernel
theorem dX8_copy_21 : decode cX8_copy 21 = .ok (.iload_n 1, 1) := by decide +kernel
theorem dX8_copy_22 : decode cX8_copy 22 = .ok (.iaload, 1) := by decide +kernel
theorem dX8_copy_23 : decode cX8_copy 23 = .ok (.ifCond .lt 12, 3) := by decide +kernel
theorem dX8_copy_26 : decode cX8_copy 26 = .ok (.aload_n 0, 1) := by decide +kernel
theorem dX8_copy_27 : decode cX8_copy 27 = .ok (.getfield 55, 3) := by decide +kernel
theorem dX8_copy_30 : decode cX8_copy 30 = .ok (.iload_n 3, 1) := by decide +kernel
theorem dX8_copy_31 : decode cX8_copy 31 = .ok (.iaload, 1) := by decide +kernel
theorem dX8_copy_32 : decode cX8_copy 32 = .ok (.ifCond .ge 6, 3) := by decide +kernel
theorem dX8_copy_35 : decode cX8_copy 35 = .ok (.ldc 187, 2) := by decide +kernel
theorem dX8_copy_37 : decode cX8_copy 37 = .ok (.ireturn, 1) := by decide +kernel
theorem dX8_copy_38 : decode cX8_copy 38 = .ok (.aload_n 0, 1) := by decide +kernel
theorem dX8_copy_39 : decode cX8_copy 39 = .ok (.getfield 55, 3) := by decide +kernel
theorem dX8_copy_42 : decode cX8_copy 42 = .ok (.iload_n 1, 1) := by decide +kernel
theorem dX8_copy_43 : decode cX8_copy 43 = .ok (.iaload, 1) := by decide +kernel
theorem dX8_copy_44 : decode cX8_copy 44 = .ok (.aload_n 0, 1) := by decide +kernel
theorem dX8_copy_45 : decode cX8_copy 45 = .ok (.getfield 55, 3) := by decide +kernel
theorem dX8_copy_48 : decode cX8_copy 48 = .ok (.iload_n 3, 1) := by decide +kernel
theorem dX8_copy_49 : decode cX8_copy 49 = .ok (.iaload, 1) := by decide +kernel
theorem dX8_copy_50 : decode cX8_copy 50 = .ok (.if_icmp .eq 6, 3) := by decide +kernel
theorem dX8_copy_53 : decode cX8_copy 53 = .ok (.ldc 137, 2) := by decide +kernel
theorem dX8_copy_55 : decode cX8_copy 55 = .ok (.ireturn, 1) := by decide +kernel
theorem dX8_copy_56 : decode cX8_copy 56 = .ok (.iload_n 2, 1) := by decide +kernel
theorem dX8_copy_57 : decode cX8_copy 57 = .ok (.ifCond .lt 40, 3) := by decide +kernel
theorem dX8_copy_60 : decode cX8_copy 60 = .ok (.iload 4, 2) := by decide +kernel
theorem dX8_copy_62 : decode cX8_copy 62 = .ok (.ifCond .lt 35, 3) := by decide +kernel
theorem dX8_copy_65 : decode cX8_copy 65 = .ok (.iload 5, 2) := by decide +kernel
theorem dX8_copy_67 : decode cX8_copy 67 = .ok (.ifCond .lt 30, 3) := by decide +kernel
theorem dX8_copy_70 : decode cX8_copy 70 = .ok (.iload_n 2, 1) := by decide +kernel
theorem dX8_copy_71 : decode cX8_copy 71 = .ok (.aload_n 0, 1) := by decide +kernel
theorem dX8_copy_72 : decode cX8_copy 72 = .ok (.getfield 58, 3) := by decide +kernel
theorem dX8_copy_75 : decode cX8_copy 75 = .ok (.iload_n 1, 1) := by decide +kernel
theorem dX8_copy_76 : decode cX8_copy 76 = .ok (.iaload, 1) := by decide +kernel
theorem dX8_copy_77 : decode cX8_copy 77 = .ok (.iload 5, 2) := by decide +kernel
theorem dX8_copy_79 : decode cX8_copy 79 = .ok (.isub, 1) := by decide +kernel
theorem dX8_copy_80 : decode cX8_copy 80 = .ok (.if_icmp .gt 17, 3) := by decide +kernel
theorem dX8_copy_83 : decode cX8_copy 83 = .ok (.iload 4, 2) := by decide +kernel
theorem dX8_copy_85 : decode cX8_copy 85 = .ok (.aload_n 0, 1) := by decide +kernel
theorem dX8_copy_86 : decode cX8_copy 86 = .ok (.getfield 58, 3) := by decide +kernel
theorem dX8_copy_89 : decode cX8_copy 89 = .ok (.iload_n 3, 1) := by decide +kernel
theorem dX8_copy_90 : decode cX8_copy 90 = .ok (.iaload, 1) := by decide +kernel
theorem dX8_copy_91 : decode cX8_copy 91 = .ok (.iload 5, 2) := by decide +kernel
theorem dX8_copy_93 : decode cX8_copy 93 = .ok (.isub, 1) := by decide +kernel
theorem dX8_copy_94 : decode cX8_copy 94 = .ok (.if_icmp .le 7, 3) := by decide +kernel
theorem dX8_copy_97 : decode cX8_copy 97 = .ok (.ldc_w 257, 3) := by decide +kernel
theorem dX8_copy_100 : decode cX8_copy 100 = .ok (.ireturn, 1) := by decide +kernel
theorem dX8_copy_101 : decode cX8_copy 101 = .ok (.iconst 0, 1) := by decide +kernel
theorem dX8_copy_102 : decode cX8_copy 102 = .ok (.istore 6, 2) := by decide +kernel
theorem dX8_copy_104 : decode cX8_copy 104 = .ok (.iload 6, 2) := by decide +kernel
theorem dX8_copy_106 : decode cX8_copy 106 = .ok (.iload 5, 2) := by decide +kernel
theorem dX8_copy_108 : decode cX8_copy 108 = .ok (.if_icmp .ge 30, 3) := by decide +kernel
theorem dX8_copy_111 : decode cX8_copy 111 = .ok (.aload_n 0, 1) := by decide +kernel
theorem dX8_copy_112 : decode cX8_copy 112 = .ok (.getfield 76, 3) := by decide +kernel
theorem dX8_copy_115 : decode cX8_copy 115 = .ok (.iload 6, 2) := by decide +kernel
theorem dX8_copy_117 : decode cX8_copy 117 = .ok (.aload_n 0, 1) := by decide +kernel
theorem dX8_copy_118 : decode cX8_copy 118 = .ok (.getfield 61, 3) := by decide +kernel
theorem dX8_copy_121 : decode cX8_copy 121 = .ok (.bipush 24, 2) := by decide +kernel
theorem dX8_copy_123 : decode cX8_copy 123 = .ok (.iload_n 1, 1) := by decide +kernel
theorem dX8_copy_124 : decode cX8_copy 124 = .ok (.imul, 1) := by decide +kernel
theorem dX8_copy_125 : decode cX8_copy 125 = .ok (.iload_n 2, 1) := by decide +kernel
theorem dX8_copy_126 : decode cX8_copy 126 = .ok (.iadd, 1) := by decide +kernel
theorem dX8_copy_127 : decode cX8_copy 127 = .ok (.iload 6, 2) := by decide +kernel
theorem dX8_copy_129 : decode cX8_copy 129 = .ok (.iadd, 1) := by decide +kernel
theorem dX8_copy_130 : decode cX8_copy 130 = .ok (.iaload, 1) := by decide +kernel
theorem dX8_copy_131 : decode cX8_copy 131 = .ok (.iastore, 1) := by decide +kernel
theorem dX8_copy_132 : decode cX8_copy 132 = .ok (.iinc 6 1, 3) := by decide +kernel
theorem dX8_copy_135 : decode cX8_copy 135 = .ok (.goto (-31), 3) := by decide +kernel
theorem dX8_copy_138 : decode cX8_copy 138 = .ok (.iconst 0, 1) := by decide +kernel
theorem dX8_copy_139 : decode cX8_copy 139 = .ok (.istore 6, 2) := by decide +kernel
theorem dX8_copy_141 : decode cX8_copy 141 = .ok (.iload 6, 2) := by decide +kernel
theorem dX8_copy_143 : decode cX8_copy 143 = .ok (.iload 5, 2) := by decide +kernel
theorem dX8_copy_145 : decode cX8_copy 145 = .ok (.if_icmp .ge 31, 3) := by decide +kernel
theorem dX8_copy_148 : decode cX8_copy 148 = .ok (.aload_n 0, 1) := by decide +kernel
theorem dX8_copy_149 : decode cX8_copy 149 = .ok (.getfield 61, 3) := by decide +kernel
theorem dX8_copy_152 : decode cX8_copy 152 = .ok (.bipush 24, 2) := by decide +kernel
theorem dX8_copy_154 : decode cX8_copy 154 = .ok (.iload_n 3, 1) := by decide +kernel
theorem dX8_copy_155 : decode cX8_copy 155 = .ok (.imul, 1) := by decide +kernel
theorem dX8_copy_156 : decode cX8_copy 156 = .ok (.iload 4, 2) := by decide +kernel
theorem dX8_copy_158 : decode cX8_copy 158 = .ok (.iadd, 1) := by decide +kernel
theorem dX8_copy_159 : decode cX8_copy 159 = .ok (.iload 6, 2) := by decide +kernel
theorem dX8_copy_161 : decode cX8_copy 161 = .ok (.iadd, 1) := by decide +kernel
theorem dX8_copy_162 : decode cX8_copy 162 = .ok (.aload_n 0, 1) := by decide +kernel
theorem dX8_copy_163 : decode cX8_copy 163 = .ok (.getfield 76, 3) := by decide +kernel
theorem dX8_copy_166 : decode cX8_copy 166 = .ok (.iload 6, 2) := by decide +kernel
theorem dX8_copy_168 : decode cX8_copy 168 = .ok (.iaload, 1) := by decide +kernel
theorem dX8_copy_169 : decode cX8_copy 169 = .ok (.iastore, 1) := by decide +kernel
theorem dX8_copy_170 : decode cX8_copy 170 = .ok (.iinc 6 1, 3) := by decide +kernel
theorem dX8_copy_173 : decode cX8_copy 173 = .ok (.goto (-32), 3) := by decide +kernel
theorem dX8_copy_176 : decode cX8_copy 176 = .ok (.iload 5, 2) := by decide +kernel
theorem dX8_copy_178 : decode cX8_copy 178 = .ok (.ireturn, 1) := by decide +kernel
theorem dX8_lay_0 : decode cX8_lay 0 = .ok (.iload_n 1, 1) := by decide +kernel
theorem dX8_lay_1 : decode cX8_lay 1 = .ok (.invokestatic 260, 3) := by decide +kernel
theorem dX8_lay_4 : decode cX8_lay 4 = .ok (.ifCond .eq 37, 3) := by decide +kernel
theorem dX8_lay_7 : decode cX8_lay 7 = .ok (.iload_n 2, 1) := by decide +kernel
theorem dX8_lay_8 : decode cX8_lay 8 = .ok (.iconst 0, 1) := by decide +kernel
theorem dX8_lay_9 : decode cX8_lay 9 = .ok (.iconst 3, 1) := by decide +kernel
theorem dX8_lay_10 : decode cX8_lay 10 = .ok (.invokestatic 82, 3) := by decide +kernel
theorem dX8_lay_13 : decode cX8_lay 13 = .ok (.ifCond .eq 28, 3) := by decide +kernel
theorem dX8_lay_16 : decode cX8_lay 16 = .ok (.iload_n 2, 1) := by decide +kernel
theorem dX8_lay_17 : decode cX8_lay 17 = .ok (.iconst 1, 1) := by decide +kernel
theorem dX8_lay_18 : decode cX8_lay 18 = .ok (.if_icmp .ne 11, 3) := by decide +kernel
theorem dX8_lay_21 : decode cX8_lay 21 = .ok (.aload_n 0, 1) := by decide +kernel
theorem dX8_lay_22 : decode cX8_lay 22 = .ok (.iload_n 3, 1) := by decide +kernel
theorem dX8_lay_23 : decode cX8_lay 23 = .ok (.invokevirtual 115, 3) := by decide +kernel
theorem dX8_lay_26 : decode cX8_lay 26 = .ok (.ifCond .eq 15, 3) := by decide +kernel
theorem dX8_lay_29 : decode cX8_lay 29 = .ok (.iload_n 2, 1) := by decide +kernel
theorem dX8_lay_30 : decode cX8_lay 30 = .ok (.iconst 2, 1) := by decide +kernel
theorem dX8_lay_31 : decode cX8_lay 31 = .ok (.if_icmp .ne 13, 3) := by decide +kernel
theorem dX8_lay_34 : decode cX8_lay 34 = .ok (.iload_n 3, 1) := by decide +kernel
theorem dX8_lay_35 : decode cX8_lay 35 = .ok (.invokestatic 184, 3) := by decide +kernel
theorem dX8_lay_38 : decode cX8_lay 38 = .ok (.ifCond .ne 6, 3) := by decide +kernel
theorem dX8_lay_41 : decode cX8_lay 41 = .ok (.ldc 94, 2) := by decide +kernel
theorem dX8_lay_43 : decode cX8_lay 43 = .ok (.ireturn, 1) := by decide +kernel
theorem dX8_lay_44 : decode cX8_lay 44 = .ok (.iload_n 2, 1) := by decide +kernel
theorem dX8_lay_45 : decode cX8_lay 45 = .ok (.iconst 2, 1) := by decide +kernel
theorem dX8_lay_46 : decode cX8_lay 46 = .ok (.if_icmp .ne 15, 3) := by decide +kernel
theorem dX8_lay_49 : decode cX8_lay 49 = .ok (.aload_n 0, 1) := by decide +kernel
theorem dX8_lay_50 : decode cX8_lay 50 = .ok (.getfield 55, 3) := by decide +kernel
theorem dX8_lay_53 : decode cX8_lay 53 = .ok (.iload_n 3, 1) := by decide +kernel
theorem dX8_lay_54 : decode cX8_lay 54 = .ok (.iaload, 1) := by decide +kernel
theorem dX8_lay_55 : decode cX8_lay 55 = .ok (.ifCond .ge 6, 3) := by decide +kernel
theorem dX8_lay_58 : decode cX8_lay 58 = .ok (.ldc 187, 2) := by decide +kernel
theorem dX8_lay_60 : decode cX8_lay 60 = .ok (.ireturn, 1) := by decide +kernel
theorem dX8_lay_61 : decode cX8_lay 61 = .ok (.aload_n 0, 1) := by decide +kernel
theorem dX8_lay_62 : decode cX8_lay 62 = .ok (.getfield 64, 3) := by decide +kernel
theorem dX8_lay_65 : decode cX8_lay 65 = .ok (.iload_n 1, 1) := by decide +kernel
theorem dX8_lay_66 : decode cX8_lay 66 = .ok (.iaload, 1) := by decide +kernel
theorem dX8_lay_67 : decode cX8_lay 67 = .ok (.istore 4, 2) := by decide +kernel
theorem dX8_lay_69 : decode cX8_lay 69 = .ok (.aload_n 0, 1) := by decide +kernel
theorem dX8_lay_70 : decode cX8_lay 70 = .ok (.getfield 64, 3) := by decide +kernel
theorem dX8_lay_73 : decode cX8_lay 73 = .ok (.iload_n 1, 1) := by decide +kernel
theorem dX8_lay_74 : decode cX8_lay 74 = .ok (.iload_n 2, 1) := by decide +kernel
theorem dX8_lay_75 : decode cX8_lay 75 = .ok (.iastore, 1) := by decide +kernel
theorem dX8_lay_76 : decode cX8_lay 76 = .ok (.aload_n 0, 1) := by decide +kernel
theorem dX8_lay_77 : decode cX8_lay 77 = .ok (.getfield 67, 3) := by decide +kernel
theorem dX8_lay_80 : decode cX8_lay 80 = .ok (.iload_n 1, 1) := by decide +kernel
theorem dX8_lay_81 : decode cX8_lay 81 = .ok (.iload_n 2, 1) := by decide +kernel
theorem dX8_lay_82 : decode cX8_lay 82 = .ok (.iconst 1, 1) := by decide +kernel
theorem dX8_lay_83 : decode cX8_lay 83 = .ok (.if_icmp .ne 12, 3) := by decide +kernel
theorem dX8_lay_86 : decode cX8_lay 86 = .ok (.aload_n 0, 1) := by decide +kernel
theorem dX8_lay_87 : decode cX8_lay 87 = .ok (.iload_n 3, 1) := by decide +kernel
theorem dX8_lay_88 : decode cX8_lay 88 = .ok (.iconst 0, 1) := by decide +kernel
theorem dX8_lay_89 : decode cX8_lay 89 = .ok (.invokevirtual 104, 3) := by decide +kernel
theorem dX8_lay_92 : decode cX8_lay 92 = .ok (.goto 18, 3) := by decide +kernel
theorem dX8_lay_95 : decode cX8_lay 95 = .ok (.iload_n 2, 1) := by decide +kernel
theorem dX8_lay_96 : decode cX8_lay 96 = .ok (.iconst 2, 1) := by decide +kernel
theorem dX8_lay_97 : decode cX8_lay 97 = .ok (.if_icmp .ne 12, 3) := by decide +kernel
theorem dX8_lay_100 : decode cX8_lay 100 = .ok (.aload_n 0, 1) := by decide +kernel
theorem dX8_lay_101 : decode cX8_lay 101 = .ok (.getfield 58, 3) := by decide +kernel
theorem dX8_lay_104 : decode cX8_lay 104 = .ok (.iload_n 3, 1) := by decide +kernel
theorem dX8_lay_105 : decode cX8_lay 105 = .ok (.iaload, 1) := by decide +kernel
theorem dX8_lay_106 : decode cX8_lay 106 = .ok (.goto 4, 3) := by decide +kernel
theorem dX8_lay_109 : decode cX8_lay 109 = .ok (.iload_n 3, 1) := by decide +kernel
theorem dX8_lay_110 : decode cX8_lay 110 = .ok (.iastore, 1) := by decide +kernel
theorem dX8_lay_111 : decode cX8_lay 111 = .ok (.aload_n 0, 1) := by decide +kernel
theorem dX8_lay_112 : decode cX8_lay 112 = .ok (.getfield 70, 3) := by decide +kernel
theorem dX8_lay_115 : decode cX8_lay 115 = .ok (.iload_n 1, 1) := by decide +kernel
theorem dX8_lay_116 : decode cX8_lay 116 = .ok (.iload_n 2, 1) := by decide +kernel
theorem dX8_lay_117 : decode cX8_lay 117 = .ok (.iconst 1, 1) := by decide +kernel
theorem dX8_lay_118 : decode cX8_lay 118 = .ok (.if_icmp .ne 11, 3) := by decide +kernel
theorem dX8_lay_121 : decode cX8_lay 121 = .ok (.aload_n 0, 1) := by decide +kernel
theorem dX8_lay_122 : decode cX8_lay 122 = .ok (.iload_n 3, 1) := by decide +kernel
theorem dX8_lay_123 : decode cX8_lay 123 = .ok (.invokevirtual 131, 3) := by decide +kernel
theorem dX8_lay_126 : decode cX8_lay 126 = .ok (.goto 4, 3) := by decide +kernel
theorem dX8_lay_129 : decode cX8_lay 129 = .ok (.iconst 0, 1) := by decide +kernel
theorem dX8_lay_130 : decode cX8_lay 130 = .ok (.iastore, 1) := by decide +kernel
theorem dX8_lay_131 : decode cX8_lay 131 = .ok (.iconst 0, 1) := by decide +kernel
theorem dX8_lay_132 : decode cX8_lay 132 = .ok (.istore 5, 2) := by decide +kernel
theorem dX8_lay_134 : decode cX8_lay 134 = .ok (.iload 5, 2) := by decide +kernel
theorem dX8_lay_136 : decode cX8_lay 136 = .ok (.bipush 24, 2) := by decide +kernel
theorem dX8_lay_138 : decode cX8_lay 138 = .ok (.if_icmp .ge 38, 3) := by decide +kernel
theorem dX8_lay_141 : decode cX8_lay 141 = .ok (.iload_n 2, 1) := by decide +kernel
theorem dX8_lay_142 : decode cX8_lay 142 = .ok (.iconst 2, 1) := by decide +kernel
theorem dX8_lay_143 : decode cX8_lay 143 = .ok (.if_icmp .ne 33, 3) := by decide +kernel
theorem dX8_lay_146 : decode cX8_lay 146 = .ok (.aload_n 0, 1) := by decide +kernel
theorem dX8_lay_147 : decode cX8_lay 147 = .ok (.getfield 73, 3) := by decide +kernel
theorem dX8_lay_150 : decode cX8_lay 150 = .ok (.bipush 24, 2) := by decide +kernel
theorem dX8_lay_152 : decode cX8_lay 152 = .ok (.iload_n 1, 1) := by decide +kernel
theorem dX8_lay_153 : decode cX8_lay 153 = .ok (.imul, 1) := by decide +kernel
theorem dX8_lay_154 : decode cX8_lay 154 = .ok (.iload 5, 2) := by decide +kernel
theorem dX8_lay_156 : decode cX8_lay 156 = .ok (.iadd, 1) := by decide +kernel
theorem dX8_lay_157 : decode cX8_lay 157 = .ok (.aload_n 0, 1) := by decide +kernel
theorem dX8_lay_158 : decode cX8_lay 158 = .ok (.getfield 61, 3) := by decide +kernel
theorem dX8_lay_161 : decode cX8_lay 161 = .ok (.bipush 24, 2) := by decide +kernel
theorem dX8_lay_163 : decode cX8_lay 163 = .ok (.iload_n 3, 1) := by decide +kernel
theorem dX8_lay_164 : decode cX8_lay 164 = .ok (.imul, 1) := by decide +kernel
theorem dX8_lay_165 : decode cX8_lay 165 = .ok (.iload 5, 2) := by decide +kernel
theorem dX8_lay_167 : decode cX8_lay 167 = .ok (.iadd, 1) := by decide +kernel
theorem dX8_lay_168 : decode cX8_lay 168 = .ok (.iaload, 1) := by decide +kernel
theorem dX8_lay_169 : decode cX8_lay 169 = .ok (.iastore, 1) := by decide +kernel
theorem dX8_lay_170 : decode cX8_lay 170 = .ok (.iinc 5 1, 3) := by decide +kernel
theorem dX8_lay_173 : decode cX8_lay 173 = .ok (.goto (-39), 3) := by decide +kernel
theorem dX8_lay_176 : decode cX8_lay 176 = .ok (.iload 4, 2) := by decide +kernel
theorem dX8_lay_178 : decode cX8_lay 178 = .ok (.ireturn, 1) := by decide +kernel
theorem dX8_ask_0 : decode cX8_ask 0 = .ok (.iload_n 1, 1) := by decide +kernel
theorem dX8_ask_1 : decode cX8_ask 1 = .ok (.invokestatic 260, 3) := by decide +kernel
theorem dX8_ask_4 : decode cX8_ask 4 = .ok (.ifCond .eq 12, 3) := by decide +kernel
theorem dX8_ask_7 : decode cX8_ask 7 = .ok (.iload_n 2, 1) := by decide +kernel
theorem dX8_ask_8 : decode cX8_ask 8 = .ok (.iconst 0, 1) := by decide +kernel
theorem dX8_ask_9 : decode cX8_ask 9 = .ok (.iconst 5, 1) := by decide +kernel
theorem dX8_ask_10 : decode cX8_ask 10 = .ok (.invokestatic 82, 3) := by decide +kernel
theorem dX8_ask_13 : decode cX8_ask 13 = .ok (.ifCond .ne 6, 3) := by decide +kernel
theorem dX8_ask_16 : decode cX8_ask 16 = .ok (.ldc 94, 2) := by decide +kernel
theorem dX8_ask_18 : decode cX8_ask 18 = .ok (.ireturn, 1) := by decide +kernel
theorem dX8_ask_19 : decode cX8_ask 19 = .ok (.aload_n 0, 1) := by decide +kernel
theorem dX8_ask_20 : decode cX8_ask 20 = .ok (.getfield 64, 3) := by decide +kernel
theorem dX8_ask_23 : decode cX8_ask 23 = .ok (.iload_n 1, 1) := by decide +kernel
theorem dX8_ask_24 : decode cX8_ask 24 = .ok (.iaload, 1) := by decide +kernel
theorem dX8_ask_25 : decode cX8_ask 25 = .ok (.ifCond .ne 6, 3) := by decide +kernel
theorem dX8_ask_28 : decode cX8_ask 28 = .ok (.ldc 187, 2) := by decide +kernel
theorem dX8_ask_30 : decode cX8_ask 30 = .ok (.ireturn, 1) := by decide +kernel
theorem dX8_ask_31 : decode cX8_ask 31 = .ok (.aload_n 0, 1) := by decide +kernel
theorem dX8_ask_32 : decode cX8_ask 32 = .ok (.getfield 64, 3) := by decide +kernel
theorem dX8_ask_35 : decode cX8_ask 35 = .ok (.iload_n 1, 1) := by decide +kernel
theorem dX8_ask_36 : decode cX8_ask 36 = .ok (.iaload, 1) := by decide +kernel
theorem dX8_ask_37 : decode cX8_ask 37 = .ok (.iconst 1, 1) := by decide +kernel
theorem dX8_ask_38 : decode cX8_ask 38 = .ok (.if_icmp .ne 25, 3) := by decide +kernel
theorem dX8_ask_41 : decode cX8_ask 41 = .ok (.aload_n 0, 1) := by decide +kernel
theorem dX8_ask_42 : decode cX8_ask 42 = .ok (.getfield 67, 3) := by decide +kernel
theorem dX8_ask_45 : decode cX8_ask 45 = .ok (.iload_n 1, 1) := by decide +kernel
theorem dX8_ask_46 : decode cX8_ask 46 = .ok (.iaload, 1) := by decide +kernel
theorem dX8_ask_47 : decode cX8_ask 47 = .ok (.iload_n 2, 1) := by decide +kernel
theorem dX8_ask_48 : decode cX8_ask 48 = .ok (.invokestatic 134, 3) := by decide +kernel
theorem dX8_ask_51 : decode cX8_ask 51 = .ok (.ifCond .eq 12, 3) := by decide +kernel
theorem dX8_ask_54 : decode cX8_ask 54 = .ok (.aload_n 0, 1) := by decide +kernel
theorem dX8_ask_55 : decode cX8_ask 55 = .ok (.getfield 70, 3) := by decide +kernel
theorem dX8_ask_58 : decode cX8_ask 58 = .ok (.iload_n 1, 1) := by decide +kernel
theorem dX8_ask_59 : decode cX8_ask 59 = .ok (.iaload, 1) := by decide +kernel
theorem dX8_ask_60 : decode cX8_ask 60 = .ok (.goto 5, 3) := by decide +kernel
theorem dX8_ask_63 : decode cX8_ask 63 = .ok (.ldc 137, 2) := by decide +kernel
theorem dX8_ask_65 : decode cX8_ask 65 = .ok (.ireturn, 1) := by decide +kernel
theorem dX8_item_0 : decode cX8_item 0 = .ok (.iload_n 1, 1) := by decide +kernel
theorem dX8_item_1 : decode cX8_item 1 = .ok (.invokestatic 260, 3) := by decide +kernel
theorem dX8_item_4 : decode cX8_item 4 = .ok (.ifCond .ne 6, 3) := by decide +kernel
theorem dX8_item_7 : decode cX8_item 7 = .ok (.ldc 94, 2) := by decide +kernel
theorem dX8_item_9 : decode cX8_item 9 = .ok (.ireturn, 1) := by decide +kernel
theorem dX8_item_10 : decode cX8_item 10 = .ok (.aload_n 0, 1) := by decide +kernel
theorem dX8_item_11 : decode cX8_item 11 = .ok (.getfield 64, 3) := by decide +kernel
theorem dX8_item_14 : decode cX8_item 14 = .ok (.iload_n 1, 1) := by decide +kernel
theorem dX8_item_15 : decode cX8_item 15 = .ok (.iaload, 1) := by decide +kernel
theorem dX8_item_16 : decode cX8_item 16 = .ok (.ifCond .ne 6, 3) := by decide +kernel
theorem dX8_item_19 : decode cX8_item 19 = .ok (.ldc 187, 2) := by decide +kernel
theorem dX8_item_21 : decode cX8_item 21 = .ok (.ireturn, 1) := by decide +kernel
theorem dX8_item_22 : decode cX8_item 22 = .ok (.aload_n 0, 1) := by decide +kernel
theorem dX8_item_23 : decode cX8_item 23 = .ok (.getfield 64, 3) := by decide +kernel
theorem dX8_item_26 : decode cX8_item 26 = .ok (.iload_n 1, 1) := by decide +kernel
theorem dX8_item_27 : decode cX8_item 27 = .ok (.iaload, 1) := by decide +kernel
theorem dX8_item_28 : decode cX8_item 28 = .ok (.iconst 2, 1) := by decide +kernel
theorem dX8_item_29 : decode cX8_item 29 = .ok (.if_icmp .eq 6, 3) := by decide +kernel
theorem dX8_item_32 : decode cX8_item 32 = .ok (.ldc 137, 2) := by decide +kernel
theorem dX8_item_34 : decode cX8_item 34 = .ok (.ireturn, 1) := by decide +kernel
theorem dX8_item_35 : decode cX8_item 35 = .ok (.iload_n 2, 1) := by decide +kernel
theorem dX8_item_36 : decode cX8_item 36 = .ok (.iconst 0, 1) := by decide +kernel
theorem dX8_item_37 : decode cX8_item 37 = .ok (.aload_n 0, 1) := by decide +kernel
theorem dX8_item_38 : decode cX8_item 38 = .ok (.getfield 67, 3) := by decide +kernel
theorem dX8_item_41 : decode cX8_item 41 = .ok (.iload_n 1, 1) := by decide +kernel
theorem dX8_item_42 : decode cX8_item 42 = .ok (.iaload, 1) := by decide +kernel
theorem dX8_item_43 : decode cX8_item 43 = .ok (.iconst 1, 1) := by decide +kernel
theorem dX8_item_44 : decode cX8_item 44 = .ok (.isub, 1) := by decide +kernel
theorem dX8_item_45 : decode cX8_item 45 = .ok (.invokestatic 82, 3) := by decide +kernel
theorem dX8_item_48 : decode cX8_item 48 = .ok (.ifCond .ne 7, 3) := by decide +kernel
theorem dX8_item_51 : decode cX8_item 51 = .ok (.ldc_w 257, 3) := by decide +kernel
theorem dX8_item_54 : decode cX8_item 54 = .ok (.ireturn, 1) := by decide +kernel
theorem dX8_item_55 : decode cX8_item 55 = .ok (.aload_n 0, 1) := by decide +kernel
theorem dX8_item_56 : decode cX8_item 56 = .ok (.getfield 73, 3) := by decide +kernel
theorem dX8_item_59 : decode cX8_item 59 = .ok (.bipush 24, 2) := by decide +kernel
theorem dX8_item_61 : decode cX8_item 61 = .ok (.iload_n 1, 1) := by decide +kernel
theorem dX8_item_62 : decode cX8_item 62 = .ok (.imul, 1) := by decide +kernel
theorem dX8_item_63 : decode cX8_item 63 = .ok (.iload_n 2, 1) := by decide +kernel
theorem dX8_item_64 : decode cX8_item 64 = .ok (.iadd, 1) := by decide +kernel
theorem dX8_item_65 : decode cX8_item 65 = .ok (.iaload, 1) := by decide +kernel
theorem dX8_item_66 : decode cX8_item 66 = .ok (.istore_n 3, 1) := by decide +kernel
theorem dX8_item_67 : decode cX8_item 67 = .ok (.iload_n 3, 1) := by decide +kernel
theorem dX8_item_68 : decode cX8_item 68 = .ok (.ldc 150, 2) := by decide +kernel
theorem dX8_item_70 : decode cX8_item 70 = .ok (.if_icmp .ne 8, 3) := by decide +kernel
theorem dX8_item_73 : decode cX8_item 73 = .ok (.ldc 137, 2) := by decide +kernel
theorem dX8_item_75 : decode cX8_item 75 = .ok (.goto 4, 3) := by decide +kernel
theorem dX8_item_78 : decode cX8_item 78 = .ok (.iload_n 3, 1) := by decide +kernel
theorem dX8_item_79 : decode cX8_item 79 = .ok (.ireturn, 1) := by decide +kernel
theorem dX8_rest_0 : decode cX8_rest 0 = .ok (.iload_n 1, 1) := by decide +kernel
theorem dX8_rest_1 : decode cX8_rest 1 = .ok (.invokestatic 260, 3) := by decide +kernel
theorem dX8_rest_4 : decode cX8_rest 4 = .ok (.ifCond .ne 6, 3) := by decide +kernel
theorem dX8_rest_7 : decode cX8_rest 7 = .ok (.ldc 94, 2) := by decide +kernel
theorem dX8_rest_9 : decode cX8_rest 9 = .ok (.ireturn, 1) := by decide +kernel
theorem dX8_rest_10 : decode cX8_rest 10 = .ok (.aload_n 0, 1) := by decide +kernel
theorem dX8_rest_11 : decode cX8_rest 11 = .ok (.getfield 64, 3) := by decide +kernel
theorem dX8_rest_14 : decode cX8_rest 14 = .ok (.iload_n 1, 1) := by decide +kernel
theorem dX8_rest_15 : decode cX8_rest 15 = .ok (.iaload, 1) := by decide +kernel
theorem dX8_rest_16 : decode cX8_rest 16 = .ok (.ifCond .ne 6, 3) := by decide +kernel
theorem dX8_rest_19 : decode cX8_rest 19 = .ok (.ldc 187, 2) := by decide +kernel
theorem dX8_rest_21 : decode cX8_rest 21 = .ok (.ireturn, 1) := by decide +kernel
theorem dX8_rest_22 : decode cX8_rest 22 = .ok (.aload_n 0, 1) := by decide +kernel
theorem dX8_rest_23 : decode cX8_rest 23 = .ok (.getfield 64, 3) := by decide +kernel
theorem dX8_rest_26 : decode cX8_rest 26 = .ok (.iload_n 1, 1) := by decide +kernel
theorem dX8_rest_27 : decode cX8_rest 27 = .ok (.iaload, 1) := by decide +kernel
theorem dX8_rest_28 : decode cX8_rest 28 = .ok (.iconst 3, 1) := by decide +kernel
theorem dX8_rest_29 : decode cX8_rest 29 = .ok (.if_icmp .eq 6, 3) := by decide +kernel
theorem dX8_rest_32 : decode cX8_rest 32 = .ok (.ldc 137, 2) := by decide +kernel
theorem dX8_rest_34 : decode cX8_rest 34 = .ok (.ireturn, 1) := by decide +kernel
theorem dX8_rest_35 : decode cX8_rest 35 = .ok (.iload_n 2, 1) := by decide +kernel
theorem dX8_rest_36 : decode cX8_rest 36 = .ok (.ifCond .ne 9, 3) := by decide +kernel
theorem dX8_rest_39 : decode cX8_rest 39 = .ok (.ldc_w 263, 3) := by decide +kernel
theorem dX8_rest_42 : decode cX8_rest 42 = .ok (.goto 20, 3) := by decide +kernel
theorem dX8_rest_45 : decode cX8_rest 45 = .ok (.iload_n 2, 1) := by decide +kernel
theorem dX8_rest_46 : decode cX8_rest 46 = .ok (.iconst (-1), 1) := by decide +kernel
theorem dX8_rest_47 : decode cX8_rest 47 = .ok (.if_icmp .ne 7, 3) := by decide +kernel
theorem dX8_rest_50 : decode cX8_rest 50 = .ok (.iconst 0, 1) := by decide +kernel
theorem dX8_rest_51 : decode cX8_rest 51 = .ok (.goto 11, 3) := by decide +kernel
theorem dX8_rest_54 : decode cX8_rest 54 = .ok (.aload_n 0, 1) := by decide +kernel
theorem dX8_rest_55 : decode cX8_rest 55 = .ok (.getfield 67, 3) := by decide +kernel
theorem dX8_rest_58 : decode cX8_rest 58 = .ok (.iload_n 1, 1) := by decide +kernel
theorem dX8_rest_59 : decode cX8_rest 59 = .ok (.iaload, 1) := by decide +kernel
theorem dX8_rest_60 : decode cX8_rest 60 = .ok (.iload_n 2, 1) := by decide +kernel
theorem dX8_rest_61 : decode cX8_rest 61 = .ok (.irem, 1) := by decide +kernel
theorem dX8_rest_62 : decode cX8_rest 62 = .ok (.ireturn, 1) := by decide +kernel
theorem dX8_tell_0 : decode cX8_tell 0 = .ok (.aload_n 0, 1) := by decide +kernel
theorem dX8_tell_1 : decode cX8_tell 1 = .ok (.getfield 264, 3) := by decide +kernel
theorem dX8_tell_4 : decode cX8_tell 4 = .ok (.bipush 60, 2) := by decide +kernel
theorem dX8_tell_6 : decode cX8_tell 6 = .ok (.if_icmp .ne 6, 3) := by decide +kernel
theorem dX8_tell_9 : decode cX8_tell 9 = .ok (.ldc 95, 2) := by decide +kernel
theorem dX8_tell_11 : decode cX8_tell 11 = .ok (.ireturn, 1) := by decide +kernel
theorem dX8_tell_12 : decode cX8_tell 12 = .ok (.aload_n 0, 1) := by decide +kernel
theorem dX8_tell_13 : decode cX8_tell 13 = .ok (.getfield 79, 3) := by decide +kernel
theorem dX8_tell_16 : decode cX8_tell 16 = .ok (.aload_n 0, 1) := by decide +kernel
theorem dX8_tell_17 : decode cX8_tell 17 = .ok (.getfield 264, 3) := by decide +kernel
theorem dX8_tell_20 : decode cX8_tell 20 = .ok (.iload_n 1, 1) := by decide +kernel
theorem dX8_tell_21 : decode cX8_tell 21 = .ok (.iastore, 1) := by decide +kernel
theorem dX8_tell_22 : decode cX8_tell 22 = .ok (.aload_n 0, 1) := by decide +kernel
theorem dX8_tell_23 : decode cX8_tell 23 = .ok (.dup, 1) := by decide +kernel
theorem dX8_tell_24 : decode cX8_tell 24 = .ok (.getfield 264, 3) := by decide +kernel
theorem dX8_tell_27 : decode cX8_tell 27 = .ok (.iconst 1, 1) := by decide +kernel
theorem dX8_tell_28 : decode cX8_tell 28 = .ok (.iadd, 1) := by decide +kernel
theorem dX8_tell_29 : decode cX8_tell 29 = .ok (.putfield 264, 3) := by decide +kernel
theorem dX8_tell_32 : decode cX8_tell 32 = .ok (.aload_n 0, 1) := by decide +kernel
theorem dX8_tell_33 : decode cX8_tell 33 = .ok (.getfield 264, 3) := by decide +kernel
theorem dX8_tell_36 : decode cX8_tell 36 = .ok (.ireturn, 1) := by decide +kernel
theorem dX8_check_0 : decode cX8_check 0 = .ok (.aload_n 0, 1) := by decide +kernel
theorem dX8_check_1 : decode cX8_check 1 = .ok (.getfield 264, 3) := by decide +kernel
theorem dX8_check_4 : decode cX8_check 4 = .ok (.istore_n 2, 1) := by decide +kernel
theorem dX8_check_5 : decode cX8_check 5 = .ok (.aload_n 0, 1) := by decide +kernel
theorem dX8_check_6 : decode cX8_check 6 = .ok (.iconst 0, 1) := by decide +kernel
theorem dX8_check_7 : decode cX8_check 7 = .ok (.putfield 264, 3) := by decide +kernel
theorem dX8_check_10 : decode cX8_check 10 = .ok (.iload_n 1, 1) := by decide +kernel
theorem dX8_check_11 : decode cX8_check 11 = .ok (.iconst 1, 1) := by decide +kernel
theorem dX8_check_12 : decode cX8_check 12 = .ok (.bipush 30, 2) := by decide +kernel
theorem dX8_check_14 : decode cX8_check 14 = .ok (.invokestatic 82, 3) := by decide +kernel
theorem dX8_check_17 : decode cX8_check 17 = .ok (.ifCond .ne 6, 3) := by decide +kernel
theorem dX8_check_20 : decode cX8_check 20 = .ok (.ldc 94, 2) := by decide +kernel
theorem dX8_check_22 : decode cX8_check 22 = .ok (.ireturn, 1) := by decide +kernel
theorem dX8_check_23 : decode cX8_check 23 = .ok (.aload_n 0, 1) := by decide +kernel
theorem dX8_check_24 : decode cX8_check 24 = .ok (.getfield 267, 3) := by decide +kernel
theorem dX8_check_27 : decode cX8_check 27 = .ok (.ifCond .ne 7, 3) := by decide +kernel
theorem dX8_check_30 : decode cX8_check 30 = .ok (.ldc_w 263, 3) := by decide +kernel
theorem dX8_check_33 : decode cX8_check 33 = .ok (.ireturn, 1) := by decide +kernel
theorem dX8_check_34 : decode cX8_check 34 = .ok (.aload_n 0, 1) := by decide +kernel
theorem dX8_check_35 : decode cX8_check 35 = .ok (.getfield 9, 3) := by decide +kernel
theorem dX8_check_38 : decode cX8_check 38 = .ok (.aload_n 0, 1) := by decide +kernel
theorem dX8_check_39 : decode cX8_check 39 = .ok (.getfield 16, 3) := by decide +kernel
theorem dX8_check_42 : decode cX8_check 42 = .ok (.invokestatic 271, 3) := by decide +kernel
theorem dX8_check_45 : decode cX8_check 45 = .ok (.aload_n 0, 1) := by decide +kernel
theorem dX8_check_46 : decode cX8_check 46 = .ok (.getfield 13, 3) := by decide +kernel
theorem dX8_check_49 : decode cX8_check 49 = .ok (.aload_n 0, 1) := by decide +kernel
theorem dX8_check_50 : decode cX8_check 50 = .ok (.getfield 9, 3) := by decide +kernel
theorem dX8_check_53 : decode cX8_check 53 = .ok (.invokestatic 271, 3) := by decide +kernel
theorem dX8_check_56 : decode cX8_check 56 = .ok (.iconst 2, 1) := by decide +kernel
theorem dX8_check_57 : decode cX8_check 57 = .ok (.sipush 9999, 3) := by decide +kernel
theorem dX8_check_60 : decode cX8_check 60 = .ok (.aload_n 0, 1) := by decide +kernel
theorem dX8_check_61 : decode cX8_check 61 = .ok (.getfield 9, 3) := by decide +kernel
theorem dX8_check_64 : decode cX8_check 64 = .ok (.iconst 2, 1) := by decide +kernel
theorem dX8_check_65 : decode cX8_check 65 = .ok (.iaload, 1) := by decide +kernel
theorem dX8_check_66 : decode cX8_check 66 = .ok (.isub, 1) := by decide +kernel
theorem dX8_check_67 : decode cX8_check 67 = .ok (.iconst 0, 1) := by decide +kernel
theorem dX8_check_68 : decode cX8_check 68 = .ok (.iload_n 1, 1) := by decide +kernel
theorem dX8_check_69 : decode cX8_check 69 = .ok (.invokestatic 111, 3) := by decide +kernel
theorem dX8_check_72 : decode cX8_check 72 = .ok (.imul, 1) := by decide +kernel
theorem dX8_check_73 : decode cX8_check 73 = .ok (.istore_n 3, 1) := by decide +kernel
theorem dX8_check_74 : decode cX8_check 74 = .ok (.iconst 0, 1) := by decide +kernel
theorem dX8_check_75 : decode cX8_check 75 = .ok (.istore 4, 2) := by decide +kernel
theorem dX8_check_77 : decode cX8_check 77 = .ok (.iconst 0, 1) := by decide +kernel
theorem dX8_check_78 : decode cX8_check 78 = .ok (.istore 5, 2) := by decide +kernel
theorem dX8_check_80 : decode cX8_check 80 = .ok (.iconst 2, 1) := by decide +kernel
theorem dX8_check_81 : decode cX8_check 81 = .ok (.iload 5, 2) := by decide +kernel
theorem dX8_check_83 : decode cX8_check 83 = .ok (.imul, 1) := by decide +kernel
theorem dX8_check_84 : decode cX8_check 84 = .ok (.iload_n 3, 1) := by decide +kernel
theorem dX8_check_85 : decode cX8_check 85 = .ok (.if_icmp .ge 96, 3) := by decide +kernel
theorem dX8_check_88 : decode cX8_check 88 = .ok (.iload 4, 2) := by decide +kernel
theorem dX8_check_90 : decode cX8_check 90 = .ok (.iconst 2, 1) := by decide +kernel
theorem dX8_check_91 : decode cX8_check 91 = .ok (.iload 5, 2) := by decide +kernel
theorem dX8_check_93 : decode cX8_check 93 = .ok (.imul, 1) := by decide +kernel
theorem dX8_check_94 : decode cX8_check 94 = .ok (.if_icmp .ne 87, 3) := by decide +kernel
theorem dX8_check_97 : decode cX8_check 97 = .ok (.aload_n 0, 1) := by decide +kernel
theorem dX8_check_98 : decode cX8_check 98 = .ok (.invokevirtual 163, 3) := by decide +kernel
theorem dX8_check_101 : decode cX8_check 101 = .ok (.iload 4, 2) := by decide +kernel
theorem dX8_check_103 : decode cX8_check 103 = .ok (.iload 4, 2) := by decide +kernel
theorem dX8_check_105 : decode cX8_check 105 = .ok (.iload_n 2, 1) := by decide +kernel
theorem dX8_check_106 : decode cX8_check 106 = .ok (.if_icmp .ge 22, 3) := by decide +kernel
theorem dX8_check_109 : decode cX8_check 109 = .ok (.aload_n 0, 1) := by decide +kernel
theorem dX8_check_110 : decode cX8_check 110 = .ok (.getfield 79, 3) := by decide +kernel
theorem dX8_check_113 : decode cX8_check 113 = .ok (.iload 4, 2) := by decide +kernel
theorem dX8_check_115 : decode cX8_check 115 = .ok (.iaload, 1) := by decide +kernel
theorem dX8_check_116 : decode cX8_check 116 = .ok (.aload_n 0, 1) := by decide +kernel
theorem dX8_check_117 : decode cX8_check 117 = .ok (.iconst 2, 1) := by decide +kernel
theorem dX8_check_118 : decode cX8_check 118 = .ok (.invokevirtual 166, 3) := by decide +kernel
theorem dX8_check_121 : decode cX8_check 121 = .ok (.if_icmp .ne 7, 3) := by decide +kernel
theorem dX8_check_124 : decode cX8_check 124 = .ok (.iconst 1, 1) := by decide +kernel
theorem dX8_check_125 : decode cX8_check 125 = .ok (.goto 4, 3) := by decide +kernel
theorem dX8_check_128 : decode cX8_check 128 = .ok (.iconst 0, 1) := by decide +kernel
theorem dX8_check_129 : decode cX8_check 129 = .ok (.iadd, 1) := by decide +kernel
theorem dX8_check_130 : decode cX8_check 130 = .ok (.istore 4, 2) := by decide +kernel
theorem dX8_check_132 : decode cX8_check 132 = .ok (.iload 4, 2) := by decide +kernel
theorem dX8_check_134 : decode cX8_check 134 = .ok (.iload 4, 2) := by decide +kernel
theorem dX8_check_136 : decode cX8_check 136 = .ok (.iconst 2, 1) := by decide +kernel
theorem dX8_check_137 : decode cX8_check 137 = .ok (.iload 5, 2) := by decide +kernel
theorem dX8_check_139 : decode cX8_check 139 = .ok (.imul, 1) := by decide +kernel
theorem dX8_check_140 : decode cX8_check 140 = .ok (.iconst 1, 1) := by decide +kernel
theorem dX8_check_141 : decode cX8_check 141 = .ok (.iadd, 1) := by decide +kernel
theorem dX8_check_142 : decode cX8_check 142 = .ok (.if_icmp .ne 29, 3) := by decide +kernel
theorem dX8_check_145 : decode cX8_check 145 = .ok (.iload 4, 2) := by decide +kernel
theorem dX8_check_147 : decode cX8_check 147 = .ok (.iload_n 2, 1) := by decide +kernel
theorem dX8_check_148 : decode cX8_check 148 = .ok (.if_icmp .ge 23, 3) := by decide +kernel
theorem dX8_check_151 : decode cX8_check 151 = .ok (.aload_n 0, 1) := by decide +kernel
theorem dX8_check_152 : decode cX8_check 152 = .ok (.getfield 79, 3) := by decide +kernel
theorem dX8_check_155 : decode cX8_check 155 = .ok (.iload 4, 2) := by decide +kernel
theorem dX8_check_157 : decode cX8_check 157 = .ok (.iaload, 1) := by decide +kernel
theorem dX8_check_158 : decode cX8_check 158 = .ok (.aload_n 0, 1) := by decide +kernel
theorem dX8_check_159 : decode cX8_check 159 = .ok (.getfield 9, 3) := by decide +kernel
theorem dX8_check_162 : decode cX8_check 162 = .ok (.iconst 4, 1) := by decide +kernel
theorem dX8_check_163 : decode cX8_check 163 = .ok (.iaload, 1) := by decide +kernel
theorem dX8_check_164 : decode cX8_check 164 = .ok (.if_icmp .ne 7, 3) := by decide +kernel
theorem dX8_check_167 : decode cX8_check 167 = .ok (.iconst 1, 1) := by decide +kernel
theorem dX8_check_168 : decode cX8_check 168 = .ok (.goto 4, 3) := by decide +kernel
theorem dX8_check_171 : decode cX8_check 171 = .ok (.iconst 0, 1) := by decide +kernel
theorem dX8_check_172 : decode cX8_check 172 = .ok (.iadd, 1) := by decide +kernel
theorem dX8_check_173 : decode cX8_check 173 = .ok (.istore 4, 2) := by decide +kernel
theorem dX8_check_175 : decode cX8_check 175 = .ok (.iinc 5 1, 3) := by decide +kernel
theorem dX8_check_178 : decode cX8_check 178 = .ok (.goto (-98), 3) := by decide +kernel
theorem dX8_check_181 : decode cX8_check 181 = .ok (.aload_n 0, 1) := by decide +kernel
theorem dX8_check_182 : decode cX8_check 182 = .ok (.getfield 16, 3) := by decide +kernel
theorem dX8_check_185 : decode cX8_check 185 = .ok (.aload_n 0, 1) := by decide +kernel
theorem dX8_check_186 : decode cX8_check 186 = .ok (.getfield 9, 3) := by decide +kernel
theorem dX8_check_189 : decode cX8_check 189 = .ok (.invokestatic 271, 3) := by decide +kernel
theorem dX8_check_192 : decode cX8_check 192 = .ok (.iload 4, 2) := by decide +kernel
theorem dX8_check_194 : decode cX8_check 194 = .ok (.iload_n 2, 1) := by decide +kernel
theorem dX8_check_195 : decode cX8_check 195 = .ok (.if_icmp .ne 13, 3) := by decide +kernel
theorem dX8_check_198 : decode cX8_check 198 = .ok (.iload 4, 2) := by decide +kernel
theorem dX8_check_200 : decode cX8_check 200 = .ok (.iload_n 3, 1) := by decide +kernel
theorem dX8_check_201 : decode cX8_check 201 = .ok (.if_icmp .ne 7, 3) := by decide +kernel
theorem dX8_check_204 : decode cX8_check 204 = .ok (.iconst 0, 1) := by decide +kernel
theorem dX8_check_205 : decode cX8_check 205 = .ok (.goto 7, 3) := by decide +kernel
theorem dX8_check_208 : decode cX8_check 208 = .ok (.iconst 1, 1) := by decide +kernel
theorem dX8_check_209 : decode cX8_check 209 = .ok (.iload 4, 2) := by decide +kernel
theorem dX8_check_211 : decode cX8_check 211 = .ok (.iadd, 1) := by decide +kernel
theorem dX8_check_212 : decode cX8_check 212 = .ok (.ireturn, 1) := by decide +kernel
theorem dX8_keep_0 : decode cX8_keep 0 = .ok (.aload_n 0, 1) := by decide +kernel
theorem dX8_keep_1 : decode cX8_keep 1 = .ok (.getfield 9, 3) := by decide +kernel
theorem dX8_keep_4 : decode cX8_keep 4 = .ok (.aload_n 0, 1) := by decide +kernel
theorem dX8_keep_5 : decode cX8_keep 5 = .ok (.getfield 13, 3) := by decide +kernel
theorem dX8_keep_8 : decode cX8_keep 8 = .ok (.invokestatic 271, 3) := by decide +kernel
theorem dX8_keep_11 : decode cX8_keep 11 = .ok (.aload_n 0, 1) := by decide +kernel
theorem dX8_keep_12 : decode cX8_keep 12 = .ok (.iconst 1, 1) := by decide +kernel
theorem dX8_keep_13 : decode cX8_keep 13 = .ok (.putfield 267, 3) := by decide +kernel
theorem dX8_keep_16 : decode cX8_keep 16 = .ok (.aload_n 0, 1) := by decide +kernel
theorem dX8_keep_17 : decode cX8_keep 17 = .ok (.getfield 9, 3) := by decide +kernel
theorem dX8_keep_20 : decode cX8_keep 20 = .ok (.iconst 1, 1) := by decide +kernel
theorem dX8_keep_21 : decode cX8_keep 21 = .ok (.iaload, 1) := by decide +kernel
theorem dX8_keep_22 : decode cX8_keep 22 = .ok (.ireturn, 1) := by decide +kernel
theorem dX8_back_0 : decode cX8_back 0 = .ok (.aload_n 0, 1) := by decide +kernel
theorem dX8_back_1 : decode cX8_back 1 = .ok (.getfield 267, 3) := by decide +kernel
theorem dX8_back_4 : decode cX8_back 4 = .ok (.ifCond .ne 7, 3) := by decide +kernel
theorem dX8_back_7 : decode cX8_back 7 = .ok (.ldc_w 263, 3) := by decide +kernel
theorem dX8_back_10 : decode cX8_back 10 = .ok (.ireturn, 1) := by decide +kernel
theorem dX8_back_11 : decode cX8_back 11 = .ok (.aload_n 0, 1) := by decide +kernel
theorem dX8_back_12 : decode cX8_back 12 = .ok (.getfield 13, 3) := by decide +kernel
theorem dX8_back_15 : decode cX8_back 15 = .ok (.aload_n 0, 1) := by decide +kernel
theorem dX8_back_16 : decode cX8_back 16 = .ok (.getfield 9, 3) := by decide +kernel
theorem dX8_back_19 : decode cX8_back 19 = .ok (.invokestatic 271, 3) := by decide +kernel
theorem dX8_back_22 : decode cX8_back 22 = .ok (.aload_n 0, 1) := by decide +kernel
theorem dX8_back_23 : decode cX8_back 23 = .ok (.getfield 9, 3) := by decide +kernel
theorem dX8_back_26 : decode cX8_back 26 = .ok (.iconst 1, 1) := by decide +kernel
theorem dX8_back_27 : decode cX8_back 27 = .ok (.iaload, 1) := by decide +kernel
theorem dX8_back_28 : decode cX8_back 28 = .ok (.ireturn, 1) := by decide +kernel
theorem dX8_count_0 : decode cX8_count 0 = .ok (.iload_n 1, 1) := by decide +kernel
theorem dX8_count_1 : decode cX8_count 1 = .ok (.tableswitch 89 0 6 #[43, 50, 57, 64, 72, 77, 82], 43) := by decide +kernel
theorem dX8_count_44 : decode cX8_count 44 = .ok (.aload_n 0, 1) := by decide +kernel
theorem dX8_count_45 : decode cX8_count 45 = .ok (.getfield 9, 3) := by decide +kernel
theorem dX8_count_48 : decode cX8_count 48 = .ok (.iconst 1, 1) := by decide +kernel
theorem dX8_count_49 : decode cX8_count 49 = .ok (.iaload, 1) := by decide +kernel
theorem dX8_count_50 : decode cX8_count 50 = .ok (.ireturn, 1) := by decide +kernel
theorem dX8_count_51 : decode cX8_count 51 = .ok (.aload_n 0, 1) := by decide +kernel
theorem dX8_count_52 : decode cX8_count 52 = .ok (.getfield 9, 3) := by decide +kernel
theorem dX8_count_55 : decode cX8_count 55 = .ok (.iconst 2, 1) := by decide +kernel
theorem dX8_count_56 : decode cX8_count 56 = .ok (.iaload, 1) := by decide +kernel
theorem dX8_count_57 : decode cX8_count 57 = .ok (.ireturn, 1) := by decide +kernel
theorem dX8_count_58 : decode cX8_count 58 = .ok (.aload_n 0, 1) := by decide +kernel
theorem dX8_count_59 : decode cX8_count 59 = .ok (.getfield 9, 3) := by decide +kernel
theorem dX8_count_62 : decode cX8_count 62 = .ok (.iconst 3, 1) := by decide +kernel
theorem dX8_count_63 : decode cX8_count 63 = .ok (.iaload, 1) := by decide +kernel
theorem dX8_count_64 : decode cX8_count 64 = .ok (.ireturn, 1) := by decide +kernel
theorem dX8_count_65 : decode cX8_count 65 = .ok (.aload_n 0, 1) := by decide +kernel
theorem dX8_count_66 : decode cX8_count 66 = .ok (.getfield 9, 3) := by decide +kernel
theorem dX8_count_69 : decode cX8_count 69 = .ok (.bipush 6, 2) := by decide +kernel
theorem dX8_count_71 : decode cX8_count 71 = .ok (.iaload, 1) := by decide +kernel
theorem dX8_count_72 : decode cX8_count 72 = .ok (.ireturn, 1) := by decide +kernel
theorem dX8_count_73 : decode cX8_count 73 = .ok (.aload_n 0, 1) := by decide +kernel
theorem dX8_count_74 : decode cX8_count 74 = .ok (.getfield 264, 3) := by decide +kernel
theorem dX8_count_77 : decode cX8_count 77 = .ok (.ireturn, 1) := by decide +kernel
theorem dX8_count_78 : decode cX8_count 78 = .ok (.aload_n 0, 1) := by decide +kernel
theorem dX8_count_79 : decode cX8_count 79 = .ok (.getfield 188, 3) := by decide +kernel
theorem dX8_count_82 : decode cX8_count 82 = .ok (.ireturn, 1) := by decide +kernel
theorem dX8_count_83 : decode cX8_count 83 = .ok (.aload_n 0, 1) := by decide +kernel
theorem dX8_count_84 : decode cX8_count 84 = .ok (.getfield 9, 3) := by decide +kernel
theorem dX8_count_87 : decode cX8_count 87 = .ok (.iconst 0, 1) := by decide +kernel
theorem dX8_count_88 : decode cX8_count 88 = .ok (.iaload, 1) := by decide +kernel
theorem dX8_count_89 : decode cX8_count 89 = .ok (.ireturn, 1) := by decide +kernel
theorem dX8_count_90 : decode cX8_count 90 = .ok (.ldc 94, 2) := by decide +kernel
theorem dX8_count_92 : decode cX8_count 92 = .ok (.ireturn, 1) := by decide +kernel
theorem dJ6_bitCount_0f7a4_0 : decode cJ6_bitCount_0f7a4 0 = .ok (.iload_n 0, 1) := by decide +kernel
theorem dJ6_bitCount_0f7a4_1 : decode cJ6_bitCount_0f7a4 1 = .ok (.iload_n 0, 1) := by decide +kernel
theorem dJ6_bitCount_0f7a4_2 : decode cJ6_bitCount_0f7a4 2 = .ok (.iconst 1, 1) := by decide +kernel
theorem dJ6_bitCount_0f7a4_3 : decode cJ6_bitCount_0f7a4 3 = .ok (.iushr, 1) := by decide +kernel
theorem dJ6_bitCount_0f7a4_4 : decode cJ6_bitCount_0f7a4 4 = .ok (.ldc_w 265, 3) := by decide +kernel
theorem dJ6_bitCount_0f7a4_7 : decode cJ6_bitCount_0f7a4 7 = .ok (.iand, 1) := by decide +kernel
theorem dJ6_bitCount_0f7a4_8 : decode cJ6_bitCount_0f7a4 8 = .ok (.isub, 1) := by decide +kernel
theorem dJ6_bitCount_0f7a4_9 : decode cJ6_bitCount_0f7a4 9 = .ok (.istore_n 0, 1) := by decide +kernel
theorem dJ6_bitCount_0f7a4_10 : decode cJ6_bitCount_0f7a4 10 = .ok (.iload_n 0, 1) := by decide +kernel
theorem dJ6_bitCount_0f7a4_11 : decode cJ6_bitCount_0f7a4 11 = .ok (.ldc_w 266, 3) := by decide +kernel
theorem dJ6_bitCount_0f7a4_14 : decode cJ6_bitCount_0f7a4 14 = .ok (.iand, 1) := by decide +kernel
theorem dJ6_bitCount_0f7a4_15 : decode cJ6_bitCount_0f7a4 15 = .ok (.iload_n 0, 1) := by decide +kernel
theorem dJ6_bitCount_0f7a4_16 : decode cJ6_bitCount_0f7a4 16 = .ok (.iconst 2, 1) := by decide +kernel
theorem dJ6_bitCount_0f7a4_17 : decode cJ6_bitCount_0f7a4 17 = .ok (.iushr, 1) := by decide +kernel
theorem dJ6_bitCount_0f7a4_18 : decode cJ6_bitCount_0f7a4 18 = .ok (.ldc_w 266, 3) := by decide +kernel
theorem dJ6_bitCount_0f7a4_21 : decode cJ6_bitCount_0f7a4 21 = .ok (.iand, 1) := by decide +kernel
theorem dJ6_bitCount_0f7a4_22 : decode cJ6_bitCount_0f7a4 22 = .ok (.iadd, 1) := by decide +kernel
theorem dJ6_bitCount_0f7a4_23 : decode cJ6_bitCount_0f7a4 23 = .ok (.istore_n 0, 1) := by decide +kernel
theorem dJ6_bitCount_0f7a4_24 : decode cJ6_bitCount_0f7a4 24 = .ok (.iload_n 0, 1) := by decide +kernel
theorem dJ6_bitCount_0f7a4_25 : decode cJ6_bitCount_0f7a4 25 = .ok (.iload_n 0, 1) := by decide +kernel
theorem dJ6_bitCount_0f7a4_26 : decode cJ6_bitCount_0f7a4 26 = .ok (.iconst 4, 1) := by decide +kernel
theorem dJ6_bitCount_0f7a4_27 : decode cJ6_bitCount_0f7a4 27 = .ok (.iushr, 1) := by decide +kernel
theorem dJ6_bitCount_0f7a4_28 : decode cJ6_bitCount_0f7a4 28 = .ok (.iadd, 1) := by decide +kernel
theorem dJ6_bitCount_0f7a4_29 : decode cJ6_bitCount_0f7a4 29 = .ok (.ldc_w 267, 3) := by decide +kernel
theorem dJ6_bitCount_0f7a4_32 : decode cJ6_bitCount_0f7a4 32 = .ok (.iand, 1) := by decide +kernel
theorem dJ6_bitCount_0f7a4_33 : decode cJ6_bitCount_0f7a4 33 = .ok (.istore_n 0, 1) := by decide +kernel
theorem dJ6_bitCount_0f7a4_34 : decode cJ6_bitCount_0f7a4 34 = .ok (.iload_n 0, 1) := by decide +kernel
theorem dJ6_bitCount_0f7a4_35 : decode cJ6_bitCount_0f7a4 35 = .ok (.iload_n 0, 1) := by decide +kernel
theorem dJ6_bitCount_0f7a4_36 : decode cJ6_bitCount_0f7a4 36 = .ok (.bipush 8, 2) := by decide +kernel
theorem dJ6_bitCount_0f7a4_38 : decode cJ6_bitCount_0f7a4 38 = .ok (.iushr, 1) := by decide +kernel
theorem dJ6_bitCount_0f7a4_39 : decode cJ6_bitCount_0f7a4 39 = .ok (.iadd, 1) := by decide +kernel
theorem dJ6_bitCount_0f7a4_40 : decode cJ6_bitCount_0f7a4 40 = .ok (.istore_n 0, 1) := by decide +kernel
theorem dJ6_bitCount_0f7a4_41 : decode cJ6_bitCount_0f7a4 41 = .ok (.iload_n 0, 1) := by decide +kernel
theorem dJ6_bitCount_0f7a4_42 : decode cJ6_bitCount_0f7a4 42 = .ok (.iload_n 0, 1) := by decide +kernel
theorem dJ6_bitCount_0f7a4_43 : decode cJ6_bitCount_0f7a4 43 = .ok (.bipush 16, 2) := by decide +kernel
theorem dJ6_bitCount_0f7a4_45 : decode cJ6_bitCount_0f7a4 45 = .ok (.iushr, 1) := by decide +kernel
theorem dJ6_bitCount_0f7a4_46 : decode cJ6_bitCount_0f7a4 46 = .ok (.iadd, 1) := by decide +kernel
theorem dJ6_bitCount_0f7a4_47 : decode cJ6_bitCount_0f7a4 47 = .ok (.istore_n 0, 1) := by decide +kernel
theorem dJ6_bitCount_0f7a4_48 : decode cJ6_bitCount_0f7a4 48 = .ok (.iload_n 0, 1) := by decide +kernel
theorem dJ6_bitCount_0f7a4_49 : decode cJ6_bitCount_0f7a4 49 = .ok (.bipush 63, 2) := by decide +kernel
theorem dJ6_bitCount_0f7a4_51 : decode cJ6_bitCount_0f7a4 51 = .ok (.iand, 1) := by decide +kernel
theorem dJ6_bitCount_0f7a4_52 : decode cJ6_bitCount_0f7a4 52 = .ok (.ireturn, 1) := by decide +kernel
theorem dJ9_abs_0f7a4_0 : decode cJ9_abs_0f7a4 0 = .ok (.iload_n 0, 1) := by decide +kernel
theorem dJ9_abs_0f7a4_1 : decode cJ9_abs_0f7a4 1 = .ok (.ifCond .ge 8, 3) := by decide +kernel
theorem dJ9_abs_0f7a4_4 : decode cJ9_abs_0f7a4 4 = .ok (.iload_n 0, 1) := by decide +kernel
theorem dJ9_abs_0f7a4_5 : decode cJ9_abs_0f7a4 5 = .ok (.ineg, 1) := by decide +kernel
theorem dJ9_abs_0f7a4_6 : decode cJ9_abs_0f7a4 6 = .ok (.goto 4, 3) := by decide +kernel
theorem dJ9_abs_0f7a4_9 : decode cJ9_abs_0f7a4 9 = .ok (.iload_n 0, 1) := by decide +kernel
theorem dJ9_abs_0f7a4_10 : decode cJ9_abs_0f7a4 10 = .ok (.ireturn, 1) := by decide +kernel
theorem dJ9_max_7cf53_0 : decode cJ9_max_7cf53 0 = .ok (.iload_n 0, 1) := by decide +kernel
theorem dJ9_max_7cf53_1 : decode cJ9_max_7cf53 1 = .ok (.iload_n 1, 1) := by decide +kernel
theorem dJ9_max_7cf53_2 : decode cJ9_max_7cf53 2 = .ok (.if_icmp .lt 7, 3) := by decide +kernel
theorem dJ9_max_7cf53_5 : decode cJ9_max_7cf53 5 = .ok (.iload_n 0, 1) := by decide +kernel
theorem dJ9_max_7cf53_6 : decode cJ9_max_7cf53 6 = .ok (.goto 4, 3) := by decide +kernel
theorem dJ9_max_7cf53_9 : decode cJ9_max_7cf53 9 = .ok (.iload_n 1, 1) := by decide +kernel
theorem dJ9_max_7cf53_10 : decode cJ9_max_7cf53 10 = .ok (.ireturn, 1) := by decide +kernel
theorem dJ9_min_7cf53_0 : decode cJ9_min_7cf53 0 = .ok (.iload_n 0, 1) := by decide +kernel
theorem dJ9_min_7cf53_1 : decode cJ9_min_7cf53 1 = .ok (.iload_n 1, 1) := by decide +kernel
theorem dJ9_min_7cf53_2 : decode cJ9_min_7cf53 2 = .ok (.if_icmp .gt 7, 3) := by decide +kernel
theorem dJ9_min_7cf53_5 : decode cJ9_min_7cf53 5 = .ok (.iload_n 0, 1) := by decide +kernel
theorem dJ9_min_7cf53_6 : decode cJ9_min_7cf53 6 = .ok (.goto 4, 3) := by decide +kernel
theorem dJ9_min_7cf53_9 : decode cJ9_min_7cf53 9 = .ok (.iload_n 1, 1) := by decide +kernel
theorem dJ9_min_7cf53_10 : decode cJ9_min_7cf53 10 = .ok (.ireturn, 1) := by decide +kernel
theorem dJ0_length_8abf5_0 : decode cJ0_length_8abf5 0 = .ok (.aload_n 0, 1) := by decide +kernel
theorem dJ0_length_8abf5_1 : decode cJ0_length_8abf5 1 = .ok (.getfield 9, 3) := by decide +kernel
theorem dJ0_length_8abf5_4 : decode cJ0_length_8abf5 4 = .ok (.arraylength, 1) := by decide +kernel
theorem dJ0_length_8abf5_5 : decode cJ0_length_8abf5 5 = .ok (.aload_n 0, 1) := by decide +kernel
theorem dJ0_length_8abf5_6 : decode cJ0_length_8abf5 6 = .ok (.invokevirtual 335, 3) := by decide +kernel
theorem dJ0_length_8abf5_9 : decode cJ0_length_8abf5 9 = .ok (.ishr, 1) := by decide +kernel
theorem dJ0_length_8abf5_10 : decode cJ0_length_8abf5 10 = .ok (.ireturn, 1) := by decide +kernel
theorem dJ0_charAt_5068e_0 : decode cJ0_charAt_5068e 0 = .ok (.aload_n 0, 1) := by decide +kernel
theorem dJ0_charAt_5068e_1 : decode cJ0_charAt_5068e 1 = .ok (.invokevirtual 492, 3) := by decide +kernel
theorem dJ0_charAt_5068e_4 : decode cJ0_charAt_5068e 4 = .ok (.ifCond .eq 12, 3) := by decide +kernel
theorem dJ0_charAt_5068e_7 : decode cJ0_charAt_5068e 7 = .ok (.aload_n 0, 1) := by decide +kernel
theorem dJ0_charAt_5068e_8 : decode cJ0_charAt_5068e 8 = .ok (.getfield 9, 3) := by decide +kernel
theorem dJ0_charAt_5068e_11 : decode cJ0_charAt_5068e 11 = .ok (.iload_n 1, 1) := by decide +kernel
theorem dJ0_charAt_5068e_12 : decode cJ0_charAt_5068e 12 = .ok (.invokestatic 495, 3) := by decide +kernel
theorem dJ0_charAt_5068e_15 : decode cJ0_charAt_5068e 15 = .ok (.ireturn, 1) := by decide +kernel
theorem dJ0_charAt_5068e_16 : decode cJ0_charAt_5068e 16 = .ok (.aload_n 0, 1) := by decide +kernel
theorem dJ0_charAt_5068e_17 : decode cJ0_charAt_5068e 17 = .ok (.getfield 9, 3) := by decide +kernel
theorem dJ0_charAt_5068e_20 : decode cJ0_charAt_5068e 20 = .ok (.iload_n 1, 1) := by decide +kernel
theorem dJ0_charAt_5068e_21 : decode cJ0_charAt_5068e 21 = .ok (.invokestatic 498, 3) := by decide +kernel
theorem dJ0_charAt_5068e_24 : decode cJ0_charAt_5068e 24 = .ok (.ireturn, 1) := by decide +kernel
theorem dJ0_coder_7d493_0 : decode cJ0_coder_7d493 0 = .ok (.getstatic 38, 3) := by decide +kernel
theorem dJ0_coder_7d493_3 : decode cJ0_coder_7d493 3 = .ok (.ifCond .eq 10, 3) := by decide +kernel
theorem dJ0_coder_7d493_6 : decode cJ0_coder_7d493 6 = .ok (.aload_n 0, 1) := by decide +kernel
theorem dJ0_coder_7d493_7 : decode cJ0_coder_7d493 7 = .ok (.getfield 15, 3) := by decide +kernel
theorem dJ0_coder_7d493_10 : decode cJ0_coder_7d493 10 = .ok (.goto 4, 3) := by decide +kernel
theorem dJ0_coder_7d493_13 : decode cJ0_coder_7d493 13 = .ok (.iconst 1, 1) := by decide +kernel
theorem dJ0_coder_7d493_14 : decode cJ0_coder_7d493 14 = .ok (.ireturn, 1) := by decide +kernel
theorem dJ0_isLatin1_aae02_0 : decode cJ0_isLatin1_aae02 0 = .ok (.getstatic 38, 3) := by decide +kernel
theorem dJ0_isLatin1_aae02_3 : decode cJ0_isLatin1_aae02 3 = .ok (.ifCond .eq 14, 3) := by decide +kernel
theorem dJ0_isLatin1_aae02_6 : decode cJ0_isLatin1_aae02 6 = .ok (.aload_n 0, 1) := by decide +kernel
theorem dJ0_isLatin1_aae02_7 : decode cJ0_isLatin1_aae02 7 = .ok (.getfield 15, 3) := by decide +kernel
theorem dJ0_isLatin1_aae02_10 : decode cJ0_isLatin1_aae02 10 = .ok (.ifCond .ne 7, 3) := by decide +kernel
theorem dJ0_isLatin1_aae02_13 : decode cJ0_isLatin1_aae02 13 = .ok (.iconst 1, 1) := by decide +kernel
theorem dJ0_isLatin1_aae02_14 : decode cJ0_isLatin1_aae02 14 = .ok (.goto 4, 3) := by decide +kernel
theorem dJ0_isLatin1_aae02_17 : decode cJ0_isLatin1_aae02 17 = .ok (.iconst 0, 1) := by decide +kernel
theorem dJ0_isLatin1_aae02_18 : decode cJ0_isLatin1_aae02 18 = .ok (.ireturn, 1) := by decide +kernel
theorem dJ0_checkIndex_df160_0 : decode cJ0_checkIndex_df160 0 = .ok (.iload_n 0, 1) := by decide +kernel
theorem dJ0_checkIndex_df160_1 : decode cJ0_checkIndex_df160 1 = .ok (.iload_n 1, 1) := by decide +kernel
theorem dJ0_checkIndex_df160_2 : decode cJ0_checkIndex_df160 2 = .ok (.getstatic 1053, 3) := by decide +kernel
theorem dJ0_checkIndex_df160_5 : decode cJ0_checkIndex_df160 5 = .ok (.invokestatic 1059, 3) := by decide +kernel
theorem dJ0_checkIndex_df160_8 : decode cJ0_checkIndex_df160 8 = .ok (.pop, 1) := by decide +kernel
theorem dJ0_checkIndex_df160_9 : decode cJ0_checkIndex_df160 9 = .ok (.return_, 1) := by decide +kernel
theorem dJ1_charAt_3b067_0 : decode cJ1_charAt_3b067 0 = .ok (.iload_n 1, 1) := by decide +kernel
theorem dJ1_charAt_3b067_1 : decode cJ1_charAt_3b067 1 = .ok (.aload_n 0, 1) := by decide +kernel
theorem dJ1_charAt_3b067_2 : decode cJ1_charAt_3b067 2 = .ok (.arraylength, 1) := by decide +kernel
theorem dJ1_charAt_3b067_3 : decode cJ1_charAt_3b067 3 = .ok (.invokestatic 9, 3) := by decide +kernel
theorem dJ1_charAt_3b067_6 : decode cJ1_charAt_3b067 6 = .ok (.aload_n 0, 1) := by decide +kernel
theorem dJ1_charAt_3b067_7 : decode cJ1_charAt_3b067 7 = .ok (.iload_n 1, 1) := by decide +kernel
theorem dJ1_charAt_3b067_8 : decode cJ1_charAt_3b067 8 = .ok (.baload, 1) := by decide +kernel
theorem dJ1_charAt_3b067_9 : decode cJ1_charAt_3b067 9 = .ok (.sipush 255, 3) := by decide +kernel
theorem dJ1_charAt_3b067_12 : decode cJ1_charAt_3b067 12 = .ok (.iand, 1) := by decide +kernel
theorem dJ1_charAt_3b067_13 : decode cJ1_charAt_3b067 13 = .ok (.i2c, 1) := by decide +kernel
theorem dJ1_charAt_3b067_14 : decode cJ1_charAt_3b067 14 = .ok (.ireturn, 1) := by decide +kernel
theorem dJ2_getChar_3b067_0 : decode cJ2_getChar_3b067 0 = .ok (.getstatic 44, 3) := by decide +kernel
theorem dJ2_getChar_3b067_3 : decode cJ2_getChar_3b067 3 = .ok (.ifCond .ne 25, 3) := by decide +kernel
theorem dJ2_getChar_3b067_6 : decode cJ2_getChar_3b067 6 = .ok (.iload_n 1, 1) := by decide +kernel
theorem dJ2_getChar_3b067_7 : decode cJ2_getChar_3b067 7 = .ok (.ifCond .lt 11, 3) := by decide +kernel
theorem dJ2_getChar_3b067_10 : decode cJ2_getChar_3b067 10 = .ok (.iload_n 1, 1) := by decide +kernel
theorem dJ2_getChar_3b067_11 : decode cJ2_getChar_3b067 11 = .ok (.aload_n 0, 1) := by decide +kernel
theorem dJ2_getChar_3b067_12 : decode cJ2_getChar_3b067 12 = .ok (.invokestatic 48, 3) := by decide +kernel
theorem dJ2_getChar_3b067_15 : decode cJ2_getChar_3b067 15 = .ok (.if_icmp .lt 13, 3) := by decide +kernel
theorem dJ2_getChar_3b067_18 : decode cJ2_getChar_3b067 18 = .ok (.new 52, 3) := by decide +kernel
theorem dJ2_getChar_3b067_21 : decode cJ2_getChar_3b067 21 = .ok (.dup, 1) := by decide +kernel
theorem dJ2_getChar_3b067_22 : decode cJ2_getChar_3b067 22 = .ok (.ldc 54, 2) := by decide +kernel
theorem dJ2_getChar_3b067_24 : decode cJ2_getChar_3b067 24 = .ok (.invokespecial 56, 3) := by decide +kernel
theorem dJ2_getChar_3b067_27 : decode cJ2_getChar_3b067 27 = .ok (.athrow, 1) := by decide +kernel
theorem dJ2_getChar_3b067_28 : decode cJ2_getChar_3b067 28 = .ok (.iload_n 1, 1) := by decide +kernel
theorem dJ2_getChar_3b067_29 : decode cJ2_getChar_3b067 29 = .ok (.iconst 1, 1) := by decide +kernel
theorem dJ2_getChar_3b067_30 : decode cJ2_getChar_3b067 30 = .ok (.ishl, 1) := by decide +kernel
theorem dJ2_getChar_3b067_31 : decode cJ2_getChar_3b067 31 = .ok (.istore_n 1, 1) := by decide +kernel
theorem dJ2_getChar_3b067_32 : decode cJ2_getChar_3b067 32 = .ok (.aload_n 0, 1) := by decide +kernel
theorem dJ2_getChar_3b067_33 : decode cJ2_getChar_3b067 33 = .ok (.iload_n 1, 1) := by decide +kernel
theorem dJ2_getChar_3b067_34 : decode cJ2_getChar_3b067 34 = .ok (.iinc 1 1, 3) := by decide +kernel
theorem dJ2_getChar_3b067_37 : decode cJ2_getChar_3b067 37 = .ok (.baload, 1) := by decide +kernel
theorem dJ2_getChar_3b067_38 : decode cJ2_getChar_3b067 38 = .ok (.sipush 255, 3) := by decide +kernel
theorem dJ2_getChar_3b067_41 : decode cJ2_getChar_3b067 41 = .ok (.iand, 1) := by decide +kernel
theorem dJ2_getChar_3b067_42 : decode cJ2_getChar_3b067 42 = .ok (.getstatic 59, 3) := by decide +kernel
theorem dJ2_getChar_3b067_45 : decode cJ2_getChar_3b067 45 = .ok (.ishl, 1) := by decide +kernel
theorem dJ2_getChar_3b067_46 : decode cJ2_getChar_3b067 46 = .ok (.aload_n 0, 1) := by decide +kernel
theorem dJ2_getChar_3b067_47 : decode cJ2_getChar_3b067 47 = .ok (.iload_n 1, 1) := by decide +kernel
theorem dJ2_getChar_3b067_48 : decode cJ2_getChar_3b067 48 = .ok (.baload, 1) := by decide +kernel
theorem dJ2_getChar_3b067_49 : decode cJ2_getChar_3b067 49 = .ok (.sipush 255, 3) := by decide +kernel
theorem dJ2_getChar_3b067_52 : decode cJ2_getChar_3b067 52 = .ok (.iand, 1) := by decide +kernel
theorem dJ2_getChar_3b067_53 : decode cJ2_getChar_3b067 53 = .ok (.getstatic 63, 3) := by decide +kernel
theorem dJ2_getChar_3b067_56 : decode cJ2_getChar_3b067 56 = .ok (.ishl, 1) := by decide +kernel
theorem dJ2_getChar_3b067_57 : decode cJ2_getChar_3b067 57 = .ok (.ior, 1) := by decide +kernel
theorem dJ2_getChar_3b067_58 : decode cJ2_getChar_3b067 58 = .ok (.i2c, 1) := by decide +kernel
theorem dJ2_getChar_3b067_59 : decode cJ2_getChar_3b067 59 = .ok (.ireturn, 1) := by decide +kernel
theorem dJ2_length_9d52b_0 : decode cJ2_length_9d52b 0 = .ok (.aload_n 0, 1) := by decide +kernel
theorem dJ2_length_9d52b_1 : decode cJ2_length_9d52b 1 = .ok (.arraylength, 1) := by decide +kernel
theorem dJ2_length_9d52b_2 : decode cJ2_length_9d52b 2 = .ok (.iconst 1, 1) := by decide +kernel
theorem dJ2_length_9d52b_3 : decode cJ2_length_9d52b 3 = .ok (.ishr, 1) := by decide +kernel
theorem dJ2_length_9d52b_4 : decode cJ2_length_9d52b 4 = .ok (.ireturn, 1) := by decide +kernel
theorem dJ2_charAt_3b067_0 : decode cJ2_charAt_3b067 0 = .ok (.iload_n 1, 1) := by decide +kernel
theorem dJ2_charAt_3b067_1 : decode cJ2_charAt_3b067 1 = .ok (.aload_n 0, 1) := by decide +kernel
theorem dJ2_charAt_3b067_2 : decode cJ2_charAt_3b067 2 = .ok (.invokestatic 67, 3) := by decide +kernel
theorem dJ2_charAt_3b067_5 : decode cJ2_charAt_3b067 5 = .ok (.aload_n 0, 1) := by decide +kernel
theorem dJ2_charAt_3b067_6 : decode cJ2_charAt_3b067 6 = .ok (.iload_n 1, 1) := by decide +kernel
theorem dJ2_charAt_3b067_7 : decode cJ2_charAt_3b067 7 = .ok (.invokestatic 71, 3) := by decide +kernel
theorem dJ2_charAt_3b067_10 : decode cJ2_charAt_3b067 10 = .ok (.ireturn, 1) := by decide +kernel
theorem dJ2_checkIndex_2214a_0 : decode cJ2_checkIndex_2214a 0 = .ok (.iload_n 0, 1) := by decide +kernel
theorem dJ2_checkIndex_2214a_1 : decode cJ2_checkIndex_2214a 1 = .ok (.aload_n 1, 1) := by decide +kernel
theorem dJ2_checkIndex_2214a_2 : decode cJ2_checkIndex_2214a 2 = .ok (.invokestatic 48, 3) := by decide +kernel
theorem dJ2_checkIndex_2214a_5 : decode cJ2_checkIndex_2214a 5 = .ok (.invokestatic 414, 3) := by decide +kernel
theorem dJ2_checkIndex_2214a_8 : decode cJ2_checkIndex_2214a 8 = .ok (.return_, 1) := by decide +kernel
theorem dJ3_checkIndex_8e157_0 : decode cJ3_checkIndex_8e157 0 = .ok (.iload_n 0, 1) := by decide +kernel
theorem dJ3_checkIndex_8e157_1 : decode cJ3_checkIndex_8e157 1 = .ok (.ifCond .lt 8, 3) := by decide +kernel
theorem dJ3_checkIndex_8e157_4 : decode cJ3_checkIndex_8e157 4 = .ok (.iload_n 0, 1) := by decide +kernel
theorem dJ3_checkIndex_8e157_5 : decode cJ3_checkIndex_8e157 5 = .ok (.iload_n 1, 1) := by decide +kernel
theorem dJ3_checkIndex_8e157_6 : decode cJ3_checkIndex_8e157 6 = .ok (.if_icmp .lt 10, 3) := by decide +kernel
theorem dJ3_checkIndex_8e157_9 : decode cJ3_checkIndex_8e157 9 = .ok (.aload_n 2, 1) := by decide +kernel
theorem dJ3_checkIndex_8e157_10 : decode cJ3_checkIndex_8e157 10 = .ok (.iload_n 0, 1) := by decide +kernel
theorem dJ3_checkIndex_8e157_11 : decode cJ3_checkIndex_8e157 11 = .ok (.iload_n 1, 1) := by decide +kernel
theorem dJ3_checkIndex_8e157_12 : decode cJ3_checkIndex_8e157 12 = .ok (.invokestatic 95, 3) := by decide +kernel
theorem dJ3_checkIndex_8e157_15 : decode cJ3_checkIndex_8e157 15 = .ok (.athrow, 1) := by decide +kernel
theorem dJ3_checkIndex_8e157_16 : decode cJ3_checkIndex_8e157 16 = .ok (.iload_n 0, 1) := by decide +kernel
theorem dJ3_checkIndex_8e157_17 : decode cJ3_checkIndex_8e157 17 = .ok (.ireturn, 1) := by decide +kernel
theorem dL_law_0 : decode cL_law 0 = .ok (.new 7, 3) := by decide +kernel
theorem dL_law_3 : decode cL_law 3 = .ok (.dup, 1) := by decide +kernel
theorem dL_law_4 : decode cL_law 4 = .ok (.invokespecial 9, 3) := by decide +kernel
theorem dL_law_7 : decode cL_law 7 = .ok (.astore_n 1, 1) := by decide +kernel
theorem dL_law_8 : decode cL_law 8 = .ok (.new 10, 3) := by decide +kernel
theorem dL_law_11 : decode cL_law 11 = .ok (.dup, 1) := by decide +kernel
theorem dL_law_12 : decode cL_law 12 = .ok (.invokespecial 12, 3) := by decide +kernel
theorem dL_law_15 : decode cL_law 15 = .ok (.astore_n 2, 1) := by decide +kernel
theorem dL_law_16 : decode cL_law 16 = .ok (.iconst 0, 1) := by decide +kernel
theorem dL_law_17 : decode cL_law 17 = .ok (.istore_n 3, 1) := by decide +kernel
theorem dL_law_18 : decode cL_law 18 = .ok (.iload_n 3, 1) := by decide +kernel
theorem dL_law_19 : decode cL_law 19 = .ok (.aload_n 0, 1) := by decide +kernel
theorem dL_law_20 : decode cL_law 20 = .ok (.arraylength, 1) := by decide +kernel
theorem dL_law_21 : decode cL_law 21 = .ok (.bipush 6, 2) := by decide +kernel
theorem dL_law_23 : decode cL_law 23 = .ok (.isub, 1) := by decide +kernel
theorem dL_law_24 : decode cL_law 24 = .ok (.if_icmp .gt 1528, 3) := by decide +kernel
theorem dL_law_27 : decode cL_law 27 = .ok (.aload_n 0, 1) := by decide +kernel
theorem dL_law_28 : decode cL_law 28 = .ok (.iload_n 3, 1) := by decide +kernel
theorem dL_law_29 : decode cL_law 29 = .ok (.iaload, 1) := by decide +kernel
theorem dL_law_30 : decode cL_law 30 = .ok (.bipush 63, 2) := by decide +kernel
theorem dL_law_32 : decode cL_law 32 = .ok (.iand, 1) := by decide +kernel
theorem dL_law_33 : decode cL_law 33 = .ok (.tableswitch 1513 0 43 #[191, 244, 277, 310, 343, 386, 429, 452, 475, 498, 521, 554, 577, 600, 623, 646, 679, 692, 725, 758, 791, 834, 877, 910, 923, 946, 989, 1012, 1025, 1058, 1081, 1124, 1167, 1190, 1213, 1276, 1319, 1352, 1385, 1418, 1441, 1464, 1477, 1490], 191) := by decide +kernel
theorem dL_law_224 : decode cL_law 224 = .ok (.aload_n 1, 1) := by decide +kernel
theorem dL_law_225 : decode cL_law 225 = .ok (.aload_n 0, 1) := by decide +kernel
theorem dL_law_226 : decode cL_law 226 = .ok (.iload_n 3, 1) := by decide +kernel
theorem dL_law_227 : decode cL_law 227 = .ok (.iconst 1, 1) := by decide +kernel
theorem dL_law_228 : decode cL_law 228 = .ok (.iadd, 1) := by decide +kernel
theorem dL_law_229 : decode cL_law 229 = .ok (.iaload, 1) := by decide +kernel
theorem dL_law_230 : decode cL_law 230 = .ok (.aload_n 0, 1) := by decide +kernel
theorem dL_law_231 : decode cL_law 231 = .ok (.iload_n 3, 1) := by decide +kernel
theorem dL_law_232 : decode cL_law 232 = .ok (.iconst 2, 1) := by decide +kernel
theorem dL_law_233 : decode cL_law 233 = .ok (.iadd, 1) := by decide +kernel
theorem dL_law_234 : decode cL_law 234 = .ok (.iaload, 1) := by decide +kernel
theorem dL_law_235 : decode cL_law 235 = .ok (.aload_n 0, 1) := by decide +kernel
theorem dL_law_236 : decode cL_law 236 = .ok (.iload_n 3, 1) := by decide +kernel
theorem dL_law_237 : decode cL_law 237 = .ok (.iconst 3, 1) := by decide +kernel
theorem dL_law_238 : decode cL_law 238 = .ok (.iadd, 1) := by decide +kernel
theorem dL_law_239 : decode cL_law 239 = .ok (.iaload, 1) := by decide +kernel
theorem dL_law_240 : decode cL_law 240 = .ok (.aload_n 0, 1) := by decide +kernel
theorem dL_law_241 : decode cL_law 241 = .ok (.iload_n 3, 1) := by decide +kernel
theorem dL_law_242 : decode cL_law 242 = .ok (.iconst 4, 1) := by decide +kernel
theorem dL_law_243 : decode cL_law 243 = .ok (.iadd, 1) := by decide +kernel
theorem dL_law_244 : decode cL_law 244 = .ok (.iaload, 1) := by decide +kernel
theorem dL_law_245 : decode cL_law 245 = .ok (.invokevirtual 13, 3) := by decide +kernel
theorem dL_law_248 : decode cL_law 248 = .ok (.aload_n 2, 1) := by decide +kernel
theorem dL_law_249 : decode cL_law 249 = .ok (.aload_n 0, 1) := by decide +kernel
theorem dL_law_250 : decode cL_law 250 = .ok (.iload_n 3, 1) := by decide +kernel
theorem dL_law_251 : decode cL_law 251 = .ok (.iconst 1, 1) := by decide +kernel
theorem dL_law_252 : decode cL_law 252 = .ok (.iadd, 1) := by decide +kernel
theorem dL_law_253 : decode cL_law 253 = .ok (.iaload, 1) := by decide +kernel
theorem dL_law_254 : decode cL_law 254 = .ok (.aload_n 0, 1) := by decide +kernel
theorem dL_law_255 : decode cL_law 255 = .ok (.iload_n 3, 1) := by decide +kernel
theorem dL_law_256 : decode cL_law 256 = .ok (.iconst 2, 1) := by decide +kernel
theorem dL_law_257 : decode cL_law 257 = .ok (.iadd, 1) := by decide +kernel
theorem dL_law_258 : decode cL_law 258 = .ok (.iaload, 1) := by decide +kernel
theorem dL_law_259 : decode cL_law 259 = .ok (.aload_n 0, 1) := by decide +kernel
theorem dL_law_260 : decode cL_law 260 = .ok (.iload_n 3, 1) := by decide +kernel
theorem dL_law_261 : decode cL_law 261 = .ok (.iconst 3, 1) := by decide +kernel
theorem dL_law_262 : decode cL_law 262 = .ok (.iadd, 1) := by decide +kernel
theorem dL_law_263 : decode cL_law 263 = .ok (.iaload, 1) := by decide +kernel
theorem dL_law_264 : decode cL_law 264 = .ok (.aload_n 0, 1) := by decide +kernel
theorem dL_law_265 : decode cL_law 265 = .ok (.iload_n 3, 1) := by decide +kernel
theorem dL_law_266 : decode cL_law 266 = .ok (.iconst 4, 1) := by decide +kernel
theorem dL_law_267 : decode cL_law 267 = .ok (.iadd, 1) := by decide +kernel
theorem dL_law_268 : decode cL_law 268 = .ok (.iaload, 1) := by decide +kernel
theorem dL_law_269 : decode cL_law 269 = .ok (.invokevirtual 17, 3) := by decide +kernel
theorem dL_law_272 : decode cL_law 272 = .ok (.if_icmp .eq 1274, 3) := by decide +kernel
theorem dL_law_275 : decode cL_law 275 = .ok (.iconst 0, 1) := by decide +kernel
theorem dL_law_276 : decode cL_law 276 = .ok (.ireturn, 1) := by decide +kernel
theorem dL_law_277 : decode cL_law 277 = .ok (.aload_n 1, 1) := by decide +kernel
theorem dL_law_278 : decode cL_law 278 = .ok (.aload_n 0, 1) := by decide +kernel
theorem dL_law_279 : decode cL_law 279 = .ok (.iload_n 3, 1) := by decide +kernel
theorem dL_law_280 : decode cL_law 280 = .ok (.iconst 1, 1) := by decide +kernel
theorem dL_law_281 : decode cL_law 281 = .ok (.iadd, 1) := by decide +kernel
theorem dL_law_282 : decode cL_law 282 = .ok (.iaload, 1) := by decide +kernel
theorem dL_law_283 : decode cL_law 283 = .ok (.aload_n 0, 1) := by decide +kernel
theorem dL_law_284 : decode cL_law 284 = .ok (.iload_n 3, 1) := by decide +kernel
theorem dL_law_285 : decode cL_law 285 = .ok (.iconst 2, 1) := by decide +kernel
theorem dL_law_286 : decode cL_law 286 = .ok (.iadd, 1) := by decide +kernel
theorem dL_law_287 : decode cL_law 287 = .ok (.iaload, 1) := by decide +kernel
theorem dL_law_288 : decode cL_law 288 = .ok (.invokevirtual 18, 3) := by decide +kernel
theorem dL_law_291 : decode cL_law 291 = .ok (.aload_n 2, 1) := by decide +kernel
theorem dL_law_292 : decode cL_law 292 = .ok (.aload_n 0, 1) := by decide +kernel
theorem dL_law_293 : decode cL_law 293 = .ok (.iload_n 3, 1) := by decide +kernel
theorem dL_law_294 : decode cL_law 294 = .ok (.iconst 1, 1) := by decide +kernel
theorem dL_law_295 : decode cL_law 295 = .ok (.iadd, 1) := by decide +kernel
theorem dL_law_296 : decode cL_law 296 = .ok (.iaload, 1) := by decide +kernel
theorem dL_law_297 : decode cL_law 297 = .ok (.aload_n 0, 1) := by decide +kernel
theorem dL_law_298 : decode cL_law 298 = .ok (.iload_n 3, 1) := by decide +kernel
theorem dL_law_299 : decode cL_law 299 = .ok (.iconst 2, 1) := by decide +kernel
theorem dL_law_300 : decode cL_law 300 = .ok (.iadd, 1) := by decide +kernel
theorem dL_law_301 : decode cL_law 301 = .ok (.iaload, 1) := by decide +kernel
theorem dL_law_302 : decode cL_law 302 = .ok (.invokevirtual 22, 3) := by decide +kernel
theorem dL_law_305 : decode cL_law 305 = .ok (.if_icmp .eq 1241, 3) := by decide +kernel
theorem dL_law_308 : decode cL_law 308 = .ok (.iconst 0, 1) := by decide +kernel
theorem dL_law_309 : decode cL_law 309 = .ok (.ireturn, 1) := by decide +kernel
theorem dL_law_310 : decode cL_law 310 = .ok (.aload_n 1, 1) := by decide +kernel
theorem dL_law_311 : decode cL_law 311 = .ok (.aload_n 0, 1) := by decide +kernel
theorem dL_law_312 : decode cL_law 312 = .ok (.iload_n 3, 1) := by decide +kernel
theorem dL_law_313 : decode cL_law 313 = .ok (.iconst 1, 1) := by decide +kernel
theorem dL_law_314 : decode cL_law 314 = .ok (.iadd, 1) := by decide +kernel
theorem dL_law_315 : decode cL_law 315 = .ok (.iaload, 1) := by decide +kernel
theorem dL_law_316 : decode cL_law 316 = .ok (.aload_n 0, 1) := by decide +kernel
theorem dL_law_317 : decode cL_law 317 = .ok (.iload_n 3, 1) := by decide +kernel
theorem dL_law_318 : decode cL_law 318 = .ok (.iconst 2, 1) := by decide +kernel
theorem dL_law_319 : decode cL_law 319 = .ok (.iadd, 1) := by decide +kernel
theorem dL_law_320 : decode cL_law 320 = .ok (.iaload, 1) := by decide +kernel
theorem dL_law_321 : decode cL_law 321 = .ok (.invokevirtual 23, 3) := by decide +kernel
theorem dL_law_324 : decode cL_law 324 = .ok (.aload_n 2, 1) := by decide +kernel
theorem dL_law_325 : decode cL_law 325 = .ok (.aload_n 0, 1) := by decide +kernel
theorem dL_law_326 : decode cL_law 326 = .ok (.iload_n 3, 1) := by decide +kernel
theorem dL_law_327 : decode cL_law 327 = .ok (.iconst 1, 1) := by decide +kernel
theorem dL_law_328 : decode cL_law 328 = .ok (.iadd, 1) := by decide +kernel
theorem dL_law_329 : decode cL_law 329 = .ok (.iaload, 1) := by decide +kernel
theorem dL_law_330 : decode cL_law 330 = .ok (.aload_n 0, 1) := by decide +kernel
theorem dL_law_331 : decode cL_law 331 = .ok (.iload_n 3, 1) := by decide +kernel
theorem dL_law_332 : decode cL_law 332 = .ok (.iconst 2, 1) := by decide +kernel
theorem dL_law_333 : decode cL_law 333 = .ok (.iadd, 1) := by decide +kernel
theorem dL_law_334 : decode cL_law 334 = .ok (.iaload, 1) := by decide +kernel
theorem dL_law_335 : decode cL_law 335 = .ok (.invokevirtual 26, 3) := by decide +kernel
theorem dL_law_338 : decode cL_law 338 = .ok (.if_icmp .eq 1208, 3) := by decide +kernel
theorem dL_law_341 : decode cL_law 341 = .ok (.iconst 0, 1) := by decide +kernel
theorem dL_law_342 : decode cL_law 342 = .ok (.ireturn, 1) := by decide +kernel
theorem dL_law_343 : decode cL_law 343 = .ok (.aload_n 1, 1) := by decide +kernel
theorem dL_law_344 : decode cL_law 344 = .ok (.aload_n 0, 1) := by decide +kernel
theorem dL_law_345 : decode cL_law 345 = .ok (.iload_n 3, 1) := by decide +kernel
theorem dL_law_346 : decode cL_law 346 = .ok (.iconst 1, 1) := by decide +kernel
theorem dL_law_347 : decode cL_law 347 = .ok (.iadd, 1) := by decide +kernel
theorem dL_law_348 : decode cL_law 348 = .ok (.iaload, 1) := by decide +kernel
theorem dL_law_349 : decode cL_law 349 = .ok (.aload_n 0, 1) := by decide +kernel
theorem dL_law_350 : decode cL_law 350 = .ok (.iload_n 3, 1) := by decide +kernel
theorem dL_law_351 : decode cL_law 351 = .ok (.iconst 2, 1) := by decide +kernel
theorem dL_law_352 : decode cL_law 352 = .ok (.iadd, 1) := by decide +kernel
theorem dL_law_353 : decode cL_law 353 = .ok (.iaload, 1) := by decide +kernel
theorem dL_law_354 : decode cL_law 354 = .ok (.invokevirtual 27, 3) := by decide +kernel
theorem dL_law_357 : decode cL_law 357 = .ok (.aload_n 2, 1) := by decide +kernel
theorem dL_law_358 : decode cL_law 358 = .ok (.aload_n 0, 1) := by decide +kernel
theorem dL_law_359 : decode cL_law 359 = .ok (.iload_n 3, 1) := by decide +kernel
theorem dL_law_360 : decode cL_law 360 = .ok (.iconst 1, 1) := by decide +kernel
theorem dL_law_361 : decode cL_law 361 = .ok (.iadd, 1) := by decide +kernel
theorem dL_law_362 : decode cL_law 362 = .ok (.iaload, 1) := by decide +kernel
theorem dL_law_363 : decode cL_law 363 = .ok (.aload_n 0, 1) := by decide +kernel
theorem dL_law_364 : decode cL_law 364 = .ok (.iload_n 3, 1) := by decide +kernel
theorem dL_law_365 : decode cL_law 365 = .ok (.iconst 2, 1) := by decide +kernel
theorem dL_law_366 : decode cL_law 366 = .ok (.iadd, 1) := by decide +kernel
theorem dL_law_367 : decode cL_law 367 = .ok (.iaload, 1) := by decide +kernel
theorem dL_law_368 : decode cL_law 368 = .ok (.invokevirtual 30, 3) := by decide +kernel
theorem dL_law_371 : decode cL_law 371 = .ok (.if_icmp .eq 1175, 3) := by decide +kernel
theorem dL_law_374 : decode cL_law 374 = .ok (.iconst 0, 1) := by decide +kernel
theorem dL_law_375 : decode cL_law 375 = .ok (.ireturn, 1) := by decide +kernel
theorem dL_law_376 : decode cL_law 376 = .ok (.aload_n 1, 1) := by decide +kernel
theorem dL_law_377 : decode cL_law 377 = .ok (.aload_n 0, 1) := by decide +kernel
theorem dL_law_378 : decode cL_law 378 = .ok (.iload_n 3, 1) := by decide +kernel
theorem dL_law_379 : decode cL_law 379 = .ok (.iconst 1, 1) := by decide +kernel
theorem dL_law_380 : decode cL_law 380 = .ok (.iadd, 1) := by decide +kernel
theorem dL_law_381 : decode cL_law 381 = .ok (.iaload, 1) := by decide +kernel
theorem dL_law_382 : decode cL_law 382 = .ok (.aload_n 0, 1) := by decide +kernel
theorem dL_law_383 : decode cL_law 383 = .ok (.iload_n 3, 1) := by decide +kernel
theorem dL_law_384 : decode cL_law 384 = .ok (.iconst 2, 1) := by decide +kernel
theorem dL_law_385 : decode cL_law 385 = .ok (.iadd, 1) := by decide +kernel
theorem dL_law_386 : decode cL_law 386 = .ok (.iaload, 1) := by decide +kernel
theorem dL_law_387 : decode cL_law 387 = .ok (.aload_n 0, 1) := by decide +kernel
theorem dL_law_388 : decode cL_law 388 = .ok (.iload_n 3, 1) := by decide +kernel
theorem dL_law_389 : decode cL_law 389 = .ok (.iconst 3, 1) := by decide +kernel
theorem dL_law_390 : decode cL_law 390 = .ok (.iadd, 1) := by decide +kernel
theorem dL_law_391 : decode cL_law 391 = .ok (.iaload, 1) := by decide +kernel
theorem dL_law_392 : decode cL_law 392 = .ok (.invokevirtual 31, 3) := by decide +kernel
theorem dL_law_395 : decode cL_law 395 = .ok (.aload_n 2, 1) := by decide +kernel
theorem dL_law_396 : decode cL_law 396 = .ok (.aload_n 0, 1) := by decide +kernel
theorem dL_law_397 : decode cL_law 397 = .ok (.iload_n 3, 1) := by decide +kernel
theorem dL_law_398 : decode cL_law 398 = .ok (.iconst 1, 1) := by decide +kernel
theorem dL_law_399 : decode cL_law 399 = .ok (.iadd, 1) := by decide +kernel
theorem dL_law_400 : decode cL_law 400 = .ok (.iaload, 1) := by decide +kernel
theorem dL_law_401 : decode cL_law 401 = .ok (.aload_n 0, 1) := by decide +kernel
theorem dL_law_402 : decode cL_law 402 = .ok (.iload_n 3, 1) := by decide +kernel
theorem dL_law_403 : decode cL_law 403 = .ok (.iconst 2, 1) := by decide +kernel
theorem dL_law_404 : decode cL_law 404 = .ok (.iadd, 1) := by decide +kernel
theorem dL_law_405 : decode cL_law 405 = .ok (.iaload, 1) := by decide +kernel
theorem dL_law_406 : decode cL_law 406 = .ok (.aload_n 0, 1) := by decide +kernel
theorem dL_law_407 : decode cL_law 407 = .ok (.iload_n 3, 1) := by decide +kernel
theorem dL_law_408 : decode cL_law 408 = .ok (.iconst 3, 1) := by decide +kernel
theorem dL_law_409 : decode cL_law 409 = .ok (.iadd, 1) := by decide +kernel
theorem dL_law_410 : decode cL_law 410 = .ok (.iaload, 1) := by decide +kernel
theorem dL_law_411 : decode cL_law 411 = .ok (.invokevirtual 35, 3) := by decide +kernel
theorem dL_law_414 : decode cL_law 414 = .ok (.if_icmp .eq 1132, 3) := by decide +kernel
theorem dL_law_417 : decode cL_law 417 = .ok (.iconst 0, 1) := by decide +kernel
theorem dL_law_418 : decode cL_law 418 = .ok (.ireturn, 1) := by decide +kernel
theorem dL_law_419 : decode cL_law 419 = .ok (.aload_n 1, 1) := by decide +kernel
theorem dL_law_420 : decode cL_law 420 = .ok (.aload_n 0, 1) := by decide +kernel
theorem dL_law_421 : decode cL_law 421 = .ok (.iload_n 3, 1) := by decide +kernel
theorem dL_law_422 : decode cL_law 422 = .ok (.iconst 1, 1) := by decide +kernel
theorem dL_law_423 : decode cL_law 423 = .ok (.iadd, 1) := by decide +kernel
theorem dL_law_424 : decode cL_law 424 = .ok (.iaload, 1) := by decide +kernel
theorem dL_law_425 : decode cL_law 425 = .ok (.aload_n 0, 1) := by decide +kernel
theorem dL_law_426 : decode cL_law 426 = .ok (.iload_n 3, 1) := by decide +kernel
theorem dL_law_427 : decode cL_law 427 = .ok (.iconst 2, 1) := by decide +kernel
theorem dL_law_428 : decode cL_law 428 = .ok (.iadd, 1) := by decide +kernel
theorem dL_law_429 : decode cL_law 429 = .ok (.iaload, 1) := by decide +kernel
theorem dL_law_430 : decode cL_law 430 = .ok (.aload_n 0, 1) := by decide +kernel
theorem dL_law_431 : decode cL_law 431 = .ok (.iload_n 3, 1) := by decide +kernel
theorem dL_law_432 : decode cL_law 432 = .ok (.iconst 3, 1) := by decide +kernel
theorem dL_law_433 : decode cL_law 433 = .ok (.iadd, 1) := by decide +kernel
theorem dL_law_434 : decode cL_law 434 = .ok (.iaload, 1) := by decide +kernel
theorem dL_law_435 : decode cL_law 435 = .ok (.invokevirtual 36, 3) := by decide +kernel
theorem dL_law_438 : decode cL_law 438 = .ok (.aload_n 2, 1) := by decide +kernel
theorem dL_law_439 : decode cL_law 439 = .ok (.aload_n 0, 1) := by decide +kernel
theorem dL_law_440 : decode cL_law 440 = .ok (.iload_n 3, 1) := by decide +kernel
theorem dL_law_441 : decode cL_law 441 = .ok (.iconst 1, 1) := by decide +kernel
theorem dL_law_442 : decode cL_law 442 = .ok (.iadd, 1) := by decide +kernel
theorem dL_law_443 : decode cL_law 443 = .ok (.iaload, 1) := by decide +kernel
theorem dL_law_444 : decode cL_law 444 = .ok (.aload_n 0, 1) := by decide +kernel
theorem dL_law_445 : decode cL_law 445 = .ok (.iload_n 3, 1) := by decide +kernel
theorem dL_law_446 : decode cL_law 446 = .ok (.iconst 2, 1) := by decide +kernel
theorem dL_law_447 : decode cL_law 447 = .ok (.iadd, 1) := by decide +kernel
theorem dL_law_448 : decode cL_law 448 = .ok (.iaload, 1) := by decide +kernel
theorem dL_law_449 : decode cL_law 449 = .ok (.aload_n 0, 1) := by decide +kernel
theorem dL_law_450 : decode cL_law 450 = .ok (.iload_n 3, 1) := by decide +kernel
theorem dL_law_451 : decode cL_law 451 = .ok (.iconst 3, 1) := by decide +kernel
theorem dL_law_452 : decode cL_law 452 = .ok (.iadd, 1) := by decide +kernel
theorem dL_law_453 : decode cL_law 453 = .ok (.iaload, 1) := by decide +kernel
theorem dL_law_454 : decode cL_law 454 = .ok (.invokevirtual 39, 3) := by decide +kernel
theorem dL_law_457 : decode cL_law 457 = .ok (.if_icmp .eq 1089, 3) := by decide +kernel
theorem dL_law_460 : decode cL_law 460 = .ok (.iconst 0, 1) := by decide +kernel
theorem dL_law_461 : decode cL_law 461 = .ok (.ireturn, 1) := by decide +kernel
theorem dL_law_462 : decode cL_law 462 = .ok (.aload_n 1, 1) := by decide +kernel
theorem dL_law_463 : decode cL_law 463 = .ok (.aload_n 0, 1) := by decide +kernel
theorem dL_law_464 : decode cL_law 464 = .ok (.iload_n 3, 1) := by decide +kernel
theorem dL_law_465 : decode cL_law 465 = .ok (.iconst 1, 1) := by decide +kernel
theorem dL_law_466 : decode cL_law 466 = .ok (.iadd, 1) := by decide +kernel
theorem dL_law_467 : decode cL_law 467 = .ok (.iaload, 1) := by decide +kernel
theorem dL_law_468 : decode cL_law 468 = .ok (.invokevirtual 40, 3) := by decide +kernel
theorem dL_law_471 : decode cL_law 471 = .ok (.aload_n 2, 1) := by decide +kernel
theorem dL_law_472 : decode cL_law 472 = .ok (.aload_n 0, 1) := by decide +kernel
theorem dL_law_473 : decode cL_law 473 = .ok (.iload_n 3, 1) := by decide +kernel
theorem dL_law_474 : decode cL_law 474 = .ok (.iconst 1, 1) := by decide +kernel
theorem dL_law_475 : decode cL_law 475 = .ok (.iadd, 1) := by decide +kernel
theorem dL_law_476 : decode cL_law 476 = .ok (.iaload, 1) := by decide +kernel
theorem dL_law_477 : decode cL_law 477 = .ok (.invokevirtual 44, 3) := by decide +kernel
theorem dL_law_480 : decode cL_law 480 = .ok (.if_icmp .eq 1066, 3) := by decide +kernel
theorem dL_law_483 : decode cL_law 483 = .ok (.iconst 0, 1) := by decide +kernel
theorem dL_law_484 : decode cL_law 484 = .ok (.ireturn, 1) := by decide +kernel
theorem dL_law_485 : decode cL_law 485 = .ok (.aload_n 1, 1) := by decide +kernel
theorem dL_law_486 : decode cL_law 486 = .ok (.aload_n 0, 1) := by decide +kernel
theorem dL_law_487 : decode cL_law 487 = .ok (.iload_n 3, 1) := by decide +kernel
theorem dL_law_488 : decode cL_law 488 = .ok (.iconst 1, 1) := by decide +kernel
theorem dL_law_489 : decode cL_law 489 = .ok (.iadd, 1) := by decide +kernel
theorem dL_law_490 : decode cL_law 490 = .ok (.iaload, 1) := by decide +kernel
theorem dL_law_491 : decode cL_law 491 = .ok (.invokevirtual 45, 3) := by decide +kernel
theorem dL_law_494 : decode cL_law 494 = .ok (.aload_n 2, 1) := by decide +kernel
theorem dL_law_495 : decode cL_law 495 = .ok (.aload_n 0, 1) := by decide +kernel
theorem dL_law_496 : decode cL_law 496 = .ok (.iload_n 3, 1) := by decide +kernel
theorem dL_law_497 : decode cL_law 497 = .ok (.iconst 1, 1) := by decide +kernel
theorem dL_law_498 : decode cL_law 498 = .ok (.iadd, 1) := by decide +kernel
theorem dL_law_499 : decode cL_law 499 = .ok (.iaload, 1) := by decide +kernel
theorem dL_law_500 : decode cL_law 500 = .ok (.invokevirtual 48, 3) := by decide +kernel
theorem dL_law_503 : decode cL_law 503 = .ok (.if_icmp .eq 1043, 3) := by decide +kernel
theorem dL_law_506 : decode cL_law 506 = .ok (.iconst 0, 1) := by decide +kernel
theorem dL_law_507 : decode cL_law 507 = .ok (.ireturn, 1) := by decide +kernel
theorem dL_law_508 : decode cL_law 508 = .ok (.aload_n 1, 1) := by decide +kernel
theorem dL_law_509 : decode cL_law 509 = .ok (.aload_n 0, 1) := by decide +kernel
theorem dL_law_510 : decode cL_law 510 = .ok (.iload_n 3, 1) := by decide +kernel
theorem dL_law_511 : decode cL_law 511 = .ok (.iconst 1, 1) := by decide +kernel
theorem dL_law_512 : decode cL_law 512 = .ok (.iadd, 1) := by decide +kernel
theorem dL_law_513 : decode cL_law 513 = .ok (.iaload, 1) := by decide +kernel
theorem dL_law_514 : decode cL_law 514 = .ok (.invokevirtual 49, 3) := by decide +kernel
theorem dL_law_517 : decode cL_law 517 = .ok (.aload_n 2, 1) := by decide +kernel
theorem dL_law_518 : decode cL_law 518 = .ok (.aload_n 0, 1) := by decide +kernel
theorem dL_law_519 : decode cL_law 519 = .ok (.iload_n 3, 1) := by decide +kernel
theorem dL_law_520 : decode cL_law 520 = .ok (.iconst 1, 1) := by decide +kernel
theorem dL_law_521 : decode cL_law 521 = .ok (.iadd, 1) := by decide +kernel
theorem dL_law_522 : decode cL_law 522 = .ok (.iaload, 1) := by decide +kernel
theorem dL_law_523 : decode cL_law 523 = .ok (.invokevirtual 52, 3) := by decide +kernel
theorem dL_law_526 : decode cL_law 526 = .ok (.if_icmp .eq 1020, 3) := by decide +kernel
theorem dL_law_529 : decode cL_law 529 = .ok (.iconst 0, 1) := by decide +kernel
theorem dL_law_530 : decode cL_law 530 = .ok (.ireturn, 1) := by decide +kernel
theorem dL_law_531 : decode cL_law 531 = .ok (.aload_n 1, 1) := by decide +kernel
theorem dL_law_532 : decode cL_law 532 = .ok (.aload_n 0, 1) := by decide +kernel
theorem dL_law_533 : decode cL_law 533 = .ok (.iload_n 3, 1) := by decide +kernel
theorem dL_law_534 : decode cL_law 534 = .ok (.iconst 1, 1) := by decide +kernel
theorem dL_law_535 : decode cL_law 535 = .ok (.iadd, 1) := by decide +kernel
theorem dL_law_536 : decode cL_law 536 = .ok (.iaload, 1) := by decide +kernel
theorem dL_law_537 : decode cL_law 537 = .ok (.invokevirtual 53, 3) := by decide +kernel
theorem dL_law_540 : decode cL_law 540 = .ok (.aload_n 2, 1) := by decide +kernel
theorem dL_law_541 : decode cL_law 541 = .ok (.aload_n 0, 1) := by decide +kernel
theorem dL_law_542 : decode cL_law 542 = .ok (.iload_n 3, 1) := by decide +kernel
theorem dL_law_543 : decode cL_law 543 = .ok (.iconst 1, 1) := by decide +kernel
theorem dL_law_544 : decode cL_law 544 = .ok (.iadd, 1) := by decide +kernel
theorem dL_law_545 : decode cL_law 545 = .ok (.iaload, 1) := by decide +kernel
theorem dL_law_546 : decode cL_law 546 = .ok (.invokevirtual 56, 3) := by decide +kernel
theorem dL_law_549 : decode cL_law 549 = .ok (.if_icmp .eq 997, 3) := by decide +kernel
theorem dL_law_552 : decode cL_law 552 = .ok (.iconst 0, 1) := by decide +kernel
theorem dL_law_553 : decode cL_law 553 = .ok (.ireturn, 1) := by decide +kernel
theorem dL_law_554 : decode cL_law 554 = .ok (.aload_n 1, 1) := by decide +kernel
theorem dL_law_555 : decode cL_law 555 = .ok (.aload_n 0, 1) := by decide +kernel
theorem dL_law_556 : decode cL_law 556 = .ok (.iload_n 3, 1) := by decide +kernel
theorem dL_law_557 : decode cL_law 557 = .ok (.iconst 1, 1) := by decide +kernel
theorem dL_law_558 : decode cL_law 558 = .ok (.iadd, 1) := by decide +kernel
theorem dL_law_559 : decode cL_law 559 = .ok (.iaload, 1) := by decide +kernel
theorem dL_law_560 : decode cL_law 560 = .ok (.aload_n 0, 1) := by decide +kernel
theorem dL_law_561 : decode cL_law 561 = .ok (.iload_n 3, 1) := by decide +kernel
theorem dL_law_562 : decode cL_law 562 = .ok (.iconst 2, 1) := by decide +kernel
theorem dL_law_563 : decode cL_law 563 = .ok (.iadd, 1) := by decide +kernel
theorem dL_law_564 : decode cL_law 564 = .ok (.iaload, 1) := by decide +kernel
theorem dL_law_565 : decode cL_law 565 = .ok (.invokevirtual 57, 3) := by decide +kernel
theorem dL_law_568 : decode cL_law 568 = .ok (.aload_n 2, 1) := by decide +kernel
theorem dL_law_569 : decode cL_law 569 = .ok (.aload_n 0, 1) := by decide +kernel
theorem dL_law_570 : decode cL_law 570 = .ok (.iload_n 3, 1) := by decide +kernel
theorem dL_law_571 : decode cL_law 571 = .ok (.iconst 1, 1) := by decide +kernel
theorem dL_law_572 : decode cL_law 572 = .ok (.iadd, 1) := by decide +kernel
theorem dL_law_573 : decode cL_law 573 = .ok (.iaload, 1) := by decide +kernel
theorem dL_law_574 : decode cL_law 574 = .ok (.aload_n 0, 1) := by decide +kernel
theorem dL_law_575 : decode cL_law 575 = .ok (.iload_n 3, 1) := by decide +kernel
theorem dL_law_576 : decode cL_law 576 = .ok (.iconst 2, 1) := by decide +kernel
theorem dL_law_577 : decode cL_law 577 = .ok (.iadd, 1) := by decide +kernel
theorem dL_law_578 : decode cL_law 578 = .ok (.iaload, 1) := by decide +kernel
theorem dL_law_579 : decode cL_law 579 = .ok (.invokevirtual 60, 3) := by decide +kernel
theorem dL_law_582 : decode cL_law 582 = .ok (.if_icmp .eq 964, 3) := by decide +kernel
theorem dL_law_585 : decode cL_law 585 = .ok (.iconst 0, 1) := by decide +kernel
theorem dL_law_586 : decode cL_law 586 = .ok (.ireturn, 1) := by decide +kernel
theorem dL_law_587 : decode cL_law 587 = .ok (.aload_n 1, 1) := by decide +kernel
theorem dL_law_588 : decode cL_law 588 = .ok (.aload_n 0, 1) := by decide +kernel
theorem dL_law_589 : decode cL_law 589 = .ok (.iload_n 3, 1) := by decide +kernel
theorem dL_law_590 : decode cL_law 590 = .ok (.iconst 1, 1) := by decide +kernel
theorem dL_law_591 : decode cL_law 591 = .ok (.iadd, 1) := by decide +kernel
theorem dL_law_592 : decode cL_law 592 = .ok (.iaload, 1) := by decide +kernel
theorem dL_law_593 : decode cL_law 593 = .ok (.invokevirtual 61, 3) := by decide +kernel
theorem dL_law_596 : decode cL_law 596 = .ok (.aload_n 2, 1) := by decide +kernel
theorem dL_law_597 : decode cL_law 597 = .ok (.aload_n 0, 1) := by decide +kernel
theorem dL_law_598 : decode cL_law 598 = .ok (.iload_n 3, 1) := by decide +kernel
theorem dL_law_599 : decode cL_law 599 = .ok (.iconst 1, 1) := by decide +kernel
theorem dL_law_600 : decode cL_law 600 = .ok (.iadd, 1) := by decide +kernel
theorem dL_law_601 : decode cL_law 601 = .ok (.iaload, 1) := by decide +kernel
theorem dL_law_602 : decode cL_law 602 = .ok (.invokevirtual 64, 3) := by decide +kernel
theorem dL_law_605 : decode cL_law 605 = .ok (.if_icmp .eq 941, 3) := by decide +kernel
theorem dL_law_608 : decode cL_law 608 = .ok (.iconst 0, 1) := by decide +kernel
theorem dL_law_609 : decode cL_law 609 = .ok (.ireturn, 1) := by decide +kernel
theorem dL_law_610 : decode cL_law 610 = .ok (.aload_n 1, 1) := by decide +kernel
theorem dL_law_611 : decode cL_law 611 = .ok (.aload_n 0, 1) := by decide +kernel
theorem dL_law_612 : decode cL_law 612 = .ok (.iload_n 3, 1) := by decide +kernel
theorem dL_law_613 : decode cL_law 613 = .ok (.iconst 1, 1) := by decide +kernel
theorem dL_law_614 : decode cL_law 614 = .ok (.iadd, 1) := by decide +kernel
theorem dL_law_615 : decode cL_law 615 = .ok (.iaload, 1) := by decide +kernel
theorem dL_law_616 : decode cL_law 616 = .ok (.invokevirtual 65, 3) := by decide +kernel
theorem dL_law_619 : decode cL_law 619 = .ok (.aload_n 2, 1) := by decide +kernel
theorem dL_law_620 : decode cL_law 620 = .ok (.aload_n 0, 1) := by decide +kernel
theorem dL_law_621 : decode cL_law 621 = .ok (.iload_n 3, 1) := by decide +kernel
theorem dL_law_622 : decode cL_law 622 = .ok (.iconst 1, 1) := by decide +kernel
theorem dL_law_623 : decode cL_law 623 = .ok (.iadd, 1) := by decide +kernel
theorem dL_law_624 : decode cL_law 624 = .ok (.iaload, 1) := by decide +kernel
theorem dL_law_625 : decode cL_law 625 = .ok (.invokevirtual 68, 3) := by decide +kernel
theorem dL_law_628 : decode cL_law 628 = .ok (.if_icmp .eq 918, 3) := by decide +kernel
theorem dL_law_631 : decode cL_law 631 = .ok (.iconst 0, 1) := by decide +kernel
theorem dL_law_632 : decode cL_law 632 = .ok (.ireturn, 1) := by decide +kernel
theorem dL_law_633 : decode cL_law 633 = .ok (.aload_n 1, 1) := by decide +kernel
theorem dL_law_634 : decode cL_law 634 = .ok (.aload_n 0, 1) := by decide +kernel
theorem dL_law_635 : decode cL_law 635 = .ok (.iload_n 3, 1) := by decide +kernel
theorem dL_law_636 : decode cL_law 636 = .ok (.iconst 1, 1) := by decide +kernel
theorem dL_law_637 : decode cL_law 637 = .ok (.iadd, 1) := by decide +kernel
theorem dL_law_638 : decode cL_law 638 = .ok (.iaload, 1) := by decide +kernel
theorem dL_law_639 : decode cL_law 639 = .ok (.invokevirtual 69, 3) := by decide +kernel
theorem dL_law_642 : decode cL_law 642 = .ok (.aload_n 2, 1) := by decide +kernel
theorem dL_law_643 : decode cL_law 643 = .ok (.aload_n 0, 1) := by decide +kernel
theorem dL_law_644 : decode cL_law 644 = .ok (.iload_n 3, 1) := by decide +kernel
theorem dL_law_645 : decode cL_law 645 = .ok (.iconst 1, 1) := by decide +kernel
theorem dL_law_646 : decode cL_law 646 = .ok (.iadd, 1) := by decide +kernel
theorem dL_law_647 : decode cL_law 647 = .ok (.iaload, 1) := by decide +kernel
theorem dL_law_648 : decode cL_law 648 = .ok (.invokevirtual 72, 3) := by decide +kernel
theorem dL_law_651 : decode cL_law 651 = .ok (.if_icmp .eq 895, 3) := by decide +kernel
theorem dL_law_654 : decode cL_law 654 = .ok (.iconst 0, 1) := by decide +kernel
theorem dL_law_655 : decode cL_law 655 = .ok (.ireturn, 1) := by decide +kernel
theorem dL_law_656 : decode cL_law 656 = .ok (.aload_n 1, 1) := by decide +kernel
theorem dL_law_657 : decode cL_law 657 = .ok (.aload_n 0, 1) := by decide +kernel
theorem dL_law_658 : decode cL_law 658 = .ok (.iload_n 3, 1) := by decide +kernel
theorem dL_law_659 : decode cL_law 659 = .ok (.iconst 1, 1) := by decide +kernel
theorem dL_law_660 : decode cL_law 660 = .ok (.iadd, 1) := by decide +kernel
theorem dL_law_661 : decode cL_law 661 = .ok (.iaload, 1) := by decide +kernel
theorem dL_law_662 : decode cL_law 662 = .ok (.invokevirtual 73, 3) := by decide +kernel
theorem dL_law_665 : decode cL_law 665 = .ok (.aload_n 2, 1) := by decide +kernel
theorem dL_law_666 : decode cL_law 666 = .ok (.aload_n 0, 1) := by decide +kernel
theorem dL_law_667 : decode cL_law 667 = .ok (.iload_n 3, 1) := by decide +kernel
theorem dL_law_668 : decode cL_law 668 = .ok (.iconst 1, 1) := by decide +kernel
theorem dL_law_669 : decode cL_law 669 = .ok (.iadd, 1) := by decide +kernel
theorem dL_law_670 : decode cL_law 670 = .ok (.iaload, 1) := by decide +kernel
theorem dL_law_671 : decode cL_law 671 = .ok (.invokevirtual 76, 3) := by decide +kernel
theorem dL_law_674 : decode cL_law 674 = .ok (.if_icmp .eq 872, 3) := by decide +kernel
theorem dL_law_677 : decode cL_law 677 = .ok (.iconst 0, 1) := by decide +kernel
theorem dL_law_678 : decode cL_law 678 = .ok (.ireturn, 1) := by decide +kernel
theorem dL_law_679 : decode cL_law 679 = .ok (.aload_n 1, 1) := by decide +kernel
theorem dL_law_680 : decode cL_law 680 = .ok (.aload_n 0, 1) := by decide +kernel
theorem dL_law_681 : decode cL_law 681 = .ok (.iload_n 3, 1) := by decide +kernel
theorem dL_law_682 : decode cL_law 682 = .ok (.iconst 1, 1) := by decide +kernel
theorem dL_law_683 : decode cL_law 683 = .ok (.iadd, 1) := by decide +kernel
theorem dL_law_684 : decode cL_law 684 = .ok (.iaload, 1) := by decide +kernel
theorem dL_law_685 : decode cL_law 685 = .ok (.aload_n 0, 1) := by decide +kernel
theorem dL_law_686 : decode cL_law 686 = .ok (.iload_n 3, 1) := by decide +kernel
theorem dL_law_687 : decode cL_law 687 = .ok (.iconst 2, 1) := by decide +kernel
theorem dL_law_688 : decode cL_law 688 = .ok (.iadd, 1) := by decide +kernel
theorem dL_law_689 : decode cL_law 689 = .ok (.iaload, 1) := by decide +kernel
theorem dL_law_690 : decode cL_law 690 = .ok (.invokevirtual 77, 3) := by decide +kernel
theorem dL_law_693 : decode cL_law 693 = .ok (.aload_n 2, 1) := by decide +kernel
theorem dL_law_694 : decode cL_law 694 = .ok (.aload_n 0, 1) := by decide +kernel
theorem dL_law_695 : decode cL_law 695 = .ok (.iload_n 3, 1) := by decide +kernel
theorem dL_law_696 : decode cL_law 696 = .ok (.iconst 1, 1) := by decide +kernel
theorem dL_law_697 : decode cL_law 697 = .ok (.iadd, 1) := by decide +kernel
theorem dL_law_698 : decode cL_law 698 = .ok (.iaload, 1) := by decide +kernel
theorem dL_law_699 : decode cL_law 699 = .ok (.aload_n 0, 1) := by decide +kernel
theorem dL_law_700 : decode cL_law 700 = .ok (.iload_n 3, 1) := by decide +kernel
theorem dL_law_701 : decode cL_law 701 = .ok (.iconst 2, 1) := by decide +kernel
theorem dL_law_702 : decode cL_law 702 = .ok (.iadd, 1) := by decide +kernel
theorem dL_law_703 : decode cL_law 703 = .ok (.iaload, 1) := by decide +kernel
theorem dL_law_704 : decode cL_law 704 = .ok (.invokevirtual 80, 3) := by decide +kernel
theorem dL_law_707 : decode cL_law 707 = .ok (.if_icmp .eq 839, 3) := by decide +kernel
theorem dL_law_710 : decode cL_law 710 = .ok (.iconst 0, 1) := by decide +kernel
theorem dL_law_711 : decode cL_law 711 = .ok (.ireturn, 1) := by decide +kernel
theorem dL_law_712 : decode cL_law 712 = .ok (.aload_n 1, 1) := by decide +kernel
theorem dL_law_713 : decode cL_law 713 = .ok (.invokevirtual 81, 3) := by decide +kernel
theorem dL_law_716 : decode cL_law 716 = .ok (.aload_n 2, 1) := by decide +kernel
theorem dL_law_717 : decode cL_law 717 = .ok (.invokevirtual 85, 3) := by decide +kernel
theorem dL_law_720 : decode cL_law 720 = .ok (.if_icmp .eq 826, 3) := by decide +kernel
theorem dL_law_723 : decode cL_law 723 = .ok (.iconst 0, 1) := by decide +kernel
theorem dL_law_724 : decode cL_law 724 = .ok (.ireturn, 1) := by decide +kernel
theorem dL_law_725 : decode cL_law 725 = .ok (.aload_n 1, 1) := by decide +kernel
theorem dL_law_726 : decode cL_law 726 = .ok (.aload_n 0, 1) := by decide +kernel
theorem dL_law_727 : decode cL_law 727 = .ok (.iload_n 3, 1) := by decide +kernel
theorem dL_law_728 : decode cL_law 728 = .ok (.iconst 1, 1) := by decide +kernel
theorem dL_law_729 : decode cL_law 729 = .ok (.iadd, 1) := by decide +kernel
theorem dL_law_730 : decode cL_law 730 = .ok (.iaload, 1) := by decide +kernel
theorem dL_law_731 : decode cL_law 731 = .ok (.aload_n 0, 1) := by decide +kernel
theorem dL_law_732 : decode cL_law 732 = .ok (.iload_n 3, 1) := by decide +kernel
theorem dL_law_733 : decode cL_law 733 = .ok (.iconst 2, 1) := by decide +kernel
theorem dL_law_734 : decode cL_law 734 = .ok (.iadd, 1) := by decide +kernel
theorem dL_law_735 : decode cL_law 735 = .ok (.iaload, 1) := by decide +kernel
theorem dL_law_736 : decode cL_law 736 = .ok (.invokevirtual 86, 3) := by decide +kernel
theorem dL_law_739 : decode cL_law 739 = .ok (.aload_n 2, 1) := by decide +kernel
theorem dL_law_740 : decode cL_law 740 = .ok (.aload_n 0, 1) := by decide +kernel
theorem dL_law_741 : decode cL_law 741 = .ok (.iload_n 3, 1) := by decide +kernel
theorem dL_law_742 : decode cL_law 742 = .ok (.iconst 1, 1) := by decide +kernel
theorem dL_law_743 : decode cL_law 743 = .ok (.iadd, 1) := by decide +kernel
theorem dL_law_744 : decode cL_law 744 = .ok (.iaload, 1) := by decide +kernel
theorem dL_law_745 : decode cL_law 745 = .ok (.aload_n 0, 1) := by decide +kernel
theorem dL_law_746 : decode cL_law 746 = .ok (.iload_n 3, 1) := by decide +kernel
theorem dL_law_747 : decode cL_law 747 = .ok (.iconst 2, 1) := by decide +kernel
theorem dL_law_748 : decode cL_law 748 = .ok (.iadd, 1) := by decide +kernel
theorem dL_law_749 : decode cL_law 749 = .ok (.iaload, 1) := by decide +kernel
theorem dL_law_750 : decode cL_law 750 = .ok (.invokevirtual 89, 3) := by decide +kernel
theorem dL_law_753 : decode cL_law 753 = .ok (.if_icmp .eq 793, 3) := by decide +kernel
theorem dL_law_756 : decode cL_law 756 = .ok (.iconst 0, 1) := by decide +kernel
theorem dL_law_757 : decode cL_law 757 = .ok (.ireturn, 1) := by decide +kernel
theorem dL_law_758 : decode cL_law 758 = .ok (.aload_n 1, 1) := by decide +kernel
theorem dL_law_759 : decode cL_law 759 = .ok (.aload_n 0, 1) := by decide +kernel
theorem dL_law_760 : decode cL_law 760 = .ok (.iload_n 3, 1) := by decide +kernel
theorem dL_law_761 : decode cL_law 761 = .ok (.iconst 1, 1) := by decide +kernel
theorem dL_law_762 : decode cL_law 762 = .ok (.iadd, 1) := by decide +kernel
theorem dL_law_763 : decode cL_law 763 = .ok (.iaload, 1) := by decide +kernel
theorem dL_law_764 : decode cL_law 764 = .ok (.aload_n 0, 1) := by decide +kernel
theorem dL_law_765 : decode cL_law 765 = .ok (.iload_n 3, 1) := by decide +kernel
theorem dL_law_766 : decode cL_law 766 = .ok (.iconst 2, 1) := by decide +kernel
theorem dL_law_767 : decode cL_law 767 = .ok (.iadd, 1) := by decide +kernel
theorem dL_law_768 : decode cL_law 768 = .ok (.iaload, 1) := by decide +kernel
theorem dL_law_769 : decode cL_law 769 = .ok (.invokevirtual 90, 3) := by decide +kernel
theorem dL_law_772 : decode cL_law 772 = .ok (.aload_n 2, 1) := by decide +kernel
theorem dL_law_773 : decode cL_law 773 = .ok (.aload_n 0, 1) := by decide +kernel
theorem dL_law_774 : decode cL_law 774 = .ok (.iload_n 3, 1) := by decide +kernel
theorem dL_law_775 : decode cL_law 775 = .ok (.iconst 1, 1) := by decide +kernel
theorem dL_law_776 : decode cL_law 776 = .ok (.iadd, 1) := by decide +kernel
theorem dL_law_777 : decode cL_law 777 = .ok (.iaload, 1) := by decide +kernel
theorem dL_law_778 : decode cL_law 778 = .ok (.aload_n 0, 1) := by decide +kernel
theorem dL_law_779 : decode cL_law 779 = .ok (.iload_n 3, 1) := by decide +kernel
theorem dL_law_780 : decode cL_law 780 = .ok (.iconst 2, 1) := by decide +kernel
theorem dL_law_781 : decode cL_law 781 = .ok (.iadd, 1) := by decide +kernel
theorem dL_law_782 : decode cL_law 782 = .ok (.iaload, 1) := by decide +kernel
theorem dL_law_783 : decode cL_law 783 = .ok (.invokevirtual 93, 3) := by decide +kernel
theorem dL_law_786 : decode cL_law 786 = .ok (.if_icmp .eq 760, 3) := by decide +kernel
theorem dL_law_789 : decode cL_law 789 = .ok (.iconst 0, 1) := by decide +kernel
theorem dL_law_790 : decode cL_law 790 = .ok (.ireturn, 1) := by decide +kernel
theorem dL_law_791 : decode cL_law 791 = .ok (.aload_n 1, 1) := by decide +kernel
theorem dL_law_792 : decode cL_law 792 = .ok (.aload_n 0, 1) := by decide +kernel
theorem dL_law_793 : decode cL_law 793 = .ok (.iload_n 3, 1) := by decide +kernel
theorem dL_law_794 : decode cL_law 794 = .ok (.iconst 1, 1) := by decide +kernel
theorem dL_law_795 : decode cL_law 795 = .ok (.iadd, 1) := by decide +kernel
theorem dL_law_796 : decode cL_law 796 = .ok (.iaload, 1) := by decide +kernel
theorem dL_law_797 : decode cL_law 797 = .ok (.aload_n 0, 1) := by decide +kernel
theorem dL_law_798 : decode cL_law 798 = .ok (.iload_n 3, 1) := by decide +kernel
theorem dL_law_799 : decode cL_law 799 = .ok (.iconst 2, 1) := by decide +kernel
theorem dL_law_800 : decode cL_law 800 = .ok (.iadd, 1) := by decide +kernel
theorem dL_law_801 : decode cL_law 801 = .ok (.iaload, 1) := by decide +kernel
theorem dL_law_802 : decode cL_law 802 = .ok (.invokevirtual 94, 3) := by decide +kernel
theorem dL_law_805 : decode cL_law 805 = .ok (.aload_n 2, 1) := by decide +kernel
theorem dL_law_806 : decode cL_law 806 = .ok (.aload_n 0, 1) := by decide +kernel
theorem dL_law_807 : decode cL_law 807 = .ok (.iload_n 3, 1) := by decide +kernel
theorem dL_law_808 : decode cL_law 808 = .ok (.iconst 1, 1) := by decide +kernel
theorem dL_law_809 : decode cL_law 809 = .ok (.iadd, 1) := by decide +kernel
theorem dL_law_810 : decode cL_law 810 = .ok (.iaload, 1) := by decide +kernel
theorem dL_law_811 : decode cL_law 811 = .ok (.aload_n 0, 1) := by decide +kernel
theorem dL_law_812 : decode cL_law 812 = .ok (.iload_n 3, 1) := by decide +kernel
theorem dL_law_813 : decode cL_law 813 = .ok (.iconst 2, 1) := by decide +kernel
theorem dL_law_814 : decode cL_law 814 = .ok (.iadd, 1) := by decide +kernel
theorem dL_law_815 : decode cL_law 815 = .ok (.iaload, 1) := by decide +kernel
theorem dL_law_816 : decode cL_law 816 = .ok (.invokevirtual 97, 3) := by decide +kernel
theorem dL_law_819 : decode cL_law 819 = .ok (.if_icmp .eq 727, 3) := by decide +kernel
theorem dL_law_822 : decode cL_law 822 = .ok (.iconst 0, 1) := by decide +kernel
theorem dL_law_823 : decode cL_law 823 = .ok (.ireturn, 1) := by decide +kernel
theorem dL_law_824 : decode cL_law 824 = .ok (.aload_n 1, 1) := by decide +kernel
theorem dL_law_825 : decode cL_law 825 = .ok (.aload_n 0, 1) := by decide +kernel
theorem dL_law_826 : decode cL_law 826 = .ok (.iload_n 3, 1) := by decide +kernel
theorem dL_law_827 : decode cL_law 827 = .ok (.iconst 1, 1) := by decide +kernel
theorem dL_law_828 : decode cL_law 828 = .ok (.iadd, 1) := by decide +kernel
theorem dL_law_829 : decode cL_law 829 = .ok (.iaload, 1) := by decide +kernel
theorem dL_law_830 : decode cL_law 830 = .ok (.aload_n 0, 1) := by decide +kernel
theorem dL_law_831 : decode cL_law 831 = .ok (.iload_n 3, 1) := by decide +kernel
theorem dL_law_832 : decode cL_law 832 = .ok (.iconst 2, 1) := by decide +kernel
theorem dL_law_833 : decode cL_law 833 = .ok (.iadd, 1) := by decide +kernel
theorem dL_law_834 : decode cL_law 834 = .ok (.iaload, 1) := by decide +kernel
theorem dL_law_835 : decode cL_law 835 = .ok (.aload_n 0, 1) := by decide +kernel
theorem dL_law_836 : decode cL_law 836 = .ok (.iload_n 3, 1) := by decide +kernel
theorem dL_law_837 : decode cL_law 837 = .ok (.iconst 3, 1) := by decide +kernel
theorem dL_law_838 : decode cL_law 838 = .ok (.iadd, 1) := by decide +kernel
theorem dL_law_839 : decode cL_law 839 = .ok (.iaload, 1) := by decide +kernel
theorem dL_law_840 : decode cL_law 840 = .ok (.invokevirtual 98, 3) := by decide +kernel
theorem dL_law_843 : decode cL_law 843 = .ok (.aload_n 2, 1) := by decide +kernel
theorem dL_law_844 : decode cL_law 844 = .ok (.aload_n 0, 1) := by decide +kernel
theorem dL_law_845 : decode cL_law 845 = .ok (.iload_n 3, 1) := by decide +kernel
theorem dL_law_846 : decode cL_law 846 = .ok (.iconst 1, 1) := by decide +kernel
theorem dL_law_847 : decode cL_law 847 = .ok (.iadd, 1) := by decide +kernel
theorem dL_law_848 : decode cL_law 848 = .ok (.iaload, 1) := by decide +kernel
theorem dL_law_849 : decode cL_law 849 = .ok (.aload_n 0, 1) := by decide +kernel
theorem dL_law_850 : decode cL_law 850 = .ok (.iload_n 3, 1) := by decide +kernel
theorem dL_law_851 : decode cL_law 851 = .ok (.iconst 2, 1) := by decide +kernel
theorem dL_law_852 : decode cL_law 852 = .ok (.iadd, 1) := by decide +kernel
theorem dL_law_853 : decode cL_law 853 = .ok (.iaload, 1) := by decide +kernel
theorem dL_law_854 : decode cL_law 854 = .ok (.aload_n 0, 1) := by decide +kernel
theorem dL_law_855 : decode cL_law 855 = .ok (.iload_n 3, 1) := by decide +kernel
theorem dL_law_856 : decode cL_law 856 = .ok (.iconst 3, 1) := by decide +kernel
theorem dL_law_857 : decode cL_law 857 = .ok (.iadd, 1) := by decide +kernel
theorem dL_law_858 : decode cL_law 858 = .ok (.iaload, 1) := by decide +kernel
theorem dL_law_859 : decode cL_law 859 = .ok (.invokevirtual 101, 3) := by decide +kernel
theorem dL_law_862 : decode cL_law 862 = .ok (.if_icmp .eq 684, 3) := by decide +kernel
theorem dL_law_865 : decode cL_law 865 = .ok (.iconst 0, 1) := by decide +kernel
theorem dL_law_866 : decode cL_law 866 = .ok (.ireturn, 1) := by decide +kernel
theorem dL_law_867 : decode cL_law 867 = .ok (.aload_n 1, 1) := by decide +kernel
theorem dL_law_868 : decode cL_law 868 = .ok (.aload_n 0, 1) := by decide +kernel
theorem dL_law_869 : decode cL_law 869 = .ok (.iload_n 3, 1) := by decide +kernel
theorem dL_law_870 : decode cL_law 870 = .ok (.iconst 1, 1) := by decide +kernel
theorem dL_law_871 : decode cL_law 871 = .ok (.iadd, 1) := by decide +kernel
theorem dL_law_872 : decode cL_law 872 = .ok (.iaload, 1) := by decide +kernel
theorem dL_law_873 : decode cL_law 873 = .ok (.aload_n 0, 1) := by decide +kernel
theorem dL_law_874 : decode cL_law 874 = .ok (.iload_n 3, 1) := by decide +kernel
theorem dL_law_875 : decode cL_law 875 = .ok (.iconst 2, 1) := by decide +kernel
theorem dL_law_876 : decode cL_law 876 = .ok (.iadd, 1) := by decide +kernel
theorem dL_law_877 : decode cL_law 877 = .ok (.iaload, 1) := by decide +kernel
theorem dL_law_878 : decode cL_law 878 = .ok (.aload_n 0, 1) := by decide +kernel
theorem dL_law_879 : decode cL_law 879 = .ok (.iload_n 3, 1) := by decide +kernel
theorem dL_law_880 : decode cL_law 880 = .ok (.iconst 3, 1) := by decide +kernel
theorem dL_law_881 : decode cL_law 881 = .ok (.iadd, 1) := by decide +kernel
theorem dL_law_882 : decode cL_law 882 = .ok (.iaload, 1) := by decide +kernel
theorem dL_law_883 : decode cL_law 883 = .ok (.invokevirtual 102, 3) := by decide +kernel
theorem dL_law_886 : decode cL_law 886 = .ok (.aload_n 2, 1) := by decide +kernel
theorem dL_law_887 : decode cL_law 887 = .ok (.aload_n 0, 1) := by decide +kernel
theorem dL_law_888 : decode cL_law 888 = .ok (.iload_n 3, 1) := by decide +kernel
theorem dL_law_889 : decode cL_law 889 = .ok (.iconst 1, 1) := by decide +kernel
theorem dL_law_890 : decode cL_law 890 = .ok (.iadd, 1) := by decide +kernel
theorem dL_law_891 : decode cL_law 891 = .ok (.iaload, 1) := by decide +kernel
theorem dL_law_892 : decode cL_law 892 = .ok (.aload_n 0, 1) := by decide +kernel
theorem dL_law_893 : decode cL_law 893 = .ok (.iload_n 3, 1) := by decide +kernel
theorem dL_law_894 : decode cL_law 894 = .ok (.iconst 2, 1) := by decide +kernel
theorem dL_law_895 : decode cL_law 895 = .ok (.iadd, 1) := by decide +kernel
theorem dL_law_896 : decode cL_law 896 = .ok (.iaload, 1) := by decide +kernel
theorem dL_law_897 : decode cL_law 897 = .ok (.aload_n 0, 1) := by decide +kernel
theorem dL_law_898 : decode cL_law 898 = .ok (.iload_n 3, 1) := by decide +kernel
theorem dL_law_899 : decode cL_law 899 = .ok (.iconst 3, 1) := by decide +kernel
theorem dL_law_900 : decode cL_law 900 = .ok (.iadd, 1) := by decide +kernel
theorem dL_law_901 : decode cL_law 901 = .ok (.iaload, 1) := by decide +kernel
theorem dL_law_902 : decode cL_law 902 = .ok (.invokevirtual 105, 3) := by decide +kernel
theorem dL_law_905 : decode cL_law 905 = .ok (.if_icmp .eq 641, 3) := by decide +kernel
theorem dL_law_908 : decode cL_law 908 = .ok (.iconst 0, 1) := by decide +kernel
theorem dL_law_909 : decode cL_law 909 = .ok (.ireturn, 1) := by decide +kernel
theorem dL_law_910 : decode cL_law 910 = .ok (.aload_n 1, 1) := by decide +kernel
theorem dL_law_911 : decode cL_law 911 = .ok (.aload_n 0, 1) := by decide +kernel
theorem dL_law_912 : decode cL_law 912 = .ok (.iload_n 3, 1) := by decide +kernel
theorem dL_law_913 : decode cL_law 913 = .ok (.iconst 1, 1) := by decide +kernel
theorem dL_law_914 : decode cL_law 914 = .ok (.iadd, 1) := by decide +kernel
theorem dL_law_915 : decode cL_law 915 = .ok (.iaload, 1) := by decide +kernel
theorem dL_law_916 : decode cL_law 916 = .ok (.aload_n 0, 1) := by decide +kernel
theorem dL_law_917 : decode cL_law 917 = .ok (.iload_n 3, 1) := by decide +kernel
theorem dL_law_918 : decode cL_law 918 = .ok (.iconst 2, 1) := by decide +kernel
theorem dL_law_919 : decode cL_law 919 = .ok (.iadd, 1) := by decide +kernel
theorem dL_law_920 : decode cL_law 920 = .ok (.iaload, 1) := by decide +kernel
theorem dL_law_921 : decode cL_law 921 = .ok (.invokevirtual 106, 3) := by decide +kernel
theorem dL_law_924 : decode cL_law 924 = .ok (.aload_n 2, 1) := by decide +kernel
theorem dL_law_925 : decode cL_law 925 = .ok (.aload_n 0, 1) := by decide +kernel
theorem dL_law_926 : decode cL_law 926 = .ok (.iload_n 3, 1) := by decide +kernel
theorem dL_law_927 : decode cL_law 927 = .ok (.iconst 1, 1) := by decide +kernel
theorem dL_law_928 : decode cL_law 928 = .ok (.iadd, 1) := by decide +kernel
theorem dL_law_929 : decode cL_law 929 = .ok (.iaload, 1) := by decide +kernel
theorem dL_law_930 : decode cL_law 930 = .ok (.aload_n 0, 1) := by decide +kernel
theorem dL_law_931 : decode cL_law 931 = .ok (.iload_n 3, 1) := by decide +kernel
theorem dL_law_932 : decode cL_law 932 = .ok (.iconst 2, 1) := by decide +kernel
theorem dL_law_933 : decode cL_law 933 = .ok (.iadd, 1) := by decide +kernel
theorem dL_law_934 : decode cL_law 934 = .ok (.iaload, 1) := by decide +kernel
theorem dL_law_935 : decode cL_law 935 = .ok (.invokevirtual 109, 3) := by decide +kernel
theorem dL_law_938 : decode cL_law 938 = .ok (.if_icmp .eq 608, 3) := by decide +kernel
theorem dL_law_941 : decode cL_law 941 = .ok (.iconst 0, 1) := by decide +kernel
theorem dL_law_942 : decode cL_law 942 = .ok (.ireturn, 1) := by decide +kernel
theorem dL_law_943 : decode cL_law 943 = .ok (.aload_n 1, 1) := by decide +kernel
theorem dL_law_944 : decode cL_law 944 = .ok (.invokevirtual 110, 3) := by decide +kernel
theorem dL_law_947 : decode cL_law 947 = .ok (.aload_n 2, 1) := by decide +kernel
theorem dL_law_948 : decode cL_law 948 = .ok (.invokevirtual 113, 3) := by decide +kernel
theorem dL_law_951 : decode cL_law 951 = .ok (.if_icmp .eq 595, 3) := by decide +kernel
theorem dL_law_954 : decode cL_law 954 = .ok (.iconst 0, 1) := by decide +kernel
theorem dL_law_955 : decode cL_law 955 = .ok (.ireturn, 1) := by decide +kernel
theorem dL_law_956 : decode cL_law 956 = .ok (.aload_n 1, 1) := by decide +kernel
theorem dL_law_957 : decode cL_law 957 = .ok (.aload_n 0, 1) := by decide +kernel
theorem dL_law_958 : decode cL_law 958 = .ok (.iload_n 3, 1) := by decide +kernel
theorem dL_law_959 : decode cL_law 959 = .ok (.iconst 1, 1) := by decide +kernel
theorem dL_law_960 : decode cL_law 960 = .ok (.iadd, 1) := by decide +kernel
theorem dL_law_961 : decode cL_law 961 = .ok (.iaload, 1) := by decide +kernel
theorem dL_law_962 : decode cL_law 962 = .ok (.invokevirtual 114, 3) := by decide +kernel
theorem dL_law_965 : decode cL_law 965 = .ok (.aload_n 2, 1) := by decide +kernel
theorem dL_law_966 : decode cL_law 966 = .ok (.aload_n 0, 1) := by decide +kernel
theorem dL_law_967 : decode cL_law 967 = .ok (.iload_n 3, 1) := by decide +kernel
theorem dL_law_968 : decode cL_law 968 = .ok (.iconst 1, 1) := by decide +kernel
theorem dL_law_969 : decode cL_law 969 = .ok (.iadd, 1) := by decide +kernel
theorem dL_law_970 : decode cL_law 970 = .ok (.iaload, 1) := by decide +kernel
theorem dL_law_971 : decode cL_law 971 = .ok (.invokevirtual 117, 3) := by decide +kernel
theorem dL_law_974 : decode cL_law 974 = .ok (.if_icmp .eq 572, 3) := by decide +kernel
theorem dL_law_977 : decode cL_law 977 = .ok (.iconst 0, 1) := by decide +kernel
theorem dL_law_978 : decode cL_law 978 = .ok (.ireturn, 1) := by decide +kernel
theorem dL_law_979 : decode cL_law 979 = .ok (.aload_n 1, 1) := by decide +kernel
theorem dL_law_980 : decode cL_law 980 = .ok (.aload_n 0, 1) := by decide +kernel
theorem dL_law_981 : decode cL_law 981 = .ok (.iload_n 3, 1) := by decide +kernel
theorem dL_law_982 : decode cL_law 982 = .ok (.iconst 1, 1) := by decide +kernel
theorem dL_law_983 : decode cL_law 983 = .ok (.iadd, 1) := by decide +kernel
theorem dL_law_984 : decode cL_law 984 = .ok (.iaload, 1) := by decide +kernel
theorem dL_law_985 : decode cL_law 985 = .ok (.aload_n 0, 1) := by decide +kernel
theorem dL_law_986 : decode cL_law 986 = .ok (.iload_n 3, 1) := by decide +kernel
theorem dL_law_987 : decode cL_law 987 = .ok (.iconst 2, 1) := by decide +kernel
theorem dL_law_988 : decode cL_law 988 = .ok (.iadd, 1) := by decide +kernel
theorem dL_law_989 : decode cL_law 989 = .ok (.iaload, 1) := by decide +kernel
theorem dL_law_990 : decode cL_law 990 = .ok (.aload_n 0, 1) := by decide +kernel
theorem dL_law_991 : decode cL_law 991 = .ok (.iload_n 3, 1) := by decide +kernel
theorem dL_law_992 : decode cL_law 992 = .ok (.iconst 3, 1) := by decide +kernel
theorem dL_law_993 : decode cL_law 993 = .ok (.iadd, 1) := by decide +kernel
theorem dL_law_994 : decode cL_law 994 = .ok (.iaload, 1) := by decide +kernel
theorem dL_law_995 : decode cL_law 995 = .ok (.invokevirtual 118, 3) := by decide +kernel
theorem dL_law_998 : decode cL_law 998 = .ok (.aload_n 2, 1) := by decide +kernel
theorem dL_law_999 : decode cL_law 999 = .ok (.aload_n 0, 1) := by decide +kernel
theorem dL_law_1000 : decode cL_law 1000 = .ok (.iload_n 3, 1) := by decide +kernel
theorem dL_law_1001 : decode cL_law 1001 = .ok (.iconst 1, 1) := by decide +kernel
theorem dL_law_1002 : decode cL_law 1002 = .ok (.iadd, 1) := by decide +kernel
theorem dL_law_1003 : decode cL_law 1003 = .ok (.iaload, 1) := by decide +kernel
theorem dL_law_1004 : decode cL_law 1004 = .ok (.aload_n 0, 1) := by decide +kernel
theorem dL_law_1005 : decode cL_law 1005 = .ok (.iload_n 3, 1) := by decide +kernel
theorem dL_law_1006 : decode cL_law 1006 = .ok (.iconst 2, 1) := by decide +kernel
theorem dL_law_1007 : decode cL_law 1007 = .ok (.iadd, 1) := by decide +kernel
theorem dL_law_1008 : decode cL_law 1008 = .ok (.iaload, 1) := by decide +kernel
theorem dL_law_1009 : decode cL_law 1009 = .ok (.aload_n 0, 1) := by decide +kernel
theorem dL_law_1010 : decode cL_law 1010 = .ok (.iload_n 3, 1) := by decide +kernel
theorem dL_law_1011 : decode cL_law 1011 = .ok (.iconst 3, 1) := by decide +kernel
theorem dL_law_1012 : decode cL_law 1012 = .ok (.iadd, 1) := by decide +kernel
theorem dL_law_1013 : decode cL_law 1013 = .ok (.iaload, 1) := by decide +kernel
theorem dL_law_1014 : decode cL_law 1014 = .ok (.invokevirtual 121, 3) := by decide +kernel
theorem dL_law_1017 : decode cL_law 1017 = .ok (.if_icmp .eq 529, 3) := by decide +kernel
theorem dL_law_1020 : decode cL_law 1020 = .ok (.iconst 0, 1) := by decide +kernel
theorem dL_law_1021 : decode cL_law 1021 = .ok (.ireturn, 1) := by decide +kernel
theorem dL_law_1022 : decode cL_law 1022 = .ok (.aload_n 1, 1) := by decide +kernel
theorem dL_law_1023 : decode cL_law 1023 = .ok (.aload_n 0, 1) := by decide +kernel
theorem dL_law_1024 : decode cL_law 1024 = .ok (.iload_n 3, 1) := by decide +kernel
theorem dL_law_1025 : decode cL_law 1025 = .ok (.iconst 1, 1) := by decide +kernel
theorem dL_law_1026 : decode cL_law 1026 = .ok (.iadd, 1) := by decide +kernel
theorem dL_law_1027 : decode cL_law 1027 = .ok (.iaload, 1) := by decide +kernel
theorem dL_law_1028 : decode cL_law 1028 = .ok (.invokevirtual 122, 3) := by decide +kernel
theorem dL_law_1031 : decode cL_law 1031 = .ok (.aload_n 2, 1) := by decide +kernel
theorem dL_law_1032 : decode cL_law 1032 = .ok (.aload_n 0, 1) := by decide +kernel
theorem dL_law_1033 : decode cL_law 1033 = .ok (.iload_n 3, 1) := by decide +kernel
theorem dL_law_1034 : decode cL_law 1034 = .ok (.iconst 1, 1) := by decide +kernel
theorem dL_law_1035 : decode cL_law 1035 = .ok (.iadd, 1) := by decide +kernel
theorem dL_law_1036 : decode cL_law 1036 = .ok (.iaload, 1) := by decide +kernel
theorem dL_law_1037 : decode cL_law 1037 = .ok (.invokevirtual 125, 3) := by decide +kernel
theorem dL_law_1040 : decode cL_law 1040 = .ok (.if_icmp .eq 506, 3) := by decide +kernel
theorem dL_law_1043 : decode cL_law 1043 = .ok (.iconst 0, 1) := by decide +kernel
theorem dL_law_1044 : decode cL_law 1044 = .ok (.ireturn, 1) := by decide +kernel
theorem dL_law_1045 : decode cL_law 1045 = .ok (.aload_n 1, 1) := by decide +kernel
theorem dL_law_1046 : decode cL_law 1046 = .ok (.invokevirtual 126, 3) := by decide +kernel
theorem dL_law_1049 : decode cL_law 1049 = .ok (.aload_n 2, 1) := by decide +kernel
theorem dL_law_1050 : decode cL_law 1050 = .ok (.invokevirtual 129, 3) := by decide +kernel
theorem dL_law_1053 : decode cL_law 1053 = .ok (.if_icmp .eq 493, 3) := by decide +kernel
theorem dL_law_1056 : decode cL_law 1056 = .ok (.iconst 0, 1) := by decide +kernel
theorem dL_law_1057 : decode cL_law 1057 = .ok (.ireturn, 1) := by decide +kernel
theorem dL_law_1058 : decode cL_law 1058 = .ok (.aload_n 1, 1) := by decide +kernel
theorem dL_law_1059 : decode cL_law 1059 = .ok (.aload_n 0, 1) := by decide +kernel
theorem dL_law_1060 : decode cL_law 1060 = .ok (.iload_n 3, 1) := by decide +kernel
theorem dL_law_1061 : decode cL_law 1061 = .ok (.iconst 1, 1) := by decide +kernel
theorem dL_law_1062 : decode cL_law 1062 = .ok (.iadd, 1) := by decide +kernel
theorem dL_law_1063 : decode cL_law 1063 = .ok (.iaload, 1) := by decide +kernel
theorem dL_law_1064 : decode cL_law 1064 = .ok (.aload_n 0, 1) := by decide +kernel
theorem dL_law_1065 : decode cL_law 1065 = .ok (.iload_n 3, 1) := by decide +kernel
theorem dL_law_1066 : decode cL_law 1066 = .ok (.iconst 2, 1) := by decide +kernel
theorem dL_law_1067 : decode cL_law 1067 = .ok (.iadd, 1) := by decide +kernel
theorem dL_law_1068 : decode cL_law 1068 = .ok (.iaload, 1) := by decide +kernel
theorem dL_law_1069 : decode cL_law 1069 = .ok (.invokevirtual 130, 3) := by decide +kernel
theorem dL_law_1072 : decode cL_law 1072 = .ok (.aload_n 2, 1) := by decide +kernel
theorem dL_law_1073 : decode cL_law 1073 = .ok (.aload_n 0, 1) := by decide +kernel
theorem dL_law_1074 : decode cL_law 1074 = .ok (.iload_n 3, 1) := by decide +kernel
theorem dL_law_1075 : decode cL_law 1075 = .ok (.iconst 1, 1) := by decide +kernel
theorem dL_law_1076 : decode cL_law 1076 = .ok (.iadd, 1) := by decide +kernel
theorem dL_law_1077 : decode cL_law 1077 = .ok (.iaload, 1) := by decide +kernel
theorem dL_law_1078 : decode cL_law 1078 = .ok (.aload_n 0, 1) := by decide +kernel
theorem dL_law_1079 : decode cL_law 1079 = .ok (.iload_n 3, 1) := by decide +kernel
theorem dL_law_1080 : decode cL_law 1080 = .ok (.iconst 2, 1) := by decide +kernel
theorem dL_law_1081 : decode cL_law 1081 = .ok (.iadd, 1) := by decide +kernel
theorem dL_law_1082 : decode cL_law 1082 = .ok (.iaload, 1) := by decide +kernel
theorem dL_law_1083 : decode cL_law 1083 = .ok (.invokevirtual 133, 3) := by decide +kernel
theorem dL_law_1086 : decode cL_law 1086 = .ok (.if_icmp .eq 460, 3) := by decide +kernel
theorem dL_law_1089 : decode cL_law 1089 = .ok (.iconst 0, 1) := by decide +kernel
theorem dL_law_1090 : decode cL_law 1090 = .ok (.ireturn, 1) := by decide +kernel
theorem dL_law_1091 : decode cL_law 1091 = .ok (.aload_n 1, 1) := by decide +kernel
theorem dL_law_1092 : decode cL_law 1092 = .ok (.aload_n 0, 1) := by decide +kernel
theorem dL_law_1093 : decode cL_law 1093 = .ok (.iload_n 3, 1) := by decide +kernel
theorem dL_law_1094 : decode cL_law 1094 = .ok (.iconst 1, 1) := by decide +kernel
theorem dL_law_1095 : decode cL_law 1095 = .ok (.iadd, 1) := by decide +kernel
theorem dL_law_1096 : decode cL_law 1096 = .ok (.iaload, 1) := by decide +kernel
theorem dL_law_1097 : decode cL_law 1097 = .ok (.invokevirtual 134, 3) := by decide +kernel
theorem dL_law_1100 : decode cL_law 1100 = .ok (.aload_n 2, 1) := by decide +kernel
theorem dL_law_1101 : decode cL_law 1101 = .ok (.aload_n 0, 1) := by decide +kernel
theorem dL_law_1102 : decode cL_law 1102 = .ok (.iload_n 3, 1) := by decide +kernel
theorem dL_law_1103 : decode cL_law 1103 = .ok (.iconst 1, 1) := by decide +kernel
theorem dL_law_1104 : decode cL_law 1104 = .ok (.iadd, 1) := by decide +kernel
theorem dL_law_1105 : decode cL_law 1105 = .ok (.iaload, 1) := by decide +kernel
theorem dL_law_1106 : decode cL_law 1106 = .ok (.invokevirtual 137, 3) := by decide +kernel
theorem dL_law_1109 : decode cL_law 1109 = .ok (.if_icmp .eq 437, 3) := by decide +kernel
theorem dL_law_1112 : decode cL_law 1112 = .ok (.iconst 0, 1) := by decide +kernel
theorem dL_law_1113 : decode cL_law 1113 = .ok (.ireturn, 1) := by decide +kernel
theorem dL_law_1114 : decode cL_law 1114 = .ok (.aload_n 1, 1) := by decide +kernel
theorem dL_law_1115 : decode cL_law 1115 = .ok (.aload_n 0, 1) := by decide +kernel
theorem dL_law_1116 : decode cL_law 1116 = .ok (.iload_n 3, 1) := by decide +kernel
theorem dL_law_1117 : decode cL_law 1117 = .ok (.iconst 1, 1) := by decide +kernel
theorem dL_law_1118 : decode cL_law 1118 = .ok (.iadd, 1) := by decide +kernel
theorem dL_law_1119 : decode cL_law 1119 = .ok (.iaload, 1) := by decide +kernel
theorem dL_law_1120 : decode cL_law 1120 = .ok (.aload_n 0, 1) := by decide +kernel
theorem dL_law_1121 : decode cL_law 1121 = .ok (.iload_n 3, 1) := by decide +kernel
theorem dL_law_1122 : decode cL_law 1122 = .ok (.iconst 2, 1) := by decide +kernel
theorem dL_law_1123 : decode cL_law 1123 = .ok (.iadd, 1) := by decide +kernel
theorem dL_law_1124 : decode cL_law 1124 = .ok (.iaload, 1) := by decide +kernel
theorem dL_law_1125 : decode cL_law 1125 = .ok (.aload_n 0, 1) := by decide +kernel
theorem dL_law_1126 : decode cL_law 1126 = .ok (.iload_n 3, 1) := by decide +kernel
theorem dL_law_1127 : decode cL_law 1127 = .ok (.iconst 3, 1) := by decide +kernel
theorem dL_law_1128 : decode cL_law 1128 = .ok (.iadd, 1) := by decide +kernel
theorem dL_law_1129 : decode cL_law 1129 = .ok (.iaload, 1) := by decide +kernel
theorem dL_law_1130 : decode cL_law 1130 = .ok (.invokevirtual 138, 3) := by decide +kernel
theorem dL_law_1133 : decode cL_law 1133 = .ok (.aload_n 2, 1) := by decide +kernel
theorem dL_law_1134 : decode cL_law 1134 = .ok (.aload_n 0, 1) := by decide +kernel
theorem dL_law_1135 : decode cL_law 1135 = .ok (.iload_n 3, 1) := by decide +kernel
theorem dL_law_1136 : decode cL_law 1136 = .ok (.iconst 1, 1) := by decide +kernel
theorem dL_law_1137 : decode cL_law 1137 = .ok (.iadd, 1) := by decide +kernel
theorem dL_law_1138 : decode cL_law 1138 = .ok (.iaload, 1) := by decide +kernel
theorem dL_law_1139 : decode cL_law 1139 = .ok (.aload_n 0, 1) := by decide +kernel
theorem dL_law_1140 : decode cL_law 1140 = .ok (.iload_n 3, 1) := by decide +kernel
theorem dL_law_1141 : decode cL_law 1141 = .ok (.iconst 2, 1) := by decide +kernel
theorem dL_law_1142 : decode cL_law 1142 = .ok (.iadd, 1) := by decide +kernel
theorem dL_law_1143 : decode cL_law 1143 = .ok (.iaload, 1) := by decide +kernel
theorem dL_law_1144 : decode cL_law 1144 = .ok (.aload_n 0, 1) := by decide +kernel
theorem dL_law_1145 : decode cL_law 1145 = .ok (.iload_n 3, 1) := by decide +kernel
theorem dL_law_1146 : decode cL_law 1146 = .ok (.iconst 3, 1) := by decide +kernel
theorem dL_law_1147 : decode cL_law 1147 = .ok (.iadd, 1) := by decide +kernel
theorem dL_law_1148 : decode cL_law 1148 = .ok (.iaload, 1) := by decide +kernel
theorem dL_law_1149 : decode cL_law 1149 = .ok (.invokevirtual 141, 3) := by decide +kernel
theorem dL_law_1152 : decode cL_law 1152 = .ok (.if_icmp .eq 394, 3) := by decide +kernel
theorem dL_law_1155 : decode cL_law 1155 = .ok (.iconst 0, 1) := by decide +kernel
theorem dL_law_1156 : decode cL_law 1156 = .ok (.ireturn, 1) := by decide +kernel
theorem dL_law_1157 : decode cL_law 1157 = .ok (.aload_n 1, 1) := by decide +kernel
theorem dL_law_1158 : decode cL_law 1158 = .ok (.aload_n 0, 1) := by decide +kernel
theorem dL_law_1159 : decode cL_law 1159 = .ok (.iload_n 3, 1) := by decide +kernel
theorem dL_law_1160 : decode cL_law 1160 = .ok (.iconst 1, 1) := by decide +kernel
theorem dL_law_1161 : decode cL_law 1161 = .ok (.iadd, 1) := by decide +kernel
theorem dL_law_1162 : decode cL_law 1162 = .ok (.iaload, 1) := by decide +kernel
theorem dL_law_1163 : decode cL_law 1163 = .ok (.aload_n 0, 1) := by decide +kernel
theorem dL_law_1164 : decode cL_law 1164 = .ok (.iload_n 3, 1) := by decide +kernel
theorem dL_law_1165 : decode cL_law 1165 = .ok (.iconst 2, 1) := by decide +kernel
theorem dL_law_1166 : decode cL_law 1166 = .ok (.iadd, 1) := by decide +kernel
theorem dL_law_1167 : decode cL_law 1167 = .ok (.iaload, 1) := by decide +kernel
theorem dL_law_1168 : decode cL_law 1168 = .ok (.aload_n 0, 1) := by decide +kernel
theorem dL_law_1169 : decode cL_law 1169 = .ok (.iload_n 3, 1) := by decide +kernel
theorem dL_law_1170 : decode cL_law 1170 = .ok (.iconst 3, 1) := by decide +kernel
theorem dL_law_1171 : decode cL_law 1171 = .ok (.iadd, 1) := by decide +kernel
theorem dL_law_1172 : decode cL_law 1172 = .ok (.iaload, 1) := by decide +kernel
theorem dL_law_1173 : decode cL_law 1173 = .ok (.invokevirtual 142, 3) := by decide +kernel
theorem dL_law_1176 : decode cL_law 1176 = .ok (.aload_n 2, 1) := by decide +kernel
theorem dL_law_1177 : decode cL_law 1177 = .ok (.aload_n 0, 1) := by decide +kernel
theorem dL_law_1178 : decode cL_law 1178 = .ok (.iload_n 3, 1) := by decide +kernel
theorem dL_law_1179 : decode cL_law 1179 = .ok (.iconst 1, 1) := by decide +kernel
theorem dL_law_1180 : decode cL_law 1180 = .ok (.iadd, 1) := by decide +kernel
theorem dL_law_1181 : decode cL_law 1181 = .ok (.iaload, 1) := by decide +kernel
theorem dL_law_1182 : decode cL_law 1182 = .ok (.aload_n 0, 1) := by decide +kernel
theorem dL_law_1183 : decode cL_law 1183 = .ok (.iload_n 3, 1) := by decide +kernel
theorem dL_law_1184 : decode cL_law 1184 = .ok (.iconst 2, 1) := by decide +kernel
theorem dL_law_1185 : decode cL_law 1185 = .ok (.iadd, 1) := by decide +kernel
theorem dL_law_1186 : decode cL_law 1186 = .ok (.iaload, 1) := by decide +kernel
theorem dL_law_1187 : decode cL_law 1187 = .ok (.aload_n 0, 1) := by decide +kernel
theorem dL_law_1188 : decode cL_law 1188 = .ok (.iload_n 3, 1) := by decide +kernel
theorem dL_law_1189 : decode cL_law 1189 = .ok (.iconst 3, 1) := by decide +kernel
theorem dL_law_1190 : decode cL_law 1190 = .ok (.iadd, 1) := by decide +kernel
theorem dL_law_1191 : decode cL_law 1191 = .ok (.iaload, 1) := by decide +kernel
theorem dL_law_1192 : decode cL_law 1192 = .ok (.invokevirtual 145, 3) := by decide +kernel
theorem dL_law_1195 : decode cL_law 1195 = .ok (.if_icmp .eq 351, 3) := by decide +kernel
theorem dL_law_1198 : decode cL_law 1198 = .ok (.iconst 0, 1) := by decide +kernel
theorem dL_law_1199 : decode cL_law 1199 = .ok (.ireturn, 1) := by decide +kernel
theorem dL_law_1200 : decode cL_law 1200 = .ok (.aload_n 1, 1) := by decide +kernel
theorem dL_law_1201 : decode cL_law 1201 = .ok (.aload_n 0, 1) := by decide +kernel
theorem dL_law_1202 : decode cL_law 1202 = .ok (.iload_n 3, 1) := by decide +kernel
theorem dL_law_1203 : decode cL_law 1203 = .ok (.iconst 1, 1) := by decide +kernel
theorem dL_law_1204 : decode cL_law 1204 = .ok (.iadd, 1) := by decide +kernel
theorem dL_law_1205 : decode cL_law 1205 = .ok (.iaload, 1) := by decide +kernel
theorem dL_law_1206 : decode cL_law 1206 = .ok (.invokevirtual 146, 3) := by decide +kernel
theorem dL_law_1209 : decode cL_law 1209 = .ok (.aload_n 2, 1) := by decide +kernel
theorem dL_law_1210 : decode cL_law 1210 = .ok (.aload_n 0, 1) := by decide +kernel
theorem dL_law_1211 : decode cL_law 1211 = .ok (.iload_n 3, 1) := by decide +kernel
theorem dL_law_1212 : decode cL_law 1212 = .ok (.iconst 1, 1) := by decide +kernel
theorem dL_law_1213 : decode cL_law 1213 = .ok (.iadd, 1) := by decide +kernel
theorem dL_law_1214 : decode cL_law 1214 = .ok (.iaload, 1) := by decide +kernel
theorem dL_law_1215 : decode cL_law 1215 = .ok (.invokevirtual 149, 3) := by decide +kernel
theorem dL_law_1218 : decode cL_law 1218 = .ok (.if_icmp .eq 328, 3) := by decide +kernel
theorem dL_law_1221 : decode cL_law 1221 = .ok (.iconst 0, 1) := by decide +kernel
theorem dL_law_1222 : decode cL_law 1222 = .ok (.ireturn, 1) := by decide +kernel
theorem dL_law_1223 : decode cL_law 1223 = .ok (.aload_n 1, 1) := by decide +kernel
theorem dL_law_1224 : decode cL_law 1224 = .ok (.aload_n 0, 1) := by decide +kernel
theorem dL_law_1225 : decode cL_law 1225 = .ok (.iload_n 3, 1) := by decide +kernel
theorem dL_law_1226 : decode cL_law 1226 = .ok (.iconst 1, 1) := by decide +kernel
theorem dL_law_1227 : decode cL_law 1227 = .ok (.iadd, 1) := by decide +kernel
theorem dL_law_1228 : decode cL_law 1228 = .ok (.iaload, 1) := by decide +kernel
theorem dL_law_1229 : decode cL_law 1229 = .ok (.invokevirtual 150, 3) := by decide +kernel
theorem dL_law_1232 : decode cL_law 1232 = .ok (.aload_n 2, 1) := by decide +kernel
theorem dL_law_1233 : decode cL_law 1233 = .ok (.aload_n 0, 1) := by decide +kernel
theorem dL_law_1234 : decode cL_law 1234 = .ok (.iload_n 3, 1) := by decide +kernel
theorem dL_law_1235 : decode cL_law 1235 = .ok (.iconst 1, 1) := by decide +kernel
theorem dL_law_1236 : decode cL_law 1236 = .ok (.iadd, 1) := by decide +kernel
theorem dL_law_1237 : decode cL_law 1237 = .ok (.iaload, 1) := by decide +kernel
theorem dL_law_1238 : decode cL_law 1238 = .ok (.invokevirtual 153, 3) := by decide +kernel
theorem dL_law_1241 : decode cL_law 1241 = .ok (.if_icmp .eq 305, 3) := by decide +kernel
theorem dL_law_1244 : decode cL_law 1244 = .ok (.iconst 0, 1) := by decide +kernel
theorem dL_law_1245 : decode cL_law 1245 = .ok (.ireturn, 1) := by decide +kernel
theorem dL_law_1246 : decode cL_law 1246 = .ok (.aload_n 1, 1) := by decide +kernel
theorem dL_law_1247 : decode cL_law 1247 = .ok (.aload_n 0, 1) := by decide +kernel
theorem dL_law_1248 : decode cL_law 1248 = .ok (.iload_n 3, 1) := by decide +kernel
theorem dL_law_1249 : decode cL_law 1249 = .ok (.iconst 1, 1) := by decide +kernel
theorem dL_law_1250 : decode cL_law 1250 = .ok (.iadd, 1) := by decide +kernel
theorem dL_law_1251 : decode cL_law 1251 = .ok (.iaload, 1) := by decide +kernel
theorem dL_law_1252 : decode cL_law 1252 = .ok (.aload_n 0, 1) := by decide +kernel
theorem dL_law_1253 : decode cL_law 1253 = .ok (.iload_n 3, 1) := by decide +kernel
theorem dL_law_1254 : decode cL_law 1254 = .ok (.iconst 2, 1) := by decide +kernel
theorem dL_law_1255 : decode cL_law 1255 = .ok (.iadd, 1) := by decide +kernel
theorem dL_law_1256 : decode cL_law 1256 = .ok (.iaload, 1) := by decide +kernel
theorem dL_law_1257 : decode cL_law 1257 = .ok (.aload_n 0, 1) := by decide +kernel
theorem dL_law_1258 : decode cL_law 1258 = .ok (.iload_n 3, 1) := by decide +kernel
theorem dL_law_1259 : decode cL_law 1259 = .ok (.iconst 3, 1) := by decide +kernel
theorem dL_law_1260 : decode cL_law 1260 = .ok (.iadd, 1) := by decide +kernel
theorem dL_law_1261 : decode cL_law 1261 = .ok (.iaload, 1) := by decide +kernel
theorem dL_law_1262 : decode cL_law 1262 = .ok (.aload_n 0, 1) := by decide +kernel
theorem dL_law_1263 : decode cL_law 1263 = .ok (.iload_n 3, 1) := by decide +kernel
theorem dL_law_1264 : decode cL_law 1264 = .ok (.iconst 4, 1) := by decide +kernel
theorem dL_law_1265 : decode cL_law 1265 = .ok (.iadd, 1) := by decide +kernel
theorem dL_law_1266 : decode cL_law 1266 = .ok (.iaload, 1) := by decide +kernel
theorem dL_law_1267 : decode cL_law 1267 = .ok (.aload_n 0, 1) := by decide +kernel
theorem dL_law_1268 : decode cL_law 1268 = .ok (.iload_n 3, 1) := by decide +kernel
theorem dL_law_1269 : decode cL_law 1269 = .ok (.iconst 5, 1) := by decide +kernel
theorem dL_law_1270 : decode cL_law 1270 = .ok (.iadd, 1) := by decide +kernel
theorem dL_law_1271 : decode cL_law 1271 = .ok (.iaload, 1) := by decide +kernel
theorem dL_law_1272 : decode cL_law 1272 = .ok (.invokevirtual 154, 3) := by decide +kernel
theorem dL_law_1275 : decode cL_law 1275 = .ok (.aload_n 2, 1) := by decide +kernel
theorem dL_law_1276 : decode cL_law 1276 = .ok (.aload_n 0, 1) := by decide +kernel
theorem dL_law_1277 : decode cL_law 1277 = .ok (.iload_n 3, 1) := by decide +kernel
theorem dL_law_1278 : decode cL_law 1278 = .ok (.iconst 1, 1) := by decide +kernel
theorem dL_law_1279 : decode cL_law 1279 = .ok (.iadd, 1) := by decide +kernel
theorem dL_law_1280 : decode cL_law 1280 = .ok (.iaload, 1) := by decide +kernel
theorem dL_law_1281 : decode cL_law 1281 = .ok (.aload_n 0, 1) := by decide +kernel
theorem dL_law_1282 : decode cL_law 1282 = .ok (.iload_n 3, 1) := by decide +kernel
theorem dL_law_1283 : decode cL_law 1283 = .ok (.iconst 2, 1) := by decide +kernel
theorem dL_law_1284 : decode cL_law 1284 = .ok (.iadd, 1) := by decide +kernel
theorem dL_law_1285 : decode cL_law 1285 = .ok (.iaload, 1) := by decide +kernel
theorem dL_law_1286 : decode cL_law 1286 = .ok (.aload_n 0, 1) := by decide +kernel
theorem dL_law_1287 : decode cL_law 1287 = .ok (.iload_n 3, 1) := by decide +kernel
theorem dL_law_1288 : decode cL_law 1288 = .ok (.iconst 3, 1) := by decide +kernel
theorem dL_law_1289 : decode cL_law 1289 = .ok (.iadd, 1) := by decide +kernel
theorem dL_law_1290 : decode cL_law 1290 = .ok (.iaload, 1) := by decide +kernel
theorem dL_law_1291 : decode cL_law 1291 = .ok (.aload_n 0, 1) := by decide +kernel
theorem dL_law_1292 : decode cL_law 1292 = .ok (.iload_n 3, 1) := by decide +kernel
theorem dL_law_1293 : decode cL_law 1293 = .ok (.iconst 4, 1) := by decide +kernel
theorem dL_law_1294 : decode cL_law 1294 = .ok (.iadd, 1) := by decide +kernel
theorem dL_law_1295 : decode cL_law 1295 = .ok (.iaload, 1) := by decide +kernel
theorem dL_law_1296 : decode cL_law 1296 = .ok (.aload_n 0, 1) := by decide +kernel
theorem dL_law_1297 : decode cL_law 1297 = .ok (.iload_n 3, 1) := by decide +kernel
theorem dL_law_1298 : decode cL_law 1298 = .ok (.iconst 5, 1) := by decide +kernel
theorem dL_law_1299 : decode cL_law 1299 = .ok (.iadd, 1) := by decide +kernel
theorem dL_law_1300 : decode cL_law 1300 = .ok (.iaload, 1) := by decide +kernel
theorem dL_law_1301 : decode cL_law 1301 = .ok (.invokevirtual 158, 3) := by decide +kernel
theorem dL_law_1304 : decode cL_law 1304 = .ok (.if_icmp .eq 242, 3) := by decide +kernel
theorem dL_law_1307 : decode cL_law 1307 = .ok (.iconst 0, 1) := by decide +kernel
theorem dL_law_1308 : decode cL_law 1308 = .ok (.ireturn, 1) := by decide +kernel
theorem dL_law_1309 : decode cL_law 1309 = .ok (.aload_n 1, 1) := by decide +kernel
theorem dL_law_1310 : decode cL_law 1310 = .ok (.aload_n 0, 1) := by decide +kernel
theorem dL_law_1311 : decode cL_law 1311 = .ok (.iload_n 3, 1) := by decide +kernel
theorem dL_law_1312 : decode cL_law 1312 = .ok (.iconst 1, 1) := by decide +kernel
theorem dL_law_1313 : decode cL_law 1313 = .ok (.iadd, 1) := by decide +kernel
theorem dL_law_1314 : decode cL_law 1314 = .ok (.iaload, 1) := by decide +kernel
theorem dL_law_1315 : decode cL_law 1315 = .ok (.aload_n 0, 1) := by decide +kernel
theorem dL_law_1316 : decode cL_law 1316 = .ok (.iload_n 3, 1) := by decide +kernel
theorem dL_law_1317 : decode cL_law 1317 = .ok (.iconst 2, 1) := by decide +kernel
theorem dL_law_1318 : decode cL_law 1318 = .ok (.iadd, 1) := by decide +kernel
theorem dL_law_1319 : decode cL_law 1319 = .ok (.iaload, 1) := by decide +kernel
theorem dL_law_1320 : decode cL_law 1320 = .ok (.aload_n 0, 1) := by decide +kernel
theorem dL_law_1321 : decode cL_law 1321 = .ok (.iload_n 3, 1) := by decide +kernel
theorem dL_law_1322 : decode cL_law 1322 = .ok (.iconst 3, 1) := by decide +kernel
theorem dL_law_1323 : decode cL_law 1323 = .ok (.iadd, 1) := by decide +kernel
theorem dL_law_1324 : decode cL_law 1324 = .ok (.iaload, 1) := by decide +kernel
theorem dL_law_1325 : decode cL_law 1325 = .ok (.invokevirtual 159, 3) := by decide +kernel
theorem dL_law_1328 : decode cL_law 1328 = .ok (.aload_n 2, 1) := by decide +kernel
theorem dL_law_1329 : decode cL_law 1329 = .ok (.aload_n 0, 1) := by decide +kernel
theorem dL_law_1330 : decode cL_law 1330 = .ok (.iload_n 3, 1) := by decide +kernel
theorem dL_law_1331 : decode cL_law 1331 = .ok (.iconst 1, 1) := by decide +kernel
theorem dL_law_1332 : decode cL_law 1332 = .ok (.iadd, 1) := by decide +kernel
theorem dL_law_1333 : decode cL_law 1333 = .ok (.iaload, 1) := by decide +kernel
theorem dL_law_1334 : decode cL_law 1334 = .ok (.aload_n 0, 1) := by decide +kernel
theorem dL_law_1335 : decode cL_law 1335 = .ok (.iload_n 3, 1) := by decide +kernel
theorem dL_law_1336 : decode cL_law 1336 = .ok (.iconst 2, 1) := by decide +kernel
theorem dL_law_1337 : decode cL_law 1337 = .ok (.iadd, 1) := by decide +kernel
theorem dL_law_1338 : decode cL_law 1338 = .ok (.iaload, 1) := by decide +kernel
theorem dL_law_1339 : decode cL_law 1339 = .ok (.aload_n 0, 1) := by decide +kernel
theorem dL_law_1340 : decode cL_law 1340 = .ok (.iload_n 3, 1) := by decide +kernel
theorem dL_law_1341 : decode cL_law 1341 = .ok (.iconst 3, 1) := by decide +kernel
theorem dL_law_1342 : decode cL_law 1342 = .ok (.iadd, 1) := by decide +kernel
theorem dL_law_1343 : decode cL_law 1343 = .ok (.iaload, 1) := by decide +kernel
theorem dL_law_1344 : decode cL_law 1344 = .ok (.invokevirtual 162, 3) := by decide +kernel
theorem dL_law_1347 : decode cL_law 1347 = .ok (.if_icmp .eq 199, 3) := by decide +kernel
theorem dL_law_1350 : decode cL_law 1350 = .ok (.iconst 0, 1) := by decide +kernel
theorem dL_law_1351 : decode cL_law 1351 = .ok (.ireturn, 1) := by decide +kernel
theorem dL_law_1352 : decode cL_law 1352 = .ok (.aload_n 1, 1) := by decide +kernel
theorem dL_law_1353 : decode cL_law 1353 = .ok (.aload_n 0, 1) := by decide +kernel
theorem dL_law_1354 : decode cL_law 1354 = .ok (.iload_n 3, 1) := by decide +kernel
theorem dL_law_1355 : decode cL_law 1355 = .ok (.iconst 1, 1) := by decide +kernel
theorem dL_law_1356 : decode cL_law 1356 = .ok (.iadd, 1) := by decide +kernel
theorem dL_law_1357 : decode cL_law 1357 = .ok (.iaload, 1) := by decide +kernel
theorem dL_law_1358 : decode cL_law 1358 = .ok (.aload_n 0, 1) := by decide +kernel
theorem dL_law_1359 : decode cL_law 1359 = .ok (.iload_n 3, 1) := by decide +kernel
theorem dL_law_1360 : decode cL_law 1360 = .ok (.iconst 2, 1) := by decide +kernel
theorem dL_law_1361 : decode cL_law 1361 = .ok (.iadd, 1) := by decide +kernel
theorem dL_law_1362 : decode cL_law 1362 = .ok (.iaload, 1) := by decide +kernel
theorem dL_law_1363 : decode cL_law 1363 = .ok (.invokevirtual 163, 3) := by decide +kernel
theorem dL_law_1366 : decode cL_law 1366 = .ok (.aload_n 2, 1) := by decide +kernel
theorem dL_law_1367 : decode cL_law 1367 = .ok (.aload_n 0, 1) := by decide +kernel
theorem dL_law_1368 : decode cL_law 1368 = .ok (.iload_n 3, 1) := by decide +kernel
theorem dL_law_1369 : decode cL_law 1369 = .ok (.iconst 1, 1) := by decide +kernel
theorem dL_law_1370 : decode cL_law 1370 = .ok (.iadd, 1) := by decide +kernel
theorem dL_law_1371 : decode cL_law 1371 = .ok (.iaload, 1) := by decide +kernel
theorem dL_law_1372 : decode cL_law 1372 = .ok (.aload_n 0, 1) := by decide +kernel
theorem dL_law_1373 : decode cL_law 1373 = .ok (.iload_n 3, 1) := by decide +kernel
theorem dL_law_1374 : decode cL_law 1374 = .ok (.iconst 2, 1) := by decide +kernel
theorem dL_law_1375 : decode cL_law 1375 = .ok (.iadd, 1) := by decide +kernel
theorem dL_law_1376 : decode cL_law 1376 = .ok (.iaload, 1) := by decide +kernel
theorem dL_law_1377 : decode cL_law 1377 = .ok (.invokevirtual 166, 3) := by decide +kernel
theorem dL_law_1380 : decode cL_law 1380 = .ok (.if_icmp .eq 166, 3) := by decide +kernel
theorem dL_law_1383 : decode cL_law 1383 = .ok (.iconst 0, 1) := by decide +kernel
theorem dL_law_1384 : decode cL_law 1384 = .ok (.ireturn, 1) := by decide +kernel
theorem dL_law_1385 : decode cL_law 1385 = .ok (.aload_n 1, 1) := by decide +kernel
theorem dL_law_1386 : decode cL_law 1386 = .ok (.aload_n 0, 1) := by decide +kernel
theorem dL_law_1387 : decode cL_law 1387 = .ok (.iload_n 3, 1) := by decide +kernel
theorem dL_law_1388 : decode cL_law 1388 = .ok (.iconst 1, 1) := by decide +kernel
theorem dL_law_1389 : decode cL_law 1389 = .ok (.iadd, 1) := by decide +kernel
theorem dL_law_1390 : decode cL_law 1390 = .ok (.iaload, 1) := by decide +kernel
theorem dL_law_1391 : decode cL_law 1391 = .ok (.aload_n 0, 1) := by decide +kernel
theorem dL_law_1392 : decode cL_law 1392 = .ok (.iload_n 3, 1) := by decide +kernel
theorem dL_law_1393 : decode cL_law 1393 = .ok (.iconst 2, 1) := by decide +kernel
theorem dL_law_1394 : decode cL_law 1394 = .ok (.iadd, 1) := by decide +kernel
theorem dL_law_1395 : decode cL_law 1395 = .ok (.iaload, 1) := by decide +kernel
theorem dL_law_1396 : decode cL_law 1396 = .ok (.invokevirtual 167, 3) := by decide +kernel
theorem dL_law_1399 : decode cL_law 1399 = .ok (.aload_n 2, 1) := by decide +kernel
theorem dL_law_1400 : decode cL_law 1400 = .ok (.aload_n 0, 1) := by decide +kernel
theorem dL_law_1401 : decode cL_law 1401 = .ok (.iload_n 3, 1) := by decide +kernel
theorem dL_law_1402 : decode cL_law 1402 = .ok (.iconst 1, 1) := by decide +kernel
theorem dL_law_1403 : decode cL_law 1403 = .ok (.iadd, 1) := by decide +kernel
theorem dL_law_1404 : decode cL_law 1404 = .ok (.iaload, 1) := by decide +kernel
theorem dL_law_1405 : decode cL_law 1405 = .ok (.aload_n 0, 1) := by decide +kernel
theorem dL_law_1406 : decode cL_law 1406 = .ok (.iload_n 3, 1) := by decide +kernel
theorem dL_law_1407 : decode cL_law 1407 = .ok (.iconst 2, 1) := by decide +kernel
theorem dL_law_1408 : decode cL_law 1408 = .ok (.iadd, 1) := by decide +kernel
theorem dL_law_1409 : decode cL_law 1409 = .ok (.iaload, 1) := by decide +kernel
theorem dL_law_1410 : decode cL_law 1410 = .ok (.invokevirtual 170, 3) := by decide +kernel
theorem dL_law_1413 : decode cL_law 1413 = .ok (.if_icmp .eq 133, 3) := by decide +kernel
theorem dL_law_1416 : decode cL_law 1416 = .ok (.iconst 0, 1) := by decide +kernel
theorem dL_law_1417 : decode cL_law 1417 = .ok (.ireturn, 1) := by decide +kernel
theorem dL_law_1418 : decode cL_law 1418 = .ok (.aload_n 1, 1) := by decide +kernel
theorem dL_law_1419 : decode cL_law 1419 = .ok (.aload_n 0, 1) := by decide +kernel
theorem dL_law_1420 : decode cL_law 1420 = .ok (.iload_n 3, 1) := by decide +kernel
theorem dL_law_1421 : decode cL_law 1421 = .ok (.iconst 1, 1) := by decide +kernel
theorem dL_law_1422 : decode cL_law 1422 = .ok (.iadd, 1) := by decide +kernel
theorem dL_law_1423 : decode cL_law 1423 = .ok (.iaload, 1) := by decide +kernel
theorem dL_law_1424 : decode cL_law 1424 = .ok (.aload_n 0, 1) := by decide +kernel
theorem dL_law_1425 : decode cL_law 1425 = .ok (.iload_n 3, 1) := by decide +kernel
theorem dL_law_1426 : decode cL_law 1426 = .ok (.iconst 2, 1) := by decide +kernel
theorem dL_law_1427 : decode cL_law 1427 = .ok (.iadd, 1) := by decide +kernel
theorem dL_law_1428 : decode cL_law 1428 = .ok (.iaload, 1) := by decide +kernel
theorem dL_law_1429 : decode cL_law 1429 = .ok (.invokevirtual 171, 3) := by decide +kernel
theorem dL_law_1432 : decode cL_law 1432 = .ok (.aload_n 2, 1) := by decide +kernel
theorem dL_law_1433 : decode cL_law 1433 = .ok (.aload_n 0, 1) := by decide +kernel
theorem dL_law_1434 : decode cL_law 1434 = .ok (.iload_n 3, 1) := by decide +kernel
theorem dL_law_1435 : decode cL_law 1435 = .ok (.iconst 1, 1) := by decide +kernel
theorem dL_law_1436 : decode cL_law 1436 = .ok (.iadd, 1) := by decide +kernel
theorem dL_law_1437 : decode cL_law 1437 = .ok (.iaload, 1) := by decide +kernel
theorem dL_law_1438 : decode cL_law 1438 = .ok (.aload_n 0, 1) := by decide +kernel
theorem dL_law_1439 : decode cL_law 1439 = .ok (.iload_n 3, 1) := by decide +kernel
theorem dL_law_1440 : decode cL_law 1440 = .ok (.iconst 2, 1) := by decide +kernel
theorem dL_law_1441 : decode cL_law 1441 = .ok (.iadd, 1) := by decide +kernel
theorem dL_law_1442 : decode cL_law 1442 = .ok (.iaload, 1) := by decide +kernel
theorem dL_law_1443 : decode cL_law 1443 = .ok (.invokevirtual 174, 3) := by decide +kernel
theorem dL_law_1446 : decode cL_law 1446 = .ok (.if_icmp .eq 100, 3) := by decide +kernel
theorem dL_law_1449 : decode cL_law 1449 = .ok (.iconst 0, 1) := by decide +kernel
theorem dL_law_1450 : decode cL_law 1450 = .ok (.ireturn, 1) := by decide +kernel
theorem dL_law_1451 : decode cL_law 1451 = .ok (.aload_n 1, 1) := by decide +kernel
theorem dL_law_1452 : decode cL_law 1452 = .ok (.aload_n 0, 1) := by decide +kernel
theorem dL_law_1453 : decode cL_law 1453 = .ok (.iload_n 3, 1) := by decide +kernel
theorem dL_law_1454 : decode cL_law 1454 = .ok (.iconst 1, 1) := by decide +kernel
theorem dL_law_1455 : decode cL_law 1455 = .ok (.iadd, 1) := by decide +kernel
theorem dL_law_1456 : decode cL_law 1456 = .ok (.iaload, 1) := by decide +kernel
theorem dL_law_1457 : decode cL_law 1457 = .ok (.invokevirtual 175, 3) := by decide +kernel
theorem dL_law_1460 : decode cL_law 1460 = .ok (.aload_n 2, 1) := by decide +kernel
theorem dL_law_1461 : decode cL_law 1461 = .ok (.aload_n 0, 1) := by decide +kernel
theorem dL_law_1462 : decode cL_law 1462 = .ok (.iload_n 3, 1) := by decide +kernel
theorem dL_law_1463 : decode cL_law 1463 = .ok (.iconst 1, 1) := by decide +kernel
theorem dL_law_1464 : decode cL_law 1464 = .ok (.iadd, 1) := by decide +kernel
theorem dL_law_1465 : decode cL_law 1465 = .ok (.iaload, 1) := by decide +kernel
theorem dL_law_1466 : decode cL_law 1466 = .ok (.invokevirtual 178, 3) := by decide +kernel
theorem dL_law_1469 : decode cL_law 1469 = .ok (.if_icmp .eq 77, 3) := by decide +kernel
theorem dL_law_1472 : decode cL_law 1472 = .ok (.iconst 0, 1) := by decide +kernel
theorem dL_law_1473 : decode cL_law 1473 = .ok (.ireturn, 1) := by decide +kernel
theorem dL_law_1474 : decode cL_law 1474 = .ok (.aload_n 1, 1) := by decide +kernel
theorem dL_law_1475 : decode cL_law 1475 = .ok (.aload_n 0, 1) := by decide +kernel
theorem dL_law_1476 : decode cL_law 1476 = .ok (.iload_n 3, 1) := by decide +kernel
theorem dL_law_1477 : decode cL_law 1477 = .ok (.iconst 1, 1) := by decide +kernel
theorem dL_law_1478 : decode cL_law 1478 = .ok (.iadd, 1) := by decide +kernel
theorem dL_law_1479 : decode cL_law 1479 = .ok (.iaload, 1) := by decide +kernel
theorem dL_law_1480 : decode cL_law 1480 = .ok (.invokevirtual 179, 3) := by decide +kernel
theorem dL_law_1483 : decode cL_law 1483 = .ok (.aload_n 2, 1) := by decide +kernel
theorem dL_law_1484 : decode cL_law 1484 = .ok (.aload_n 0, 1) := by decide +kernel
theorem dL_law_1485 : decode cL_law 1485 = .ok (.iload_n 3, 1) := by decide +kernel
theorem dL_law_1486 : decode cL_law 1486 = .ok (.iconst 1, 1) := by decide +kernel
theorem dL_law_1487 : decode cL_law 1487 = .ok (.iadd, 1) := by decide +kernel
theorem dL_law_1488 : decode cL_law 1488 = .ok (.iaload, 1) := by decide +kernel
theorem dL_law_1489 : decode cL_law 1489 = .ok (.invokevirtual 182, 3) := by decide +kernel
theorem dL_law_1492 : decode cL_law 1492 = .ok (.if_icmp .eq 54, 3) := by decide +kernel
theorem dL_law_1495 : decode cL_law 1495 = .ok (.iconst 0, 1) := by decide +kernel
theorem dL_law_1496 : decode cL_law 1496 = .ok (.ireturn, 1) := by decide +kernel
theorem dL_law_1497 : decode cL_law 1497 = .ok (.aload_n 1, 1) := by decide +kernel
theorem dL_law_1498 : decode cL_law 1498 = .ok (.invokevirtual 183, 3) := by decide +kernel
theorem dL_law_1501 : decode cL_law 1501 = .ok (.aload_n 2, 1) := by decide +kernel
theorem dL_law_1502 : decode cL_law 1502 = .ok (.invokevirtual 186, 3) := by decide +kernel
theorem dL_law_1505 : decode cL_law 1505 = .ok (.if_icmp .eq 41, 3) := by decide +kernel
theorem dL_law_1508 : decode cL_law 1508 = .ok (.iconst 0, 1) := by decide +kernel
theorem dL_law_1509 : decode cL_law 1509 = .ok (.ireturn, 1) := by decide +kernel
theorem dL_law_1510 : decode cL_law 1510 = .ok (.aload_n 1, 1) := by decide +kernel
theorem dL_law_1511 : decode cL_law 1511 = .ok (.invokevirtual 187, 3) := by decide +kernel
theorem dL_law_1514 : decode cL_law 1514 = .ok (.aload_n 2, 1) := by decide +kernel
theorem dL_law_1515 : decode cL_law 1515 = .ok (.invokevirtual 190, 3) := by decide +kernel
theorem dL_law_1518 : decode cL_law 1518 = .ok (.if_icmp .eq 28, 3) := by decide +kernel
theorem dL_law_1521 : decode cL_law 1521 = .ok (.iconst 0, 1) := by decide +kernel
theorem dL_law_1522 : decode cL_law 1522 = .ok (.ireturn, 1) := by decide +kernel
theorem dL_law_1523 : decode cL_law 1523 = .ok (.aload_n 1, 1) := by decide +kernel
theorem dL_law_1524 : decode cL_law 1524 = .ok (.aload_n 0, 1) := by decide +kernel
theorem dL_law_1525 : decode cL_law 1525 = .ok (.iload_n 3, 1) := by decide +kernel
theorem dL_law_1526 : decode cL_law 1526 = .ok (.iconst 1, 1) := by decide +kernel
theorem dL_law_1527 : decode cL_law 1527 = .ok (.iadd, 1) := by decide +kernel
theorem dL_law_1528 : decode cL_law 1528 = .ok (.iaload, 1) := by decide +kernel
theorem dL_law_1529 : decode cL_law 1529 = .ok (.invokevirtual 191, 3) := by decide +kernel
theorem dL_law_1532 : decode cL_law 1532 = .ok (.aload_n 2, 1) := by decide +kernel
theorem dL_law_1533 : decode cL_law 1533 = .ok (.aload_n 0, 1) := by decide +kernel
theorem dL_law_1534 : decode cL_law 1534 = .ok (.iload_n 3, 1) := by decide +kernel
theorem dL_law_1535 : decode cL_law 1535 = .ok (.iconst 1, 1) := by decide +kernel
theorem dL_law_1536 : decode cL_law 1536 = .ok (.iadd, 1) := by decide +kernel
theorem dL_law_1537 : decode cL_law 1537 = .ok (.iaload, 1) := by decide +kernel
theorem dL_law_1538 : decode cL_law 1538 = .ok (.invokevirtual 194, 3) := by decide +kernel
theorem dL_law_1541 : decode cL_law 1541 = .ok (.if_icmp .eq 5, 3) := by decide +kernel
theorem dL_law_1544 : decode cL_law 1544 = .ok (.iconst 0, 1) := by decide +kernel
theorem dL_law_1545 : decode cL_law 1545 = .ok (.ireturn, 1) := by decide +kernel
theorem dL_law_1546 : decode cL_law 1546 = .ok (.iinc 3 6, 3) := by decide +kernel
theorem dL_law_1549 : decode cL_law 1549 = .ok (.goto (-1531), 3) := by decide +kernel
theorem dL_law_1552 : decode cL_law 1552 = .ok (.iconst 1, 1) := by decide +kernel
theorem dL_law_1553 : decode cL_law 1553 = .ok (.ireturn, 1) := by decide +kernel
abbrev vwCl : List vw_C := [(RX0, TX0, 16), (RX2, TX2, 5), (RX3, TX3, 4), (RX4, TX4, 3), (RX5, TX5, 5), (RX6, TX6, 5), (RX7, TX7, 12), (RX8, TX8, 35)]
