-- ===== PART A: goes FIRST, ahead of the names: the tables' words, and 'selects' of the private methods out of them =====
/-- a private method of a class that the tables say can be made, by its rows of tables_1 -/
def lw_okq (q : MethodName × Nat) : Prop := (q.1.cls ≠ "java/lang/invoke/MethodHandle" ∧ q.1.cls ≠ "java/lang/invoke/VarHandle") ∧ Cond.instantiable q.1.cls q.2 ∈ tables_1 ∧ Cond.privateMethod q.1 ∈ tables_1 ∧ Cond.instanceMethod q.1 ∈ tables_1
theorem lw_p0 : lw_okq (⟨"BaredCurtain$Reader", "skipBlanks", "()V"⟩, 9) := ⟨⟨by decide +kernel, by decide +kernel⟩, List.mem_of_getElem? (i := 91) (by decide +kernel), List.mem_of_getElem? (i := 296) (by decide +kernel), List.mem_of_getElem? (i := 297) (by decide +kernel)⟩
theorem lw_p1 : lw_okq (⟨"BaredCurtain$Reader", "letter", "()I"⟩, 9) := ⟨⟨by decide +kernel, by decide +kernel⟩, List.mem_of_getElem? (i := 91) (by decide +kernel), List.mem_of_getElem? (i := 300) (by decide +kernel), List.mem_of_getElem? (i := 301) (by decide +kernel)⟩
theorem lw_p2 : lw_okq (⟨"BaredCurtain$Reader", "readClause", "(Z)V"⟩, 9) := ⟨⟨by decide +kernel, by decide +kernel⟩, List.mem_of_getElem? (i := 91) (by decide +kernel), List.mem_of_getElem? (i := 307) (by decide +kernel), List.mem_of_getElem? (i := 308) (by decide +kernel)⟩
theorem lw_p3 : lw_okq (⟨"BaredCurtain$Reader", "fail", "(II)V"⟩, 9) := ⟨⟨by decide +kernel, by decide +kernel⟩, List.mem_of_getElem? (i := 91) (by decide +kernel), List.mem_of_getElem? (i := 311) (by decide +kernel), List.mem_of_getElem? (i := 312) (by decide +kernel)⟩
theorem lw_p4 : lw_okq (⟨"BaredCurtain$Reader", "readCurtain", "(Z)V"⟩, 9) := ⟨⟨by decide +kernel, by decide +kernel⟩, List.mem_of_getElem? (i := 91) (by decide +kernel), List.mem_of_getElem? (i := 315) (by decide +kernel), List.mem_of_getElem? (i := 316) (by decide +kernel)⟩
theorem lw_p5 : lw_okq (⟨"BaredCurtain$Reader", "number", "(II)I"⟩, 9) := ⟨⟨by decide +kernel, by decide +kernel⟩, List.mem_of_getElem? (i := 91) (by decide +kernel), List.mem_of_getElem? (i := 319) (by decide +kernel), List.mem_of_getElem? (i := 320) (by decide +kernel)⟩
theorem lw_p6 : lw_okq (⟨"BaredCurtain$Reader", "readEnd", "()V"⟩, 9) := ⟨⟨by decide +kernel, by decide +kernel⟩, List.mem_of_getElem? (i := 91) (by decide +kernel), List.mem_of_getElem? (i := 332) (by decide +kernel), List.mem_of_getElem? (i := 333) (by decide +kernel)⟩
theorem lw_p7 : lw_okq (⟨"BaredCurtain$Reader", "readCloth", "()V"⟩, 9) := ⟨⟨by decide +kernel, by decide +kernel⟩, List.mem_of_getElem? (i := 91) (by decide +kernel), List.mem_of_getElem? (i := 340) (by decide +kernel), List.mem_of_getElem? (i := 341) (by decide +kernel)⟩
theorem lw_p8 : lw_okq (⟨"BaredCurtain$Reader", "readHole", "()V"⟩, 9) := ⟨⟨by decide +kernel, by decide +kernel⟩, List.mem_of_getElem? (i := 91) (by decide +kernel), List.mem_of_getElem? (i := 348) (by decide +kernel), List.mem_of_getElem? (i := 349) (by decide +kernel)⟩
theorem lw_p9 : lw_okq (⟨"BaredCurtain$Reader", "readActor", "()V"⟩, 9) := ⟨⟨by decide +kernel, by decide +kernel⟩, List.mem_of_getElem? (i := 91) (by decide +kernel), List.mem_of_getElem? (i := 364) (by decide +kernel), List.mem_of_getElem? (i := 365) (by decide +kernel)⟩
theorem lw_p10 : lw_okq (⟨"BaredCurtain$Scene", "isShown", "(LBaredCurtain$House;III)Z"⟩, 1) := ⟨⟨by decide +kernel, by decide +kernel⟩, List.mem_of_getElem? (i := 79) (by decide +kernel), List.mem_of_getElem? (i := 459) (by decide +kernel), List.mem_of_getElem? (i := 460) (by decide +kernel)⟩
theorem lw_p11 : lw_okq (⟨"BaredCurtain", "refusalOfNights", "(I)I"⟩, 11) := ⟨⟨by decide +kernel, by decide +kernel⟩, List.mem_of_getElem? (i := 15) (by decide +kernel), List.mem_of_getElem? (i := 556) (by decide +kernel), List.mem_of_getElem? (i := 557) (by decide +kernel)⟩
theorem lw_p12 : lw_okq (⟨"BaredCurtain$Scene", "mendOrBare", "(LBaredCurtain$House;I)V"⟩, 1) := ⟨⟨by decide +kernel, by decide +kernel⟩, List.mem_of_getElem? (i := 79) (by decide +kernel), List.mem_of_getElem? (i := 574) (by decide +kernel), List.mem_of_getElem? (i := 575) (by decide +kernel)⟩
theorem lw_p13 : lw_okq (⟨"BaredCurtain$Scene", "patch", "(II)V"⟩, 1) := ⟨⟨by decide +kernel, by decide +kernel⟩, List.mem_of_getElem? (i := 79) (by decide +kernel), List.mem_of_getElem? (i := 584) (by decide +kernel), List.mem_of_getElem? (i := 585) (by decide +kernel)⟩
theorem lw_p14 : lw_okq (⟨"BaredCurtain", "letMothsIn", "()V"⟩, 11) := ⟨⟨by decide +kernel, by decide +kernel⟩, List.mem_of_getElem? (i := 15) (by decide +kernel), List.mem_of_getElem? (i := 617) (by decide +kernel), List.mem_of_getElem? (i := 618) (by decide +kernel)⟩
theorem lw_p15 : lw_okq (⟨"BaredCurtain", "draw", "(I)I"⟩, 11) := ⟨⟨by decide +kernel, by decide +kernel⟩, List.mem_of_getElem? (i := 15) (by decide +kernel), List.mem_of_getElem? (i := 621) (by decide +kernel), List.mem_of_getElem? (i := 622) (by decide +kernel)⟩
def lw_privs_1 : List (MethodName × Nat) := [(⟨"BaredCurtain$Reader", "skipBlanks", "()V"⟩, 9), (⟨"BaredCurtain$Reader", "letter", "()I"⟩, 9), (⟨"BaredCurtain$Reader", "readClause", "(Z)V"⟩, 9), (⟨"BaredCurtain$Reader", "fail", "(II)V"⟩, 9), (⟨"BaredCurtain$Reader", "readCurtain", "(Z)V"⟩, 9), (⟨"BaredCurtain$Reader", "number", "(II)I"⟩, 9), (⟨"BaredCurtain$Reader", "readEnd", "()V"⟩, 9), (⟨"BaredCurtain$Reader", "readCloth", "()V"⟩, 9), (⟨"BaredCurtain$Reader", "readHole", "()V"⟩, 9), (⟨"BaredCurtain$Reader", "readActor", "()V"⟩, 9), (⟨"BaredCurtain$Scene", "isShown", "(LBaredCurtain$House;III)Z"⟩, 1), (⟨"BaredCurtain", "refusalOfNights", "(I)I"⟩, 11), (⟨"BaredCurtain$Scene", "mendOrBare", "(LBaredCurtain$House;I)V"⟩, 1), (⟨"BaredCurtain$Scene", "patch", "(II)V"⟩, 1), (⟨"BaredCurtain", "letMothsIn", "()V"⟩, 11), (⟨"BaredCurtain", "draw", "(I)I"⟩, 11)]
theorem lw_r1 : ∀ q ∈ lw_privs_1, lw_okq q := List.forall_mem_cons.mpr ⟨lw_p0, List.forall_mem_cons.mpr ⟨lw_p1, List.forall_mem_cons.mpr ⟨lw_p2, List.forall_mem_cons.mpr ⟨lw_p3, List.forall_mem_cons.mpr ⟨lw_p4, List.forall_mem_cons.mpr ⟨lw_p5, List.forall_mem_cons.mpr ⟨lw_p6, List.forall_mem_cons.mpr ⟨lw_p7, List.forall_mem_cons.mpr ⟨lw_p8, List.forall_mem_cons.mpr ⟨lw_p9, List.forall_mem_cons.mpr ⟨lw_p10, List.forall_mem_cons.mpr ⟨lw_p11, List.forall_mem_cons.mpr ⟨lw_p12, List.forall_mem_cons.mpr ⟨lw_p13, List.forall_mem_cons.mpr ⟨lw_p14, List.forall_mem_cons.mpr ⟨lw_p15, fun _ h => absurd h List.not_mem_nil⟩⟩⟩⟩⟩⟩⟩⟩⟩⟩⟩⟩⟩⟩⟩⟩
theorem lw_p16 : lw_okq (⟨"BaredCurtain$Placing", "countHoles", "(LBaredCurtain$House;LBaredCurtain$Scene;)V"⟩, 5) := ⟨⟨by decide +kernel, by decide +kernel⟩, List.mem_of_getElem? (i := 193) (by decide +kernel), List.mem_of_getElem? (i := 654) (by decide +kernel), List.mem_of_getElem? (i := 655) (by decide +kernel)⟩
theorem lw_p17 : lw_okq (⟨"BaredCurtain$Placing", "hasEnough", "(LBaredCurtain$House;LBaredCurtain$Scene;)Z"⟩, 5) := ⟨⟨by decide +kernel, by decide +kernel⟩, List.mem_of_getElem? (i := 193) (by decide +kernel), List.mem_of_getElem? (i := 665) (by decide +kernel), List.mem_of_getElem? (i := 666) (by decide +kernel)⟩
theorem lw_p18 : lw_okq (⟨"BaredCurtain$Placing", "baredUntilWhole", "(LBaredCurtain$House;LBaredCurtain$Scene;II)I"⟩, 5) := ⟨⟨by decide +kernel, by decide +kernel⟩, List.mem_of_getElem? (i := 193) (by decide +kernel), List.mem_of_getElem? (i := 671) (by decide +kernel), List.mem_of_getElem? (i := 672) (by decide +kernel)⟩
theorem lw_p19 : lw_okq (⟨"BaredCurtain$Placing", "advance", "(LBaredCurtain$House;)V"⟩, 5) := ⟨⟨by decide +kernel, by decide +kernel⟩, List.mem_of_getElem? (i := 193) (by decide +kernel), List.mem_of_getElem? (i := 681) (by decide +kernel), List.mem_of_getElem? (i := 682) (by decide +kernel)⟩
theorem lw_p20 : lw_okq (⟨"BaredCurtain$Sewing", "minutesByOne", "(I)I"⟩, 4) := ⟨⟨by decide +kernel, by decide +kernel⟩, List.mem_of_getElem? (i := 219) (by decide +kernel), List.mem_of_getElem? (i := 717) (by decide +kernel), List.mem_of_getElem? (i := 718) (by decide +kernel)⟩
theorem lw_p21 : lw_okq (⟨"BaredCurtain$Sewing", "addTailor", "(I)V"⟩, 4) := ⟨⟨by decide +kernel, by decide +kernel⟩, List.mem_of_getElem? (i := 219) (by decide +kernel), List.mem_of_getElem? (i := 722) (by decide +kernel), List.mem_of_getElem? (i := 723) (by decide +kernel)⟩
theorem lw_p22 : lw_okq (⟨"BaredCurtain", "greatestPart", "(II)I"⟩, 11) := ⟨⟨by decide +kernel, by decide +kernel⟩, List.mem_of_getElem? (i := 15) (by decide +kernel), List.mem_of_getElem? (i := 773) (by decide +kernel), List.mem_of_getElem? (i := 774) (by decide +kernel)⟩
theorem lw_p23 : lw_okq (⟨"BaredCurtainModel", "begins", "()V"⟩, 26) := ⟨⟨by decide +kernel, by decide +kernel⟩, List.mem_of_getElem? (i := 833) (by decide +kernel), List.mem_of_getElem? (i := 849) (by decide +kernel), List.mem_of_getElem? (i := 850) (by decide +kernel)⟩
theorem lw_p24 : lw_okq (⟨"BaredCurtainModel", "step", "()V"⟩, 26) := ⟨⟨by decide +kernel, by decide +kernel⟩, List.mem_of_getElem? (i := 833) (by decide +kernel), List.mem_of_getElem? (i := 947) (by decide +kernel), List.mem_of_getElem? (i := 948) (by decide +kernel)⟩
theorem lw_p25 : lw_okq (⟨"BaredCurtainModel", "here", "()I"⟩, 26) := ⟨⟨by decide +kernel, by decide +kernel⟩, List.mem_of_getElem? (i := 833) (by decide +kernel), List.mem_of_getElem? (i := 951) (by decide +kernel), List.mem_of_getElem? (i := 952) (by decide +kernel)⟩
theorem lw_p26 : lw_okq (⟨"BaredCurtainModel", "readsClause", "()Z"⟩, 26) := ⟨⟨by decide +kernel, by decide +kernel⟩, List.mem_of_getElem? (i := 833) (by decide +kernel), List.mem_of_getElem? (i := 957) (by decide +kernel), List.mem_of_getElem? (i := 958) (by decide +kernel)⟩
theorem lw_p27 : lw_okq (⟨"BaredCurtainModel", "readsCurtain", "()Z"⟩, 26) := ⟨⟨by decide +kernel, by decide +kernel⟩, List.mem_of_getElem? (i := 833) (by decide +kernel), List.mem_of_getElem? (i := 961) (by decide +kernel), List.mem_of_getElem? (i := 962) (by decide +kernel)⟩
theorem lw_p28 : lw_okq (⟨"BaredCurtainModel", "fails", "(I)Z"⟩, 26) := ⟨⟨by decide +kernel, by decide +kernel⟩, List.mem_of_getElem? (i := 833) (by decide +kernel), List.mem_of_getElem? (i := 965) (by decide +kernel), List.mem_of_getElem? (i := 966) (by decide +kernel)⟩
theorem lw_p29 : lw_okq (⟨"BaredCurtainModel", "number", "(III)Z"⟩, 26) := ⟨⟨by decide +kernel, by decide +kernel⟩, List.mem_of_getElem? (i := 833) (by decide +kernel), List.mem_of_getElem? (i := 969) (by decide +kernel), List.mem_of_getElem? (i := 970) (by decide +kernel)⟩
theorem lw_p30 : lw_okq (⟨"BaredCurtainModel", "ends", "()Z"⟩, 26) := ⟨⟨by decide +kernel, by decide +kernel⟩, List.mem_of_getElem? (i := 833) (by decide +kernel), List.mem_of_getElem? (i := 973) (by decide +kernel), List.mem_of_getElem? (i := 974) (by decide +kernel)⟩
theorem lw_p31 : lw_okq (⟨"BaredCurtainModel", "readsCloth", "()Z"⟩, 26) := ⟨⟨by decide +kernel, by decide +kernel⟩, List.mem_of_getElem? (i := 833) (by decide +kernel), List.mem_of_getElem? (i := 977) (by decide +kernel), List.mem_of_getElem? (i := 978) (by decide +kernel)⟩
def lw_privs_2 : List (MethodName × Nat) := [(⟨"BaredCurtain$Placing", "countHoles", "(LBaredCurtain$House;LBaredCurtain$Scene;)V"⟩, 5), (⟨"BaredCurtain$Placing", "hasEnough", "(LBaredCurtain$House;LBaredCurtain$Scene;)Z"⟩, 5), (⟨"BaredCurtain$Placing", "baredUntilWhole", "(LBaredCurtain$House;LBaredCurtain$Scene;II)I"⟩, 5), (⟨"BaredCurtain$Placing", "advance", "(LBaredCurtain$House;)V"⟩, 5), (⟨"BaredCurtain$Sewing", "minutesByOne", "(I)I"⟩, 4), (⟨"BaredCurtain$Sewing", "addTailor", "(I)V"⟩, 4), (⟨"BaredCurtain", "greatestPart", "(II)I"⟩, 11), (⟨"BaredCurtainModel", "begins", "()V"⟩, 26), (⟨"BaredCurtainModel", "step", "()V"⟩, 26), (⟨"BaredCurtainModel", "here", "()I"⟩, 26), (⟨"BaredCurtainModel", "readsClause", "()Z"⟩, 26), (⟨"BaredCurtainModel", "readsCurtain", "()Z"⟩, 26), (⟨"BaredCurtainModel", "fails", "(I)Z"⟩, 26), (⟨"BaredCurtainModel", "number", "(III)Z"⟩, 26), (⟨"BaredCurtainModel", "ends", "()Z"⟩, 26), (⟨"BaredCurtainModel", "readsCloth", "()Z"⟩, 26)]
theorem lw_r2 : ∀ q ∈ lw_privs_2, lw_okq q := List.forall_mem_cons.mpr ⟨lw_p16, List.forall_mem_cons.mpr ⟨lw_p17, List.forall_mem_cons.mpr ⟨lw_p18, List.forall_mem_cons.mpr ⟨lw_p19, List.forall_mem_cons.mpr ⟨lw_p20, List.forall_mem_cons.mpr ⟨lw_p21, List.forall_mem_cons.mpr ⟨lw_p22, List.forall_mem_cons.mpr ⟨lw_p23, List.forall_mem_cons.mpr ⟨lw_p24, List.forall_mem_cons.mpr ⟨lw_p25, List.forall_mem_cons.mpr ⟨lw_p26, List.forall_mem_cons.mpr ⟨lw_p27, List.forall_mem_cons.mpr ⟨lw_p28, List.forall_mem_cons.mpr ⟨lw_p29, List.forall_mem_cons.mpr ⟨lw_p30, List.forall_mem_cons.mpr ⟨lw_p31, fun _ h => absurd h List.not_mem_nil⟩⟩⟩⟩⟩⟩⟩⟩⟩⟩⟩⟩⟩⟩⟩⟩
theorem lw_p32 : lw_okq (⟨"BaredCurtainModel", "readsHole", "()Z"⟩, 26) := ⟨⟨by decide +kernel, by decide +kernel⟩, List.mem_of_getElem? (i := 833) (by decide +kernel), List.mem_of_getElem? (i := 984) (by decide +kernel), List.mem_of_getElem? (i := 985) (by decide +kernel)⟩
theorem lw_p33 : lw_okq (⟨"BaredCurtainModel", "readsActor", "()Z"⟩, 26) := ⟨⟨by decide +kernel, by decide +kernel⟩, List.mem_of_getElem? (i := 833) (by decide +kernel), List.mem_of_getElem? (i := 988) (by decide +kernel), List.mem_of_getElem? (i := 989) (by decide +kernel)⟩
theorem lw_p34 : lw_okq (⟨"BaredCurtainModel", "shown", "([I)I"⟩, 26) := ⟨⟨by decide +kernel, by decide +kernel⟩, List.mem_of_getElem? (i := 833) (by decide +kernel), List.mem_of_getElem? (i := 1000) (by decide +kernel), List.mem_of_getElem? (i := 1001) (by decide +kernel)⟩
theorem lw_p35 : lw_okq (⟨"BaredCurtainModel", "leans", "([I)I"⟩, 26) := ⟨⟨by decide +kernel, by decide +kernel⟩, List.mem_of_getElem? (i := 833) (by decide +kernel), List.mem_of_getElem? (i := 1004) (by decide +kernel), List.mem_of_getElem? (i := 1005) (by decide +kernel)⟩
theorem lw_p36 : lw_okq (⟨"BaredCurtainModel", "cells", "()I"⟩, 26) := ⟨⟨by decide +kernel, by decide +kernel⟩, List.mem_of_getElem? (i := 833) (by decide +kernel), List.mem_of_getElem? (i := 1008) (by decide +kernel), List.mem_of_getElem? (i := 1009) (by decide +kernel)⟩
theorem lw_p37 : lw_okq (⟨"BaredCurtainModel", "sideOf", "(I)I"⟩, 26) := ⟨⟨by decide +kernel, by decide +kernel⟩, List.mem_of_getElem? (i := 833) (by decide +kernel), List.mem_of_getElem? (i := 1012) (by decide +kernel), List.mem_of_getElem? (i := 1013) (by decide +kernel)⟩
theorem lw_p38 : lw_okq (⟨"BaredCurtainModel", "weightOf", "([II)I"⟩, 26) := ⟨⟨by decide +kernel, by decide +kernel⟩, List.mem_of_getElem? (i := 833) (by decide +kernel), List.mem_of_getElem? (i := 1016) (by decide +kernel), List.mem_of_getElem? (i := 1017) (by decide +kernel)⟩
theorem lw_p39 : lw_okq (⟨"BaredCurtainModel", "hangs", "(II)I"⟩, 26) := ⟨⟨by decide +kernel, by decide +kernel⟩, List.mem_of_getElem? (i := 833) (by decide +kernel), List.mem_of_getElem? (i := 1020) (by decide +kernel), List.mem_of_getElem? (i := 1021) (by decide +kernel)⟩
theorem lw_p40 : lw_okq (⟨"BaredCurtainModel", "weight", "([I)I"⟩, 26) := ⟨⟨by decide +kernel, by decide +kernel⟩, List.mem_of_getElem? (i := 833) (by decide +kernel), List.mem_of_getElem? (i := 1027) (by decide +kernel), List.mem_of_getElem? (i := 1028) (by decide +kernel)⟩
theorem lw_p41 : lw_okq (⟨"BaredCurtainModel", "isCell", "(I)Z"⟩, 26) := ⟨⟨by decide +kernel, by decide +kernel⟩, List.mem_of_getElem? (i := 833) (by decide +kernel), List.mem_of_getElem? (i := 1035) (by decide +kernel), List.mem_of_getElem? (i := 1036) (by decide +kernel)⟩
theorem lw_p42 : lw_okq (⟨"BaredCurtainModel", "isActor", "(I)Z"⟩, 26) := ⟨⟨by decide +kernel, by decide +kernel⟩, List.mem_of_getElem? (i := 833) (by decide +kernel), List.mem_of_getElem? (i := 1053) (by decide +kernel), List.mem_of_getElem? (i := 1054) (by decide +kernel)⟩
theorem lw_p43 : lw_okq (⟨"BaredCurtainModel", "refuses", "(I)I"⟩, 26) := ⟨⟨by decide +kernel, by decide +kernel⟩, List.mem_of_getElem? (i := 833) (by decide +kernel), List.mem_of_getElem? (i := 1061) (by decide +kernel), List.mem_of_getElem? (i := 1062) (by decide +kernel)⟩
theorem lw_p44 : lw_okq (⟨"BaredCurtainModel", "remember", "()V"⟩, 26) := ⟨⟨by decide +kernel, by decide +kernel⟩, List.mem_of_getElem? (i := 833) (by decide +kernel), List.mem_of_getElem? (i := 1067) (by decide +kernel), List.mem_of_getElem? (i := 1068) (by decide +kernel)⟩
theorem lw_p45 : lw_okq (⟨"BaredCurtainModel", "nightGoes", "([I)I"⟩, 26) := ⟨⟨by decide +kernel, by decide +kernel⟩, List.mem_of_getElem? (i := 833) (by decide +kernel), List.mem_of_getElem? (i := 1071) (by decide +kernel), List.mem_of_getElem? (i := 1072) (by decide +kernel)⟩
theorem lw_p46 : lw_okq (⟨"BaredCurtainModel", "holeOf", "([II)I"⟩, 26) := ⟨⟨by decide +kernel, by decide +kernel⟩, List.mem_of_getElem? (i := 833) (by decide +kernel), List.mem_of_getElem? (i := 1075) (by decide +kernel), List.mem_of_getElem? (i := 1076) (by decide +kernel)⟩
theorem lw_p47 : lw_okq (⟨"BaredCurtainModel", "draw", "(I)I"⟩, 26) := ⟨⟨by decide +kernel, by decide +kernel⟩, List.mem_of_getElem? (i := 833) (by decide +kernel), List.mem_of_getElem? (i := 1098) (by decide +kernel), List.mem_of_getElem? (i := 1099) (by decide +kernel)⟩
def lw_privs_3 : List (MethodName × Nat) := [(⟨"BaredCurtainModel", "readsHole", "()Z"⟩, 26), (⟨"BaredCurtainModel", "readsActor", "()Z"⟩, 26), (⟨"BaredCurtainModel", "shown", "([I)I"⟩, 26), (⟨"BaredCurtainModel", "leans", "([I)I"⟩, 26), (⟨"BaredCurtainModel", "cells", "()I"⟩, 26), (⟨"BaredCurtainModel", "sideOf", "(I)I"⟩, 26), (⟨"BaredCurtainModel", "weightOf", "([II)I"⟩, 26), (⟨"BaredCurtainModel", "hangs", "(II)I"⟩, 26), (⟨"BaredCurtainModel", "weight", "([I)I"⟩, 26), (⟨"BaredCurtainModel", "isCell", "(I)Z"⟩, 26), (⟨"BaredCurtainModel", "isActor", "(I)Z"⟩, 26), (⟨"BaredCurtainModel", "refuses", "(I)I"⟩, 26), (⟨"BaredCurtainModel", "remember", "()V"⟩, 26), (⟨"BaredCurtainModel", "nightGoes", "([I)I"⟩, 26), (⟨"BaredCurtainModel", "holeOf", "([II)I"⟩, 26), (⟨"BaredCurtainModel", "draw", "(I)I"⟩, 26)]
theorem lw_r3 : ∀ q ∈ lw_privs_3, lw_okq q := List.forall_mem_cons.mpr ⟨lw_p32, List.forall_mem_cons.mpr ⟨lw_p33, List.forall_mem_cons.mpr ⟨lw_p34, List.forall_mem_cons.mpr ⟨lw_p35, List.forall_mem_cons.mpr ⟨lw_p36, List.forall_mem_cons.mpr ⟨lw_p37, List.forall_mem_cons.mpr ⟨lw_p38, List.forall_mem_cons.mpr ⟨lw_p39, List.forall_mem_cons.mpr ⟨lw_p40, List.forall_mem_cons.mpr ⟨lw_p41, List.forall_mem_cons.mpr ⟨lw_p42, List.forall_mem_cons.mpr ⟨lw_p43, List.forall_mem_cons.mpr ⟨lw_p44, List.forall_mem_cons.mpr ⟨lw_p45, List.forall_mem_cons.mpr ⟨lw_p46, List.forall_mem_cons.mpr ⟨lw_p47, fun _ h => absurd h List.not_mem_nil⟩⟩⟩⟩⟩⟩⟩⟩⟩⟩⟩⟩⟩⟩⟩⟩
theorem lw_p48 : lw_okq (⟨"BaredCurtainModel", "layAside", "()V"⟩, 26) := ⟨⟨by decide +kernel, by decide +kernel⟩, List.mem_of_getElem? (i := 833) (by decide +kernel), List.mem_of_getElem? (i := 1114) (by decide +kernel), List.mem_of_getElem? (i := 1115) (by decide +kernel)⟩
theorem lw_p49 : lw_okq (⟨"BaredCurtainModel", "codes", "()I"⟩, 26) := ⟨⟨by decide +kernel, by decide +kernel⟩, List.mem_of_getElem? (i := 833) (by decide +kernel), List.mem_of_getElem? (i := 1127) (by decide +kernel), List.mem_of_getElem? (i := 1128) (by decide +kernel)⟩
theorem lw_p50 : lw_okq (⟨"BaredCurtainModel", "costs", "(III)I"⟩, 26) := ⟨⟨by decide +kernel, by decide +kernel⟩, List.mem_of_getElem? (i := 833) (by decide +kernel), List.mem_of_getElem? (i := 1131) (by decide +kernel), List.mem_of_getElem? (i := 1132) (by decide +kernel)⟩
theorem lw_p51 : lw_okq (⟨"BaredCurtainModel", "takes", "(III)I"⟩, 26) := ⟨⟨by decide +kernel, by decide +kernel⟩, List.mem_of_getElem? (i := 833) (by decide +kernel), List.mem_of_getElem? (i := 1148) (by decide +kernel), List.mem_of_getElem? (i := 1149) (by decide +kernel)⟩
theorem lw_p52 : lw_okq (⟨"BaredCurtainModel", "cuts", "()I"⟩, 26) := ⟨⟨by decide +kernel, by decide +kernel⟩, List.mem_of_getElem? (i := 833) (by decide +kernel), List.mem_of_getElem? (i := 1176) (by decide +kernel), List.mem_of_getElem? (i := 1177) (by decide +kernel)⟩
theorem lw_p53 : lw_okq (⟨"BaredCurtainModel", "shownBy", "(I)I"⟩, 26) := ⟨⟨by decide +kernel, by decide +kernel⟩, List.mem_of_getElem? (i := 833) (by decide +kernel), List.mem_of_getElem? (i := 1180) (by decide +kernel), List.mem_of_getElem? (i := 1181) (by decide +kernel)⟩
def lw_privs_4 : List (MethodName × Nat) := [(⟨"BaredCurtainModel", "layAside", "()V"⟩, 26), (⟨"BaredCurtainModel", "codes", "()I"⟩, 26), (⟨"BaredCurtainModel", "costs", "(III)I"⟩, 26), (⟨"BaredCurtainModel", "takes", "(III)I"⟩, 26), (⟨"BaredCurtainModel", "cuts", "()I"⟩, 26), (⟨"BaredCurtainModel", "shownBy", "(I)I"⟩, 26)]
theorem lw_r4 : ∀ q ∈ lw_privs_4, lw_okq q := List.forall_mem_cons.mpr ⟨lw_p48, List.forall_mem_cons.mpr ⟨lw_p49, List.forall_mem_cons.mpr ⟨lw_p50, List.forall_mem_cons.mpr ⟨lw_p51, List.forall_mem_cons.mpr ⟨lw_p52, List.forall_mem_cons.mpr ⟨lw_p53, fun _ h => absurd h List.not_mem_nil⟩⟩⟩⟩⟩⟩
def lw_privs : List (MethodName × Nat) := lw_privs_1 ++ (lw_privs_2 ++ (lw_privs_3 ++ (lw_privs_4)))
def lw_tbl : List Cond := k2_sels lw_privs ++ tables_1
theorem lw_privs_ok : ∀ q ∈ lw_privs, lw_okq q := by
  show ∀ q ∈ lw_privs_1 ++ (lw_privs_2 ++ (lw_privs_3 ++ (lw_privs_4))), lw_okq q
  exact List.forall_mem_append.mpr ⟨lw_r1, List.forall_mem_append.mpr ⟨lw_r2, List.forall_mem_append.mpr ⟨lw_r3, lw_r4⟩⟩⟩

def TX0 : u_T := fun k => match k with
  | 0 => ("BaredCurtain$History", "size", "I", false)
  | 1 => ("BaredCurtain$History", "scenes", "[I", true)
  | _ => ("BaredCurtain$History", "newest", "I", false)
def tyX0 : Nat → FieldType := fun k => match k with
  | 0 => .int
  | 1 => .array .int
  | _ => .int
theorem nmX0 : ∀ a, a < 3 → ∀ b, b < 3 → a ≠ b → (TX0 a).2.1 ≠ (TX0 b).2.1 := by decide +kernel
theorem tyX0_ok : ∀ k, k < 3 → parseFieldDescriptor (TX0 k).2.2.1 = some (tyX0 k) := by decide +kernel
def TX1 : u_T := fun k => match k with
  | 0 => ("BaredCurtain$House", "width", "I", false)
  | 1 => ("BaredCurtain$House", "rows", "I", false)
  | 2 => ("BaredCurtain$House", "actors", "I", false)
  | 3 => ("BaredCurtain$House", "weights", "[I", true)
  | 4 => ("BaredCurtain$House", "likings", "[I", true)
  | 5 => ("BaredCurtain$House", "minutes", "[I", true)
  | _ => ("BaredCurtain$House", "heights", "[I", true)
def tyX1 : Nat → FieldType := fun k => match k with
  | 0 => .int
  | 1 => .int
  | 2 => .int
  | 3 => .array .int
  | 4 => .array .int
  | 5 => .array .int
  | _ => .array .int
theorem nmX1 : ∀ a, a < 7 → ∀ b, b < 7 → a ≠ b → (TX1 a).2.1 ≠ (TX1 b).2.1 := by decide +kernel
theorem tyX1_ok : ∀ k, k < 7 → parseFieldDescriptor (TX1 k).2.2.1 = some (tyX1 k) := by decide +kernel
def TX2 : u_T := fun k => match k with
  | 0 => ("BaredCurtain$Images", "scenes", "[I", true)
  | 1 => ("BaredCurtain$Images", "seeds", "[I", true)
  | _ => ("BaredCurtain$Images", "stored", "I", false)
def tyX2 : Nat → FieldType := fun k => match k with
  | 0 => .array .int
  | 1 => .array .int
  | _ => .int
theorem nmX2 : ∀ a, a < 3 → ∀ b, b < 3 → a ≠ b → (TX2 a).2.1 ≠ (TX2 b).2.1 := by decide +kernel
theorem tyX2_ok : ∀ k, k < 3 → parseFieldDescriptor (TX2 k).2.2.1 = some (tyX2 k) := by decide +kernel
def TX3 : u_T := fun k => match k with
  | 0 => ("BaredCurtain$Notes", "seen", "I", false)
  | 1 => ("BaredCurtain$Notes", "entries", "I", false)
  | 2 => ("BaredCurtain$Notes", "seenActors", "[I", true)
  | 3 => ("BaredCurtain$Notes", "seenShown", "[I", true)
  | 4 => ("BaredCurtain$Notes", "entryActors", "[I", true)
  | _ => ("BaredCurtain$Notes", "entryPieces", "[I", true)
def tyX3 : Nat → FieldType := fun k => match k with
  | 0 => .int
  | 1 => .int
  | 2 => .array .int
  | 3 => .array .int
  | 4 => .array .int
  | _ => .array .int
theorem nmX3 : ∀ a, a < 6 → ∀ b, b < 6 → a ≠ b → (TX3 a).2.1 ≠ (TX3 b).2.1 := by decide +kernel
theorem tyX3_ok : ∀ k, k < 6 → parseFieldDescriptor (TX3 k).2.2.1 = some (tyX3 k) := by decide +kernel
def TX4 : u_T := fun k => match k with
  | 0 => ("BaredCurtain$Placing", "fewest", "I", false)
  | 1 => ("BaredCurtain$Placing", "best", "[I", true)
  | 2 => ("BaredCurtain$Placing", "columns", "[I", true)
  | 3 => ("BaredCurtain$Placing", "holesOf", "[I", true)
  | _ => ("BaredCurtain$Placing", "trial", "LBaredCurtain$Scene;", true)
def tyX4 : Nat → FieldType := fun k => match k with
  | 0 => .int
  | 1 => .array .int
  | 2 => .array .int
  | 3 => .array .int
  | _ => .object "BaredCurtain$Scene"
theorem nmX4 : ∀ a, a < 5 → ∀ b, b < 5 → a ≠ b → (TX4 a).2.1 ≠ (TX4 b).2.1 := by decide +kernel
theorem tyX4_ok : ∀ k, k < 5 → parseFieldDescriptor (TX4 k).2.2.1 = some (tyX4 k) := by decide +kernel
def TX5 : u_T := fun k => match k with
  | 0 => ("BaredCurtain$Reader", "house", "LBaredCurtain$House;", true)
  | 1 => ("BaredCurtain$Reader", "scene", "LBaredCurtain$Scene;", true)
  | 2 => ("BaredCurtain$Reader", "length", "I", false)
  | 3 => ("BaredCurtain$Reader", "faultAt", "I", false)
  | 4 => ("BaredCurtain$Reader", "letters", "[I", true)
  | 5 => ("BaredCurtain$Reader", "next", "I", false)
  | 6 => ("BaredCurtain$Reader", "faultKind", "I", false)
  | 7 => ("BaredCurtain$Reader", "toldCloths", "I", false)
  | _ => ("BaredCurtain$Reader", "numberAt", "I", false)
def tyX5 : Nat → FieldType := fun k => match k with
  | 0 => .object "BaredCurtain$House"
  | 1 => .object "BaredCurtain$Scene"
  | 2 => .int
  | 3 => .int
  | 4 => .array .int
  | 5 => .int
  | 6 => .int
  | 7 => .int
  | _ => .int
theorem nmX5 : ∀ a, a < 9 → ∀ b, b < 9 → a ≠ b → (TX5 a).2.1 ≠ (TX5 b).2.1 := by decide +kernel
theorem tyX5_ok : ∀ k, k < 9 → parseFieldDescriptor (TX5 k).2.2.1 = some (tyX5 k) := by decide +kernel
def TX6 : u_T := fun k => match k with
  | _ => ("BaredCurtain$Scene", "row", "[I", true)
def tyX6 : Nat → FieldType := fun k => match k with
  | _ => .array .int
theorem nmX6 : ∀ a, a < 1 → ∀ b, b < 1 → a ≠ b → (TX6 a).2.1 ≠ (TX6 b).2.1 := by decide +kernel
theorem tyX6_ok : ∀ k, k < 1 → parseFieldDescriptor (TX6 k).2.2.1 = some (tyX6 k) := by decide +kernel
def TX7 : u_T := fun k => match k with
  | 0 => ("BaredCurtain$Sewing", "patches", "[I", true)
  | 1 => ("BaredCurtain$Sewing", "byOne", "[I", true)
  | 2 => ("BaredCurtain$Sewing", "byAll", "[I", true)
  | _ => ("BaredCurtain$Sewing", "count", "I", false)
def tyX7 : Nat → FieldType := fun k => match k with
  | 0 => .array .int
  | 1 => .array .int
  | 2 => .array .int
  | _ => .int
theorem nmX7 : ∀ a, a < 4 → ∀ b, b < 4 → a ≠ b → (TX7 a).2.1 ≠ (TX7 b).2.1 := by decide +kernel
theorem tyX7_ok : ∀ k, k < 4 → parseFieldDescriptor (TX7 k).2.2.1 = some (tyX7 k) := by decide +kernel
def TX8 : u_T := fun k => match k with
  | 0 => ("BaredCurtain", "house", "LBaredCurtain$House;", true)
  | 1 => ("BaredCurtain", "scene", "LBaredCurtain$Scene;", true)
  | 2 => ("BaredCurtain", "trial", "LBaredCurtain$Scene;", true)
  | 3 => ("BaredCurtain", "reader", "LBaredCurtain$Reader;", true)
  | 4 => ("BaredCurtain", "history", "LBaredCurtain$History;", true)
  | 5 => ("BaredCurtain", "images", "LBaredCurtain$Images;", true)
  | 6 => ("BaredCurtain", "notes", "LBaredCurtain$Notes;", true)
  | 7 => ("BaredCurtain", "placing", "LBaredCurtain$Placing;", true)
  | 8 => ("BaredCurtain", "tailors", "LBaredCurtain$Sewing;", true)
  | 9 => ("BaredCurtain", "latestFault", "I", false)
  | _ => ("BaredCurtain", "drawn", "I", false)
def tyX8 : Nat → FieldType := fun k => match k with
  | 0 => .object "BaredCurtain$House"
  | 1 => .object "BaredCurtain$Scene"
  | 2 => .object "BaredCurtain$Scene"
  | 3 => .object "BaredCurtain$Reader"
  | 4 => .object "BaredCurtain$History"
  | 5 => .object "BaredCurtain$Images"
  | 6 => .object "BaredCurtain$Notes"
  | 7 => .object "BaredCurtain$Placing"
  | 8 => .object "BaredCurtain$Sewing"
  | 9 => .int
  | _ => .int
theorem nmX8 : ∀ a, a < 11 → ∀ b, b < 11 → a ≠ b → (TX8 a).2.1 ≠ (TX8 b).2.1 := by decide +kernel
theorem tyX8_ok : ∀ k, k < 11 → parseFieldDescriptor (TX8 k).2.2.1 = some (tyX8 k) := by decide +kernel
def TX9 : u_T := fun k => match k with
  | 0 => ("BaredCurtainModel", "house", "[I", true)
  | 1 => ("BaredCurtainModel", "read", "[I", true)
  | 2 => ("BaredCurtainModel", "now", "[I", true)
  | 3 => ("BaredCurtainModel", "aside", "[I", true)
  | 4 => ("BaredCurtainModel", "past", "[I", true)
  | 5 => ("BaredCurtainModel", "undos", "I", false)
  | 6 => ("BaredCurtainModel", "images", "[I", true)
  | 7 => ("BaredCurtainModel", "kept", "[Z", true)
  | 8 => ("BaredCurtainModel", "seed", "J", false)
  | 9 => ("BaredCurtainModel", "text", "[I", true)
  | 10 => ("BaredCurtainModel", "size", "I", false)
  | 11 => ("BaredCurtainModel", "fault", "I", false)
  | 12 => ("BaredCurtainModel", "sights", "[I", true)
  | 13 => ("BaredCurtainModel", "sightMany", "I", false)
  | 14 => ("BaredCurtainModel", "book", "[I", true)
  | 15 => ("BaredCurtainModel", "bookMany", "I", false)
  | 16 => ("BaredCurtainModel", "at", "I", false)
  | 17 => ("BaredCurtainModel", "begin", "I", false)
  | 18 => ("BaredCurtainModel", "sign", "I", false)
  | 19 => ("BaredCurtainModel", "figures", "I", false)
  | 20 => ("BaredCurtainModel", "value", "I", false)
  | 21 => ("BaredCurtainModel", "wrong", "I", false)
  | 22 => ("BaredCurtainModel", "columns", "[I", true)
  | 23 => ("BaredCurtainModel", "best", "[I", true)
  | 24 => ("BaredCurtainModel", "minutes", "[I", true)
  | _ => ("BaredCurtainModel", "loads", "[I", true)
def tyX9 : Nat → FieldType := fun k => match k with
  | 0 => .array .int
  | 1 => .array .int
  | 2 => .array .int
  | 3 => .array .int
  | 4 => .array .int
  | 5 => .int
  | 6 => .array .int
  | 7 => .array .boolean
  | 8 => .long
  | 9 => .array .int
  | 10 => .int
  | 11 => .int
  | 12 => .array .int
  | 13 => .int
  | 14 => .array .int
  | 15 => .int
  | 16 => .int
  | 17 => .int
  | 18 => .int
  | 19 => .int
  | 20 => .int
  | 21 => .int
  | 22 => .array .int
  | 23 => .array .int
  | 24 => .array .int
  | _ => .array .int
theorem nmX9 : ∀ a, a < 26 → ∀ b, b < 26 → a ≠ b → (TX9 a).2.1 ≠ (TX9 b).2.1 := by decide +kernel
theorem tyX9_ok : ∀ k, k < 26 → parseFieldDescriptor (TX9 k).2.2.1 = some (tyX9 k) := by decide +kernel
abbrev xCl : List vw_C := [("BaredCurtain$History", TX0, 3), ("BaredCurtain$House", TX1, 7), ("BaredCurtain$Images", TX2, 3), ("BaredCurtain$Notes", TX3, 6), ("BaredCurtain$Placing", TX4, 5), ("BaredCurtain$Reader", TX5, 9), ("BaredCurtain$Scene", TX6, 1), ("BaredCurtain$Sewing", TX7, 4), ("BaredCurtain", TX8, 11), ("BaredCurtainModel", TX9, 26)]
def xTy : Nat → Nat → FieldType := fun c => match c with
  | 0 => tyX0
  | 1 => tyX1
  | 2 => tyX2
  | 3 => tyX3
  | 4 => tyX4
  | 5 => tyX5
  | 6 => tyX6
  | 7 => tyX7
  | 8 => tyX8
  | _ => tyX9
/-- a method: name, code, locals, answer, frames and words below it, kind (0 static, 1 instance, 2 constructor), places of its words: code, initialized, static or instanceMethod, selects -/
abbrev xMi : Type := MethodName × ByteArray × Nat × Option FieldType × Nat × Nat × Nat × Nat × Nat × Nat × Nat
def xMs_0 : List xMi := [
  (⟨"BaredCurtain$History", "<init>", "()V"⟩, prog_2_method_1_code, 1, none, 1, 26, 2, 190, 59, 189, 0),
  (⟨"BaredCurtain$History", "clear", "()V"⟩, prog_2_method_2_code, 1, none, 1, 26, 1, 468, 59, 466, 467),
  (⟨"BaredCurtain$History", "remember", "(LBaredCurtain$Scene;)V"⟩, prog_2_method_3_code, 2, none, 2, 47, 1, 619, 59, 617, 618),
  (⟨"BaredCurtain$History", "takeBack", "(LBaredCurtain$Scene;)Z"⟩, prog_2_method_4_code, 2, (some .boolean), 1, 26, 1, 689, 59, 687, 688),
  (⟨"BaredCurtain$House", "<init>", "()V"⟩, prog_3_method_1_code, 1, none, 4, 93, 2, 80, 56, 79, 0),
  (⟨"BaredCurtain$House", "clear", "()V"⟩, prog_3_method_2_code, 2, none, 3, 72, 1, 85, 56, 83, 84),
  (⟨"BaredCurtain$House", "become", "(LBaredCurtain$House;)V"⟩, prog_3_method_3_code, 3, none, 3, 72, 1, 437, 56, 435, 436),
  (⟨"BaredCurtain$House", "tellCloth", "(IIII)V"⟩, prog_3_method_4_code, 5, none, 2, 48, 1, 89, 56, 87, 88),
  (⟨"BaredCurtain$House", "tellHeight", "(II)V"⟩, prog_3_method_5_code, 3, none, 2, 48, 1, 96, 56, 94, 95),
  (⟨"BaredCurtain$House", "weightOf", "(I)I"⟩, prog_3_method_6_code, 2, (some .int), 1, 26, 1, 441, 56, 439, 440),
  (⟨"BaredCurtain$House", "likingOf", "(I)I"⟩, prog_3_method_7_code, 2, (some .int), 1, 26, 1, 445, 56, 443, 444),
  (⟨"BaredCurtain$House", "minutesOf", "(I)I"⟩, prog_3_method_8_code, 2, (some .int), 1, 26, 1, 449, 56, 447, 448),
  (⟨"BaredCurtain$House", "heightOf", "(I)I"⟩, prog_3_method_9_code, 2, (some .int), 1, 26, 1, 453, 56, 451, 452),
  (⟨"BaredCurtain$House", "cells", "()I"⟩, prog_3_method_10_code, 1, (some .int), 1, 26, 1, 408, 56, 406, 407),
  (⟨"BaredCurtain$House", "hasCell", "(I)Z"⟩, prog_3_method_11_code, 2, (some .boolean), 2, 48, 1, 553, 56, 551, 552),
  (⟨"BaredCurtain$House", "hasColumn", "(I)Z"⟩, prog_3_method_12_code, 2, (some .boolean), 2, 48, 1, 659, 56, 657, 658),
  (⟨"BaredCurtain$House", "hasActor", "(I)Z"⟩, prog_3_method_13_code, 2, (some .boolean), 2, 48, 1, 593, 56, 591, 592),
  (⟨"BaredCurtain$House", "cellAt", "(II)I"⟩, prog_3_method_14_code, 3, (some .int), 1, 26, 1, 498, 56, 496, 497),
  (⟨"BaredCurtain$House", "columnOfCell", "(I)I"⟩, prog_3_method_15_code, 2, (some .int), 1, 26, 1, 574, 56, 572, 573),
  (⟨"BaredCurtain$House", "rowOfCell", "(I)I"⟩, prog_3_method_16_code, 2, (some .int), 1, 26, 1, 570, 56, 568, 569),
  (⟨"BaredCurtain$House", "sideOf", "(I)I"⟩, prog_3_method_17_code, 2, (some .int), 2, 47, 1, 508, 56, 506, 507),
  (⟨"BaredCurtain$House", "hangsIn", "(II)I"⟩, prog_3_method_18_code, 3, (some .int), 3, 68, 1, 566, 56, 564, 565),
  (⟨"BaredCurtain$House", "placings", "()I"⟩, prog_3_method_19_code, 3, (some .int), 1, 26, 1, 717, 56, 715, 716),
  (⟨"BaredCurtain$Images", "<init>", "()V"⟩, prog_4_method_1_code, 1, none, 1, 26, 2, 207, 60, 206, 0),
  (⟨"BaredCurtain$Images", "clear", "()V"⟩, prog_4_method_2_code, 1, none, 1, 26, 1, 472, 60, 470, 471),
  (⟨"BaredCurtain$Images", "isStored", "(I)Z"⟩, prog_4_method_3_code, 2, (some .boolean), 2, 47, 1, 875, 60, 873, 874),
  (⟨"BaredCurtain$Images", "store", "(ILBaredCurtain$Scene;I)V"⟩, prog_4_method_4_code, 4, none, 2, 48, 1, 864, 60, 862, 863),
  (⟨"BaredCurtain$Images", "fetch", "(ILBaredCurtain$Scene;)V"⟩, prog_4_method_5_code, 3, none, 2, 48, 1, 880, 60, 878, 879),
  (⟨"BaredCurtain$Images", "seedOf", "(I)I"⟩, prog_4_method_6_code, 2, (some .int), 2, 47, 1, 884, 60, 882, 883),
  (⟨"BaredCurtain$Notes", "<init>", "()V"⟩, prog_5_method_1_code, 1, none, 1, 26, 2, 223, 61, 222, 0)]
def xMs_1 : List xMi := [
  (⟨"BaredCurtain$Notes", "clear", "()V"⟩, prog_5_method_2_code, 1, none, 1, 26, 1, 464, 61, 462, 463),
  (⟨"BaredCurtain$Notes", "addSeen", "(IZ)Z"⟩, prog_5_method_3_code, 3, (some .boolean), 2, 48, 1, 806, 61, 804, 805),
  (⟨"BaredCurtain$Notes", "addEntry", "(II)Z"⟩, prog_5_method_4_code, 3, (some .boolean), 2, 48, 1, 839, 61, 837, 838),
  (⟨"BaredCurtain$Notes", "fitCut", "(LBaredCurtain$House;LBaredCurtain$Scene;I)Z"⟩, prog_5_method_5_code, 5, (some .boolean), 5, 119, 1, 815, 61, 813, 814),
  (⟨"BaredCurtain$Notes", "firstWrong", "(LBaredCurtain$Scene;)I"⟩, prog_5_method_6_code, 3, (some .int), 2, 47, 1, 851, 61, 849, 850),
  (⟨"BaredCurtain$Placing", "<init>", "()V"⟩, prog_6_method_1_code, 1, none, 2, 46, 2, 250, 62, 249, 0),
  (⟨"BaredCurtain$Placing", "search", "(LBaredCurtain$House;LBaredCurtain$Scene;II)V"⟩, prog_6_method_2_code, 8, none, 7, 170, 1, 705, 62, 703, 704),
  (⟨"BaredCurtain$Placing", "countHoles", "(LBaredCurtain$House;LBaredCurtain$Scene;)V"⟩, prog_6_method_3_code, 6, none, 2, 48, 1, 710, 62, 709, 16),
  (⟨"BaredCurtain$Placing", "hasEnough", "(LBaredCurtain$House;LBaredCurtain$Scene;)Z"⟩, prog_6_method_4_code, 6, (some .boolean), 2, 47, 1, 721, 62, 720, 17),
  (⟨"BaredCurtain$Placing", "baredUntilWhole", "(LBaredCurtain$House;LBaredCurtain$Scene;II)I"⟩, prog_6_method_5_code, 9, (some .int), 6, 142, 1, 727, 62, 726, 18),
  (⟨"BaredCurtain$Placing", "advance", "(LBaredCurtain$House;)V"⟩, prog_6_method_6_code, 4, none, 2, 48, 1, 737, 62, 736, 19),
  (⟨"BaredCurtain$Reader", "<init>", "()V"⟩, prog_7_method_1_code, 1, none, 5, 113, 2, 148, 58, 147, 0),
  (⟨"BaredCurtain$Reader", "append", "(I)Z"⟩, prog_7_method_2_code, 2, (some .boolean), 2, 48, 1, 333, 58, 331, 332),
  (⟨"BaredCurtain$Reader", "empty", "()V"⟩, prog_7_method_3_code, 1, none, 1, 26, 1, 433, 58, 431, 432),
  (⟨"BaredCurtain$Reader", "read", "()I"⟩, prog_7_method_4_code, 2, (some .int), 7, 159, 1, 343, 58, 341, 342),
  (⟨"BaredCurtain$Reader", "readClause", "(Z)V"⟩, prog_7_method_5_code, 3, none, 6, 137, 1, 363, 58, 362, 2),
  (⟨"BaredCurtain$Reader", "readCurtain", "(Z)V"⟩, prog_7_method_6_code, 5, none, 5, 112, 1, 371, 58, 370, 4),
  (⟨"BaredCurtain$Reader", "readCloth", "()V"⟩, prog_7_method_7_code, 5, none, 5, 112, 1, 396, 58, 395, 7),
  (⟨"BaredCurtain$Reader", "readHole", "()V"⟩, prog_7_method_8_code, 2, none, 5, 112, 1, 404, 58, 403, 8),
  (⟨"BaredCurtain$Reader", "readActor", "()V"⟩, prog_7_method_9_code, 6, none, 5, 112, 1, 420, 58, 419, 9),
  (⟨"BaredCurtain$Reader", "number", "(II)I"⟩, prog_7_method_10_code, 5, (some .int), 4, 88, 1, 375, 58, 374, 5),
  (⟨"BaredCurtain$Reader", "readEnd", "()V"⟩, prog_7_method_11_code, 1, none, 4, 88, 1, 388, 58, 387, 6),
  (⟨"BaredCurtain$Reader", "skipBlanks", "()V"⟩, prog_7_method_12_code, 2, none, 3, 67, 1, 352, 58, 351, 0),
  (⟨"BaredCurtain$Reader", "letter", "()I"⟩, prog_7_method_13_code, 1, (some .int), 2, 47, 1, 356, 58, 355, 1),
  (⟨"BaredCurtain$Reader", "isFigure", "(I)Z"⟩, prog_7_method_14_code, 1, (some .boolean), 1, 26, 0, 378, 58, 377, 0),
  (⟨"BaredCurtain$Reader", "fail", "(II)V"⟩, prog_7_method_15_code, 3, none, 1, 26, 1, 367, 58, 366, 3),
  (⟨"BaredCurtain$Scene", "<init>", "()V"⟩, prog_8_method_1_code, 1, none, 1, 26, 2, 136, 57, 135, 0),
  (⟨"BaredCurtain$Scene", "clear", "()V"⟩, prog_8_method_2_code, 2, none, 1, 26, 1, 348, 57, 346, 347),
  (⟨"BaredCurtain$Scene", "become", "(LBaredCurtain$Scene;)V"⟩, prog_8_method_3_code, 2, none, 1, 26, 1, 457, 57, 455, 456),
  (⟨"BaredCurtain$Scene", "holes", "()I"⟩, prog_8_method_4_code, 1, (some .int), 1, 26, 1, 412, 57, 410, 411)]
def xMs_2 : List xMi := [
  (⟨"BaredCurtain$Scene", "nights", "()I"⟩, prog_8_method_5_code, 1, (some .int), 1, 26, 1, 484, 57, 482, 483),
  (⟨"BaredCurtain$Scene", "clothAt", "(I)I"⟩, prog_8_method_6_code, 2, (some .int), 1, 26, 1, 503, 57, 501, 502),
  (⟨"BaredCurtain$Scene", "patchesAt", "(I)I"⟩, prog_8_method_7_code, 2, (some .int), 1, 26, 1, 562, 57, 560, 561),
  (⟨"BaredCurtain$Scene", "columnOf", "(I)I"⟩, prog_8_method_8_code, 2, (some .int), 1, 26, 1, 519, 57, 517, 518),
  (⟨"BaredCurtain$Scene", "wornBy", "(I)I"⟩, prog_8_method_9_code, 2, (some .int), 1, 26, 1, 599, 57, 597, 598),
  (⟨"BaredCurtain$Scene", "piecesOf", "(I)I"⟩, prog_8_method_10_code, 2, (some .int), 1, 26, 1, 603, 57, 601, 602),
  (⟨"BaredCurtain$Scene", "baredOf", "(I)I"⟩, prog_8_method_11_code, 2, (some .int), 1, 26, 1, 529, 57, 527, 528),
  (⟨"BaredCurtain$Scene", "baredInAll", "()I"⟩, prog_8_method_12_code, 3, (some .int), 2, 47, 1, 525, 57, 523, 524),
  (⟨"BaredCurtain$Scene", "hangAllOf", "(I)V"⟩, prog_8_method_13_code, 3, none, 1, 26, 1, 392, 57, 390, 391),
  (⟨"BaredCurtain$Scene", "open", "(I)V"⟩, prog_8_method_14_code, 2, none, 1, 26, 1, 416, 57, 414, 415),
  (⟨"BaredCurtain$Scene", "place", "(II)V"⟩, prog_8_method_15_code, 3, none, 1, 26, 1, 425, 57, 423, 424),
  (⟨"BaredCurtain$Scene", "clothe", "(III)V"⟩, prog_8_method_16_code, 4, none, 1, 26, 1, 429, 57, 427, 428),
  (⟨"BaredCurtain$Scene", "weight", "(LBaredCurtain$House;)I"⟩, prog_8_method_17_code, 4, (some .int), 2, 47, 1, 537, 57, 535, 536),
  (⟨"BaredCurtain$Scene", "late", "(LBaredCurtain$House;)I"⟩, prog_8_method_18_code, 2, (some .int), 3, 70, 1, 533, 57, 531, 532),
  (⟨"BaredCurtain$Scene", "leansWith", "(LBaredCurtain$House;I)I"⟩, prog_8_method_19_code, 8, (some .int), 3, 68, 1, 494, 57, 492, 493),
  (⟨"BaredCurtain$Scene", "leansNow", "(LBaredCurtain$House;)I"⟩, prog_8_method_20_code, 2, (some .int), 4, 95, 1, 545, 57, 543, 544),
  (⟨"BaredCurtain$Scene", "shownNow", "(LBaredCurtain$House;)I"⟩, prog_8_method_21_code, 5, (some .int), 4, 95, 1, 489, 57, 487, 488),
  (⟨"BaredCurtain$Scene", "isShownByLone", "(LBaredCurtain$House;II)Z"⟩, prog_8_method_22_code, 5, (some .boolean), 4, 95, 1, 820, 57, 818, 819),
  (⟨"BaredCurtain$Scene", "playNight", "(LBaredCurtain$House;)I"⟩, prog_8_method_23_code, 4, (some .int), 5, 119, 1, 625, 57, 623, 624),
  (⟨"BaredCurtain$Scene", "lowestHole", "(LBaredCurtain$House;I)I"⟩, prog_8_method_24_code, 4, (some .int), 2, 48, 1, 635, 57, 633, 634),
  (⟨"BaredCurtain$Scene", "isManned", "(LBaredCurtain$House;I)Z"⟩, prog_8_method_25_code, 4, (some .boolean), 2, 47, 1, 751, 57, 749, 750),
  (⟨"BaredCurtain$Scene", "isShown", "(LBaredCurtain$House;III)Z"⟩, prog_8_method_26_code, 8, (some .boolean), 3, 68, 1, 515, 57, 514, 10),
  (⟨"BaredCurtain$Scene", "mendOrBare", "(LBaredCurtain$House;I)V"⟩, prog_8_method_27_code, 4, none, 3, 71, 1, 630, 57, 629, 12),
  (⟨"BaredCurtain$Scene", "patch", "(II)V"⟩, prog_8_method_28_code, 3, none, 1, 26, 1, 640, 57, 639, 13),
  (⟨"BaredCurtain$Sewing", "<init>", "()V"⟩, prog_9_method_1_code, 1, none, 1, 26, 2, 276, 63, 275, 0),
  (⟨"BaredCurtain$Sewing", "take", "(LBaredCurtain$House;LBaredCurtain$Scene;)V"⟩, prog_9_method_2_code, 4, none, 2, 48, 1, 759, 63, 757, 758),
  (⟨"BaredCurtain$Sewing", "fewestMinutes", "(I)I"⟩, prog_9_method_3_code, 5, (some .int), 3, 72, 1, 769, 63, 767, 768),
  (⟨"BaredCurtain$Sewing", "minutesByOne", "(I)I"⟩, prog_9_method_4_code, 4, (some .int), 2, 47, 1, 773, 63, 772, 20),
  (⟨"BaredCurtain$Sewing", "addTailor", "(I)V"⟩, prog_9_method_5_code, 5, none, 2, 48, 1, 778, 63, 777, 21),
  (⟨"BaredCurtain", "<init>", "()V"⟩, prog_1_method_1_code, 1, none, 6, 133, 2, 72, 55, 71, 0)]
def xMs_3 : List xMi := [
  (⟨"BaredCurtain", "feed", "(I)I"⟩, prog_1_method_2_code, 2, (some .int), 3, 69, 1, 328, 55, 326, 327),
  (⟨"BaredCurtain", "house", "()I"⟩, prog_1_method_3_code, 2, (some .int), 8, 180, 1, 339, 55, 337, 338),
  (⟨"BaredCurtain", "fault", "()I"⟩, prog_1_method_4_code, 1, (some .int), 1, 26, 1, 476, 55, 474, 475),
  (⟨"BaredCurtain", "told", "(I)I"⟩, prog_1_method_5_code, 2, (some .int), 5, 119, 1, 480, 55, 478, 479),
  (⟨"BaredCurtain", "cell", "(II)I"⟩, prog_1_method_6_code, 3, (some .int), 5, 116, 1, 549, 55, 547, 548),
  (⟨"BaredCurtain", "cloth", "(II)I"⟩, prog_1_method_7_code, 3, (some .int), 2, 47, 1, 579, 55, 577, 578),
  (⟨"BaredCurtain", "actor", "(II)I"⟩, prog_1_method_8_code, 3, (some .int), 3, 69, 1, 589, 55, 587, 588),
  (⟨"BaredCurtain", "night", "(I)I"⟩, prog_1_method_9_code, 5, (some .int), 6, 142, 1, 608, 55, 606, 607),
  (⟨"BaredCurtain", "cut", "(I)I"⟩, prog_1_method_10_code, 2, (some .int), 3, 69, 1, 644, 55, 642, 643),
  (⟨"BaredCurtain", "go", "(II)I"⟩, prog_1_method_11_code, 4, (some .int), 3, 69, 1, 655, 55, 653, 654),
  (⟨"BaredCurtain", "dress", "(III)I"⟩, prog_1_method_12_code, 5, (some .int), 3, 69, 1, 664, 55, 662, 663),
  (⟨"BaredCurtain", "drift", "(I)I"⟩, prog_1_method_13_code, 4, (some .int), 6, 142, 1, 669, 55, 667, 668),
  (⟨"BaredCurtain", "undo", "()I"⟩, prog_1_method_14_code, 1, (some .int), 2, 47, 1, 685, 55, 683, 684),
  (⟨"BaredCurtain", "who", "(I)I"⟩, prog_1_method_15_code, 3, (some .int), 6, 142, 1, 693, 55, 691, 692),
  (⟨"BaredCurtain", "wholeBy", "()I"⟩, prog_1_method_16_code, 2, (some .int), 6, 142, 1, 697, 55, 695, 696),
  (⟨"BaredCurtain", "stands", "(III)I"⟩, prog_1_method_17_code, 4, (some .int), 8, 197, 1, 701, 55, 699, 700),
  (⟨"BaredCurtain", "hidden", "()I"⟩, prog_1_method_18_code, 4, (some .int), 5, 116, 1, 742, 55, 740, 741),
  (⟨"BaredCurtain", "cannot", "()I"⟩, prog_1_method_19_code, 3, (some .int), 3, 71, 1, 746, 55, 744, 745),
  (⟨"BaredCurtain", "sewing", "(I)I"⟩, prog_1_method_20_code, 2, (some .int), 4, 96, 1, 755, 55, 753, 754),
  (⟨"BaredCurtain", "least", "(II)I"⟩, prog_1_method_21_code, 6, (some .int), 3, 70, 1, 786, 55, 784, 785),
  (⟨"BaredCurtain", "moths", "()I"⟩, prog_1_method_22_code, 5, (some .int), 2, 47, 1, 792, 55, 790, 791),
  (⟨"BaredCurtain", "thread", "(II)I"⟩, prog_1_method_23_code, 6, (some .int), 2, 48, 1, 796, 55, 794, 795),
  (⟨"BaredCurtain", "see", "(IZ)I"⟩, prog_1_method_24_code, 3, (some .int), 3, 70, 1, 802, 55, 800, 801),
  (⟨"BaredCurtain", "wasCut", "()I"⟩, prog_1_method_25_code, 3, (some .int), 6, 143, 1, 811, 55, 809, 810),
  (⟨"BaredCurtain", "watch", "()I"⟩, prog_1_method_26_code, 6, (some .int), 7, 165, 1, 824, 55, 822, 823),
  (⟨"BaredCurtain", "write", "(II)I"⟩, prog_1_method_27_code, 3, (some .int), 3, 70, 1, 835, 55, 833, 834),
  (⟨"BaredCurtain", "tear", "()I"⟩, prog_1_method_28_code, 2, (some .int), 2, 46, 1, 843, 55, 841, 842),
  (⟨"BaredCurtain", "judge", "()I"⟩, prog_1_method_29_code, 1, (some .int), 3, 69, 1, 847, 55, 845, 846),
  (⟨"BaredCurtain", "seed", "(I)I"⟩, prog_1_method_30_code, 3, (some .int), 1, 26, 1, 856, 55, 854, 855),
  (⟨"BaredCurtain", "keep", "(I)I"⟩, prog_1_method_31_code, 2, (some .int), 3, 71, 1, 860, 55, 858, 859)]
def xMs_4 : List xMi := [
  (⟨"BaredCurtain", "goBack", "(I)I"⟩, prog_1_method_32_code, 2, (some .int), 3, 70, 1, 871, 55, 869, 870),
  (⟨"BaredCurtain", "refusalOfNights", "(I)I"⟩, prog_1_method_33_code, 2, (some .int), 2, 48, 1, 612, 55, 611, 11),
  (⟨"BaredCurtain", "letMothsIn", "()V"⟩, prog_1_method_34_code, 3, none, 2, 47, 1, 673, 55, 672, 14),
  (⟨"BaredCurtain", "draw", "(I)I"⟩, prog_1_method_35_code, 2, (some .int), 1, 26, 1, 677, 55, 676, 15),
  (⟨"BaredCurtain", "greatestPart", "(II)I"⟩, prog_1_method_36_code, 5, (some .int), 5, 119, 1, 829, 55, 828, 22),
  (⟨"BaredCurtain", "isWithin", "(III)Z"⟩, prog_1_method_37_code, 3, (some .boolean), 1, 26, 0, 384, 55, 383, 0),
  (⟨"BaredCurtain", "isCloth", "(I)Z"⟩, prog_1_method_38_code, 1, (some .boolean), 1, 26, 0, 582, 55, 581, 0),
  (⟨"BaredCurtain", "hasBit", "(II)Z"⟩, prog_1_method_39_code, 2, (some .boolean), 1, 26, 0, 399, 55, 398, 0),
  (⟨"BaredCurtain", "lateBy", "(I)I"⟩, prog_1_method_40_code, 1, (some .int), 1, 26, 0, 541, 55, 540, 0),
  (⟨"BaredCurtain", "at", "([II)I"⟩, prog_1_method_41_code, 2, (some .int), 1, 26, 0, 359, 55, 358, 0),
  (⟨"BaredCurtain", "put", "([III)V"⟩, prog_1_method_42_code, 3, none, 1, 26, 0, 92, 55, 91, 0),
  (⟨"BaredCurtainModel", "<init>", "()V"⟩, prog_11_method_1_code, 1, none, 3, 72, 2, 890, 64, 889, 0),
  (⟨"BaredCurtainModel", "in", "(JJJ)Z"⟩, prog_11_method_3_code, 6, (some .boolean), 1, 26, 0, 899, 64, 898, 0),
  (⟨"BaredCurtainModel", "has", "(II)Z"⟩, prog_11_method_4_code, 2, (some .boolean), 1, 26, 0, 1036, 64, 1035, 0),
  (⟨"BaredCurtainModel", "bits", "(I)I"⟩, prog_11_method_5_code, 3, (some .int), 1, 26, 0, 1138, 64, 1137, 0),
  (⟨"BaredCurtainModel", "blank", "([I)V"⟩, prog_11_method_6_code, 2, none, 2, 51, 0, 894, 64, 893, 0),
  (⟨"BaredCurtainModel", "copies", "([II[III)V"⟩, prog_11_method_7_code, 6, none, 1, 26, 0, 908, 64, 907, 0),
  (⟨"BaredCurtainModel", "begins", "()V"⟩, prog_11_method_8_code, 2, none, 2, 51, 1, 905, 64, 904, 23),
  (⟨"BaredCurtainModel", "feed", "(I)I"⟩, prog_11_method_9_code, 2, (some .int), 2, 51, 1, 992, 64, 990, 991),
  (⟨"BaredCurtainModel", "here", "()I"⟩, prog_11_method_10_code, 1, (some .int), 1, 26, 1, 1007, 64, 1006, 25),
  (⟨"BaredCurtainModel", "step", "()V"⟩, prog_11_method_11_code, 1, none, 2, 51, 1, 1003, 64, 1002, 24),
  (⟨"BaredCurtainModel", "fails", "(I)Z"⟩, prog_11_method_12_code, 2, (some .boolean), 1, 26, 1, 1021, 64, 1020, 28),
  (⟨"BaredCurtainModel", "number", "(III)Z"⟩, prog_11_method_13_code, 4, (some .boolean), 3, 71, 1, 1025, 64, 1024, 29),
  (⟨"BaredCurtainModel", "ends", "()Z"⟩, prog_11_method_14_code, 1, (some .boolean), 3, 71, 1, 1029, 64, 1028, 30),
  (⟨"BaredCurtainModel", "readsCurtain", "()Z"⟩, prog_11_method_15_code, 1, (some .boolean), 4, 94, 1, 1017, 64, 1016, 27),
  (⟨"BaredCurtainModel", "readsCloth", "()Z"⟩, prog_11_method_16_code, 2, (some .boolean), 4, 94, 1, 1033, 64, 1032, 31),
  (⟨"BaredCurtainModel", "readsHole", "()Z"⟩, prog_11_method_17_code, 1, (some .boolean), 4, 91, 1, 1040, 64, 1039, 32),
  (⟨"BaredCurtainModel", "readsActor", "()Z"⟩, prog_11_method_18_code, 2, (some .boolean), 4, 94, 1, 1044, 64, 1043, 33),
  (⟨"BaredCurtainModel", "readsClause", "()Z"⟩, prog_11_method_19_code, 1, (some .boolean), 5, 115, 1, 1013, 64, 1012, 26),
  (⟨"BaredCurtainModel", "house", "()I"⟩, prog_11_method_20_code, 2, (some .int), 6, 135, 1, 999, 64, 997, 998)]
def xMs_5 : List xMi := [
  (⟨"BaredCurtainModel", "fault", "()I"⟩, prog_11_method_21_code, 1, (some .int), 1, 26, 1, 1048, 64, 1046, 1047),
  (⟨"BaredCurtainModel", "cells", "()I"⟩, prog_11_method_22_code, 1, (some .int), 1, 26, 1, 1064, 64, 1063, 36),
  (⟨"BaredCurtainModel", "isCell", "(I)Z"⟩, prog_11_method_23_code, 2, (some .boolean), 2, 51, 1, 1091, 64, 1090, 41),
  (⟨"BaredCurtainModel", "isActor", "(I)Z"⟩, prog_11_method_24_code, 2, (some .boolean), 2, 51, 1, 1109, 64, 1108, 42),
  (⟨"BaredCurtainModel", "isCloth", "(I)Z"⟩, prog_11_method_25_code, 1, (some .boolean), 2, 51, 0, 1099, 64, 1098, 0),
  (⟨"BaredCurtainModel", "weightOf", "([II)I"⟩, prog_11_method_26_code, 3, (some .int), 2, 47, 1, 1072, 64, 1071, 38),
  (⟨"BaredCurtainModel", "weight", "([I)I"⟩, prog_11_method_27_code, 4, (some .int), 3, 69, 1, 1083, 64, 1082, 40),
  (⟨"BaredCurtainModel", "sideOf", "(I)I"⟩, prog_11_method_28_code, 2, (some .int), 1, 26, 1, 1068, 64, 1067, 37),
  (⟨"BaredCurtainModel", "leans", "([I)I"⟩, prog_11_method_29_code, 5, (some .int), 3, 69, 1, 1060, 64, 1059, 35),
  (⟨"BaredCurtainModel", "hangs", "(II)I"⟩, prog_11_method_30_code, 5, (some .int), 2, 47, 1, 1076, 64, 1075, 39),
  (⟨"BaredCurtainModel", "shown", "([I)I"⟩, prog_11_method_31_code, 7, (some .int), 4, 93, 1, 1056, 64, 1055, 34),
  (⟨"BaredCurtainModel", "holeOf", "([II)I"⟩, prog_11_method_32_code, 4, (some .int), 2, 47, 1, 1131, 64, 1130, 46),
  (⟨"BaredCurtainModel", "nightGoes", "([I)I"⟩, prog_11_method_33_code, 5, (some .int), 5, 119, 1, 1127, 64, 1126, 45),
  (⟨"BaredCurtainModel", "baredOf", "([I)I"⟩, prog_11_method_34_code, 3, (some .int), 1, 26, 0, 1079, 64, 1078, 0),
  (⟨"BaredCurtainModel", "told", "(I)I"⟩, prog_11_method_35_code, 2, (some .int), 5, 119, 1, 1052, 64, 1050, 1051),
  (⟨"BaredCurtainModel", "cell", "(II)I"⟩, prog_11_method_36_code, 3, (some .int), 4, 93, 1, 1087, 64, 1085, 1086),
  (⟨"BaredCurtainModel", "cloth", "(II)I"⟩, prog_11_method_37_code, 3, (some .int), 3, 71, 1, 1096, 64, 1094, 1095),
  (⟨"BaredCurtainModel", "actor", "(II)I"⟩, prog_11_method_38_code, 3, (some .int), 3, 72, 1, 1105, 64, 1103, 1104),
  (⟨"BaredCurtainModel", "remember", "()V"⟩, prog_11_method_39_code, 2, none, 2, 51, 1, 1123, 64, 1122, 44),
  (⟨"BaredCurtainModel", "refuses", "(I)I"⟩, prog_11_method_40_code, 2, (some .int), 2, 51, 1, 1117, 64, 1116, 43),
  (⟨"BaredCurtainModel", "night", "(I)I"⟩, prog_11_method_41_code, 5, (some .int), 6, 143, 1, 1113, 64, 1111, 1112),
  (⟨"BaredCurtainModel", "cut", "(I)I"⟩, prog_11_method_42_code, 2, (some .int), 3, 72, 1, 1135, 64, 1133, 1134),
  (⟨"BaredCurtainModel", "go", "(II)I"⟩, prog_11_method_43_code, 4, (some .int), 3, 72, 1, 1142, 64, 1140, 1141),
  (⟨"BaredCurtainModel", "dress", "(III)I"⟩, prog_11_method_44_code, 5, (some .int), 3, 72, 1, 1146, 64, 1144, 1145),
  (⟨"BaredCurtainModel", "draw", "(I)I"⟩, prog_11_method_45_code, 2, (some .int), 1, 26, 1, 1154, 64, 1153, 47),
  (⟨"BaredCurtainModel", "drift", "(I)I"⟩, prog_11_method_46_code, 7, (some .int), 6, 143, 1, 1150, 64, 1148, 1149),
  (⟨"BaredCurtainModel", "undo", "()I"⟩, prog_11_method_47_code, 1, (some .int), 2, 51, 1, 1162, 64, 1160, 1161),
  (⟨"BaredCurtainModel", "layAside", "()V"⟩, prog_11_method_48_code, 1, none, 2, 51, 1, 1170, 64, 1169, 48),
  (⟨"BaredCurtainModel", "who", "(I)I"⟩, prog_11_method_49_code, 4, (some .int), 6, 143, 1, 1166, 64, 1164, 1165),
  (⟨"BaredCurtainModel", "wholeBy", "()I"⟩, prog_11_method_50_code, 3, (some .int), 6, 143, 1, 1174, 64, 1172, 1173)]
def xMs_6 : List xMi := [
  (⟨"BaredCurtainModel", "codes", "()I"⟩, prog_11_method_51_code, 3, (some .int), 1, 26, 1, 1183, 64, 1182, 49),
  (⟨"BaredCurtainModel", "costs", "(III)I"⟩, prog_11_method_52_code, 7, (some .int), 6, 143, 1, 1187, 64, 1186, 50),
  (⟨"BaredCurtainModel", "stands", "(III)I"⟩, prog_11_method_53_code, 8, (some .int), 7, 169, 1, 1178, 64, 1176, 1177),
  (⟨"BaredCurtainModel", "hidden", "()I"⟩, prog_11_method_54_code, 4, (some .int), 4, 93, 1, 1191, 64, 1189, 1190),
  (⟨"BaredCurtainModel", "cannot", "()I"⟩, prog_11_method_55_code, 5, (some .int), 3, 70, 1, 1196, 64, 1194, 1195),
  (⟨"BaredCurtainModel", "takes", "(III)I"⟩, prog_11_method_56_code, 7, (some .int), 1, 26, 1, 1204, 64, 1203, 51),
  (⟨"BaredCurtainModel", "sewing", "(I)I"⟩, prog_11_method_57_code, 7, (some .int), 2, 52, 1, 1200, 64, 1198, 1199),
  (⟨"BaredCurtainModel", "least", "(II)I"⟩, prog_11_method_58_code, 5, (some .int), 4, 92, 1, 1208, 64, 1206, 1207),
  (⟨"BaredCurtainModel", "moths", "()I"⟩, prog_11_method_59_code, 5, (some .int), 2, 47, 1, 1213, 64, 1211, 1212),
  (⟨"BaredCurtainModel", "thread", "(II)I"⟩, prog_11_method_60_code, 6, (some .int), 2, 51, 1, 1217, 64, 1215, 1216),
  (⟨"BaredCurtainModel", "see", "(IZ)I"⟩, prog_11_method_61_code, 3, (some .int), 3, 72, 1, 1224, 64, 1222, 1223),
  (⟨"BaredCurtainModel", "shownBy", "(I)I"⟩, prog_11_method_62_code, 2, (some .int), 5, 119, 1, 1236, 64, 1235, 53),
  (⟨"BaredCurtainModel", "cuts", "()I"⟩, prog_11_method_63_code, 6, (some .int), 6, 140, 1, 1232, 64, 1231, 52),
  (⟨"BaredCurtainModel", "wasCut", "()I"⟩, prog_11_method_64_code, 1, (some .int), 7, 165, 1, 1228, 64, 1226, 1227),
  (⟨"BaredCurtainModel", "watch", "()I"⟩, prog_11_method_65_code, 8, (some .int), 7, 165, 1, 1240, 64, 1238, 1239),
  (⟨"BaredCurtainModel", "write", "(II)I"⟩, prog_11_method_66_code, 3, (some .int), 3, 72, 1, 1244, 64, 1242, 1243),
  (⟨"BaredCurtainModel", "tear", "()I"⟩, prog_11_method_67_code, 2, (some .int), 1, 26, 1, 1248, 64, 1246, 1247),
  (⟨"BaredCurtainModel", "judge", "()I"⟩, prog_11_method_68_code, 2, (some .int), 1, 26, 1, 1252, 64, 1250, 1251),
  (⟨"BaredCurtainModel", "seed", "(I)I"⟩, prog_11_method_69_code, 3, (some .int), 1, 26, 1, 1256, 64, 1254, 1255),
  (⟨"BaredCurtainModel", "keep", "(I)I"⟩, prog_11_method_70_code, 2, (some .int), 2, 51, 1, 1260, 64, 1258, 1259),
  (⟨"BaredCurtainModel", "goBack", "(I)I"⟩, prog_11_method_71_code, 2, (some .int), 2, 51, 1, 1264, 64, 1262, 1263),
  (⟨"java/lang/Integer", "compare", "(II)I"⟩, prog_12_method_40_code, 2, (some .int), 1, 26, 0, 511, 67, 510, 0),
  (⟨"java/lang/Integer", "bitCount", "(I)I"⟩, prog_12_method_49_code, 1, (some .int), 1, 26, 0, 648, 67, 647, 0),
  (⟨"java/lang/Math", "max", "(II)I"⟩, prog_13_method_65_code, 2, (some .int), 1, 26, 0, 781, 65, 780, 0),
  (⟨"java/lang/Math", "min", "(II)I"⟩, prog_13_method_69_code, 2, (some .int), 1, 26, 0, 381, 65, 380, 0),
  (⟨"BaredCurtainLaw", "law", "([I)Z"⟩, code, 4, (some .boolean), 9, 220, 0, 0, 54, 0, 0)]
def xMs : List xMi := xMs_0 ++ (xMs_1 ++ (xMs_2 ++ (xMs_3 ++ (xMs_4 ++ (xMs_5 ++ (xMs_6))))))
abbrev m_History_init : Nat := 0
abbrev m_History_clear : Nat := 1
abbrev m_History_remember : Nat := 2
abbrev m_History_takeBack : Nat := 3
abbrev m_House_init : Nat := 4
abbrev m_House_clear : Nat := 5
abbrev m_House_become : Nat := 6
abbrev m_House_tellCloth : Nat := 7
abbrev m_House_tellHeight : Nat := 8
abbrev m_House_weightOf : Nat := 9
abbrev m_House_likingOf : Nat := 10
abbrev m_House_minutesOf : Nat := 11
abbrev m_House_heightOf : Nat := 12
abbrev m_House_cells : Nat := 13
abbrev m_House_hasCell : Nat := 14
abbrev m_House_hasColumn : Nat := 15
abbrev m_House_hasActor : Nat := 16
abbrev m_House_cellAt : Nat := 17
abbrev m_House_columnOfCell : Nat := 18
abbrev m_House_rowOfCell : Nat := 19
abbrev m_House_sideOf : Nat := 20
abbrev m_House_hangsIn : Nat := 21
abbrev m_House_placings : Nat := 22
abbrev m_Images_init : Nat := 23
abbrev m_Images_clear : Nat := 24
abbrev m_Images_isStored : Nat := 25
abbrev m_Images_store : Nat := 26
abbrev m_Images_fetch : Nat := 27
abbrev m_Images_seedOf : Nat := 28
abbrev m_Notes_init : Nat := 29
abbrev m_Notes_clear : Nat := 30
abbrev m_Notes_addSeen : Nat := 31
abbrev m_Notes_addEntry : Nat := 32
abbrev m_Notes_fitCut : Nat := 33
abbrev m_Notes_firstWrong : Nat := 34
abbrev m_Placing_init : Nat := 35
abbrev m_Placing_search : Nat := 36
abbrev m_Placing_countHoles : Nat := 37
abbrev m_Placing_hasEnough : Nat := 38
abbrev m_Placing_baredUntilWhole : Nat := 39
abbrev m_Placing_advance : Nat := 40
abbrev m_Reader_init : Nat := 41
abbrev m_Reader_append : Nat := 42
abbrev m_Reader_empty : Nat := 43
abbrev m_Reader_read : Nat := 44
abbrev m_Reader_readClause : Nat := 45
abbrev m_Reader_readCurtain : Nat := 46
abbrev m_Reader_readCloth : Nat := 47
abbrev m_Reader_readHole : Nat := 48
abbrev m_Reader_readActor : Nat := 49
abbrev m_Reader_number : Nat := 50
abbrev m_Reader_readEnd : Nat := 51
abbrev m_Reader_skipBlanks : Nat := 52
abbrev m_Reader_letter : Nat := 53
abbrev m_Reader_isFigure : Nat := 54
abbrev m_Reader_fail : Nat := 55
abbrev m_Scene_init : Nat := 56
abbrev m_Scene_clear : Nat := 57
abbrev m_Scene_become : Nat := 58
abbrev m_Scene_holes : Nat := 59
abbrev m_Scene_nights : Nat := 60
abbrev m_Scene_clothAt : Nat := 61
abbrev m_Scene_patchesAt : Nat := 62
abbrev m_Scene_columnOf : Nat := 63
abbrev m_Scene_wornBy : Nat := 64
abbrev m_Scene_piecesOf : Nat := 65
abbrev m_Scene_baredOf : Nat := 66
abbrev m_Scene_baredInAll : Nat := 67
abbrev m_Scene_hangAllOf : Nat := 68
abbrev m_Scene_open : Nat := 69
abbrev m_Scene_place : Nat := 70
abbrev m_Scene_clothe : Nat := 71
abbrev m_Scene_weight : Nat := 72
abbrev m_Scene_late : Nat := 73
abbrev m_Scene_leansWith : Nat := 74
abbrev m_Scene_leansNow : Nat := 75
abbrev m_Scene_shownNow : Nat := 76
abbrev m_Scene_isShownByLone : Nat := 77
abbrev m_Scene_playNight : Nat := 78
abbrev m_Scene_lowestHole : Nat := 79
abbrev m_Scene_isManned : Nat := 80
abbrev m_Scene_isShown : Nat := 81
abbrev m_Scene_mendOrBare : Nat := 82
abbrev m_Scene_patch : Nat := 83
abbrev m_Sewing_init : Nat := 84
abbrev m_Sewing_take : Nat := 85
abbrev m_Sewing_fewestMinutes : Nat := 86
abbrev m_Sewing_minutesByOne : Nat := 87
abbrev m_Sewing_addTailor : Nat := 88
abbrev m_C_init : Nat := 89
abbrev m_C_feed : Nat := 90
abbrev m_C_house : Nat := 91
abbrev m_C_fault : Nat := 92
abbrev m_C_told : Nat := 93
abbrev m_C_cell : Nat := 94
abbrev m_C_cloth : Nat := 95
abbrev m_C_actor : Nat := 96
abbrev m_C_night : Nat := 97
abbrev m_C_cut : Nat := 98
abbrev m_C_go : Nat := 99
abbrev m_C_dress : Nat := 100
abbrev m_C_drift : Nat := 101
abbrev m_C_undo : Nat := 102
abbrev m_C_who : Nat := 103
abbrev m_C_wholeBy : Nat := 104
abbrev m_C_stands : Nat := 105
abbrev m_C_hidden : Nat := 106
abbrev m_C_cannot : Nat := 107
abbrev m_C_sewing : Nat := 108
abbrev m_C_least : Nat := 109
abbrev m_C_moths : Nat := 110
abbrev m_C_thread : Nat := 111
abbrev m_C_see : Nat := 112
abbrev m_C_wasCut : Nat := 113
abbrev m_C_watch : Nat := 114
abbrev m_C_write : Nat := 115
abbrev m_C_tear : Nat := 116
abbrev m_C_judge : Nat := 117
abbrev m_C_seed : Nat := 118
abbrev m_C_keep : Nat := 119
abbrev m_C_goBack : Nat := 120
abbrev m_C_refusalOfNights : Nat := 121
abbrev m_C_letMothsIn : Nat := 122
abbrev m_C_draw : Nat := 123
abbrev m_C_greatestPart : Nat := 124
abbrev m_C_isWithin : Nat := 125
abbrev m_C_isCloth : Nat := 126
abbrev m_C_hasBit : Nat := 127
abbrev m_C_lateBy : Nat := 128
abbrev m_C_at : Nat := 129
abbrev m_C_put : Nat := 130
abbrev m_R_init : Nat := 131
abbrev m_R_in : Nat := 132
abbrev m_R_has : Nat := 133
abbrev m_R_bits : Nat := 134
abbrev m_R_blank : Nat := 135
abbrev m_R_copies : Nat := 136
abbrev m_R_begins : Nat := 137
abbrev m_R_feed : Nat := 138
abbrev m_R_here : Nat := 139
abbrev m_R_step : Nat := 140
abbrev m_R_fails : Nat := 141
abbrev m_R_number : Nat := 142
abbrev m_R_ends : Nat := 143
abbrev m_R_readsCurtain : Nat := 144
abbrev m_R_readsCloth : Nat := 145
abbrev m_R_readsHole : Nat := 146
abbrev m_R_readsActor : Nat := 147
abbrev m_R_readsClause : Nat := 148
abbrev m_R_house : Nat := 149
abbrev m_R_fault : Nat := 150
abbrev m_R_cells : Nat := 151
abbrev m_R_isCell : Nat := 152
abbrev m_R_isActor : Nat := 153
abbrev m_R_isCloth : Nat := 154
abbrev m_R_weightOf : Nat := 155
abbrev m_R_weight : Nat := 156
abbrev m_R_sideOf : Nat := 157
abbrev m_R_leans : Nat := 158
abbrev m_R_hangs : Nat := 159
abbrev m_R_shown : Nat := 160
abbrev m_R_holeOf : Nat := 161
abbrev m_R_nightGoes : Nat := 162
abbrev m_R_baredOf : Nat := 163
abbrev m_R_told : Nat := 164
abbrev m_R_cell : Nat := 165
abbrev m_R_cloth : Nat := 166
abbrev m_R_actor : Nat := 167
abbrev m_R_remember : Nat := 168
abbrev m_R_refuses : Nat := 169
abbrev m_R_night : Nat := 170
abbrev m_R_cut : Nat := 171
abbrev m_R_go : Nat := 172
abbrev m_R_dress : Nat := 173
abbrev m_R_draw : Nat := 174
abbrev m_R_drift : Nat := 175
abbrev m_R_undo : Nat := 176
abbrev m_R_layAside : Nat := 177
abbrev m_R_who : Nat := 178
abbrev m_R_wholeBy : Nat := 179
abbrev m_R_codes : Nat := 180
abbrev m_R_costs : Nat := 181
abbrev m_R_stands : Nat := 182
abbrev m_R_hidden : Nat := 183
abbrev m_R_cannot : Nat := 184
abbrev m_R_takes : Nat := 185
abbrev m_R_sewing : Nat := 186
abbrev m_R_least : Nat := 187
abbrev m_R_moths : Nat := 188
abbrev m_R_thread : Nat := 189
abbrev m_R_see : Nat := 190
abbrev m_R_shownBy : Nat := 191
abbrev m_R_cuts : Nat := 192
abbrev m_R_wasCut : Nat := 193
abbrev m_R_watch : Nat := 194
abbrev m_R_write : Nat := 195
abbrev m_R_tear : Nat := 196
abbrev m_R_judge : Nat := 197
abbrev m_R_seed : Nat := 198
abbrev m_R_keep : Nat := 199
abbrev m_R_goBack : Nat := 200
abbrev m_Integer_compare : Nat := 201
abbrev m_Integer_bitCount : Nat := 202
abbrev m_Math_max : Nat := 203
abbrev m_Math_min : Nat := 204
abbrev m_law : Nat := 205
/-- an instruction: pc, it, its length, (x, y, z, u): what it was resolved to, a constant, a switch, the place of its word, a loop begins here, locals that are dead then -/
abbrev xE : Type := Nat × Instr × Nat × (Nat × Nat × Nat × Nat) × Value × List (Int32 × Nat) × Nat × Nat × List Nat
