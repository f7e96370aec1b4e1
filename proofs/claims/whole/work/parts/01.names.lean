-- ===== PART A: goes FIRST, ahead of the names: the tables' words, and 'selects' of the private methods out of them =====
/-- a private method of a class that the tables say can be made, by its rows of tables_1 -/
def lw_okq (q : MethodName × Nat) : Prop := (q.1.cls ≠ "java/lang/invoke/MethodHandle" ∧ q.1.cls ≠ "java/lang/invoke/VarHandle") ∧ Cond.instantiable q.1.cls q.2 ∈ tables_1 ∧ Cond.privateMethod q.1 ∈ tables_1 ∧ Cond.instanceMethod q.1 ∈ tables_1
theorem lw_p0 : lw_okq (⟨"NewDishes", "finding", "(I)I"⟩, 9) := ⟨⟨by decide +kernel, by decide +kernel⟩, List.mem_of_getElem? (i := 18) (by decide +kernel), List.mem_of_getElem? (i := 228) (by decide +kernel), List.mem_of_getElem? (i := 229) (by decide +kernel)⟩
theorem lw_p1 : lw_okq (⟨"NewDishes$Barred", "barIn", "(II)V"⟩, 2) := ⟨⟨by decide +kernel, by decide +kernel⟩, List.mem_of_getElem? (i := 90) (by decide +kernel), List.mem_of_getElem? (i := 374) (by decide +kernel), List.mem_of_getElem? (i := 375) (by decide +kernel)⟩
theorem lw_p2 : lw_okq (⟨"NewDishes$Kitchen", "weighSets", "([I)V"⟩, 7) := ⟨⟨by decide +kernel, by decide +kernel⟩, List.mem_of_getElem? (i := 84) (by decide +kernel), List.mem_of_getElem? (i := 381) (by decide +kernel), List.mem_of_getElem? (i := 382) (by decide +kernel)⟩
theorem lw_p3 : lw_okq (⟨"NewDishes$Kitchen", "weighManners", "(LNewDishes$Bureau;)V"⟩, 7) := ⟨⟨by decide +kernel, by decide +kernel⟩, List.mem_of_getElem? (i := 84) (by decide +kernel), List.mem_of_getElem? (i := 387) (by decide +kernel), List.mem_of_getElem? (i := 388) (by decide +kernel)⟩
theorem lw_p4 : lw_okq (⟨"NewDishes$Kitchen", "rankManners", "()V"⟩, 7) := ⟨⟨by decide +kernel, by decide +kernel⟩, List.mem_of_getElem? (i := 84) (by decide +kernel), List.mem_of_getElem? (i := 393) (by decide +kernel), List.mem_of_getElem? (i := 394) (by decide +kernel)⟩
theorem lw_p5 : lw_okq (⟨"NewDishes", "orNone", "(I)I"⟩, 9) := ⟨⟨by decide +kernel, by decide +kernel⟩, List.mem_of_getElem? (i := 18) (by decide +kernel), List.mem_of_getElem? (i := 426) (by decide +kernel), List.mem_of_getElem? (i := 427) (by decide +kernel)⟩
theorem lw_p6 : lw_okq (⟨"NewDishes$Kitchen", "favouriteManner", "(I)I"⟩, 7) := ⟨⟨by decide +kernel, by decide +kernel⟩, List.mem_of_getElem? (i := 84) (by decide +kernel), List.mem_of_getElem? (i := 516) (by decide +kernel), List.mem_of_getElem? (i := 517) (by decide +kernel)⟩
theorem lw_p7 : lw_okq (⟨"NewDishes$Paths", "setOut", "(I)V"⟩, 2) := ⟨⟨by decide +kernel, by decide +kernel⟩, List.mem_of_getElem? (i := 131) (by decide +kernel), List.mem_of_getElem? (i := 578) (by decide +kernel), List.mem_of_getElem? (i := 579) (by decide +kernel)⟩
theorem lw_p8 : lw_okq (⟨"NewDishes$Paths", "goFurther", "(LNewDishes$Kitchen;)Z"⟩, 2) := ⟨⟨by decide +kernel, by decide +kernel⟩, List.mem_of_getElem? (i := 131) (by decide +kernel), List.mem_of_getElem? (i := 586) (by decide +kernel), List.mem_of_getElem? (i := 587) (by decide +kernel)⟩
theorem lw_p9 : lw_okq (⟨"NewDishes$Paths", "fromOtherSets", "(I)I"⟩, 2) := ⟨⟨by decide +kernel, by decide +kernel⟩, List.mem_of_getElem? (i := 131) (by decide +kernel), List.mem_of_getElem? (i := 598) (by decide +kernel), List.mem_of_getElem? (i := 599) (by decide +kernel)⟩
theorem lw_p10 : lw_okq (⟨"NewDishes$Tape", "advance", "()V"⟩, 6) := ⟨⟨by decide +kernel, by decide +kernel⟩, List.mem_of_getElem? (i := 145) (by decide +kernel), List.mem_of_getElem? (i := 653) (by decide +kernel), List.mem_of_getElem? (i := 654) (by decide +kernel)⟩
theorem lw_p11 : lw_okq (⟨"NewDishes$Tape", "typeAt", "(I)I"⟩, 6) := ⟨⟨by decide +kernel, by decide +kernel⟩, List.mem_of_getElem? (i := 145) (by decide +kernel), List.mem_of_getElem? (i := 657) (by decide +kernel), List.mem_of_getElem? (i := 658) (by decide +kernel)⟩
theorem lw_p12 : lw_okq (⟨"NewDishes$Tape", "valueOfDigits", "()I"⟩, 6) := ⟨⟨by decide +kernel, by decide +kernel⟩, List.mem_of_getElem? (i := 145) (by decide +kernel), List.mem_of_getElem? (i := 664) (by decide +kernel), List.mem_of_getElem? (i := 665) (by decide +kernel)⟩
theorem lw_p13 : lw_okq (⟨"NewDishes$Tape", "takeItem", "(LNewDishes$Bureau;)Z"⟩, 6) := ⟨⟨by decide +kernel, by decide +kernel⟩, List.mem_of_getElem? (i := 145) (by decide +kernel), List.mem_of_getElem? (i := 668) (by decide +kernel), List.mem_of_getElem? (i := 669) (by decide +kernel)⟩
theorem lw_p14 : lw_okq (⟨"NewDishes$Tape", "kindNamed", "()I"⟩, 6) := ⟨⟨by decide +kernel, by decide +kernel⟩, List.mem_of_getElem? (i := 145) (by decide +kernel), List.mem_of_getElem? (i := 672) (by decide +kernel), List.mem_of_getElem? (i := 673) (by decide +kernel)⟩
theorem lw_p15 : lw_okq (⟨"NewDishes$Tape", "isWord", "(Ljava/lang/String;)Z"⟩, 6) := ⟨⟨by decide +kernel, by decide +kernel⟩, List.mem_of_getElem? (i := 145) (by decide +kernel), List.mem_of_getElem? (i := 677) (by decide +kernel), List.mem_of_getElem? (i := 678) (by decide +kernel)⟩
def lw_privs_1 : List (MethodName × Nat) := [(⟨"NewDishes", "finding", "(I)I"⟩, 9), (⟨"NewDishes$Barred", "barIn", "(II)V"⟩, 2), (⟨"NewDishes$Kitchen", "weighSets", "([I)V"⟩, 7), (⟨"NewDishes$Kitchen", "weighManners", "(LNewDishes$Bureau;)V"⟩, 7), (⟨"NewDishes$Kitchen", "rankManners", "()V"⟩, 7), (⟨"NewDishes", "orNone", "(I)I"⟩, 9), (⟨"NewDishes$Kitchen", "favouriteManner", "(I)I"⟩, 7), (⟨"NewDishes$Paths", "setOut", "(I)V"⟩, 2), (⟨"NewDishes$Paths", "goFurther", "(LNewDishes$Kitchen;)Z"⟩, 2), (⟨"NewDishes$Paths", "fromOtherSets", "(I)I"⟩, 2), (⟨"NewDishes$Tape", "advance", "()V"⟩, 6), (⟨"NewDishes$Tape", "typeAt", "(I)I"⟩, 6), (⟨"NewDishes$Tape", "valueOfDigits", "()I"⟩, 6), (⟨"NewDishes$Tape", "takeItem", "(LNewDishes$Bureau;)Z"⟩, 6), (⟨"NewDishes$Tape", "kindNamed", "()I"⟩, 6), (⟨"NewDishes$Tape", "isWord", "(Ljava/lang/String;)Z"⟩, 6)]
theorem lw_r1 : ∀ q ∈ lw_privs_1, lw_okq q := List.forall_mem_cons.mpr ⟨lw_p0, List.forall_mem_cons.mpr ⟨lw_p1, List.forall_mem_cons.mpr ⟨lw_p2, List.forall_mem_cons.mpr ⟨lw_p3, List.forall_mem_cons.mpr ⟨lw_p4, List.forall_mem_cons.mpr ⟨lw_p5, List.forall_mem_cons.mpr ⟨lw_p6, List.forall_mem_cons.mpr ⟨lw_p7, List.forall_mem_cons.mpr ⟨lw_p8, List.forall_mem_cons.mpr ⟨lw_p9, List.forall_mem_cons.mpr ⟨lw_p10, List.forall_mem_cons.mpr ⟨lw_p11, List.forall_mem_cons.mpr ⟨lw_p12, List.forall_mem_cons.mpr ⟨lw_p13, List.forall_mem_cons.mpr ⟨lw_p14, List.forall_mem_cons.mpr ⟨lw_p15, fun _ h => absurd h List.not_mem_nil⟩⟩⟩⟩⟩⟩⟩⟩⟩⟩⟩⟩⟩⟩⟩⟩
theorem lw_p16 : lw_okq (⟨"NewDishes$Tape", "takeEntry", "(LNewDishes$Bureau;I)Z"⟩, 6) := ⟨⟨by decide +kernel, by decide +kernel⟩, List.mem_of_getElem? (i := 145) (by decide +kernel), List.mem_of_getElem? (i := 734) (by decide +kernel), List.mem_of_getElem? (i := 735) (by decide +kernel)⟩
theorem lw_p17 : lw_okq (⟨"NewDishes$Tape", "takeThings", "()I"⟩, 6) := ⟨⟨by decide +kernel, by decide +kernel⟩, List.mem_of_getElem? (i := 145) (by decide +kernel), List.mem_of_getElem? (i := 739) (by decide +kernel), List.mem_of_getElem? (i := 740) (by decide +kernel)⟩
theorem lw_p18 : lw_okq (⟨"NewDishes$Tape", "takeWord", "(Ljava/lang/String;)Z"⟩, 6) := ⟨⟨by decide +kernel, by decide +kernel⟩, List.mem_of_getElem? (i := 145) (by decide +kernel), List.mem_of_getElem? (i := 745) (by decide +kernel), List.mem_of_getElem? (i := 746) (by decide +kernel)⟩
theorem lw_p19 : lw_okq (⟨"NewDishes$Tape", "takeNumber", "(I)I"⟩, 6) := ⟨⟨by decide +kernel, by decide +kernel⟩, List.mem_of_getElem? (i := 145) (by decide +kernel), List.mem_of_getElem? (i := 749) (by decide +kernel), List.mem_of_getElem? (i := 750) (by decide +kernel)⟩
theorem lw_p20 : lw_okq (⟨"NewDishes$Tape", "takeStore", "(LNewDishes$Bureau;)Z"⟩, 6) := ⟨⟨by decide +kernel, by decide +kernel⟩, List.mem_of_getElem? (i := 145) (by decide +kernel), List.mem_of_getElem? (i := 757) (by decide +kernel), List.mem_of_getElem? (i := 758) (by decide +kernel)⟩
theorem lw_p21 : lw_okq (⟨"NewDishes$Tape", "takeLiking", "(LNewDishes$Bureau;I)Z"⟩, 6) := ⟨⟨by decide +kernel, by decide +kernel⟩, List.mem_of_getElem? (i := 145) (by decide +kernel), List.mem_of_getElem? (i := 762) (by decide +kernel), List.mem_of_getElem? (i := 763) (by decide +kernel)⟩
theorem lw_p22 : lw_okq (⟨"NewDishes$Tape", "whatNamed", "()I"⟩, 6) := ⟨⟨by decide +kernel, by decide +kernel⟩, List.mem_of_getElem? (i := 145) (by decide +kernel), List.mem_of_getElem? (i := 766) (by decide +kernel), List.mem_of_getElem? (i := 767) (by decide +kernel)⟩
theorem lw_p23 : lw_okq (⟨"NewDishes$Tape", "takeEdict", "(LNewDishes$Bureau;)Z"⟩, 6) := ⟨⟨by decide +kernel, by decide +kernel⟩, List.mem_of_getElem? (i := 145) (by decide +kernel), List.mem_of_getElem? (i := 774) (by decide +kernel), List.mem_of_getElem? (i := 775) (by decide +kernel)⟩
theorem lw_p24 : lw_okq (⟨"NewDishes$Tape", "takeDay", "(LNewDishes$Bureau;)Z"⟩, 6) := ⟨⟨by decide +kernel, by decide +kernel⟩, List.mem_of_getElem? (i := 145) (by decide +kernel), List.mem_of_getElem? (i := 784) (by decide +kernel), List.mem_of_getElem? (i := 785) (by decide +kernel)⟩
theorem lw_p25 : lw_okq (⟨"NewDishes", "sheetFault", "(I)I"⟩, 9) := ⟨⟨by decide +kernel, by decide +kernel⟩, List.mem_of_getElem? (i := 18) (by decide +kernel), List.mem_of_getElem? (i := 805) (by decide +kernel), List.mem_of_getElem? (i := 806) (by decide +kernel)⟩
theorem lw_p26 : lw_okq (⟨"NewDishes$Sheet", "cut", "(J)J"⟩, 3) := ⟨⟨by decide +kernel, by decide +kernel⟩, List.mem_of_getElem? (i := 172) (by decide +kernel), List.mem_of_getElem? (i := 819) (by decide +kernel), List.mem_of_getElem? (i := 820) (by decide +kernel)⟩
theorem lw_p27 : lw_okq (⟨"NewDishes", "menuFault", "(II)I"⟩, 9) := ⟨⟨by decide +kernel, by decide +kernel⟩, List.mem_of_getElem? (i := 18) (by decide +kernel), List.mem_of_getElem? (i := 841) (by decide +kernel), List.mem_of_getElem? (i := 842) (by decide +kernel)⟩
theorem lw_p28 : lw_okq (⟨"NewDishesModel", "finds", "(I)I"⟩, 36) := ⟨⟨by decide +kernel, by decide +kernel⟩, List.mem_of_getElem? (i := 877) (by decide +kernel), List.mem_of_getElem? (i := 1010) (by decide +kernel), List.mem_of_getElem? (i := 1011) (by decide +kernel)⟩
theorem lw_p29 : lw_okq (⟨"NewDishesModel", "isDish", "(I)Z"⟩, 36) := ⟨⟨by decide +kernel, by decide +kernel⟩, List.mem_of_getElem? (i := 877) (by decide +kernel), List.mem_of_getElem? (i := 1040) (by decide +kernel), List.mem_of_getElem? (i := 1041) (by decide +kernel)⟩
theorem lw_p30 : lw_okq (⟨"NewDishesModel", "likingOf", "(I)I"⟩, 36) := ⟨⟨by decide +kernel, by decide +kernel⟩, List.mem_of_getElem? (i := 877) (by decide +kernel), List.mem_of_getElem? (i := 1053) (by decide +kernel), List.mem_of_getElem? (i := 1054) (by decide +kernel)⟩
theorem lw_p31 : lw_okq (⟨"NewDishesModel", "canBe", "(I)Z"⟩, 36) := ⟨⟨by decide +kernel, by decide +kernel⟩, List.mem_of_getElem? (i := 877) (by decide +kernel), List.mem_of_getElem? (i := 1060) (by decide +kernel), List.mem_of_getElem? (i := 1061) (by decide +kernel)⟩
def lw_privs_2 : List (MethodName × Nat) := [(⟨"NewDishes$Tape", "takeEntry", "(LNewDishes$Bureau;I)Z"⟩, 6), (⟨"NewDishes$Tape", "takeThings", "()I"⟩, 6), (⟨"NewDishes$Tape", "takeWord", "(Ljava/lang/String;)Z"⟩, 6), (⟨"NewDishes$Tape", "takeNumber", "(I)I"⟩, 6), (⟨"NewDishes$Tape", "takeStore", "(LNewDishes$Bureau;)Z"⟩, 6), (⟨"NewDishes$Tape", "takeLiking", "(LNewDishes$Bureau;I)Z"⟩, 6), (⟨"NewDishes$Tape", "whatNamed", "()I"⟩, 6), (⟨"NewDishes$Tape", "takeEdict", "(LNewDishes$Bureau;)Z"⟩, 6), (⟨"NewDishes$Tape", "takeDay", "(LNewDishes$Bureau;)Z"⟩, 6), (⟨"NewDishes", "sheetFault", "(I)I"⟩, 9), (⟨"NewDishes$Sheet", "cut", "(J)J"⟩, 3), (⟨"NewDishes", "menuFault", "(II)I"⟩, 9), (⟨"NewDishesModel", "finds", "(I)I"⟩, 36), (⟨"NewDishesModel", "isDish", "(I)Z"⟩, 36), (⟨"NewDishesModel", "likingOf", "(I)I"⟩, 36), (⟨"NewDishesModel", "canBe", "(I)Z"⟩, 36)]
theorem lw_r2 : ∀ q ∈ lw_privs_2, lw_okq q := List.forall_mem_cons.mpr ⟨lw_p16, List.forall_mem_cons.mpr ⟨lw_p17, List.forall_mem_cons.mpr ⟨lw_p18, List.forall_mem_cons.mpr ⟨lw_p19, List.forall_mem_cons.mpr ⟨lw_p20, List.forall_mem_cons.mpr ⟨lw_p21, List.forall_mem_cons.mpr ⟨lw_p22, List.forall_mem_cons.mpr ⟨lw_p23, List.forall_mem_cons.mpr ⟨lw_p24, List.forall_mem_cons.mpr ⟨lw_p25, List.forall_mem_cons.mpr ⟨lw_p26, List.forall_mem_cons.mpr ⟨lw_p27, List.forall_mem_cons.mpr ⟨lw_p28, List.forall_mem_cons.mpr ⟨lw_p29, List.forall_mem_cons.mpr ⟨lw_p30, List.forall_mem_cons.mpr ⟨lw_p31, fun _ h => absurd h List.not_mem_nil⟩⟩⟩⟩⟩⟩⟩⟩⟩⟩⟩⟩⟩⟩⟩⟩
theorem lw_p32 : lw_okq (⟨"NewDishesModel", "isNew", "(I)Z"⟩, 36) := ⟨⟨by decide +kernel, by decide +kernel⟩, List.mem_of_getElem? (i := 877) (by decide +kernel), List.mem_of_getElem? (i := 1064) (by decide +kernel), List.mem_of_getElem? (i := 1065) (by decide +kernel)⟩
theorem lw_p33 : lw_okq (⟨"NewDishesModel", "firstBy", "(I)I"⟩, 36) := ⟨⟨by decide +kernel, by decide +kernel⟩, List.mem_of_getElem? (i := 877) (by decide +kernel), List.mem_of_getElem? (i := 1068) (by decide +kernel), List.mem_of_getElem? (i := 1069) (by decide +kernel)⟩
theorem lw_p34 : lw_okq (⟨"NewDishesModel", "barsIt", "(II)Z"⟩, 36) := ⟨⟨by decide +kernel, by decide +kernel⟩, List.mem_of_getElem? (i := 877) (by decide +kernel), List.mem_of_getElem? (i := 1072) (by decide +kernel), List.mem_of_getElem? (i := 1073) (by decide +kernel)⟩
theorem lw_p35 : lw_okq (⟨"NewDishesModel", "marks", "()V"⟩, 36) := ⟨⟨by decide +kernel, by decide +kernel⟩, List.mem_of_getElem? (i := 877) (by decide +kernel), List.mem_of_getElem? (i := 1092) (by decide +kernel), List.mem_of_getElem? (i := 1093) (by decide +kernel)⟩
theorem lw_p36 : lw_okq (⟨"NewDishesModel", "marksBy", "(I)V"⟩, 36) := ⟨⟨by decide +kernel, by decide +kernel⟩, List.mem_of_getElem? (i := 877) (by decide +kernel), List.mem_of_getElem? (i := 1096) (by decide +kernel), List.mem_of_getElem? (i := 1097) (by decide +kernel)⟩
theorem lw_p37 : lw_okq (⟨"NewDishesModel", "dishAt", "(I)I"⟩, 36) := ⟨⟨by decide +kernel, by decide +kernel⟩, List.mem_of_getElem? (i := 877) (by decide +kernel), List.mem_of_getElem? (i := 1100) (by decide +kernel), List.mem_of_getElem? (i := 1101) (by decide +kernel)⟩
theorem lw_p38 : lw_okq (⟨"NewDishesModel", "isGood", "(I)Z"⟩, 36) := ⟨⟨by decide +kernel, by decide +kernel⟩, List.mem_of_getElem? (i := 877) (by decide +kernel), List.mem_of_getElem? (i := 1108) (by decide +kernel), List.mem_of_getElem? (i := 1109) (by decide +kernel)⟩
theorem lw_p39 : lw_okq (⟨"NewDishesModel", "addEntry", "(III)V"⟩, 36) := ⟨⟨by decide +kernel, by decide +kernel⟩, List.mem_of_getElem? (i := 877) (by decide +kernel), List.mem_of_getElem? (i := 1120) (by decide +kernel), List.mem_of_getElem? (i := 1121) (by decide +kernel)⟩
theorem lw_p40 : lw_okq (⟨"NewDishesModel", "isEntry", "(I)Z"⟩, 36) := ⟨⟨by decide +kernel, by decide +kernel⟩, List.mem_of_getElem? (i := 877) (by decide +kernel), List.mem_of_getElem? (i := 1128) (by decide +kernel), List.mem_of_getElem? (i := 1129) (by decide +kernel)⟩
theorem lw_p41 : lw_okq (⟨"NewDishesModel", "barsMany", "(I)I"⟩, 36) := ⟨⟨by decide +kernel, by decide +kernel⟩, List.mem_of_getElem? (i := 877) (by decide +kernel), List.mem_of_getElem? (i := 1132) (by decide +kernel), List.mem_of_getElem? (i := 1133) (by decide +kernel)⟩
theorem lw_p42 : lw_okq (⟨"NewDishesModel", "newMany", "()I"⟩, 36) := ⟨⟨by decide +kernel, by decide +kernel⟩, List.mem_of_getElem? (i := 877) (by decide +kernel), List.mem_of_getElem? (i := 1172) (by decide +kernel), List.mem_of_getElem? (i := 1173) (by decide +kernel)⟩
theorem lw_p43 : lw_okq (⟨"NewDishesModel", "bestPlace", "()I"⟩, 36) := ⟨⟨by decide +kernel, by decide +kernel⟩, List.mem_of_getElem? (i := 877) (by decide +kernel), List.mem_of_getElem? (i := 1180) (by decide +kernel), List.mem_of_getElem? (i := 1181) (by decide +kernel)⟩
theorem lw_p44 : lw_okq (⟨"NewDishesModel", "eats", "(III)V"⟩, 36) := ⟨⟨by decide +kernel, by decide +kernel⟩, List.mem_of_getElem? (i := 877) (by decide +kernel), List.mem_of_getElem? (i := 1189) (by decide +kernel), List.mem_of_getElem? (i := 1190) (by decide +kernel)⟩
theorem lw_p45 : lw_okq (⟨"NewDishesModel", "begins0", "()V"⟩, 36) := ⟨⟨by decide +kernel, by decide +kernel⟩, List.mem_of_getElem? (i := 877) (by decide +kernel), List.mem_of_getElem? (i := 1201) (by decide +kernel), List.mem_of_getElem? (i := 1202) (by decide +kernel)⟩
theorem lw_p46 : lw_okq (⟨"NewDishesModel", "goesOn", "(I)I"⟩, 36) := ⟨⟨by decide +kernel, by decide +kernel⟩, List.mem_of_getElem? (i := 877) (by decide +kernel), List.mem_of_getElem? (i := 1205) (by decide +kernel), List.mem_of_getElem? (i := 1206) (by decide +kernel)⟩
theorem lw_p47 : lw_okq (⟨"NewDishesModel", "back", "()V"⟩, 36) := ⟨⟨by decide +kernel, by decide +kernel⟩, List.mem_of_getElem? (i := 877) (by decide +kernel), List.mem_of_getElem? (i := 1209) (by decide +kernel), List.mem_of_getElem? (i := 1210) (by decide +kernel)⟩
def lw_privs_3 : List (MethodName × Nat) := [(⟨"NewDishesModel", "isNew", "(I)Z"⟩, 36), (⟨"NewDishesModel", "firstBy", "(I)I"⟩, 36), (⟨"NewDishesModel", "barsIt", "(II)Z"⟩, 36), (⟨"NewDishesModel", "marks", "()V"⟩, 36), (⟨"NewDishesModel", "marksBy", "(I)V"⟩, 36), (⟨"NewDishesModel", "dishAt", "(I)I"⟩, 36), (⟨"NewDishesModel", "isGood", "(I)Z"⟩, 36), (⟨"NewDishesModel", "addEntry", "(III)V"⟩, 36), (⟨"NewDishesModel", "isEntry", "(I)Z"⟩, 36), (⟨"NewDishesModel", "barsMany", "(I)I"⟩, 36), (⟨"NewDishesModel", "newMany", "()I"⟩, 36), (⟨"NewDishesModel", "bestPlace", "()I"⟩, 36), (⟨"NewDishesModel", "eats", "(III)V"⟩, 36), (⟨"NewDishesModel", "begins0", "()V"⟩, 36), (⟨"NewDishesModel", "goesOn", "(I)I"⟩, 36), (⟨"NewDishesModel", "back", "()V"⟩, 36)]
theorem lw_r3 : ∀ q ∈ lw_privs_3, lw_okq q := List.forall_mem_cons.mpr ⟨lw_p32, List.forall_mem_cons.mpr ⟨lw_p33, List.forall_mem_cons.mpr ⟨lw_p34, List.forall_mem_cons.mpr ⟨lw_p35, List.forall_mem_cons.mpr ⟨lw_p36, List.forall_mem_cons.mpr ⟨lw_p37, List.forall_mem_cons.mpr ⟨lw_p38, List.forall_mem_cons.mpr ⟨lw_p39, List.forall_mem_cons.mpr ⟨lw_p40, List.forall_mem_cons.mpr ⟨lw_p41, List.forall_mem_cons.mpr ⟨lw_p42, List.forall_mem_cons.mpr ⟨lw_p43, List.forall_mem_cons.mpr ⟨lw_p44, List.forall_mem_cons.mpr ⟨lw_p45, List.forall_mem_cons.mpr ⟨lw_p46, List.forall_mem_cons.mpr ⟨lw_p47, fun _ h => absurd h List.not_mem_nil⟩⟩⟩⟩⟩⟩⟩⟩⟩⟩⟩⟩⟩⟩⟩⟩
theorem lw_p48 : lw_okq (⟨"NewDishesModel", "lastsBy", "(I)I"⟩, 36) := ⟨⟨by decide +kernel, by decide +kernel⟩, List.mem_of_getElem? (i := 877) (by decide +kernel), List.mem_of_getElem? (i := 1217) (by decide +kernel), List.mem_of_getElem? (i := 1218) (by decide +kernel)⟩
theorem lw_p49 : lw_okq (⟨"NewDishesModel", "findSteps", "(I)V"⟩, 36) := ⟨⟨by decide +kernel, by decide +kernel⟩, List.mem_of_getElem? (i := 877) (by decide +kernel), List.mem_of_getElem? (i := 1229) (by decide +kernel), List.mem_of_getElem? (i := 1230) (by decide +kernel)⟩
theorem lw_p50 : lw_okq (⟨"NewDishesModel", "placeOf", "(I)I"⟩, 36) := ⟨⟨by decide +kernel, by decide +kernel⟩, List.mem_of_getElem? (i := 877) (by decide +kernel), List.mem_of_getElem? (i := 1233) (by decide +kernel), List.mem_of_getElem? (i := 1234) (by decide +kernel)⟩
theorem lw_p51 : lw_okq (⟨"NewDishesModel", "goesFrom", "(I)V"⟩, 36) := ⟨⟨by decide +kernel, by decide +kernel⟩, List.mem_of_getElem? (i := 877) (by decide +kernel), List.mem_of_getElem? (i := 1237) (by decide +kernel), List.mem_of_getElem? (i := 1238) (by decide +kernel)⟩
theorem lw_p52 : lw_okq (⟨"NewDishesModel", "comesTo", "(II)V"⟩, 36) := ⟨⟨by decide +kernel, by decide +kernel⟩, List.mem_of_getElem? (i := 877) (by decide +kernel), List.mem_of_getElem? (i := 1241) (by decide +kernel), List.mem_of_getElem? (i := 1242) (by decide +kernel)⟩
theorem lw_p53 : lw_okq (⟨"NewDishesModel", "moveAll", "(Z[I)V"⟩, 36) := ⟨⟨by decide +kernel, by decide +kernel⟩, List.mem_of_getElem? (i := 877) (by decide +kernel), List.mem_of_getElem? (i := 1269) (by decide +kernel), List.mem_of_getElem? (i := 1270) (by decide +kernel)⟩
theorem lw_p54 : lw_okq (⟨"NewDishesModel", "moveRow", "([IIZ[I)V"⟩, 36) := ⟨⟨by decide +kernel, by decide +kernel⟩, List.mem_of_getElem? (i := 877) (by decide +kernel), List.mem_of_getElem? (i := 1273) (by decide +kernel), List.mem_of_getElem? (i := 1274) (by decide +kernel)⟩
theorem lw_p55 : lw_okq (⟨"NewDishesModel", "advance", "()V"⟩, 36) := ⟨⟨by decide +kernel, by decide +kernel⟩, List.mem_of_getElem? (i := 877) (by decide +kernel), List.mem_of_getElem? (i := 1277) (by decide +kernel), List.mem_of_getElem? (i := 1278) (by decide +kernel)⟩
theorem lw_p56 : lw_okq (⟨"NewDishesModel", "byteAt", "(I)I"⟩, 36) := ⟨⟨by decide +kernel, by decide +kernel⟩, List.mem_of_getElem? (i := 877) (by decide +kernel), List.mem_of_getElem? (i := 1281) (by decide +kernel), List.mem_of_getElem? (i := 1282) (by decide +kernel)⟩
theorem lw_p57 : lw_okq (⟨"NewDishesModel", "wantItem", "()V"⟩, 36) := ⟨⟨by decide +kernel, by decide +kernel⟩, List.mem_of_getElem? (i := 877) (by decide +kernel), List.mem_of_getElem? (i := 1294) (by decide +kernel), List.mem_of_getElem? (i := 1295) (by decide +kernel)⟩
theorem lw_p58 : lw_okq (⟨"NewDishesModel", "kindHere", "()I"⟩, 36) := ⟨⟨by decide +kernel, by decide +kernel⟩, List.mem_of_getElem? (i := 877) (by decide +kernel), List.mem_of_getElem? (i := 1298) (by decide +kernel), List.mem_of_getElem? (i := 1299) (by decide +kernel)⟩
theorem lw_p59 : lw_okq (⟨"NewDishesModel", "isWord", "(J)Z"⟩, 36) := ⟨⟨by decide +kernel, by decide +kernel⟩, List.mem_of_getElem? (i := 877) (by decide +kernel), List.mem_of_getElem? (i := 1303) (by decide +kernel), List.mem_of_getElem? (i := 1304) (by decide +kernel)⟩
theorem lw_p60 : lw_okq (⟨"NewDishesModel", "wantEntry", "(I)V"⟩, 36) := ⟨⟨by decide +kernel, by decide +kernel⟩, List.mem_of_getElem? (i := 877) (by decide +kernel), List.mem_of_getElem? (i := 1312) (by decide +kernel), List.mem_of_getElem? (i := 1313) (by decide +kernel)⟩
theorem lw_p61 : lw_okq (⟨"NewDishesModel", "wantWord", "(J)V"⟩, 36) := ⟨⟨by decide +kernel, by decide +kernel⟩, List.mem_of_getElem? (i := 877) (by decide +kernel), List.mem_of_getElem? (i := 1317) (by decide +kernel), List.mem_of_getElem? (i := 1318) (by decide +kernel)⟩
theorem lw_p62 : lw_okq (⟨"NewDishesModel", "wantNumber", "(II)I"⟩, 36) := ⟨⟨by decide +kernel, by decide +kernel⟩, List.mem_of_getElem? (i := 877) (by decide +kernel), List.mem_of_getElem? (i := 1321) (by decide +kernel), List.mem_of_getElem? (i := 1322) (by decide +kernel)⟩
theorem lw_p63 : lw_okq (⟨"NewDishesModel", "wantStore", "()V"⟩, 36) := ⟨⟨by decide +kernel, by decide +kernel⟩, List.mem_of_getElem? (i := 877) (by decide +kernel), List.mem_of_getElem? (i := 1327) (by decide +kernel), List.mem_of_getElem? (i := 1328) (by decide +kernel)⟩
def lw_privs_4 : List (MethodName × Nat) := [(⟨"NewDishesModel", "lastsBy", "(I)I"⟩, 36), (⟨"NewDishesModel", "findSteps", "(I)V"⟩, 36), (⟨"NewDishesModel", "placeOf", "(I)I"⟩, 36), (⟨"NewDishesModel", "goesFrom", "(I)V"⟩, 36), (⟨"NewDishesModel", "comesTo", "(II)V"⟩, 36), (⟨"NewDishesModel", "moveAll", "(Z[I)V"⟩, 36), (⟨"NewDishesModel", "moveRow", "([IIZ[I)V"⟩, 36), (⟨"NewDishesModel", "advance", "()V"⟩, 36), (⟨"NewDishesModel", "byteAt", "(I)I"⟩, 36), (⟨"NewDishesModel", "wantItem", "()V"⟩, 36), (⟨"NewDishesModel", "kindHere", "()I"⟩, 36), (⟨"NewDishesModel", "isWord", "(J)Z"⟩, 36), (⟨"NewDishesModel", "wantEntry", "(I)V"⟩, 36), (⟨"NewDishesModel", "wantWord", "(J)V"⟩, 36), (⟨"NewDishesModel", "wantNumber", "(II)I"⟩, 36), (⟨"NewDishesModel", "wantStore", "()V"⟩, 36)]
theorem lw_r4 : ∀ q ∈ lw_privs_4, lw_okq q := List.forall_mem_cons.mpr ⟨lw_p48, List.forall_mem_cons.mpr ⟨lw_p49, List.forall_mem_cons.mpr ⟨lw_p50, List.forall_mem_cons.mpr ⟨lw_p51, List.forall_mem_cons.mpr ⟨lw_p52, List.forall_mem_cons.mpr ⟨lw_p53, List.forall_mem_cons.mpr ⟨lw_p54, List.forall_mem_cons.mpr ⟨lw_p55, List.forall_mem_cons.mpr ⟨lw_p56, List.forall_mem_cons.mpr ⟨lw_p57, List.forall_mem_cons.mpr ⟨lw_p58, List.forall_mem_cons.mpr ⟨lw_p59, List.forall_mem_cons.mpr ⟨lw_p60, List.forall_mem_cons.mpr ⟨lw_p61, List.forall_mem_cons.mpr ⟨lw_p62, List.forall_mem_cons.mpr ⟨lw_p63, fun _ h => absurd h List.not_mem_nil⟩⟩⟩⟩⟩⟩⟩⟩⟩⟩⟩⟩⟩⟩⟩⟩
theorem lw_p64 : lw_okq (⟨"NewDishesModel", "wantLiking", "(Z)V"⟩, 36) := ⟨⟨by decide +kernel, by decide +kernel⟩, List.mem_of_getElem? (i := 877) (by decide +kernel), List.mem_of_getElem? (i := 1333) (by decide +kernel), List.mem_of_getElem? (i := 1334) (by decide +kernel)⟩
theorem lw_p65 : lw_okq (⟨"NewDishesModel", "wantEdict", "()V"⟩, 36) := ⟨⟨by decide +kernel, by decide +kernel⟩, List.mem_of_getElem? (i := 877) (by decide +kernel), List.mem_of_getElem? (i := 1339) (by decide +kernel), List.mem_of_getElem? (i := 1340) (by decide +kernel)⟩
theorem lw_p66 : lw_okq (⟨"NewDishesModel", "wantEither", "(JJ)Z"⟩, 36) := ⟨⟨by decide +kernel, by decide +kernel⟩, List.mem_of_getElem? (i := 877) (by decide +kernel), List.mem_of_getElem? (i := 1345) (by decide +kernel), List.mem_of_getElem? (i := 1346) (by decide +kernel)⟩
theorem lw_p67 : lw_okq (⟨"NewDishesModel", "wantDay", "()V"⟩, 36) := ⟨⟨by decide +kernel, by decide +kernel⟩, List.mem_of_getElem? (i := 877) (by decide +kernel), List.mem_of_getElem? (i := 1352) (by decide +kernel), List.mem_of_getElem? (i := 1353) (by decide +kernel)⟩
theorem lw_p68 : lw_okq (⟨"NewDishesModel", "isPart", "(III)Z"⟩, 36) := ⟨⟨by decide +kernel, by decide +kernel⟩, List.mem_of_getElem? (i := 877) (by decide +kernel), List.mem_of_getElem? (i := 1376) (by decide +kernel), List.mem_of_getElem? (i := 1377) (by decide +kernel)⟩
theorem lw_p69 : lw_okq (⟨"NewDishesModel", "noMenu", "(II)I"⟩, 36) := ⟨⟨by decide +kernel, by decide +kernel⟩, List.mem_of_getElem? (i := 877) (by decide +kernel), List.mem_of_getElem? (i := 1389) (by decide +kernel), List.mem_of_getElem? (i := 1390) (by decide +kernel)⟩
theorem lw_p70 : lw_okq (⟨"NewDishesModel", "canServe", "(JI)Z"⟩, 36) := ⟨⟨by decide +kernel, by decide +kernel⟩, List.mem_of_getElem? (i := 877) (by decide +kernel), List.mem_of_getElem? (i := 1397) (by decide +kernel), List.mem_of_getElem? (i := 1398) (by decide +kernel)⟩
def lw_privs_5 : List (MethodName × Nat) := [(⟨"NewDishesModel", "wantLiking", "(Z)V"⟩, 36), (⟨"NewDishesModel", "wantEdict", "()V"⟩, 36), (⟨"NewDishesModel", "wantEither", "(JJ)Z"⟩, 36), (⟨"NewDishesModel", "wantDay", "()V"⟩, 36), (⟨"NewDishesModel", "isPart", "(III)Z"⟩, 36), (⟨"NewDishesModel", "noMenu", "(II)I"⟩, 36), (⟨"NewDishesModel", "canServe", "(JI)Z"⟩, 36)]
theorem lw_r5 : ∀ q ∈ lw_privs_5, lw_okq q := List.forall_mem_cons.mpr ⟨lw_p64, List.forall_mem_cons.mpr ⟨lw_p65, List.forall_mem_cons.mpr ⟨lw_p66, List.forall_mem_cons.mpr ⟨lw_p67, List.forall_mem_cons.mpr ⟨lw_p68, List.forall_mem_cons.mpr ⟨lw_p69, List.forall_mem_cons.mpr ⟨lw_p70, fun _ h => absurd h List.not_mem_nil⟩⟩⟩⟩⟩⟩⟩
def lw_privs : List (MethodName × Nat) := lw_privs_1 ++ (lw_privs_2 ++ (lw_privs_3 ++ (lw_privs_4 ++ (lw_privs_5))))
def lw_tbl : List Cond := k2_sels lw_privs ++ tables_1
theorem lw_privs_ok : ∀ q ∈ lw_privs, lw_okq q := by
  show ∀ q ∈ lw_privs_1 ++ (lw_privs_2 ++ (lw_privs_3 ++ (lw_privs_4 ++ (lw_privs_5)))), lw_okq q
  exact List.forall_mem_append.mpr ⟨lw_r1, List.forall_mem_append.mpr ⟨lw_r2, List.forall_mem_append.mpr ⟨lw_r3, List.forall_mem_append.mpr ⟨lw_r4, lw_r5⟩⟩⟩⟩
/-! ===== BEGIN words of one list among another's, by their places ===== -/
theorem goodIn_r {big : List Cond} (ws : List Cond) (ps : List Nat) (hp : ws = ps.filterMap (fun i => big[i]?)) (h : ws.all goodWord = true) : GoodIn big ws := by
  intro w hw
  have h1 := List.all_eq_true.mp h w hw
  rw [hp] at hw
  obtain ⟨i, -, hi⟩ := List.mem_filterMap.mp hw
  have hm : w ∈ big := by first | exact List.mem_of_getElem? hi | exact List.getElem?_mem hi
  exact ⟨hm, good_of_word h1⟩
theorem goodIn_app {big a b : List Cond} (ha : GoodIn big a) (hb : GoodIn big b) : GoodIn big (a ++ b) := fun w h => (List.mem_append.mp h).elim (ha w) (hb w)
theorem goodIn_ca {big a b : List Cond} {c : Cond} (ha : GoodIn big (c :: a)) (hb : GoodIn big b) : GoodIn big (c :: (a ++ b)) := fun w h => (List.mem_cons.mp h).elim (fun e => ha w (List.mem_cons.mpr (Or.inl e))) (fun h => (List.mem_append.mp h).elim (fun h => ha w (List.mem_cons.mpr (Or.inr h))) (hb w))
theorem goodIn_sub {big ws : List Cond} (hm : ∀ w ∈ ws, w ∈ big) (h : ws.all goodWord = true) : GoodIn big ws := fun w hw => ⟨hm w hw, good_of_word (List.all_eq_true.mp h w hw)⟩
/-! ===== END ===== -/

/-! ===== BEGIN printed: names, fields, word lists, decode rows ===== -/
def RX0 : String := "NewDishes$Barred"
def TX0 : u_T := fun k => match k with
  | 0 => ("NewDishes$Barred", "once", "[I", true)
  | _ => ("NewDishes$Barred", "again", "[I", true)
def tyX0 : Nat → FieldType := fun k => match k with
  | 0 => .array .int
  | _ => .array .int
abbrev wsX00 : List Cond := u_ws RX0 TX0 2
theorem nmX0 : ∀ a, a < 2 → ∀ b, b < 2 → a ≠ b → (TX0 a).2.1 ≠ (TX0 b).2.1 := by decide +kernel
theorem tyX0_ok : ∀ k, k < 2 → parseFieldDescriptor (TX0 k).2.2.1 = some (tyX0 k) := by decide +kernel
abbrev cX0_init : ByteArray := prog_2_method_1_code
def yX0_init : MethodName := ⟨RX0, "<init>", "()V"⟩
abbrev cX0_barAll : ByteArray := prog_2_method_2_code
def yX0_barAll : MethodName := ⟨RX0, "barAll", "(LNewDishes$Bureau;I)V"⟩
abbrev cX0_bar : ByteArray := prog_2_method_3_code
def yX0_bar : MethodName := ⟨RX0, "bar", "(III)V"⟩
abbrev cX0_barIn : ByteArray := prog_2_method_4_code
def yX0_barIn : MethodName := ⟨RX0, "barIn", "(II)V"⟩
abbrev cX0_unbarred : ByteArray := prog_2_method_5_code
def yX0_unbarred : MethodName := ⟨RX0, "unbarred", "()I"⟩
abbrev cX0_barredAloneBy : ByteArray := prog_2_method_6_code
def yX0_barredAloneBy : MethodName := ⟨RX0, "barredAloneBy", "(III)I"⟩
def RX1 : String := "NewDishes$Bureau"
def TX1 : u_T := fun k => match k with
  | 0 => ("NewDishes$Bureau", "stores", "[I", true)
  | 1 => ("NewDishes$Bureau", "likedThings", "[I", true)
  | 2 => ("NewDishes$Bureau", "likedWays", "[I", true)
  | 3 => ("NewDishes$Bureau", "likedSauces", "[I", true)
  | 4 => ("NewDishes$Bureau", "kinds", "[I", true)
  | 5 => ("NewDishes$Bureau", "dishes", "[I", true)
  | 6 => ("NewDishes$Bureau", "days", "[I", true)
  | 7 => ("NewDishes$Bureau", "entries", "I", false)
  | 8 => ("NewDishes$Bureau", "edicts", "I", false)
  | _ => ("NewDishes$Bureau", "day", "I", false)
def tyX1 : Nat → FieldType := fun k => match k with
  | 0 => .array .int
  | 1 => .array .int
  | 2 => .array .int
  | 3 => .array .int
  | 4 => .array .int
  | 5 => .array .int
  | 6 => .array .int
  | 7 => .int
  | 8 => .int
  | _ => .int
abbrev wsX10 : List Cond := u_ws RX1 TX1 10
theorem nmX1 : ∀ a, a < 10 → ∀ b, b < 10 → a ≠ b → (TX1 a).2.1 ≠ (TX1 b).2.1 := by decide +kernel
theorem tyX1_ok : ∀ k, k < 10 → parseFieldDescriptor (TX1 k).2.2.1 = some (tyX1 k) := by decide +kernel
abbrev cX1_init : ByteArray := prog_3_method_1_code
def yX1_init : MethodName := ⟨RX1, "<init>", "()V"⟩
abbrev cX1_become : ByteArray := prog_3_method_2_code
def yX1_become : MethodName := ⟨RX1, "become", "(LNewDishes$Bureau;)V"⟩
abbrev cX1_likedOf : ByteArray := prog_3_method_3_code
def yX1_likedOf : MethodName := ⟨RX1, "likedOf", "(I)[I"⟩
abbrev cX1_decree : ByteArray := prog_3_method_4_code
def yX1_decree : MethodName := ⟨RX1, "decree", "(IZ)Z"⟩
abbrev cX1_liking : ByteArray := prog_3_method_5_code
def yX1_liking : MethodName := ⟨RX1, "liking", "(I)I"⟩
abbrev cX1_canBe : ByteArray := prog_3_method_6_code
def yX1_canBe : MethodName := ⟨RX1, "canBe", "(I)Z"⟩
abbrev cX1_isNew : ByteArray := prog_3_method_7_code
def yX1_isNew : MethodName := ⟨RX1, "isNew", "(I)Z"⟩
abbrev cX1_canServe : ByteArray := prog_3_method_8_code
def yX1_canServe : MethodName := ⟨RX1, "canServe", "(II)Z"⟩
abbrev cX1_isFull : ByteArray := prog_3_method_9_code
def yX1_isFull : MethodName := ⟨RX1, "isFull", "()Z"⟩
abbrev cX1_note : ByteArray := prog_3_method_10_code
def yX1_note : MethodName := ⟨RX1, "note", "(II)I"⟩
abbrev cX1_haveMeal : ByteArray := prog_3_method_11_code
def yX1_haveMeal : MethodName := ⟨RX1, "haveMeal", "(II)I"⟩
abbrev cX1_isBarredBy : ByteArray := prog_3_method_12_code
def yX1_isBarredBy : MethodName := ⟨RX1, "isBarredBy", "(II)Z"⟩
abbrev cX1_firstBarring : ByteArray := prog_3_method_13_code
def yX1_firstBarring : MethodName := ⟨RX1, "firstBarring", "(II)I"⟩
abbrev cX1_firstBreach : ByteArray := prog_3_method_14_code
def yX1_firstBreach : MethodName := ⟨RX1, "firstBreach", "()I"⟩
abbrev cX1_hadNear : ByteArray := prog_3_method_15_code
def yX1_hadNear : MethodName := ⟨RX1, "hadNear", "(II)I"⟩
abbrev cX1_guests : ByteArray := prog_3_method_16_code
def yX1_guests : MethodName := ⟨RX1, "guests", "()I"⟩
abbrev cX1_allStores : ByteArray := prog_3_method_17_code
def yX1_allStores : MethodName := ⟨RX1, "allStores", "()I"⟩
def RX2 : String := "NewDishes$Kitchen"
def TX2 : u_T := fun k => match k with
  | 0 => ("NewDishes$Kitchen", "stock", "[I", true)
  | 1 => ("NewDishes$Kitchen", "barred", "LNewDishes$Barred;", true)
  | 2 => ("NewDishes$Kitchen", "edicts", "I", false)
  | 3 => ("NewDishes$Kitchen", "likedSets", "[I", true)
  | 4 => ("NewDishes$Kitchen", "likedManners", "[I", true)
  | 5 => ("NewDishes$Kitchen", "favourites", "[I", true)
  | _ => ("NewDishes$Kitchen", "everything", "[I", true)
def tyX2 : Nat → FieldType := fun k => match k with
  | 0 => .array .int
  | 1 => .object "NewDishes$Barred"
  | 2 => .int
  | 3 => .array .int
  | 4 => .array .int
  | 5 => .array .int
  | _ => .array .int
abbrev wsX20 : List Cond := u_ws RX2 TX2 7
theorem nmX2 : ∀ a, a < 7 → ∀ b, b < 7 → a ≠ b → (TX2 a).2.1 ≠ (TX2 b).2.1 := by decide +kernel
theorem tyX2_ok : ∀ k, k < 7 → parseFieldDescriptor (TX2 k).2.2.1 = some (tyX2 k) := by decide +kernel
abbrev cX2_init : ByteArray := prog_4_method_1_code
def yX2_init : MethodName := ⟨RX2, "<init>", "()V"⟩
abbrev cX2_begin : ByteArray := prog_4_method_2_code
def yX2_begin : MethodName := ⟨RX2, "begin", "(LNewDishes$Bureau;)V"⟩
abbrev cX2_weighSets : ByteArray := prog_4_method_3_code
def yX2_weighSets : MethodName := ⟨RX2, "weighSets", "([I)V"⟩
abbrev cX2_weighManners : ByteArray := prog_4_method_4_code
def yX2_weighManners : MethodName := ⟨RX2, "weighManners", "(LNewDishes$Bureau;)V"⟩
abbrev cX2_rankManners : ByteArray := prog_4_method_5_code
def yX2_rankManners : MethodName := ⟨RX2, "rankManners", "()V"⟩
abbrev cX2_servableManners : ByteArray := prog_4_method_6_code
def yX2_servableManners : MethodName := ⟨RX2, "servableManners", "(II)I"⟩
abbrev cX2_possible : ByteArray := prog_4_method_7_code
def yX2_possible : MethodName := ⟨RX2, "possible", "()I"⟩
abbrev cX2_servable : ByteArray := prog_4_method_8_code
def yX2_servable : MethodName := ⟨RX2, "servable", "()I"⟩
abbrev cX2_firstFrom : ByteArray := prog_4_method_9_code
def yX2_firstFrom : MethodName := ⟨RX2, "firstFrom", "(I)I"⟩
abbrev cX2_favourite : ByteArray := prog_4_method_10_code
def yX2_favourite : MethodName := ⟨RX2, "favourite", "()I"⟩
abbrev cX2_favouriteAmong : ByteArray := prog_4_method_11_code
def yX2_favouriteAmong : MethodName := ⟨RX2, "favouriteAmong", "([I)I"⟩
abbrev cX2_favouriteManner : ByteArray := prog_4_method_12_code
def yX2_favouriteManner : MethodName := ⟨RX2, "favouriteManner", "(I)I"⟩
abbrev cX2_canCook : ByteArray := prog_4_method_13_code
def yX2_canCook : MethodName := ⟨RX2, "canCook", "(II)Z"⟩
abbrev cX2_cook : ByteArray := prog_4_method_14_code
def yX2_cook : MethodName := ⟨RX2, "cook", "(II)V"⟩
abbrev cX2_cookFavourite : ByteArray := prog_4_method_15_code
def yX2_cookFavourite : MethodName := ⟨RX2, "cookFavourite", "(I)I"⟩
abbrev cX2_mealsLeft : ByteArray := prog_4_method_16_code
def yX2_mealsLeft : MethodName := ⟨RX2, "mealsLeft", "(I)I"⟩
def RX3 : String := "NewDishes$Paths"
def TX3 : u_T := fun k => match k with
  | 0 => ("NewDishes$Paths", "reached", "[I", true)
  | _ => ("NewDishes$Paths", "before", "[I", true)
def tyX3 : Nat → FieldType := fun k => match k with
  | 0 => .array .int
  | _ => .array .int
abbrev wsX30 : List Cond := u_ws RX3 TX3 2
theorem nmX3 : ∀ a, a < 2 → ∀ b, b < 2 → a ≠ b → (TX3 a).2.1 ≠ (TX3 b).2.1 := by decide +kernel
theorem tyX3_ok : ∀ k, k < 2 → parseFieldDescriptor (TX3 k).2.2.1 = some (tyX3 k) := by decide +kernel
abbrev cX3_init : ByteArray := prog_5_method_1_code
def yX3_init : MethodName := ⟨RX3, "<init>", "()V"⟩
abbrev cX3_reach : ByteArray := prog_5_method_2_code
def yX3_reach : MethodName := ⟨RX3, "reach", "(IILNewDishes$Kitchen;)V"⟩
abbrev cX3_stepsBetween : ByteArray := prog_5_method_3_code
def yX3_stepsBetween : MethodName := ⟨RX3, "stepsBetween", "(IILNewDishes$Kitchen;)I"⟩
abbrev cX3_setOut : ByteArray := prog_5_method_4_code
def yX3_setOut : MethodName := ⟨RX3, "setOut", "(I)V"⟩
abbrev cX3_goFurther : ByteArray := prog_5_method_5_code
def yX3_goFurther : MethodName := ⟨RX3, "goFurther", "(LNewDishes$Kitchen;)Z"⟩
abbrev cX3_fromOtherSets : ByteArray := prog_5_method_6_code
def yX3_fromOtherSets : MethodName := ⟨RX3, "fromOtherSets", "(I)I"⟩
abbrev cX3_otherManners : ByteArray := prog_5_method_7_code
def yX3_otherManners : MethodName := ⟨RX3, "otherManners", "(I)I"⟩
def RX4 : String := "NewDishes$Sheet"
def TX4 : u_T := fun k => match k with
  | 0 => ("NewDishes$Sheet", "bits", "I", false)
  | 1 => ("NewDishes$Sheet", "length", "I", false)
  | _ => ("NewDishes$Sheet", "numbers", "[J", true)
def tyX4 : Nat → FieldType := fun k => match k with
  | 0 => .int
  | 1 => .int
  | _ => .array .long
abbrev wsX40 : List Cond := u_ws RX4 TX4 3
theorem nmX4 : ∀ a, a < 3 → ∀ b, b < 3 → a ≠ b → (TX4 a).2.1 ≠ (TX4 b).2.1 := by decide +kernel
theorem tyX4_ok : ∀ k, k < 3 → parseFieldDescriptor (TX4 k).2.2.1 = some (tyX4 k) := by decide +kernel
abbrev cX4_init : ByteArray := prog_6_method_1_code
def yX4_init : MethodName := ⟨RX4, "<init>", "()V"⟩
abbrev cX4_lay : ByteArray := prog_6_method_2_code
def yX4_lay : MethodName := ⟨RX4, "lay", "(II)V"⟩
abbrev cX4_isMissing : ByteArray := prog_6_method_3_code
def yX4_isMissing : MethodName := ⟨RX4, "isMissing", "()Z"⟩
abbrev cX4_hasPart : ByteArray := prog_6_method_4_code
def yX4_hasPart : MethodName := ⟨RX4, "hasPart", "(II)Z"⟩
abbrev cX4_put : ByteArray := prog_6_method_5_code
def yX4_put : MethodName := ⟨RX4, "put", "(IJ)V"⟩
abbrev cX4_cut : ByteArray := prog_6_method_6_code
def yX4_cut : MethodName := ⟨RX4, "cut", "(J)J"⟩
def RX5 : String := "NewDishes$Tape"
def TX5 : u_T := fun k => match k with
  | 0 => ("NewDishes$Tape", "length", "I", false)
  | 1 => ("NewDishes$Tape", "bytes", "[I", true)
  | 2 => ("NewDishes$Tape", "token", "I", false)
  | 3 => ("NewDishes$Tape", "start", "I", false)
  | 4 => ("NewDishes$Tape", "end", "I", false)
  | _ => ("NewDishes$Tape", "value", "I", false)
def tyX5 : Nat → FieldType := fun k => match k with
  | 0 => .int
  | 1 => .array .int
  | 2 => .int
  | 3 => .int
  | 4 => .int
  | _ => .int
abbrev wsX50 : List Cond := u_ws RX5 TX5 6
theorem nmX5 : ∀ a, a < 6 → ∀ b, b < 6 → a ≠ b → (TX5 a).2.1 ≠ (TX5 b).2.1 := by decide +kernel
theorem tyX5_ok : ∀ k, k < 6 → parseFieldDescriptor (TX5 k).2.2.1 = some (tyX5 k) := by decide +kernel
abbrev cX5_init : ByteArray := prog_7_method_1_code
def yX5_init : MethodName := ⟨RX5, "<init>", "()V"⟩
abbrev cX5_put : ByteArray := prog_7_method_2_code
def yX5_put : MethodName := ⟨RX5, "put", "(I)V"⟩
abbrev cX5_tellTo : ByteArray := prog_7_method_3_code
def yX5_tellTo : MethodName := ⟨RX5, "tellTo", "(LNewDishes$Bureau;)I"⟩
abbrev cX5_takeItem : ByteArray := prog_7_method_4_code
def yX5_takeItem : MethodName := ⟨RX5, "takeItem", "(LNewDishes$Bureau;)Z"⟩
abbrev cX5_kindNamed : ByteArray := prog_7_method_5_code
def yX5_kindNamed : MethodName := ⟨RX5, "kindNamed", "()I"⟩
abbrev cX5_takeEntry : ByteArray := prog_7_method_6_code
def yX5_takeEntry : MethodName := ⟨RX5, "takeEntry", "(LNewDishes$Bureau;I)Z"⟩
abbrev cX5_takeThings : ByteArray := prog_7_method_7_code
def yX5_takeThings : MethodName := ⟨RX5, "takeThings", "()I"⟩
abbrev cX5_takeStore : ByteArray := prog_7_method_8_code
def yX5_takeStore : MethodName := ⟨RX5, "takeStore", "(LNewDishes$Bureau;)Z"⟩
abbrev cX5_takeLiking : ByteArray := prog_7_method_9_code
def yX5_takeLiking : MethodName := ⟨RX5, "takeLiking", "(LNewDishes$Bureau;I)Z"⟩
abbrev cX5_whatNamed : ByteArray := prog_7_method_10_code
def yX5_whatNamed : MethodName := ⟨RX5, "whatNamed", "()I"⟩
abbrev cX5_takeEdict : ByteArray := prog_7_method_11_code
def yX5_takeEdict : MethodName := ⟨RX5, "takeEdict", "(LNewDishes$Bureau;)Z"⟩
abbrev cX5_takeDay : ByteArray := prog_7_method_12_code
def yX5_takeDay : MethodName := ⟨RX5, "takeDay", "(LNewDishes$Bureau;)Z"⟩
abbrev cX5_takeWord : ByteArray := prog_7_method_13_code
def yX5_takeWord : MethodName := ⟨RX5, "takeWord", "(Ljava/lang/String;)Z"⟩
abbrev cX5_takeNumber : ByteArray := prog_7_method_14_code
def yX5_takeNumber : MethodName := ⟨RX5, "takeNumber", "(I)I"⟩
abbrev cX5_isWord : ByteArray := prog_7_method_15_code
def yX5_isWord : MethodName := ⟨RX5, "isWord", "(Ljava/lang/String;)Z"⟩
abbrev cX5_advance : ByteArray := prog_7_method_16_code
def yX5_advance : MethodName := ⟨RX5, "advance", "()V"⟩
abbrev cX5_valueOfDigits : ByteArray := prog_7_method_17_code
def yX5_valueOfDigits : MethodName := ⟨RX5, "valueOfDigits", "()I"⟩
abbrev cX5_typeAt : ByteArray := prog_7_method_18_code
def yX5_typeAt : MethodName := ⟨RX5, "typeAt", "(I)I"⟩
def RX6 : String := "NewDishes"
def TX6 : u_T := fun k => match k with
  | 0 => ("NewDishes", "bureau", "LNewDishes$Bureau;", true)
  | 1 => ("NewDishes", "kept", "LNewDishes$Bureau;", true)
  | 2 => ("NewDishes", "draft", "LNewDishes$Bureau;", true)
  | 3 => ("NewDishes", "isKept", "Z", false)
  | 4 => ("NewDishes", "kitchen", "LNewDishes$Kitchen;", true)
  | 5 => ("NewDishes", "paths", "LNewDishes$Paths;", true)
  | 6 => ("NewDishes", "tape", "LNewDishes$Tape;", true)
  | 7 => ("NewDishes", "sheets", "[LNewDishes$Sheet;", true)
  | _ => ("NewDishes", "findings", "[I", true)
def tyX6 : Nat → FieldType := fun k => match k with
  | 0 => .object "NewDishes$Bureau"
  | 1 => .object "NewDishes$Bureau"
  | 2 => .object "NewDishes$Bureau"
  | 3 => .boolean
  | 4 => .object "NewDishes$Kitchen"
  | 5 => .object "NewDishes$Paths"
  | 6 => .object "NewDishes$Tape"
  | 7 => .array (.object "NewDishes$Sheet")
  | _ => .array .int
abbrev wsX60 : List Cond := u_ws RX6 TX6 9
theorem nmX6 : ∀ a, a < 9 → ∀ b, b < 9 → a ≠ b → (TX6 a).2.1 ≠ (TX6 b).2.1 := by decide +kernel
theorem tyX6_ok : ∀ k, k < 9 → parseFieldDescriptor (TX6 k).2.2.1 = some (tyX6 k) := by decide +kernel
abbrev cX6_init : ByteArray := prog_1_method_1_code
def yX6_init : MethodName := ⟨RX6, "<init>", "()V"⟩
abbrev cX6_store : ByteArray := prog_1_method_2_code
def yX6_store : MethodName := ⟨RX6, "store", "(II)I"⟩
abbrev cX6_storeOf : ByteArray := prog_1_method_3_code
def yX6_storeOf : MethodName := ⟨RX6, "storeOf", "(I)I"⟩
abbrev cX6_like : ByteArray := prog_1_method_4_code
def yX6_like : MethodName := ⟨RX6, "like", "(III)I"⟩
abbrev cX6_edict : ByteArray := prog_1_method_5_code
def yX6_edict : MethodName := ⟨RX6, "edict", "(IZ)I"⟩
abbrev cX6_dish : ByteArray := prog_1_method_6_code
def yX6_dish : MethodName := ⟨RX6, "dish", "(III)I"⟩
abbrev cX6_of : ByteArray := prog_1_method_7_code
def yX6_of : MethodName := ⟨RX6, "of", "(II)I"⟩
abbrev cX6_near : ByteArray := prog_1_method_8_code
def yX6_near : MethodName := ⟨RX6, "near", "(II)I"⟩
abbrev cX6_nearHad : ByteArray := prog_1_method_9_code
def yX6_nearHad : MethodName := ⟨RX6, "nearHad", "(II)I"⟩
abbrev cX6_many : ByteArray := prog_1_method_10_code
def yX6_many : MethodName := ⟨RX6, "many", "(I)I"⟩
abbrev cX6_next : ByteArray := prog_1_method_11_code
def yX6_next : MethodName := ⟨RX6, "next", "(I)I"⟩
abbrev cX6_enter : ByteArray := prog_1_method_12_code
def yX6_enter : MethodName := ⟨RX6, "enter", "(II)I"⟩
abbrev cX6_entryOf : ByteArray := prog_1_method_13_code
def yX6_entryOf : MethodName := ⟨RX6, "entryOf", "(II)I"⟩
abbrev cX6_turn : ByteArray := prog_1_method_14_code
def yX6_turn : MethodName := ⟨RX6, "turn", "(II)I"⟩
abbrev cX6_as : ByteArray := prog_1_method_15_code
def yX6_as : MethodName := ⟨RX6, "as", "(II)I"⟩
abbrev cX6_strike : ByteArray := prog_1_method_16_code
def yX6_strike : MethodName := ⟨RX6, "strike", "()I"⟩
abbrev cX6_bars : ByteArray := prog_1_method_17_code
def yX6_bars : MethodName := ⟨RX6, "bars", "(II)I"⟩
abbrev cX6_by : ByteArray := prog_1_method_18_code
def yX6_by : MethodName := ⟨RX6, "by", "(I)I"⟩
abbrev cX6_breach : ByteArray := prog_1_method_19_code
def yX6_breach : MethodName := ⟨RX6, "breach", "()I"⟩
abbrev cX6_keenest : ByteArray := prog_1_method_20_code
def yX6_keenest : MethodName := ⟨RX6, "keenest", "()I"⟩
abbrev cX6_wouldBe : ByteArray := prog_1_method_21_code
def yX6_wouldBe : MethodName := ⟨RX6, "wouldBe", "(I)I"⟩
abbrev cX6_best : ByteArray := prog_1_method_22_code
def yX6_best : MethodName := ⟨RX6, "best", "()I"⟩
abbrev cX6_serve : ByteArray := prog_1_method_23_code
def yX6_serve : MethodName := ⟨RX6, "serve", "(II)I"⟩
abbrev cX6_meals : ByteArray := prog_1_method_24_code
def yX6_meals : MethodName := ⟨RX6, "meals", "(II)I"⟩
abbrev cX6_on : ByteArray := prog_1_method_25_code
def yX6_on : MethodName := ⟨RX6, "on", "(II)I"⟩
abbrev cX6_lasts : ByteArray := prog_1_method_26_code
def yX6_lasts : MethodName := ⟨RX6, "lasts", "(I)I"⟩
abbrev cX6_buy : ByteArray := prog_1_method_27_code
def yX6_buy : MethodName := ⟨RX6, "buy", "(I)I"⟩
abbrev cX6_steps : ByteArray := prog_1_method_28_code
def yX6_steps : MethodName := ⟨RX6, "steps", "(II)I"⟩
abbrev cX6_within : ByteArray := prog_1_method_29_code
def yX6_within : MethodName := ⟨RX6, "within", "(II)I"⟩
abbrev cX6_walk : ByteArray := prog_1_method_30_code
def yX6_walk : MethodName := ⟨RX6, "walk", "(II)I"⟩
abbrev cX6_now : ByteArray := prog_1_method_31_code
def yX6_now : MethodName := ⟨RX6, "now", "(I)I"⟩
abbrev cX6_feed : ByteArray := prog_1_method_32_code
def yX6_feed : MethodName := ⟨RX6, "feed", "(II)I"⟩
abbrev cX6_wipe : ByteArray := prog_1_method_33_code
def yX6_wipe : MethodName := ⟨RX6, "wipe", "()I"⟩
abbrev cX6_book : ByteArray := prog_1_method_34_code
def yX6_book : MethodName := ⟨RX6, "book", "()I"⟩
abbrev cX6_sheet : ByteArray := prog_1_method_35_code
def yX6_sheet : MethodName := ⟨RX6, "sheet", "(III)I"⟩
abbrev cX6_write : ByteArray := prog_1_method_36_code
def yX6_write : MethodName := ⟨RX6, "write", "(IIJ)J"⟩
abbrev cX6_copy : ByteArray := prog_1_method_37_code
def yX6_copy : MethodName := ⟨RX6, "copy", "(IIIII)I"⟩
abbrev cX6_lays : ByteArray := prog_1_method_38_code
def yX6_lays : MethodName := ⟨RX6, "lays", "(I)I"⟩
abbrev cX6_menu : ByteArray := prog_1_method_39_code
def yX6_menu : MethodName := ⟨RX6, "menu", "(II)I"⟩
abbrev cX6_read : ByteArray := prog_1_method_40_code
def yX6_read : MethodName := ⟨RX6, "read", "(II)I"⟩
abbrev cX6_image : ByteArray := prog_1_method_41_code
def yX6_image : MethodName := ⟨RX6, "image", "()I"⟩
abbrev cX6_undo : ByteArray := prog_1_method_42_code
def yX6_undo : MethodName := ⟨RX6, "undo", "()I"⟩
abbrev cX6_tear : ByteArray := prog_1_method_43_code
def yX6_tear : MethodName := ⟨RX6, "tear", "()I"⟩
abbrev cX6_count : ByteArray := prog_1_method_44_code
def yX6_count : MethodName := ⟨RX6, "count", "(I)I"⟩
abbrev cX6_status : ByteArray := prog_1_method_45_code
def yX6_status : MethodName := ⟨RX6, "status", "(I)I"⟩
abbrev cX6_finding : ByteArray := prog_1_method_46_code
def yX6_finding : MethodName := ⟨RX6, "finding", "(I)I"⟩
abbrev cX6_orNone : ByteArray := prog_1_method_47_code
def yX6_orNone : MethodName := ⟨RX6, "orNone", "(I)I"⟩
abbrev cX6_sheetFault : ByteArray := prog_1_method_48_code
def yX6_sheetFault : MethodName := ⟨RX6, "sheetFault", "(I)I"⟩
abbrev cX6_menuFault : ByteArray := prog_1_method_49_code
def yX6_menuFault : MethodName := ⟨RX6, "menuFault", "(II)I"⟩
abbrev cX6_isBelow : ByteArray := prog_1_method_50_code
def yX6_isBelow : MethodName := ⟨RX6, "isBelow", "(II)Z"⟩
abbrev cX6_isSet : ByteArray := prog_1_method_51_code
def yX6_isSet : MethodName := ⟨RX6, "isSet", "(I)Z"⟩
abbrev cX6_isDish : ByteArray := prog_1_method_52_code
def yX6_isDish : MethodName := ⟨RX6, "isDish", "(I)Z"⟩
abbrev cX6_dishNumber : ByteArray := prog_1_method_53_code
def yX6_dishNumber : MethodName := ⟨RX6, "dishNumber", "(III)I"⟩
abbrev cX6_setOf : ByteArray := prog_1_method_54_code
def yX6_setOf : MethodName := ⟨RX6, "setOf", "(I)I"⟩
abbrev cX6_mannerOf : ByteArray := prog_1_method_55_code
def yX6_mannerOf : MethodName := ⟨RX6, "mannerOf", "(I)I"⟩
abbrev cX6_wayOf : ByteArray := prog_1_method_56_code
def yX6_wayOf : MethodName := ⟨RX6, "wayOf", "(I)I"⟩
abbrev cX6_sauceOf : ByteArray := prog_1_method_57_code
def yX6_sauceOf : MethodName := ⟨RX6, "sauceOf", "(I)I"⟩
abbrev cX6_nearness : ByteArray := prog_1_method_58_code
def yX6_nearness : MethodName := ⟨RX6, "nearness", "(II)I"⟩
abbrev cX6_hasBit : ByteArray := prog_1_method_59_code
def yX6_hasBit : MethodName := ⟨RX6, "hasBit", "(II)Z"⟩
abbrev cX6_countOf : ByteArray := prog_1_method_60_code
def yX6_countOf : MethodName := ⟨RX6, "countOf", "([I)I"⟩
abbrev cX6_isOfKind : ByteArray := prog_1_method_61_code
def yX6_isOfKind : MethodName := ⟨RX6, "isOfKind", "(II)Z"⟩
abbrev cX6_mannersBarred : ByteArray := prog_1_method_62_code
def yX6_mannersBarred : MethodName := ⟨RX6, "mannersBarred", "(III)I"⟩
abbrev cX6_barsParts : ByteArray := prog_1_method_63_code
def yX6_barsParts : MethodName := ⟨RX6, "barsParts", "(I)Z"⟩
abbrev cX6_isPartEitherWay : ByteArray := prog_1_method_64_code
def yX6_isPartEitherWay : MethodName := ⟨RX6, "isPartEitherWay", "(II)Z"⟩
abbrev cX6_barsSet : ByteArray := prog_1_method_65_code
def yX6_barsSet : MethodName := ⟨RX6, "barsSet", "(III)Z"⟩
abbrev cX6_barsDish : ByteArray := prog_1_method_66_code
def yX6_barsDish : MethodName := ⟨RX6, "barsDish", "(IIII)Z"⟩
abbrev cX6_howManyBars : ByteArray := prog_1_method_67_code
def yX6_howManyBars : MethodName := ⟨RX6, "howManyBars", "(III)I"⟩
abbrev cX6_inStore : ByteArray := prog_1_method_68_code
def yX6_inStore : MethodName := ⟨RX6, "inStore", "([I)I"⟩
abbrev cX6_takeFrom : ByteArray := prog_1_method_69_code
def yX6_takeFrom : MethodName := ⟨RX6, "takeFrom", "([II)V"⟩
def RX7 : String := "NewDishesModel"
def TX7 : u_T := fun k => match k with
  | 0 => ("NewDishesModel", "stores", "[I", true)
  | 1 => ("NewDishesModel", "liked", "[I", true)
  | 2 => ("NewDishesModel", "edicts", "[I", true)
  | 3 => ("NewDishesModel", "day", "I", false)
  | 4 => ("NewDishesModel", "entries", "I", false)
  | 5 => ("NewDishesModel", "kinds", "[I", true)
  | 6 => ("NewDishesModel", "dishes", "[I", true)
  | 7 => ("NewDishesModel", "days", "[I", true)
  | 8 => ("NewDishesModel", "found", "[I", true)
  | 9 => ("NewDishesModel", "sets", "[I", true)
  | 10 => ("NewDishesModel", "setAt", "[I", true)
  | 11 => ("NewDishesModel", "barred", "[Z", true)
  | 12 => ("NewDishesModel", "alone", "[I", true)
  | 13 => ("NewDishesModel", "hadStores", "[I", true)
  | 14 => ("NewDishesModel", "hadEntries", "I", false)
  | 15 => ("NewDishesModel", "far", "[I", true)
  | 16 => ("NewDishesModel", "rowOf", "[I", true)
  | 17 => ("NewDishesModel", "goods", "[Z", true)
  | 18 => ("NewDishesModel", "rowMany", "I", false)
  | 19 => ("NewDishesModel", "tape", "[I", true)
  | 20 => ("NewDishesModel", "tapeMany", "I", false)
  | 21 => ("NewDishesModel", "sort", "I", false)
  | 22 => ("NewDishesModel", "begins", "I", false)
  | 23 => ("NewDishesModel", "tokenEnds", "I", false)
  | 24 => ("NewDishesModel", "word", "J", false)
  | 25 => ("NewDishesModel", "value", "I", false)
  | 26 => ("NewDishesModel", "good", "Z", false)
  | 27 => ("NewDishesModel", "bitsOf", "[I", true)
  | 28 => ("NewDishesModel", "sizeOf", "[I", true)
  | 29 => ("NewDishesModel", "sheets", "[J", true)
  | 30 => ("NewDishesModel", "lent", "[J", true)
  | 31 => ("NewDishesModel", "image", "[I", true)
  | 32 => ("NewDishesModel", "before", "[I", true)
  | 33 => ("NewDishesModel", "isKept", "Z", false)
  | 34 => ("NewDishesModel", "movedTo", "I", false)
  | _ => ("NewDishesModel", "single", "[I", true)
def tyX7 : Nat → FieldType := fun k => match k with
  | 0 => .array .int
  | 1 => .array .int
  | 2 => .array .int
  | 3 => .int
  | 4 => .int
  | 5 => .array .int
  | 6 => .array .int
  | 7 => .array .int
  | 8 => .array .int
  | 9 => .array .int
  | 10 => .array .int
  | 11 => .array .boolean
  | 12 => .array .int
  | 13 => .array .int
  | 14 => .int
  | 15 => .array .int
  | 16 => .array .int
  | 17 => .array .boolean
  | 18 => .int
  | 19 => .array .int
  | 20 => .int
  | 21 => .int
  | 22 => .int
  | 23 => .int
  | 24 => .long
  | 25 => .int
  | 26 => .boolean
  | 27 => .array .int
  | 28 => .array .int
  | 29 => .array .long
  | 30 => .array .long
  | 31 => .array .int
  | 32 => .array .int
  | 33 => .boolean
  | 34 => .int
  | _ => .array .int
abbrev wsX70 : List Cond := u_ws RX7 TX7 36
theorem nmX7 : ∀ a, a < 36 → ∀ b, b < 36 → a ≠ b → (TX7 a).2.1 ≠ (TX7 b).2.1 := by decide +kernel
theorem tyX7_ok : ∀ k, k < 36 → parseFieldDescriptor (TX7 k).2.2.1 = some (tyX7 k) := by decide +kernel
abbrev cX7_init : ByteArray := prog_9_method_1_code
def yX7_init : MethodName := ⟨RX7, "<init>", "()V"⟩
abbrev cX7_in : ByteArray := prog_9_method_2_code
def yX7_in : MethodName := ⟨RX7, "in", "(III)Z"⟩
abbrev cX7_finds : ByteArray := prog_9_method_3_code
def yX7_finds : MethodName := ⟨RX7, "finds", "(I)I"⟩
abbrev cX7_ones : ByteArray := prog_9_method_4_code
def yX7_ones : MethodName := ⟨RX7, "ones", "(I)I"⟩
abbrev cX7_has : ByteArray := prog_9_method_5_code
def yX7_has : MethodName := ⟨RX7, "has", "(II)Z"⟩
abbrev cX7_isThing : ByteArray := prog_9_method_6_code
def yX7_isThing : MethodName := ⟨RX7, "isThing", "(I)Z"⟩
abbrev cX7_isStore : ByteArray := prog_9_method_7_code
def yX7_isStore : MethodName := ⟨RX7, "isStore", "(I)Z"⟩
abbrev cX7_isDish : ByteArray := prog_9_method_8_code
def yX7_isDish : MethodName := ⟨RX7, "isDish", "(I)Z"⟩
abbrev cX7_setOf : ByteArray := prog_9_method_9_code
def yX7_setOf : MethodName := ⟨RX7, "setOf", "(I)I"⟩
abbrev cX7_wayOf : ByteArray := prog_9_method_10_code
def yX7_wayOf : MethodName := ⟨RX7, "wayOf", "(I)I"⟩
abbrev cX7_sauceOf : ByteArray := prog_9_method_11_code
def yX7_sauceOf : MethodName := ⟨RX7, "sauceOf", "(I)I"⟩
abbrev cX7_placeOf : ByteArray := prog_9_method_12_code
def yX7_placeOf : MethodName := ⟨RX7, "placeOf", "(I)I"⟩
abbrev cX7_dishAt : ByteArray := prog_9_method_13_code
def yX7_dishAt : MethodName := ⟨RX7, "dishAt", "(I)I"⟩
abbrev cX7_isKind : ByteArray := prog_9_method_14_code
def yX7_isKind : MethodName := ⟨RX7, "isKind", "(I)Z"⟩
abbrev cX7_isEntry : ByteArray := prog_9_method_15_code
def yX7_isEntry : MethodName := ⟨RX7, "isEntry", "(I)Z"⟩
abbrev cX7_store : ByteArray := prog_9_method_16_code
def yX7_store : MethodName := ⟨RX7, "store", "(II)I"⟩
abbrev cX7_storeOf : ByteArray := prog_9_method_17_code
def yX7_storeOf : MethodName := ⟨RX7, "storeOf", "(I)I"⟩
abbrev cX7_mostOf : ByteArray := prog_9_method_18_code
def yX7_mostOf : MethodName := ⟨RX7, "mostOf", "(I)I"⟩
abbrev cX7_likedAt : ByteArray := prog_9_method_19_code
def yX7_likedAt : MethodName := ⟨RX7, "likedAt", "(II)I"⟩
abbrev cX7_like : ByteArray := prog_9_method_20_code
def yX7_like : MethodName := ⟨RX7, "like", "(III)I"⟩
abbrev cX7_edict : ByteArray := prog_9_method_21_code
def yX7_edict : MethodName := ⟨RX7, "edict", "(IZ)I"⟩
abbrev cX7_dish : ByteArray := prog_9_method_22_code
def yX7_dish : MethodName := ⟨RX7, "dish", "(III)I"⟩
abbrev cX7_likingOf : ByteArray := prog_9_method_23_code
def yX7_likingOf : MethodName := ⟨RX7, "likingOf", "(I)I"⟩
abbrev cX7_canBe : ByteArray := prog_9_method_24_code
def yX7_canBe : MethodName := ⟨RX7, "canBe", "(I)Z"⟩
abbrev cX7_barsIt : ByteArray := prog_9_method_25_code
def yX7_barsIt : MethodName := ⟨RX7, "barsIt", "(II)Z"⟩
abbrev cX7_firstBy : ByteArray := prog_9_method_26_code
def yX7_firstBy : MethodName := ⟨RX7, "firstBy", "(I)I"⟩
abbrev cX7_isNew : ByteArray := prog_9_method_27_code
def yX7_isNew : MethodName := ⟨RX7, "isNew", "(I)Z"⟩
abbrev cX7_of : ByteArray := prog_9_method_28_code
def yX7_of : MethodName := ⟨RX7, "of", "(II)I"⟩
abbrev cX7_nearOf : ByteArray := prog_9_method_29_code
def yX7_nearOf : MethodName := ⟨RX7, "nearOf", "(II)I"⟩
abbrev cX7_near : ByteArray := prog_9_method_30_code
def yX7_near : MethodName := ⟨RX7, "near", "(II)I"⟩
abbrev cX7_nearHad : ByteArray := prog_9_method_31_code
def yX7_nearHad : MethodName := ⟨RX7, "nearHad", "(II)I"⟩
abbrev cX7_marks : ByteArray := prog_9_method_32_code
def yX7_marks : MethodName := ⟨RX7, "marks", "()V"⟩
abbrev cX7_marksBy : ByteArray := prog_9_method_33_code
def yX7_marksBy : MethodName := ⟨RX7, "marksBy", "(I)V"⟩
abbrev cX7_isGood : ByteArray := prog_9_method_34_code
def yX7_isGood : MethodName := ⟨RX7, "isGood", "(I)Z"⟩
abbrev cX7_newMany : ByteArray := prog_9_method_35_code
def yX7_newMany : MethodName := ⟨RX7, "newMany", "()I"⟩
abbrev cX7_many : ByteArray := prog_9_method_36_code
def yX7_many : MethodName := ⟨RX7, "many", "(I)I"⟩
abbrev cX7_next : ByteArray := prog_9_method_37_code
def yX7_next : MethodName := ⟨RX7, "next", "(I)I"⟩
abbrev cX7_addEntry : ByteArray := prog_9_method_38_code
def yX7_addEntry : MethodName := ⟨RX7, "addEntry", "(III)V"⟩
abbrev cX7_enter : ByteArray := prog_9_method_39_code
def yX7_enter : MethodName := ⟨RX7, "enter", "(II)I"⟩
abbrev cX7_barsMany : ByteArray := prog_9_method_40_code
def yX7_barsMany : MethodName := ⟨RX7, "barsMany", "(I)I"⟩
abbrev cX7_entryOf : ByteArray := prog_9_method_41_code
def yX7_entryOf : MethodName := ⟨RX7, "entryOf", "(II)I"⟩
abbrev cX7_turn : ByteArray := prog_9_method_42_code
def yX7_turn : MethodName := ⟨RX7, "turn", "(II)I"⟩
abbrev cX7_isUnder : ByteArray := prog_9_method_43_code
def yX7_isUnder : MethodName := ⟨RX7, "isUnder", "(II)Z"⟩
abbrev cX7_as : ByteArray := prog_9_method_44_code
def yX7_as : MethodName := ⟨RX7, "as", "(II)I"⟩
abbrev cX7_strike : ByteArray := prog_9_method_45_code
def yX7_strike : MethodName := ⟨RX7, "strike", "()I"⟩
abbrev cX7_bars : ByteArray := prog_9_method_46_code
def yX7_bars : MethodName := ⟨RX7, "bars", "(II)I"⟩
abbrev cX7_by : ByteArray := prog_9_method_47_code
def yX7_by : MethodName := ⟨RX7, "by", "(I)I"⟩
abbrev cX7_breach : ByteArray := prog_9_method_48_code
def yX7_breach : MethodName := ⟨RX7, "breach", "()I"⟩
abbrev cX7_keenest : ByteArray := prog_9_method_49_code
def yX7_keenest : MethodName := ⟨RX7, "keenest", "()I"⟩
abbrev cX7_wouldBe : ByteArray := prog_9_method_50_code
def yX7_wouldBe : MethodName := ⟨RX7, "wouldBe", "(I)I"⟩
abbrev cX7_bestPlace : ByteArray := prog_9_method_51_code
def yX7_bestPlace : MethodName := ⟨RX7, "bestPlace", "()I"⟩
abbrev cX7_best : ByteArray := prog_9_method_52_code
def yX7_best : MethodName := ⟨RX7, "best", "()I"⟩
abbrev cX7_eats : ByteArray := prog_9_method_53_code
def yX7_eats : MethodName := ⟨RX7, "eats", "(III)V"⟩
abbrev cX7_serve : ByteArray := prog_9_method_54_code
def yX7_serve : MethodName := ⟨RX7, "serve", "(II)I"⟩
abbrev cX7_meals : ByteArray := prog_9_method_55_code
def yX7_meals : MethodName := ⟨RX7, "meals", "(II)I"⟩
abbrev cX7_begins0 : ByteArray := prog_9_method_56_code
def yX7_begins0 : MethodName := ⟨RX7, "begins0", "()V"⟩
abbrev cX7_back : ByteArray := prog_9_method_57_code
def yX7_back : MethodName := ⟨RX7, "back", "()V"⟩
abbrev cX7_goesOn : ByteArray := prog_9_method_58_code
def yX7_goesOn : MethodName := ⟨RX7, "goesOn", "(I)I"⟩
abbrev cX7_on : ByteArray := prog_9_method_59_code
def yX7_on : MethodName := ⟨RX7, "on", "(II)I"⟩
abbrev cX7_lastsBy : ByteArray := prog_9_method_60_code
def yX7_lastsBy : MethodName := ⟨RX7, "lastsBy", "(I)I"⟩
abbrev cX7_lasts : ByteArray := prog_9_method_61_code
def yX7_lasts : MethodName := ⟨RX7, "lasts", "(I)I"⟩
abbrev cX7_buy : ByteArray := prog_9_method_62_code
def yX7_buy : MethodName := ⟨RX7, "buy", "(I)I"⟩
abbrev cX7_comesTo : ByteArray := prog_9_method_63_code
def yX7_comesTo : MethodName := ⟨RX7, "comesTo", "(II)V"⟩
abbrev cX7_goesFrom : ByteArray := prog_9_method_64_code
def yX7_goesFrom : MethodName := ⟨RX7, "goesFrom", "(I)V"⟩
abbrev cX7_findSteps : ByteArray := prog_9_method_65_code
def yX7_findSteps : MethodName := ⟨RX7, "findSteps", "(I)V"⟩
abbrev cX7_steps : ByteArray := prog_9_method_66_code
def yX7_steps : MethodName := ⟨RX7, "steps", "(II)I"⟩
abbrev cX7_within : ByteArray := prog_9_method_67_code
def yX7_within : MethodName := ⟨RX7, "within", "(II)I"⟩
abbrev cX7_walk : ByteArray := prog_9_method_68_code
def yX7_walk : MethodName := ⟨RX7, "walk", "(II)I"⟩
abbrev cX7_now : ByteArray := prog_9_method_69_code
def yX7_now : MethodName := ⟨RX7, "now", "(I)I"⟩
abbrev cX7_feed : ByteArray := prog_9_method_70_code
def yX7_feed : MethodName := ⟨RX7, "feed", "(II)I"⟩
abbrev cX7_wipe : ByteArray := prog_9_method_71_code
def yX7_wipe : MethodName := ⟨RX7, "wipe", "()I"⟩
abbrev cX7_byteAt : ByteArray := prog_9_method_72_code
def yX7_byteAt : MethodName := ⟨RX7, "byteAt", "(I)I"⟩
abbrev cX7_isLetter : ByteArray := prog_9_method_73_code
def yX7_isLetter : MethodName := ⟨RX7, "isLetter", "(I)Z"⟩
abbrev cX7_isDigit : ByteArray := prog_9_method_74_code
def yX7_isDigit : MethodName := ⟨RX7, "isDigit", "(I)Z"⟩
abbrev cX7_advance : ByteArray := prog_9_method_75_code
def yX7_advance : MethodName := ⟨RX7, "advance", "()V"⟩
abbrev cX7_isWord : ByteArray := prog_9_method_76_code
def yX7_isWord : MethodName := ⟨RX7, "isWord", "(J)Z"⟩
abbrev cX7_kindHere : ByteArray := prog_9_method_77_code
def yX7_kindHere : MethodName := ⟨RX7, "kindHere", "()I"⟩
abbrev cX7_wantNumber : ByteArray := prog_9_method_78_code
def yX7_wantNumber : MethodName := ⟨RX7, "wantNumber", "(II)I"⟩
abbrev cX7_wantWord : ByteArray := prog_9_method_79_code
def yX7_wantWord : MethodName := ⟨RX7, "wantWord", "(J)V"⟩
abbrev cX7_wantEither : ByteArray := prog_9_method_80_code
def yX7_wantEither : MethodName := ⟨RX7, "wantEither", "(JJ)Z"⟩
abbrev cX7_wantEntry : ByteArray := prog_9_method_81_code
def yX7_wantEntry : MethodName := ⟨RX7, "wantEntry", "(I)V"⟩
abbrev cX7_wantStore : ByteArray := prog_9_method_82_code
def yX7_wantStore : MethodName := ⟨RX7, "wantStore", "()V"⟩
abbrev cX7_wantLiking : ByteArray := prog_9_method_83_code
def yX7_wantLiking : MethodName := ⟨RX7, "wantLiking", "(Z)V"⟩
abbrev cX7_wantEdict : ByteArray := prog_9_method_84_code
def yX7_wantEdict : MethodName := ⟨RX7, "wantEdict", "()V"⟩
abbrev cX7_wantDay : ByteArray := prog_9_method_85_code
def yX7_wantDay : MethodName := ⟨RX7, "wantDay", "()V"⟩
abbrev cX7_wantItem : ByteArray := prog_9_method_86_code
def yX7_wantItem : MethodName := ⟨RX7, "wantItem", "()V"⟩
abbrev cX7_book : ByteArray := prog_9_method_87_code
def yX7_book : MethodName := ⟨RX7, "book", "()I"⟩
abbrev cX7_isSheet : ByteArray := prog_9_method_88_code
def yX7_isSheet : MethodName := ⟨RX7, "isSheet", "(I)Z"⟩
abbrev cX7_narrow : ByteArray := prog_9_method_89_code
def yX7_narrow : MethodName := ⟨RX7, "narrow", "(IJ)J"⟩
abbrev cX7_sheet : ByteArray := prog_9_method_90_code
def yX7_sheet : MethodName := ⟨RX7, "sheet", "(III)I"⟩
abbrev cX7_write : ByteArray := prog_9_method_91_code
def yX7_write : MethodName := ⟨RX7, "write", "(IIJ)J"⟩
abbrev cX7_isPart : ByteArray := prog_9_method_92_code
def yX7_isPart : MethodName := ⟨RX7, "isPart", "(III)Z"⟩
abbrev cX7_copy : ByteArray := prog_9_method_93_code
def yX7_copy : MethodName := ⟨RX7, "copy", "(IIIII)I"⟩
abbrev cX7_lays : ByteArray := prog_9_method_94_code
def yX7_lays : MethodName := ⟨RX7, "lays", "(I)I"⟩
abbrev cX7_noMenu : ByteArray := prog_9_method_95_code
def yX7_noMenu : MethodName := ⟨RX7, "noMenu", "(II)I"⟩
abbrev cX7_menu : ByteArray := prog_9_method_96_code
def yX7_menu : MethodName := ⟨RX7, "menu", "(II)I"⟩
abbrev cX7_canServe : ByteArray := prog_9_method_97_code
def yX7_canServe : MethodName := ⟨RX7, "canServe", "(JI)Z"⟩
abbrev cX7_read : ByteArray := prog_9_method_98_code
def yX7_read : MethodName := ⟨RX7, "read", "(II)I"⟩
abbrev cX7_moveRow : ByteArray := prog_9_method_99_code
def yX7_moveRow : MethodName := ⟨RX7, "moveRow", "([IIZ[I)V"⟩
abbrev cX7_moveAll : ByteArray := prog_9_method_100_code
def yX7_moveAll : MethodName := ⟨RX7, "moveAll", "(Z[I)V"⟩
abbrev cX7_image : ByteArray := prog_9_method_101_code
def yX7_image : MethodName := ⟨RX7, "image", "()I"⟩
abbrev cX7_undo : ByteArray := prog_9_method_102_code
def yX7_undo : MethodName := ⟨RX7, "undo", "()I"⟩
abbrev cX7_tear : ByteArray := prog_9_method_103_code
def yX7_tear : MethodName := ⟨RX7, "tear", "()I"⟩
abbrev cX7_count : ByteArray := prog_9_method_104_code
def yX7_count : MethodName := ⟨RX7, "count", "(I)I"⟩
abbrev cX7_status : ByteArray := prog_9_method_105_code
def yX7_status : MethodName := ⟨RX7, "status", "(I)I"⟩
def RJx145de : String := "java/io/Serializable"
def TJx145de : u_T := fun k => match k with
  | _ => ("", "", "", false)
def tyJx145de : Nat → FieldType := fun k => match k with
  | _ => .int
abbrev wsJx145de0 : List Cond := u_ws RJx145de TJx145de 0
theorem nmJx145de : ∀ a, a < 0 → ∀ b, b < 0 → a ≠ b → (TJx145de a).2.1 ≠ (TJx145de b).2.1 := by decide +kernel
theorem tyJx145de_ok : ∀ k, k < 0 → parseFieldDescriptor (TJx145de k).2.2.1 = some (tyJx145de k) := by decide +kernel
def RJx9f9b0 : String := "java/lang/CharSequence"
def TJx9f9b0 : u_T := fun k => match k with
  | _ => ("", "", "", false)
def tyJx9f9b0 : Nat → FieldType := fun k => match k with
  | _ => .int
abbrev wsJx9f9b00 : List Cond := u_ws RJx9f9b0 TJx9f9b0 0
theorem nmJx9f9b0 : ∀ a, a < 0 → ∀ b, b < 0 → a ≠ b → (TJx9f9b0 a).2.1 ≠ (TJx9f9b0 b).2.1 := by decide +kernel
theorem tyJx9f9b0_ok : ∀ k, k < 0 → parseFieldDescriptor (TJx9f9b0 k).2.2.1 = some (tyJx9f9b0 k) := by decide +kernel
def RJxb160c : String := "java/lang/Comparable"
def TJxb160c : u_T := fun k => match k with
  | _ => ("", "", "", false)
def tyJxb160c : Nat → FieldType := fun k => match k with
  | _ => .int
abbrev wsJxb160c0 : List Cond := u_ws RJxb160c TJxb160c 0
theorem nmJxb160c : ∀ a, a < 0 → ∀ b, b < 0 → a ≠ b → (TJxb160c a).2.1 ≠ (TJxb160c b).2.1 := by decide +kernel
theorem tyJxb160c_ok : ∀ k, k < 0 → parseFieldDescriptor (TJxb160c k).2.2.1 = some (tyJxb160c k) := by decide +kernel
def RJ6 : String := "java/lang/Integer"
def TJ6 : u_T := fun k => match k with
  | _ => ("", "", "", false)
def tyJ6 : Nat → FieldType := fun k => match k with
  | _ => .int
abbrev wsJ60 : List Cond := u_ws RJ6 TJ6 0
theorem nmJ6 : ∀ a, a < 0 → ∀ b, b < 0 → a ≠ b → (TJ6 a).2.1 ≠ (TJ6 b).2.1 := by decide +kernel
theorem tyJ6_ok : ∀ k, k < 0 → parseFieldDescriptor (TJ6 k).2.2.1 = some (tyJ6 k) := by decide +kernel
abbrev cJ6_bitCount_0f7a4 : ByteArray := prog_10_method_49_code
def yJ6_bitCount_0f7a4 : MethodName := ⟨RJ6, "bitCount", "(I)I"⟩
def RJ9 : String := "java/lang/Math"
def TJ9 : u_T := fun k => match k with
  | _ => ("", "", "", false)
def tyJ9 : Nat → FieldType := fun k => match k with
  | _ => .int
abbrev wsJ90 : List Cond := u_ws RJ9 TJ9 0
theorem nmJ9 : ∀ a, a < 0 → ∀ b, b < 0 → a ≠ b → (TJ9 a).2.1 ≠ (TJ9 b).2.1 := by decide +kernel
theorem tyJ9_ok : ∀ k, k < 0 → parseFieldDescriptor (TJ9 k).2.2.1 = some (tyJ9 k) := by decide +kernel
abbrev cJ9_min_7cf53 : ByteArray := prog_11_method_69_code
def yJ9_min_7cf53 : MethodName := ⟨RJ9, "min", "(II)I"⟩
def RJ0 : String := "java/lang/String"
def TJ0 : u_T := fun k => match k with
  | _ => ("", "", "", false)
def tyJ0 : Nat → FieldType := fun k => match k with
  | _ => .int
abbrev wsJ00 : List Cond := u_ws RJ0 TJ0 0
theorem nmJ0 : ∀ a, a < 0 → ∀ b, b < 0 → a ≠ b → (TJ0 a).2.1 ≠ (TJ0 b).2.1 := by decide +kernel
theorem tyJ0_ok : ∀ k, k < 0 → parseFieldDescriptor (TJ0 k).2.2.1 = some (tyJ0 k) := by decide +kernel
abbrev cJ0_length_8abf5 : ByteArray := prog_12_method_54_code
def yJ0_length_8abf5 : MethodName := ⟨RJ0, "length", "()I"⟩
abbrev cJ0_charAt_5068e : ByteArray := prog_12_method_56_code
def yJ0_charAt_5068e : MethodName := ⟨RJ0, "charAt", "(I)C"⟩
abbrev cJ0_coder_7d493 : ByteArray := prog_12_method_152_code
def yJ0_coder_7d493 : MethodName := ⟨RJ0, "coder", "()B"⟩
abbrev cJ0_isLatin1_aae02 : ByteArray := prog_12_method_154_code
def yJ0_isLatin1_aae02 : MethodName := ⟨RJ0, "isLatin1", "()Z"⟩
abbrev cJ0_checkIndex_df160 : ByteArray := prog_12_method_155_code
def yJ0_checkIndex_df160 : MethodName := ⟨RJ0, "checkIndex", "(II)V"⟩
def RJ1 : String := "java/lang/StringLatin1"
def TJ1 : u_T := fun k => match k with
  | _ => ("", "", "", false)
def tyJ1 : Nat → FieldType := fun k => match k with
  | _ => .int
abbrev wsJ10 : List Cond := u_ws RJ1 TJ1 0
theorem nmJ1 : ∀ a, a < 0 → ∀ b, b < 0 → a ≠ b → (TJ1 a).2.1 ≠ (TJ1 b).2.1 := by decide +kernel
theorem tyJ1_ok : ∀ k, k < 0 → parseFieldDescriptor (TJ1 k).2.2.1 = some (tyJ1 k) := by decide +kernel
abbrev cJ1_charAt_3b067 : ByteArray := prog_13_method_2_code
def yJ1_charAt_3b067 : MethodName := ⟨RJ1, "charAt", "([BI)C"⟩
def RJ2 : String := "java/lang/StringUTF16"
def TJ2 : u_T := fun k => match k with
  | _ => ("", "", "", false)
def tyJ2 : Nat → FieldType := fun k => match k with
  | _ => .int
abbrev wsJ20 : List Cond := u_ws RJ2 TJ2 0
theorem nmJ2 : ∀ a, a < 0 → ∀ b, b < 0 → a ≠ b → (TJ2 a).2.1 ≠ (TJ2 b).2.1 := by decide +kernel
theorem tyJ2_ok : ∀ k, k < 0 → parseFieldDescriptor (TJ2 k).2.2.1 = some (tyJ2 k) := by decide +kernel
abbrev cJ2_getChar_3b067 : ByteArray := prog_14_method_5_code
def yJ2_getChar_3b067 : MethodName := ⟨RJ2, "getChar", "([BI)C"⟩
abbrev cJ2_length_9d52b : ByteArray := prog_14_method_6_code
def yJ2_length_9d52b : MethodName := ⟨RJ2, "length", "([B)I"⟩
abbrev cJ2_charAt_3b067 : ByteArray := prog_14_method_83_code
def yJ2_charAt_3b067 : MethodName := ⟨RJ2, "charAt", "([BI)C"⟩
abbrev cJ2_checkIndex_2214a : ByteArray := prog_14_method_91_code
def yJ2_checkIndex_2214a : MethodName := ⟨RJ2, "checkIndex", "(I[B)V"⟩
def RJ10 : String := "java/lang/System"
def TJ10 : u_T := fun k => match k with
  | _ => ("", "", "", false)
def tyJ10 : Nat → FieldType := fun k => match k with
  | _ => .int
abbrev wsJ100 : List Cond := u_ws RJ10 TJ10 0
theorem nmJ10 : ∀ a, a < 0 → ∀ b, b < 0 → a ≠ b → (TJ10 a).2.1 ≠ (TJ10 b).2.1 := by decide +kernel
theorem tyJ10_ok : ∀ k, k < 0 → parseFieldDescriptor (TJ10 k).2.2.1 = some (tyJ10 k) := by decide +kernel
def RJxfd54e : String := "java/lang/constant/Constable"
def TJxfd54e : u_T := fun k => match k with
  | _ => ("", "", "", false)
def tyJxfd54e : Nat → FieldType := fun k => match k with
  | _ => .int
abbrev wsJxfd54e0 : List Cond := u_ws RJxfd54e TJxfd54e 0
theorem nmJxfd54e : ∀ a, a < 0 → ∀ b, b < 0 → a ≠ b → (TJxfd54e a).2.1 ≠ (TJxfd54e b).2.1 := by decide +kernel
theorem tyJxfd54e_ok : ∀ k, k < 0 → parseFieldDescriptor (TJxfd54e k).2.2.1 = some (tyJxfd54e k) := by decide +kernel
def RJx3cf43 : String := "java/lang/constant/ConstantDesc"
def TJx3cf43 : u_T := fun k => match k with
  | _ => ("", "", "", false)
def tyJx3cf43 : Nat → FieldType := fun k => match k with
  | _ => .int
abbrev wsJx3cf430 : List Cond := u_ws RJx3cf43 TJx3cf43 0
theorem nmJx3cf43 : ∀ a, a < 0 → ∀ b, b < 0 → a ≠ b → (TJx3cf43 a).2.1 ≠ (TJx3cf43 b).2.1 := by decide +kernel
theorem tyJx3cf43_ok : ∀ k, k < 0 → parseFieldDescriptor (TJx3cf43 k).2.2.1 = some (tyJx3cf43 k) := by decide +kernel
def RJ7 : String := "java/util/Arrays"
def TJ7 : u_T := fun k => match k with
  | _ => ("", "", "", false)
def tyJ7 : Nat → FieldType := fun k => match k with
  | _ => .int
abbrev wsJ70 : List Cond := u_ws RJ7 TJ7 0
theorem nmJ7 : ∀ a, a < 0 → ∀ b, b < 0 → a ≠ b → (TJ7 a).2.1 ≠ (TJ7 b).2.1 := by decide +kernel
theorem tyJ7_ok : ∀ k, k < 0 → parseFieldDescriptor (TJ7 k).2.2.1 = some (tyJ7 k) := by decide +kernel
abbrev cJ7_fill_d0a16 : ByteArray := prog_16_method_101_code
def yJ7_fill_d0a16 : MethodName := ⟨RJ7, "fill", "([JJ)V"⟩
abbrev cJ7_fill_53178 : ByteArray := prog_16_method_103_code
def yJ7_fill_53178 : MethodName := ⟨RJ7, "fill", "([II)V"⟩
def RJ3 : String := "jdk/internal/util/Preconditions"
def TJ3 : u_T := fun k => match k with
  | _ => ("", "", "", false)
def tyJ3 : Nat → FieldType := fun k => match k with
  | _ => .int
abbrev wsJ30 : List Cond := u_ws RJ3 TJ3 0
theorem nmJ3 : ∀ a, a < 0 → ∀ b, b < 0 → a ≠ b → (TJ3 a).2.1 ≠ (TJ3 b).2.1 := by decide +kernel
theorem tyJ3_ok : ∀ k, k < 0 → parseFieldDescriptor (TJ3 k).2.2.1 = some (tyJ3 k) := by decide +kernel
abbrev cJ3_checkIndex_8e157 : ByteArray := prog_17_method_11_code
def yJ3_checkIndex_8e157 : MethodName := ⟨RJ3, "checkIndex", "(IILjava/util/function/BiFunction;)I"⟩
def RL : String := "NewDishesLaw"
abbrev cL_law : ByteArray := code
def yL_law : MethodName := ⟨RL, "law", "([I)Z"⟩
abbrev vwCl : List vw_C := [(RX0, TX0, 2), (RX1, TX1, 10), (RX2, TX2, 7), (RX3, TX3, 2), (RX4, TX4, 3), (RX5, TX5, 6), (RX6, TX6, 9), (RX7, TX7, 36)]
