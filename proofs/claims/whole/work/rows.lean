section
-- ===== PART A: goes FIRST, ahead of the names: the tables' words, and 'selects' of the private methods out of them =====
/-- a private method of a class that the tables say can be made, by its rows of tables_1 -/
def lw_okq (q : MethodName × Nat) : Prop := (q.1.cls ≠ "java/lang/invoke/MethodHandle" ∧ q.1.cls ≠ "java/lang/invoke/VarHandle") ∧ Cond.instantiable q.1.cls q.2 ∈ tables_1 ∧ Cond.privateMethod q.1 ∈ tables_1 ∧ Cond.instanceMethod q.1 ∈ tables_1
theorem lw_p0 : lw_okq (⟨"NewDishes", "finding", "(I)I"⟩, 9) := ⟨⟨by decide +kernel, by decide +kernel⟩, List.mem_of_getElem? (i := 18) (by decide +kernel), List.mem_of_getElem? (i := 228) (by decide +kernel), List.mem_of_getElem? (i := 229) (by decide +kernel)⟩
theorem lw_p1 : lw_okq (⟨"NewDishes$Barred", "barIn", "(II)V"⟩, 2) := ⟨⟨by decide +kernel, by decide +kernel⟩, List.mem_of_getElem? (i := 90) (by decide +kernel), List.mem_of_getElem? (i := 374) (by decide +kernel), List.mem_of_getElem? (i := 375) (by decide +kernel)⟩
theorem lw_p2 : lw_okq (⟨"NewDishes$Kitchen", "weighSets", "([I)V"⟩, 7) := ⟨⟨by decide +kernel, by decide +kernel⟩, List.mem_of_getElem? (i := 84) (by decide +kernel), List.mem_of_getElem? (i := 381) (by decide +kernel), List.mem_of_getElem? (i := 382) (by decide +kernel)⟩
theorem lw_p3 : lw_okq (⟨"NewDishes$Kitchen", "weighManners", "(LNewDishes$Bureau;)V"⟩, 7) := ⟨⟨by decide +kernel, by decide +kernel⟩, List.mem_of_getElem? (i := 84) (by decide +kernel), List.mem_of_getElem? (i := 387) (by decide +kernel), List.mem_of_getElem? (i := 388) (by decide +kernel)⟩
theorem lw_p4 : lw_okq (⟨"NewDishes$Kitchen", "rankManners", "()V"⟩, 7) := ⟨⟨by decide +kernel, by decide +kernel⟩, List.mem_of_getElem? (i := 84) (by decide +kernel), List.mem_of_getElem? (i := 393) (by decide +kernel), List.mem_of_getElem? (i := 394) (by decide +kernel)⟩
theorem lw_p5 : lw_okq (⟨"NewDishes", "orNone", "(I)I"⟩, 9) := ⟨⟨by decide +kernel, by decide +kernel⟩, List.mem_of_getElem? (i := 18) (by decide +kernel), List.mem_of_getElem? (i := 426) (by decide +kernel), List.mem_of_getElem? (i := 427) (by decide +kernel)⟩
theorem lw_p6 : lw_okq (⟨"NewDishes$Kitchen", "favouriteManner", "(I)I"⟩, 7) := ⟨⟨by decide +kernel, by decide +kernel⟩, List.mem_of_getElem? (i := 84) (by decide +kernel), List.mem_of_getElem? (i := 516) (by decide +kernel), List.mem_of_getElem? (i := 517) (by decide +kernel)⟩
theorem lw_p7 : lw_okq (⟨"NewDishes$Paths", "setOut", "(I)V"⟩, 2) := ⟨⟨by decide +kernel, by decide +kernel⟩, List.mem_of_getElem? (i := 131) (by decide +kernel), List.mem_of_getElem? (i := 578) (by decide +kernel), List.mem_of_getElem? (i := 579) (by decide +kernel)⟩
theorem lw_p8 : lw_okq (⟨"NewDishes$Paths", "goFurther", "(LNewDishes$Kitchen;)Z"⟩, 2) := ⟨⟨by decide +kernel, by decide +kernel⟩, List.mem_of_getElem? (i := 131) (by decide +kernel), List.mem_of_getElem? (i := 586) (by decide +kernel), List.mem_of_getElem? (i := 587) (by decide +kernel)⟩
theorem lw_p9 : lw_okq (⟨"NewDishes$Paths", "fromOtherSets", "(I)I"⟩, 2) := ⟨⟨by decide +kernel, by decide +kernel⟩, List.mem_of_getElem? (i := 131) (by decide +kernel), List.mem_of_getElem? (i := 598) (by decide +kernel), List.mem_of_getElem? (i := 599) (by decide +kernel)⟩
theorem lw_p10 : lw_okq (⟨"NewDishes$Tape", "advance", "()V"⟩, 6) := ⟨⟨by decide +kernel, by decide +kernel⟩, List.mem_of_getElem? (i := 145) (by decide +kernel), List.mem_of_getElem? (i := 653) (by decide +kernel), List.mem_of_getElem? (i := 654) (by decide +kernel)⟩
theorem lw_p11 : lw_okq (⟨"NewDishes$Tape", "typeAt", "(I)I"⟩, 6) := ⟨⟨by decide +kernel, by decide +kernel⟩, List.mem_of_getElem? (i := 145) (by decide +kernel), List.mem_of_getElem? (i := 657) (by decide +kernel), List.mem_of_getElem? (i := 658) (by decide +kernel)⟩
theorem lw_p12 : lw_okq (⟨"NewDishes$Tape", "valueOfDigits", "()I"⟩, 6) := ⟨⟨by decide +kernel, by decide +kernel⟩, List.mem_of_getElem? (i := 145) (by decide +kernel), List.mem_of_getElem? (i := 664) (by decide +kernel), List.mem_of_getElem? (i := 665) (by decide +kernel)⟩
theorem lw_p13 : lw_okq (⟨"NewDishes$Tape", "takeItem", "(LNewDishes$Bureau;)Z"⟩, 6) := ⟨⟨by decide +kernel, by decide +kernel⟩, List.mem_of_getElem? (i := 145) (by decide +kernel), List.mem_of_getElem? (i := 668) (by decide +kernel), List.mem_of_getElem? (i := 669) (by decide +kernel)⟩
theorem lw_p14 : lw_okq (⟨"NewDishes$Tape", "kindNamed", "()I"⟩, 6) := ⟨⟨by decide +kernel, by decide +kernel⟩, List.mem_of_getElem? (i := 145) (by decide +kernel), List.mem_of_getElem? (i := 672) (by decide +kernel), List.mem_of_getElem? (i := 673) (by decide +kernel)⟩
theorem lw_p15 : lw_okq (⟨"NewDishes$Tape", "isWord", "(Ljava/lang/String;)Z"⟩, 6) := ⟨⟨by decide +kernel, by decide +kernel⟩, List.mem_of_getElem? (i := 145) (by decide +kernel), List.mem_of_getElem? (i := 677) (by decide +kernel), List.mem_of_getElem? (i := 678) (by decide +kernel)⟩
def lw_privs_1 : List (MethodName × Nat) := [(⟨"NewDishes", "finding", "(I)I"⟩, 9), (⟨"NewDishes$Barred", "barIn", "(II)V"⟩, 2), (⟨"NewDishes$Kitchen", "weighSets", "([I)V"⟩, 7), (⟨"NewDishes$Kitchen", "weighManners", "(LNewDishes$Bureau;)V"⟩, 7), (⟨"NewDishes$Kitchen", "rankManners", "()V"⟩, 7), (⟨"NewDishes", "orNone", "(I)I"⟩, 9), (⟨"NewDishes$Kitchen", "favouriteManner", "(I)I"⟩, 7), (⟨"NewDishes$Paths", "setOut", "(I)V"⟩, 2), (⟨"NewDishes$Paths", "goFurther", "(LNewDishes$Kitchen;)Z"⟩, 2), (⟨"NewDishes$Paths", "fromOtherSets", "(I)I"⟩, 2), (⟨"NewDishes$Tape", "advance", "()V"⟩, 6), (⟨"NewDishes$Tape", "typeAt", "(I)I"⟩, 6), (⟨"NewDishes$Tape", "valueOfDigits", "()I"⟩, 6), (⟨"NewDishes$Tape", "takeItem", "(LNewDishes$Bureau;)Z"⟩, 6), (⟨"NewDishes$Tape", "kindNamed", "()I"⟩, 6), (⟨"NewDishes$Tape", "isWord", "(Ljava/lang/String;)Z"⟩, 6)]
theorem lw_r1 : ∀ q ∈ lw_privs_1, lw_okq q := List.forall_mem_cons.mpr ⟨lw_p0, List.forall_mem_cons.mpr ⟨lw_p1, List.forall_mem_cons.mpr ⟨lw_p2, List.forall_mem_cons.mpr ⟨lw_p3, List.forall_mem_cons.mpr ⟨lw_p4, List.forall_mem_cons.mpr ⟨lw_p5, List.forall_mem_cons.mpr ⟨lw_p6, List.forall_mem_cons.mpr ⟨lw_p7, List.forall_mem_cons.mpr ⟨lw_p8, List.forall_mem_cons.mpr ⟨lw_p9, List.forall_mem_cons.mpr ⟨lw_p10, List.forall_mem_cons.mpr ⟨lw_p11, List.forall_mem_cons.mpr ⟨lw_p12, List.forall_mem_cons.mpr ⟨lw_p13, List.forall_mem_cons.mpr ⟨lw_p14, List.forall_mem_cons.mpr ⟨lw_p15, fun _ h => absurd h List.not_mem_nil⟩⟩⟩⟩⟩⟩⟩⟩⟩⟩⟩⟩⟩⟩⟩⟩
theorem lw_p16 : lw_okq (⟨"NewDishes$Tape", "takeEntry", "(LNewDishes$Bureau;I)Z"⟩, 6) := ⟨⟨by decide +kernel, by decide +kernel⟩, List.mem_of_getElem? (i := 145) (by decide +kernel), List.mem_of_getElem? (i := 734) (by decide +kernel), List.mem_of_getElem? (i := 735) (by decide +kernel)⟩
theorem lw_p17 : lw_okq (⟨"NewDishes$Tape", "takeThings", "()I"⟩, 6) := ⟨⟨by decide +kernel, by decide +kernel⟩, List.mem_of_getElem? (i := 145) (by decide +kernel), List.mem_of_getElem? (i := 739) (by decide +kernel), List.mem_of_getElem? (i := 740) (by decide +kernel)⟩
theorem lw_p18 : lw_okq (⟨"NewDishes$Tape", "takeWord", "(Ljava/lang/String;)Z"⟩, 6) := ⟨⟨by decide +kernel, by decide +kernel⟩, List.mem_of_getElem? (i := 145) (by decide +kernel), List.mem_of_getElem? (i := 745) (by decide +kernel), List.mem_of_getElem? (i := 746) (by decide +kernel)⟩
theorem lw_p19 : lw_okq (⟨"NewDishes$Tape", "takeNumber", "(I)I"⟩, 6) := ⟨⟨by decide +kernel, by decide +kernel⟩, List.mem_of_getElem? (i := 145) (by decide +kernel), List.mem_of_getElem? (i := 749) (by decide +kernel), List.mem_of_getElem? (i := 750) (by decide +kernel)⟩
theorem lw_p20 : lw_okq (⟨"NewDishes$Tape", "takeStore", "(LNewDishes$Bureau;)Z"⟩, 6) := ⟨⟨by decide +kernel, by decide +kernel⟩, List.mem_of_getElem? (i := 145) (by decide +kernel), List.mem_of_getElem? (i := 757) (by decide +kernel), List.mem_of_getElem? (i := 758) (by decide +kernel)⟩
theorem lw_p21 : lw_okq (⟨"NewDishes$Tape", "takeLiking", "(LNewDishes$Bureau;I)Z"⟩, 6) := ⟨⟨by decide +kernel, by decide +kernel⟩, List.mem_of_getElem? (i := 145) (by decide +kernel), List.mem_of_getElem? (i := 762) (by decide +kernel), List.mem_of_getElem? (i := 763) (by decide +kernel)⟩
theorem lw_p22 : lw_okq (⟨"NewDishes$Tape", "whatNamed", "()I"⟩, 6) := ⟨⟨by decide +kernel, by decide +kernel⟩, List.mem_of_getElem? (i := 145) (by decide +kernel), List.mem_of_getElem? (i := 766) (by decide +kernel), List.mem_of_getElem? (i := 767) (by decide +kernel)⟩
theorem lw_p23 : lw_okq (⟨"NewDishes$Tape", "takeEdict", "(LNewDishes$Bureau;)Z"⟩, 6) := ⟨⟨by decide +kernel, by decide +kernel⟩, List.mem_of_getElem? (i := 145) (by decide +kernel), List.mem_of_getElem? (i := 774) (by decide +kernel), List.mem_of_getElem? (i := 775) (by decide +kernel)⟩
theorem lw_p24 : lw_okq (⟨"NewDishes$Tape", "takeDay", "(LNewDishes$Bureau;)Z"⟩, 6) := ⟨⟨by decide +kernel, by decide +kernel⟩, List.mem_of_getElem? (i := 145) (by decide +kernel), List.mem_of_getElem? (i := 784) (by decide +kernel), List.mem_of_getElem? (i := 785) (by decide +kernel)⟩
theorem lw_p25 : lw_okq (⟨"NewDishes", "sheetFault", "(I)I"⟩, 9) := ⟨⟨by decide +kernel, by decide +kernel⟩, List.mem_of_getElem? (i := 18) (by decide +kernel), List.mem_of_getElem? (i := 805) (by decide +kernel), List.mem_of_getElem? (i := 806) (by decide +kernel)⟩
theorem lw_p26 : lw_okq (⟨"NewDishes$Sheet", "cut", "(J)J"⟩, 3) := ⟨⟨by decide +kernel, by decide +kernel⟩, List.mem_of_getElem? (i := 172) (by decide +kernel), List.mem_of_getElem? (i := 819) (by decide +kernel), List.mem_of_getElem? (i := 820) (by decide +kernel)⟩
theorem lw_p27 : lw_okq (⟨"NewDishes", "menuFault", "(II)I"⟩, 9) := ⟨⟨by decide +kernel, by decide +kernel⟩, List.mem_of_getElem? (i := 18) (by decide +kernel), List.mem_of_getElem? (i := 841) (by decide +kernel), List.mem_of_getElem? (i := 842) (by decide +kernel)⟩
theorem lw_p28 : lw_okq (⟨"NewDishesModel", "finds", "(I)I"⟩, 36) := ⟨⟨by decide +kernel, by decide +kernel⟩, List.mem_of_getElem? (i := 877) (by decide +kernel), List.mem_of_getElem? (i := 1010) (by decide +kernel), List.mem_of_getElem? (i := 1011) (by decide +kernel)⟩
theorem lw_p29 : lw_okq (⟨"NewDishesModel", "isDish", "(I)Z"⟩, 36) := ⟨⟨by decide +kernel, by decide +kernel⟩, List.mem_of_getElem? (i := 877) (by decide +kernel), List.mem_of_getElem? (i := 1040) (by decide +kernel), List.mem_of_getElem? (i := 1041) (by decide +kernel)⟩
theorem lw_p30 : lw_okq (⟨"NewDishesModel", "likingOf", "(I)I"⟩, 36) := ⟨⟨by decide +kernel, by decide +kernel⟩, List.mem_of_getElem? (i := 877) (by decide +kernel), List.mem_of_getElem? (i := 1053) (by decide +kernel), List.mem_of_getElem? (i := 1054) (by decide +kernel)⟩
theorem lw_p31 : lw_okq (⟨"NewDishesModel", "canBe", "(I)Z"⟩, 36) := ⟨⟨by decide +kernel, by decide +kernel⟩, List.mem_of_getElem? (i := 877) (by decide +kernel), List.mem_of_getElem? (i := 1060) (by decide +kernel), List.mem_of_getElem? (i := 1061) (by decide +kernel)⟩
def lw_privs_2 : List (MethodName × Nat) := [(⟨"NewDishes$Tape", "takeEntry", "(LNewDishes$Bureau;I)Z"⟩, 6), (⟨"NewDishes$Tape", "takeThings", "()I"⟩, 6), (⟨"NewDishes$Tape", "takeWord", "(Ljava/lang/String;)Z"⟩, 6), (⟨"NewDishes$Tape", "takeNumber", "(I)I"⟩, 6), (⟨"NewDishes$Tape", "takeStore", "(LNewDishes$Bureau;)Z"⟩, 6), (⟨"NewDishes$Tape", "takeLiking", "(LNewDishes$Bureau;I)Z"⟩, 6), (⟨"NewDishes$Tape", "whatNamed", "()I"⟩, 6), (⟨"NewDishes$Tape", "takeEdict", "(LNewDishes$Bureau;)Z"⟩, 6), (⟨"NewDishes$Tape", "takeDay", "(LNewDishes$Bureau;)Z"⟩, 6), (⟨"NewDishes", "sheetFault", "(I)I"⟩, 9), (⟨"NewDishes$Sheet", "cut", "(J)J"⟩, 3), (⟨"NewDishes", "menuFault", "(II)I"⟩, 9), (⟨"NewDishesModel", "finds", "(I)I"⟩, 36), (⟨"NewDishesModel", "isDish", "(I)Z"⟩, 36), (⟨"NewDishesModel", "likingOf", "(I)I"⟩, 36), (⟨"NewDishesModel", "canBe", "(I)Z"⟩, 36)]
theorem lw_r2 : ∀ q ∈ lw_privs_2, lw_okq q := List.forall_mem_cons.mpr ⟨lw_p16, List.forall_mem_cons.mpr ⟨lw_p17, List.forall_mem_cons.mpr ⟨lw_p18, List.forall_mem_cons.mpr ⟨lw_p19, List.forall_mem_cons.mpr ⟨lw_p20, List.forall_mem_cons.mpr ⟨lw_p21, List.forall_mem_cons.mpr ⟨lw_p22, List.forall_mem_cons.mpr ⟨lw_p23, List.forall_mem_cons.mpr ⟨lw_p24, List.forall_mem_cons.mpr ⟨lw_p25, List.forall_mem_cons.mpr ⟨lw_p26, List.forall_mem_cons.mpr ⟨lw_p27, List.forall_mem_cons.mpr ⟨lw_p28, List.forall_mem_cons.mpr ⟨lw_p29, List.forall_mem_cons.mpr ⟨lw_p30, List.forall_mem_cons.mpr ⟨lw_p31, fun _ h => absurd h List.not_mem_nil⟩⟩⟩⟩⟩⟩⟩⟩⟩⟩⟩⟩⟩⟩⟩⟩
theorem lw_p32 : lw_okq (⟨"NewDishesModel", "isNew", "(I)Z"⟩, 36) := ⟨⟨by decide +kernel, by decide +kernel⟩, List.mem_of_getElem? (i := 877) (by decide +kernel), List.mem_of_getElem? (i := 1064) (by decide +kernel), List.mem_of_getElem? (i := 1065) (by decide +kernel)⟩
theorem lw_p33 : lw_okq (⟨"NewDishesModel", "firstBy", "(I)I"⟩, 36) := ⟨⟨by decide +kernel, by decide +kernel⟩, List.mem_of_getElem? (i := 877) (by decide +kernel), List.mem_of_getElem? (i := 1068) (by decide +kernel), List.mem_of_getElem? (i := 1069) (by decide +kernel)⟩
theorem lw_p34 : lw_okq (⟨"NewDishesModel", "barsIt", "(II)Z"⟩, 36) := ⟨⟨by decide +kernel, by decide +kernel⟩, List.mem_of_getElem? (i := 877) (by decide +kernel), List.mem_of_getElem? (i := 1072) (by decide +kernel), List.mem_of_getElem? (i := 1073) (by decide +kernel)⟩
theorem lw_p35 : lw_okq (⟨"NewDishesModel", "marks", "()V"⟩, 36) := ⟨⟨by decide +kernel, by decide +kernel⟩, List.mem_of_getElem? (i := 877) (by decide +kernel), List.mem_of_getElem? (i := 1092) (by decide +kernel), List.mem_of_getElem? (i := 1093) (by decide +kernel)⟩
theorem lw_p36 : lw_okq (⟨"NewDishesModel", "marksBy", "(I)V"⟩, 36) := ⟨⟨by decide +kernel, by decide +kernel⟩, List.mem_of_getElem? (i := 877) (by decide +kernel), List.mem_of_getElem? (i := 1096) (by decide +kernel), List.mem_of_getElem? (i := 1097) (by decide +kernel)⟩
theorem lw_p37 : lw_okq (⟨"NewDishesModel", "dishAt", "(I)I"⟩, 36) := ⟨⟨by decide +kernel, by decide +kernel⟩, List.mem_of_getElem? (i := 877) (by decide +kernel), List.mem_of_getElem? (i := 1100) (by decide +kernel), List.mem_of_getElem? (i := 1101) (by decide +kernel)⟩
theorem lw_p38 : lw_okq (⟨"NewDishesModel", "isGood", "(I)Z"⟩, 36) := ⟨⟨by decide +kernel, by decide +kernel⟩, List.mem_of_getElem? (i := 877) (by decide +kernel), List.mem_of_getElem? (i := 1108) (by decide +kernel), List.mem_of_getElem? (i := 1109) (by decide +kernel)⟩
theorem lw_p39 : lw_okq (⟨"NewDishesModel", "addEntry", "(III)V"⟩, 36) := ⟨⟨by decide +kernel, by decide +kernel⟩, List.mem_of_getElem? (i := 877) (by decide +kernel), List.mem_of_getElem? (i := 1120) (by decide +kernel), List.mem_of_getElem? (i := 1121) (by decide +kernel)⟩
theorem lw_p40 : lw_okq (⟨"NewDishesModel", "isEntry", "(I)Z"⟩, 36) := ⟨⟨by decide +kernel, by decide +kernel⟩, List.mem_of_getElem? (i := 877) (by decide +kernel), List.mem_of_getElem? (i := 1128) (by decide +kernel), List.mem_of_getElem? (i := 1129) (by decide +kernel)⟩
theorem lw_p41 : lw_okq (⟨"NewDishesModel", "barsMany", "(I)I"⟩, 36) := ⟨⟨by decide +kernel, by decide +kernel⟩, List.mem_of_getElem? (i := 877) (by decide +kernel), List.mem_of_getElem? (i := 1132) (by decide +kernel), List.mem_of_getElem? (i := 1133) (by decide +kernel)⟩
theorem lw_p42 : lw_okq (⟨"NewDishesModel", "newMany", "()I"⟩, 36) := ⟨⟨by decide +kernel, by decide +kernel⟩, List.mem_of_getElem? (i := 877) (by decide +kernel), List.mem_of_getElem? (i := 1172) (by decide +kernel), List.mem_of_getElem? (i := 1173) (by decide +kernel)⟩
theorem lw_p43 : lw_okq (⟨"NewDishesModel", "bestPlace", "()I"⟩, 36) := ⟨⟨by decide +kernel, by decide +kernel⟩, List.mem_of_getElem? (i := 877) (by decide +kernel), List.mem_of_getElem? (i := 1180) (by decide +kernel), List.mem_of_getElem? (i := 1181) (by decide +kernel)⟩
theorem lw_p44 : lw_okq (⟨"NewDishesModel", "eats", "(III)V"⟩, 36) := ⟨⟨by decide +kernel, by decide +kernel⟩, List.mem_of_getElem? (i := 877) (by decide +kernel), List.mem_of_getElem? (i := 1189) (by decide +kernel), List.mem_of_getElem? (i := 1190) (by decide +kernel)⟩
theorem lw_p45 : lw_okq (⟨"NewDishesModel", "begins0", "()V"⟩, 36) := ⟨⟨by decide +kernel, by decide +kernel⟩, List.mem_of_getElem? (i := 877) (by decide +kernel), List.mem_of_getElem? (i := 1201) (by decide +kernel), List.mem_of_getElem? (i := 1202) (by decide +kernel)⟩
theorem lw_p46 : lw_okq (⟨"NewDishesModel", "goesOn", "(I)I"⟩, 36) := ⟨⟨by decide +kernel, by decide +kernel⟩, List.mem_of_getElem? (i := 877) (by decide +kernel), List.mem_of_getElem? (i := 1205) (by decide +kernel), List.mem_of_getElem? (i := 1206) (by decide +kernel)⟩
theorem lw_p47 : lw_okq (⟨"NewDishesModel", "back", "()V"⟩, 36) := ⟨⟨by decide +kernel, by decide +kernel⟩, List.mem_of_getElem? (i := 877) (by decide +kernel), List.mem_of_getElem? (i := 1209) (by decide +kernel), List.mem_of_getElem? (i := 1210) (by decide +kernel)⟩
def lw_privs_3 : List (MethodName × Nat) := [(⟨"NewDishesModel", "isNew", "(I)Z"⟩, 36), (⟨"NewDishesModel", "firstBy", "(I)I"⟩, 36), (⟨"NewDishesModel", "barsIt", "(II)Z"⟩, 36), (⟨"NewDishesModel", "marks", "()V"⟩, 36), (⟨"NewDishesModel", "marksBy", "(I)V"⟩, 36), (⟨"NewDishesModel", "dishAt", "(I)I"⟩, 36), (⟨"NewDishesModel", "isGood", "(I)Z"⟩, 36), (⟨"NewDishesModel", "addEntry", "(III)V"⟩, 36), (⟨"NewDishesModel", "isEntry", "(I)Z"⟩, 36), (⟨"NewDishesModel", "barsMany", "(I)I"⟩, 36), (⟨"NewDishesModel", "newMany", "()I"⟩, 36), (⟨"NewDishesModel", "bestPlace", "()I"⟩, 36), (⟨"NewDishesModel", "eats", "(III)V"⟩, 36), (⟨"NewDishesModel", "begins0", "()V"⟩, 36), (⟨"NewDishesModel", "goesOn", "(I)I"⟩, 36), (⟨"NewDishesModel", "back", "()V"⟩, 36)]
theorem lw_r3 : ∀ q ∈ lw_privs_3, lw_okq q := List.forall_mem_cons.mpr ⟨lw_p32, List.forall_mem_cons.mpr ⟨lw_p33, List.forall_mem_cons.mpr ⟨lw_p34, List.forall_mem_cons.mpr ⟨lw_p35, List.forall_mem_cons.mpr ⟨lw_p36, List.forall_mem_cons.mpr ⟨lw_p37, List.forall_mem_cons.mpr ⟨lw_p38, List.forall_mem_cons.mpr ⟨lw_p39, List.forall_mem_cons.mpr ⟨lw_p40, List.forall_mem_cons.mpr ⟨lw_p41, List.forall_mem_cons.mpr ⟨lw_p42, List.forall_mem_cons.mpr ⟨lw_p43, List.forall_mem_cons.mpr ⟨lw_p44, List.forall_mem_cons.mpr ⟨lw_p45, List.forall_mem_cons.mpr ⟨lw_p46, List.forall_mem_cons.mpr ⟨lw_p47, fun _ h => absurd h List.not_mem_nil⟩⟩⟩⟩⟩⟩⟩⟩⟩⟩⟩⟩⟩⟩⟩⟩
theorem lw_p48 : lw_okq (⟨"NewDishesModel", "lastsBy", "(I)I"⟩, 36) := ⟨⟨by decide +kernel, by decide +kernel⟩, List.mem_of_getElem? (i := 877) (by decide +kernel), List.mem_of_getElem? (i := 1217) (by decide +kernel), List.mem_of_getElem? (i := 1218) (by decide +kernel)⟩
theorem lw_p49 : lw_okq (⟨"NewDishesModel", "findSteps", "(I)V"⟩, 36) := ⟨⟨by decide +kernel, by decide +kernel⟩, List.mem_of_getElem? (i := 877) (by decide +kernel), List.mem_of_getElem? (i := 1229) (by decide +kernel), List.mem_of_getElem? (i := 1230) (by decide +kernel)⟩
theorem lw_p50 : lw_okq (⟨"NewDishesModel", "placeOf", "(I)I"⟩, 36) := ⟨⟨by decide +kernel, by decide +kernel⟩, List.mem_of_getElem? (i := 877) (by decide +kernel), List.mem_of_getElem? (i := 1233) (by decide +kernel), List.mem_of_getElem? (i := 1234) (by decide +kernel)⟩
theorem lw_p51 : lw_okq (⟨"NewDishesModel", "goesFrom", "(I)V"⟩, 36) := ⟨⟨by decide +kernel, by decide +kernel⟩, List.mem_of_getElem? (i := 877) (by decide +kernel), List.mem_of_getElem? (i := 1237) (by decide +kernel), List.mem_of_getElem? (i := 1238) (by decide +kernel)⟩
theorem lw_p52 : lw_okq (⟨"NewDishesModel", "comesTo", "(II)V"⟩, 36) := ⟨⟨by decide +kernel, by decide +kernel⟩, List.mem_of_getElem? (i := 877) (by decide +kernel), List.mem_of_getElem? (i := 1241) (by decide +kernel), List.mem_of_getElem? (i := 1242) (by decide +kernel)⟩
theorem lw_p53 : lw_okq (⟨"NewDishesModel", "moveAll", "(Z[I)V"⟩, 36) := ⟨⟨by decide +kernel, by decide +kernel⟩, List.mem_of_getElem? (i := 877) (by decide +kernel), List.mem_of_getElem? (i := 1269) (by decide +kernel), List.mem_of_getElem? (i := 1270) (by decide +kernel)⟩
theorem lw_p54 : lw_okq (⟨"NewDishesModel", "moveRow", "([IIZ[I)V"⟩, 36) := ⟨⟨by decide +kernel, by decide +kernel⟩, List.mem_of_getElem? (i := 877) (by decide +kernel), List.mem_of_getElem? (i := 1273) (by decide +kernel), List.mem_of_getElem? (i := 1274) (by decide +kernel)⟩
theorem lw_p55 : lw_okq (⟨"NewDishesModel", "advance", "()V"⟩, 36) := ⟨⟨by decide +kernel, by decide +kernel⟩, List.mem_of_getElem? (i := 877) (by decide +kernel), List.mem_of_getElem? (i := 1277) (by decide +kernel), List.mem_of_getElem? (i := 1278) (by decide +kernel)⟩
theorem lw_p56 : lw_okq (⟨"NewDishesModel", "byteAt", "(I)I"⟩, 36) := ⟨⟨by decide +kernel, by decide +kernel⟩, List.mem_of_getElem? (i := 877) (by decide +kernel), List.mem_of_getElem? (i := 1281) (by decide +kernel), List.mem_of_getElem? (i := 1282) (by decide +kernel)⟩
theorem lw_p57 : lw_okq (⟨"NewDishesModel", "wantItem", "()V"⟩, 36) := ⟨⟨by decide +kernel, by decide +kernel⟩, List.mem_of_getElem? (i := 877) (by decide +kernel), List.mem_of_getElem? (i := 1294) (by decide +kernel), List.mem_of_getElem? (i := 1295) (by decide +kernel)⟩
theorem lw_p58 : lw_okq (⟨"NewDishesModel", "kindHere", "()I"⟩, 36) := ⟨⟨by decide +kernel, by decide +kernel⟩, List.mem_of_getElem? (i := 877) (by decide +kernel), List.mem_of_getElem? (i := 1298) (by decide +kernel), List.mem_of_getElem? (i := 1299) (by decide +kernel)⟩
theorem lw_p59 : lw_okq (⟨"NewDishesModel", "isWord", "(J)Z"⟩, 36) := ⟨⟨by decide +kernel, by decide +kernel⟩, List.mem_of_getElem? (i := 877) (by decide +kernel), List.mem_of_getElem? (i := 1303) (by decide +kernel), List.mem_of_getElem? (i := 1304) (by decide +kernel)⟩
theorem lw_p60 : lw_okq (⟨"NewDishesModel", "wantEntry", "(I)V"⟩, 36) := ⟨⟨by decide +kernel, by decide +kernel⟩, List.mem_of_getElem? (i := 877) (by decide +kernel), List.mem_of_getElem? (i := 1312) (by decide +kernel), List.mem_of_getElem? (i := 1313) (by decide +kernel)⟩
theorem lw_p61 : lw_okq (⟨"NewDishesModel", "wantWord", "(J)V"⟩, 36) := ⟨⟨by decide +kernel, by decide +kernel⟩, List.mem_of_getElem? (i := 877) (by decide +kernel), List.mem_of_getElem? (i := 1317) (by decide +kernel), List.mem_of_getElem? (i := 1318) (by decide +kernel)⟩
theorem lw_p62 : lw_okq (⟨"NewDishesModel", "wantNumber", "(II)I"⟩, 36) := ⟨⟨by decide +kernel, by decide +kernel⟩, List.mem_of_getElem? (i := 877) (by decide +kernel), List.mem_of_getElem? (i := 1321) (by decide +kernel), List.mem_of_getElem? (i := 1322) (by decide +kernel)⟩
theorem lw_p63 : lw_okq (⟨"NewDishesModel", "wantStore", "()V"⟩, 36) := ⟨⟨by decide +kernel, by decide +kernel⟩, List.mem_of_getElem? (i := 877) (by decide +kernel), List.mem_of_getElem? (i := 1327) (by decide +kernel), List.mem_of_getElem? (i := 1328) (by decide +kernel)⟩
def lw_privs_4 : List (MethodName × Nat) := [(⟨"NewDishesModel", "lastsBy", "(I)I"⟩, 36), (⟨"NewDishesModel", "findSteps", "(I)V"⟩, 36), (⟨"NewDishesModel", "placeOf", "(I)I"⟩, 36), (⟨"NewDishesModel", "goesFrom", "(I)V"⟩, 36), (⟨"NewDishesModel", "comesTo", "(II)V"⟩, 36), (⟨"NewDishesModel", "moveAll", "(Z[I)V"⟩, 36), (⟨"NewDishesModel", "moveRow", "([IIZ[I)V"⟩, 36), (⟨"NewDishesModel", "advance", "()V"⟩, 36), (⟨"NewDishesModel", "byteAt", "(I)I"⟩, 36), (⟨"NewDishesModel", "wantItem", "()V"⟩, 36), (⟨"NewDishesModel", "kindHere", "()I"⟩, 36), (⟨"NewDishesModel", "isWord", "(J)Z"⟩, 36), (⟨"NewDishesModel", "wantEntry", "(I)V"⟩, 36), (⟨"NewDishesModel", "wantWord", "(J)V"⟩, 36), (⟨"NewDishesModel", "wantNumber", "(II)I"⟩, 36), (⟨"NewDishesModel", "wantStore", "()V"⟩, 36)]
theorem lw_r4 : ∀ q ∈ lw_privs_4, lw_okq q := List.forall_mem_cons.mpr ⟨lw_p48, List.forall_mem_cons.mpr ⟨lw_p49, List.forall_mem_cons.mpr ⟨lw_p50, List.forall_mem_cons.mpr ⟨lw_p51, List.forall_mem_cons.mpr ⟨lw_p52, List.forall_mem_cons.mpr ⟨lw_p53, List.forall_mem_cons.mpr ⟨lw_p54, List.forall_mem_cons.mpr ⟨lw_p55, List.forall_mem_cons.mpr ⟨lw_p56, List.forall_mem_cons.mpr ⟨lw_p57, List.forall_mem_cons.mpr ⟨lw_p58, List.forall_mem_cons.mpr ⟨lw_p59, List.forall_mem_cons.mpr ⟨lw_p60, List.forall_mem_cons.mpr ⟨lw_p61, List.forall_mem_cons.mpr ⟨lw_p62, List.forall_mem_cons.mpr ⟨lw_p63, fun _ h => absurd h List.not_mem_nil⟩⟩⟩⟩⟩⟩⟩⟩⟩⟩⟩⟩⟩⟩⟩⟩
theorem lw_p64 : lw_okq (⟨"NewDishesModel", "wantLiking", "(Z)V"⟩, 36) := ⟨⟨by decide +kernel, by decide +kernel⟩, List.mem_of_getElem? (i := 877) (by decide +kernel), List.mem_of_getElem? (i := 1333) (by decide +kernel), List.mem_of_getElem? (i := 1334) (by decide +kernel)⟩
theorem lw_p65 : lw_okq (⟨"NewDishesModel", "wantEdict", "()V"⟩, 36) := ⟨⟨by decide +kernel, by decide +kernel⟩, List.mem_of_getElem? (i := 877) (by decide +kernel), List.mem_of_getElem? (i := 1339) (by decide +kernel), List.mem_of_getElem? (i := 1340) (by decide +kernel)⟩
theorem lw_p66 : lw_okq (⟨"NewDishesModel", "wantEither", "(JJ)Z"⟩, 36) := ⟨⟨by decide +kernel, by decide +kernel⟩, List.mem_of_getElem? (i := 877) (by decide +kernel), List.mem_of_getElem? (i := 1345) (by decide +kernel), List.mem_of_getElem? (i := 1346) (by decide +kernel)⟩
theorem lw_p67 : lw_okq (⟨"NewDishesModel", "wantDay", "()V"⟩, 36) := ⟨⟨by decide +kernel, by decide +kernel⟩, List.mem_of_getElem? (i := 877) (by decide +kernel), List.mem_of_getElem? (i := 1352) (by decide +kernel), List.mem_of_getElem? (i := 1353) (by decide +kernel)⟩
theorem lw_p68 : lw_okq (⟨"NewDishesModel", "isPart", "(III)Z"⟩, 36) := ⟨⟨by decide +kernel, by decide +kernel⟩, List.mem_of_getElem? (i := 877) (by decide +kernel), List.mem_of_getElem? (i := 1376) (by decide +kernel), List.mem_of_getElem? (i := 1377) (by decide +kernel)⟩
theorem lw_p69 : lw_okq (⟨"NewDishesModel", "noMenu", "(II)I"⟩, 36) := ⟨⟨by decide +kernel, by decide +kernel⟩, List.mem_of_getElem? (i := 877) (by decide +kernel), List.mem_of_getElem? (i := 1389) (by decide +kernel), List.mem_of_getElem? (i := 1390) (by decide +kernel)⟩
theorem lw_p70 : lw_okq (⟨"NewDishesModel", "canServe", "(JI)Z"⟩, 36) := ⟨⟨by decide +kernel, by decide +kernel⟩, List.mem_of_getElem? (i := 877) (by decide +kernel), List.mem_of_getElem? (i := 1397) (by decide +kernel), List.mem_of_getElem? (i := 1398) (by decide +kernel)⟩
def lw_privs_5 : List (MethodName × Nat) := [(⟨"NewDishesModel", "wantLiking", "(Z)V"⟩, 36), (⟨"NewDishesModel", "wantEdict", "()V"⟩, 36), (⟨"NewDishesModel", "wantEither", "(JJ)Z"⟩, 36), (⟨"NewDishesModel", "wantDay", "()V"⟩, 36), (⟨"NewDishesModel", "isPart", "(III)Z"⟩, 36), (⟨"NewDishesModel", "noMenu", "(II)I"⟩, 36), (⟨"NewDishesModel", "canServe", "(JI)Z"⟩, 36)]
theorem lw_r5 : ∀ q ∈ lw_privs_5, lw_okq q := List.forall_mem_cons.mpr ⟨lw_p64, List.forall_mem_cons.mpr ⟨lw_p65, List.forall_mem_cons.mpr ⟨lw_p66, List.forall_mem_cons.mpr ⟨lw_p67, List.forall_mem_cons.mpr ⟨lw_p68, List.forall_mem_cons.mpr ⟨lw_p69, List.forall_mem_cons.mpr ⟨lw_p70, fun _ h => absurd h List.not_mem_nil⟩⟩⟩⟩⟩⟩⟩
def lw_privs : List (MethodName × Nat) := lw_privs_1 ++ (lw_privs_2 ++ (lw_privs_3 ++ (lw_privs_4 ++ (lw_privs_5))))
def lw_tbl : List Cond := k2_sels lw_privs ++ tables_1
theorem lw_privs_ok : ∀ q ∈ lw_privs, lw_okq q := by
  show ∀ q ∈ lw_privs_1 ++ (lw_privs_2 ++ (lw_privs_3 ++ (lw_privs_4 ++ (lw_privs_5)))), lw_okq q
  exact List.forall_mem_append.mpr ⟨lw_r1, List.forall_mem_append.mpr ⟨lw_r2, List.forall_mem_append.mpr ⟨lw_r3, List.forall_mem_append.mpr ⟨lw_r4, lw_r5⟩⟩⟩⟩
/-! ===== BEGIN words of one list among another's, by their places ===== -/
theorem goodIn_r {big : List Cond} (ws : List Cond) (ps : List Nat) (hp : ws = ps.filterMap (fun i => big[i]?)) (h : ws.all goodWord = true) : GoodIn big ws := by
  intro w hw
  have h1 := List.all_eq_true.mp h w hw
  rw [hp] at hw
  obtain ⟨i, -, hi⟩ := List.mem_filterMap.mp hw
  have hm : w ∈ big := by first | exact List.mem_of_getElem? hi | exact List.getElem?_mem hi
  exact ⟨hm, good_of_word h1⟩
theorem goodIn_app {big a b : List Cond} (ha : GoodIn big a) (hb : GoodIn big b) : GoodIn big (a ++ b) := fun w h => (List.mem_append.mp h).elim (ha w) (hb w)
theorem goodIn_ca {big a b : List Cond} {c : Cond} (ha : GoodIn big (c :: a)) (hb : GoodIn big b) : GoodIn big (c :: (a ++ b)) := fun w h => (List.mem_cons.mp h).elim (fun e => ha w (List.mem_cons.mpr (Or.inl e))) (fun h => (List.mem_append.mp h).elim (fun h => ha w (List.mem_cons.mpr (Or.inr h))) (hb w))
theorem goodIn_sub {big ws : List Cond} (hm : ∀ w ∈ ws, w ∈ big) (h : ws.all goodWord = true) : GoodIn big ws := fun w hw => ⟨hm w hw, good_of_word (List.all_eq_true.mp h w hw)⟩
/-! ===== END ===== -/

/-! ===== BEGIN printed: names, fields, word lists, decode rows ===== -/
def RX0 : String := "NewDishes$Barred"
def TX0 : u_T := fun k => match k with
  | 0 => ("NewDishes$Barred", "once", "[I", true)
  | _ => ("NewDishes$Barred", "again", "[I", true)
def tyX0 : Nat → FieldType := fun k => match k with
  | 0 => .array .int
  | _ => .array .int
abbrev wsX00 : List Cond := u_ws RX0 TX0 2
theorem nmX0 : ∀ a, a < 2 → ∀ b, b < 2 → a ≠ b → (TX0 a).2.1 ≠ (TX0 b).2.1 := by decide +kernel
theorem tyX0_ok : ∀ k, k < 2 → parseFieldDescriptor (TX0 k).2.2.1 = some (tyX0 k) := by decide +kernel
abbrev cX0_init : ByteArray := prog_2_method_1_code
def yX0_init : MethodName := ⟨RX0, "<init>", "()V"⟩
abbrev cX0_barAll : ByteArray := prog_2_method_2_code
def yX0_barAll : MethodName := ⟨RX0, "barAll", "(LNewDishes$Bureau;I)V"⟩
abbrev cX0_bar : ByteArray := prog_2_method_3_code
def yX0_bar : MethodName := ⟨RX0, "bar", "(III)V"⟩
abbrev cX0_barIn : ByteArray := prog_2_method_4_code
def yX0_barIn : MethodName := ⟨RX0, "barIn", "(II)V"⟩
abbrev cX0_unbarred : ByteArray := prog_2_method_5_code
def yX0_unbarred : MethodName := ⟨RX0, "unbarred", "()I"⟩
abbrev cX0_barredAloneBy : ByteArray := prog_2_method_6_code
def yX0_barredAloneBy : MethodName := ⟨RX0, "barredAloneBy", "(III)I"⟩
def RX1 : String := "NewDishes$Bureau"
def TX1 : u_T := fun k => match k with
  | 0 => ("NewDishes$Bureau", "stores", "[I", true)
  | 1 => ("NewDishes$Bureau", "likedThings", "[I", true)
  | 2 => ("NewDishes$Bureau", "likedWays", "[I", true)
  | 3 => ("NewDishes$Bureau", "likedSauces", "[I", true)
  | 4 => ("NewDishes$Bureau", "kinds", "[I", true)
  | 5 => ("NewDishes$Bureau", "dishes", "[I", true)
  | 6 => ("NewDishes$Bureau", "days", "[I", true)
  | 7 => ("NewDishes$Bureau", "entries", "I", false)
  | 8 => ("NewDishes$Bureau", "edicts", "I", false)
  | _ => ("NewDishes$Bureau", "day", "I", false)
def tyX1 : Nat → FieldType := fun k => match k with
  | 0 => .array .int
  | 1 => .array .int
  | 2 => .array .int
  | 3 => .array .int
  | 4 => .array .int
  | 5 => .array .int
  | 6 => .array .int
  | 7 => .int
  | 8 => .int
  | _ => .int
abbrev wsX10 : List Cond := u_ws RX1 TX1 10
theorem nmX1 : ∀ a, a < 10 → ∀ b, b < 10 → a ≠ b → (TX1 a).2.1 ≠ (TX1 b).2.1 := by decide +kernel
theorem tyX1_ok : ∀ k, k < 10 → parseFieldDescriptor (TX1 k).2.2.1 = some (tyX1 k) := by decide +kernel
abbrev cX1_init : ByteArray := prog_3_method_1_code
def yX1_init : MethodName := ⟨RX1, "<init>", "()V"⟩
abbrev cX1_become : ByteArray := prog_3_method_2_code
def yX1_become : MethodName := ⟨RX1, "become", "(LNewDishes$Bureau;)V"⟩
abbrev cX1_likedOf : ByteArray := prog_3_method_3_code
def yX1_likedOf : MethodName := ⟨RX1, "likedOf", "(I)[I"⟩
abbrev cX1_decree : ByteArray := prog_3_method_4_code
def yX1_decree : MethodName := ⟨RX1, "decree", "(IZ)Z"⟩
abbrev cX1_liking : ByteArray := prog_3_method_5_code
def yX1_liking : MethodName := ⟨RX1, "liking", "(I)I"⟩
abbrev cX1_canBe : ByteArray := prog_3_method_6_code
def yX1_canBe : MethodName := ⟨RX1, "canBe", "(I)Z"⟩
abbrev cX1_isNew : ByteArray := prog_3_method_7_code
def yX1_isNew : MethodName := ⟨RX1, "isNew", "(I)Z"⟩
abbrev cX1_canServe : ByteArray := prog_3_method_8_code
def yX1_canServe : MethodName := ⟨RX1, "canServe", "(II)Z"⟩
abbrev cX1_isFull : ByteArray := prog_3_method_9_code
def yX1_isFull : MethodName := ⟨RX1, "isFull", "()Z"⟩
abbrev cX1_note : ByteArray := prog_3_method_10_code
def yX1_note : MethodName := ⟨RX1, "note", "(II)I"⟩
abbrev cX1_haveMeal : ByteArray := prog_3_method_11_code
def yX1_haveMeal : MethodName := ⟨RX1, "haveMeal", "(II)I"⟩
abbrev cX1_isBarredBy : ByteArray := prog_3_method_12_code
def yX1_isBarredBy : MethodName := ⟨RX1, "isBarredBy", "(II)Z"⟩
abbrev cX1_firstBarring : ByteArray := prog_3_method_13_code
def yX1_firstBarring : MethodName := ⟨RX1, "firstBarring", "(II)I"⟩
abbrev cX1_firstBreach : ByteArray := prog_3_method_14_code
def yX1_firstBreach : MethodName := ⟨RX1, "firstBreach", "()I"⟩
abbrev cX1_hadNear : ByteArray := prog_3_method_15_code
def yX1_hadNear : MethodName := ⟨RX1, "hadNear", "(II)I"⟩
abbrev cX1_guests : ByteArray := prog_3_method_16_code
def yX1_guests : MethodName := ⟨RX1, "guests", "()I"⟩
abbrev cX1_allStores : ByteArray := prog_3_method_17_code
def yX1_allStores : MethodName := ⟨RX1, "allStores", "()I"⟩
def RX2 : String := "NewDishes$Kitchen"
def TX2 : u_T := fun k => match k with
  | 0 => ("NewDishes$Kitchen", "stock", "[I", true)
  | 1 => ("NewDishes$Kitchen", "barred", "LNewDishes$Barred;", true)
  | 2 => ("NewDishes$Kitchen", "edicts", "I", false)
  | 3 => ("NewDishes$Kitchen", "likedSets", "[I", true)
  | 4 => ("NewDishes$Kitchen", "likedManners", "[I", true)
  | 5 => ("NewDishes$Kitchen", "favourites", "[I", true)
  | _ => ("NewDishes$Kitchen", "everything", "[I", true)
def tyX2 : Nat → FieldType := fun k => match k with
  | 0 => .array .int
  | 1 => .object "NewDishes$Barred"
  | 2 => .int
  | 3 => .array .int
  | 4 => .array .int
  | 5 => .array .int
  | _ => .array .int
abbrev wsX20 : List Cond := u_ws RX2 TX2 7
theorem nmX2 : ∀ a, a < 7 → ∀ b, b < 7 → a ≠ b → (TX2 a).2.1 ≠ (TX2 b).2.1 := by decide +kernel
theorem tyX2_ok : ∀ k, k < 7 → parseFieldDescriptor (TX2 k).2.2.1 = some (tyX2 k) := by decide +kernel
abbrev cX2_init : ByteArray := prog_4_method_1_code
def yX2_init : MethodName := ⟨RX2, "<init>", "()V"⟩
abbrev cX2_begin : ByteArray := prog_4_method_2_code
def yX2_begin : MethodName := ⟨RX2, "begin", "(LNewDishes$Bureau;)V"⟩
abbrev cX2_weighSets : ByteArray := prog_4_method_3_code
def yX2_weighSets : MethodName := ⟨RX2, "weighSets", "([I)V"⟩
abbrev cX2_weighManners : ByteArray := prog_4_method_4_code
def yX2_weighManners : MethodName := ⟨RX2, "weighManners", "(LNewDishes$Bureau;)V"⟩
abbrev cX2_rankManners : ByteArray := prog_4_method_5_code
def yX2_rankManners : MethodName := ⟨RX2, "rankManners", "()V"⟩
abbrev cX2_servableManners : ByteArray := prog_4_method_6_code
def yX2_servableManners : MethodName := ⟨RX2, "servableManners", "(II)I"⟩
abbrev cX2_possible : ByteArray := prog_4_method_7_code
def yX2_possible : MethodName := ⟨RX2, "possible", "()I"⟩
abbrev cX2_servable : ByteArray := prog_4_method_8_code
def yX2_servable : MethodName := ⟨RX2, "servable", "()I"⟩
abbrev cX2_firstFrom : ByteArray := prog_4_method_9_code
def yX2_firstFrom : MethodName := ⟨RX2, "firstFrom", "(I)I"⟩
abbrev cX2_favourite : ByteArray := prog_4_method_10_code
def yX2_favourite : MethodName := ⟨RX2, "favourite", "()I"⟩
abbrev cX2_favouriteAmong : ByteArray := prog_4_method_11_code
def yX2_favouriteAmong : MethodName := ⟨RX2, "favouriteAmong", "([I)I"⟩
abbrev cX2_favouriteManner : ByteArray := prog_4_method_12_code
def yX2_favouriteManner : MethodName := ⟨RX2, "favouriteManner", "(I)I"⟩
abbrev cX2_canCook : ByteArray := prog_4_method_13_code
def yX2_canCook : MethodName := ⟨RX2, "canCook", "(II)Z"⟩
abbrev cX2_cook : ByteArray := prog_4_method_14_code
def yX2_cook : MethodName := ⟨RX2, "cook", "(II)V"⟩
abbrev cX2_cookFavourite : ByteArray := prog_4_method_15_code
def yX2_cookFavourite : MethodName := ⟨RX2, "cookFavourite", "(I)I"⟩
abbrev cX2_mealsLeft : ByteArray := prog_4_method_16_code
def yX2_mealsLeft : MethodName := ⟨RX2, "mealsLeft", "(I)I"⟩
def RX3 : String := "NewDishes$Paths"
def TX3 : u_T := fun k => match k with
  | 0 => ("NewDishes$Paths", "reached", "[I", true)
  | _ => ("NewDishes$Paths", "before", "[I", true)
def tyX3 : Nat → FieldType := fun k => match k with
  | 0 => .array .int
  | _ => .array .int
abbrev wsX30 : List Cond := u_ws RX3 TX3 2
theorem nmX3 : ∀ a, a < 2 → ∀ b, b < 2 → a ≠ b → (TX3 a).2.1 ≠ (TX3 b).2.1 := by decide +kernel
theorem tyX3_ok : ∀ k, k < 2 → parseFieldDescriptor (TX3 k).2.2.1 = some (tyX3 k) := by decide +kernel
abbrev cX3_init : ByteArray := prog_5_method_1_code
def yX3_init : MethodName := ⟨RX3, "<init>", "()V"⟩
abbrev cX3_reach : ByteArray := prog_5_method_2_code
def yX3_reach : MethodName := ⟨RX3, "reach", "(IILNewDishes$Kitchen;)V"⟩
abbrev cX3_stepsBetween : ByteArray := prog_5_method_3_code
def yX3_stepsBetween : MethodName := ⟨RX3, "stepsBetween", "(IILNewDishes$Kitchen;)I"⟩
abbrev cX3_setOut : ByteArray := prog_5_method_4_code
def yX3_setOut : MethodName := ⟨RX3, "setOut", "(I)V"⟩
abbrev cX3_goFurther : ByteArray := prog_5_method_5_code
def yX3_goFurther : MethodName := ⟨RX3, "goFurther", "(LNewDishes$Kitchen;)Z"⟩
abbrev cX3_fromOtherSets : ByteArray := prog_5_method_6_code
def yX3_fromOtherSets : MethodName := ⟨RX3, "fromOtherSets", "(I)I"⟩
abbrev cX3_otherManners : ByteArray := prog_5_method_7_code
def yX3_otherManners : MethodName := ⟨RX3, "otherManners", "(I)I"⟩
def RX4 : String := "NewDishes$Sheet"
def TX4 : u_T := fun k => match k with
  | 0 => ("NewDishes$Sheet", "bits", "I", false)
  | 1 => ("NewDishes$Sheet", "length", "I", false)
  | _ => ("NewDishes$Sheet", "numbers", "[J", true)
def tyX4 : Nat → FieldType := fun k => match k with
  | 0 => .int
  | 1 => .int
  | _ => .array .long
abbrev wsX40 : List Cond := u_ws RX4 TX4 3
theorem nmX4 : ∀ a, a < 3 → ∀ b, b < 3 → a ≠ b → (TX4 a).2.1 ≠ (TX4 b).2.1 := by decide +kernel
theorem tyX4_ok : ∀ k, k < 3 → parseFieldDescriptor (TX4 k).2.2.1 = some (tyX4 k) := by decide +kernel
abbrev cX4_init : ByteArray := prog_6_method_1_code
def yX4_init : MethodName := ⟨RX4, "<init>", "()V"⟩
abbrev cX4_lay : ByteArray := prog_6_method_2_code
def yX4_lay : MethodName := ⟨RX4, "lay", "(II)V"⟩
abbrev cX4_isMissing : ByteArray := prog_6_method_3_code
def yX4_isMissing : MethodName := ⟨RX4, "isMissing", "()Z"⟩
abbrev cX4_hasPart : ByteArray := prog_6_method_4_code
def yX4_hasPart : MethodName := ⟨RX4, "hasPart", "(II)Z"⟩
abbrev cX4_put : ByteArray := prog_6_method_5_code
def yX4_put : MethodName := ⟨RX4, "put", "(IJ)V"⟩
abbrev cX4_cut : ByteArray := prog_6_method_6_code
def yX4_cut : MethodName := ⟨RX4, "cut", "(J)J"⟩
def RX5 : String := "NewDishes$Tape"
def TX5 : u_T := fun k => match k with
  | 0 => ("NewDishes$Tape", "length", "I", false)
  | 1 => ("NewDishes$Tape", "bytes", "[I", true)
  | 2 => ("NewDishes$Tape", "token", "I", false)
  | 3 => ("NewDishes$Tape", "start", "I", false)
  | 4 => ("NewDishes$Tape", "end", "I", false)
  | _ => ("NewDishes$Tape", "value", "I", false)
def tyX5 : Nat → FieldType := fun k => match k with
  | 0 => .int
  | 1 => .array .int
  | 2 => .int
  | 3 => .int
  | 4 => .int
  | _ => .int
abbrev wsX50 : List Cond := u_ws RX5 TX5 6
theorem nmX5 : ∀ a, a < 6 → ∀ b, b < 6 → a ≠ b → (TX5 a).2.1 ≠ (TX5 b).2.1 := by decide +kernel
theorem tyX5_ok : ∀ k, k < 6 → parseFieldDescriptor (TX5 k).2.2.1 = some (tyX5 k) := by decide +kernel
abbrev cX5_init : ByteArray := prog_7_method_1_code
def yX5_init : MethodName := ⟨RX5, "<init>", "()V"⟩
abbrev cX5_put : ByteArray := prog_7_method_2_code
def yX5_put : MethodName := ⟨RX5, "put", "(I)V"⟩
abbrev cX5_tellTo : ByteArray := prog_7_method_3_code
def yX5_tellTo : MethodName := ⟨RX5, "tellTo", "(LNewDishes$Bureau;)I"⟩
abbrev cX5_takeItem : ByteArray := prog_7_method_4_code
def yX5_takeItem : MethodName := ⟨RX5, "takeItem", "(LNewDishes$Bureau;)Z"⟩
abbrev cX5_kindNamed : ByteArray := prog_7_method_5_code
def yX5_kindNamed : MethodName := ⟨RX5, "kindNamed", "()I"⟩
abbrev cX5_takeEntry : ByteArray := prog_7_method_6_code
def yX5_takeEntry : MethodName := ⟨RX5, "takeEntry", "(LNewDishes$Bureau;I)Z"⟩
abbrev cX5_takeThings : ByteArray := prog_7_method_7_code
def yX5_takeThings : MethodName := ⟨RX5, "takeThings", "()I"⟩
abbrev cX5_takeStore : ByteArray := prog_7_method_8_code
def yX5_takeStore : MethodName := ⟨RX5, "takeStore", "(LNewDishes$Bureau;)Z"⟩
abbrev cX5_takeLiking : ByteArray := prog_7_method_9_code
def yX5_takeLiking : MethodName := ⟨RX5, "takeLiking", "(LNewDishes$Bureau;I)Z"⟩
abbrev cX5_whatNamed : ByteArray := prog_7_method_10_code
def yX5_whatNamed : MethodName := ⟨RX5, "whatNamed", "()I"⟩
abbrev cX5_takeEdict : ByteArray := prog_7_method_11_code
def yX5_takeEdict : MethodName := ⟨RX5, "takeEdict", "(LNewDishes$Bureau;)Z"⟩
abbrev cX5_takeDay : ByteArray := prog_7_method_12_code
def yX5_takeDay : MethodName := ⟨RX5, "takeDay", "(LNewDishes$Bureau;)Z"⟩
abbrev cX5_takeWord : ByteArray := prog_7_method_13_code
def yX5_takeWord : MethodName := ⟨RX5, "takeWord", "(Ljava/lang/String;)Z"⟩
abbrev cX5_takeNumber : ByteArray := prog_7_method_14_code
def yX5_takeNumber : MethodName := ⟨RX5, "takeNumber", "(I)I"⟩
abbrev cX5_isWord : ByteArray := prog_7_method_15_code
def yX5_isWord : MethodName := ⟨RX5, "isWord", "(Ljava/lang/String;)Z"⟩
abbrev cX5_advance : ByteArray := prog_7_method_16_code
def yX5_advance : MethodName := ⟨RX5, "advance", "()V"⟩
abbrev cX5_valueOfDigits : ByteArray := prog_7_method_17_code
def yX5_valueOfDigits : MethodName := ⟨RX5, "valueOfDigits", "()I"⟩
abbrev cX5_typeAt : ByteArray := prog_7_method_18_code
def yX5_typeAt : MethodName := ⟨RX5, "typeAt", "(I)I"⟩
def RX6 : String := "NewDishes"
def TX6 : u_T := fun k => match k with
  | 0 => ("NewDishes", "bureau", "LNewDishes$Bureau;", true)
  | 1 => ("NewDishes", "kept", "LNewDishes$Bureau;", true)
  | 2 => ("NewDishes", "draft", "LNewDishes$Bureau;", true)
  | 3 => ("NewDishes", "isKept", "Z", false)
  | 4 => ("NewDishes", "kitchen", "LNewDishes$Kitchen;", true)
  | 5 => ("NewDishes", "paths", "LNewDishes$Paths;", true)
  | 6 => ("NewDishes", "tape", "LNewDishes$Tape;", true)
  | 7 => ("NewDishes", "sheets", "[LNewDishes$Sheet;", true)
  | _ => ("NewDishes", "findings", "[I", true)
def tyX6 : Nat → FieldType := fun k => match k with
  | 0 => .object "NewDishes$Bureau"
  | 1 => .object "NewDishes$Bureau"
  | 2 => .object "NewDishes$Bureau"
  | 3 => .boolean
  | 4 => .object "NewDishes$Kitchen"
  | 5 => .object "NewDishes$Paths"
  | 6 => .object "NewDishes$Tape"
  | 7 => .array (.object "NewDishes$Sheet")
  | _ => .array .int
abbrev wsX60 : List Cond := u_ws RX6 TX6 9
theorem nmX6 : ∀ a, a < 9 → ∀ b, b < 9 → a ≠ b → (TX6 a).2.1 ≠ (TX6 b).2.1 := by decide +kernel
theorem tyX6_ok : ∀ k, k < 9 → parseFieldDescriptor (TX6 k).2.2.1 = some (tyX6 k) := by decide +kernel
abbrev cX6_init : ByteArray := prog_1_method_1_code
def yX6_init : MethodName := ⟨RX6, "<init>", "()V"⟩
abbrev cX6_store : ByteArray := prog_1_method_2_code
def yX6_store : MethodName := ⟨RX6, "store", "(II)I"⟩
abbrev cX6_storeOf : ByteArray := prog_1_method_3_code
def yX6_storeOf : MethodName := ⟨RX6, "storeOf", "(I)I"⟩
abbrev cX6_like : ByteArray := prog_1_method_4_code
def yX6_like : MethodName := ⟨RX6, "like", "(III)I"⟩
abbrev cX6_edict : ByteArray := prog_1_method_5_code
def yX6_edict : MethodName := ⟨RX6, "edict", "(IZ)I"⟩
abbrev cX6_dish : ByteArray := prog_1_method_6_code
def yX6_dish : MethodName := ⟨RX6, "dish", "(III)I"⟩
abbrev cX6_of : ByteArray := prog_1_method_7_code
def yX6_of : MethodName := ⟨RX6, "of", "(II)I"⟩
abbrev cX6_near : ByteArray := prog_1_method_8_code
def yX6_near : MethodName := ⟨RX6, "near", "(II)I"⟩
abbrev cX6_nearHad : ByteArray := prog_1_method_9_code
def yX6_nearHad : MethodName := ⟨RX6, "nearHad", "(II)I"⟩
abbrev cX6_many : ByteArray := prog_1_method_10_code
def yX6_many : MethodName := ⟨RX6, "many", "(I)I"⟩
abbrev cX6_next : ByteArray := prog_1_method_11_code
def yX6_next : MethodName := ⟨RX6, "next", "(I)I"⟩
abbrev cX6_enter : ByteArray := prog_1_method_12_code
def yX6_enter : MethodName := ⟨RX6, "enter", "(II)I"⟩
abbrev cX6_entryOf : ByteArray := prog_1_method_13_code
def yX6_entryOf : MethodName := ⟨RX6, "entryOf", "(II)I"⟩
abbrev cX6_turn : ByteArray := prog_1_method_14_code
def yX6_turn : MethodName := ⟨RX6, "turn", "(II)I"⟩
abbrev cX6_as : ByteArray := prog_1_method_15_code
def yX6_as : MethodName := ⟨RX6, "as", "(II)I"⟩
abbrev cX6_strike : ByteArray := prog_1_method_16_code
def yX6_strike : MethodName := ⟨RX6, "strike", "()I"⟩
abbrev cX6_bars : ByteArray := prog_1_method_17_code
def yX6_bars : MethodName := ⟨RX6, "bars", "(II)I"⟩
abbrev cX6_by : ByteArray := prog_1_method_18_code
def yX6_by : MethodName := ⟨RX6, "by", "(I)I"⟩
abbrev cX6_breach : ByteArray := prog_1_method_19_code
def yX6_breach : MethodName := ⟨RX6, "breach", "()I"⟩
abbrev cX6_keenest : ByteArray := prog_1_method_20_code
def yX6_keenest : MethodName := ⟨RX6, "keenest", "()I"⟩
abbrev cX6_wouldBe : ByteArray := prog_1_method_21_code
def yX6_wouldBe : MethodName := ⟨RX6, "wouldBe", "(I)I"⟩
abbrev cX6_best : ByteArray := prog_1_method_22_code
def yX6_best : MethodName := ⟨RX6, "best", "()I"⟩
abbrev cX6_serve : ByteArray := prog_1_method_23_code
def yX6_serve : MethodName := ⟨RX6, "serve", "(II)I"⟩
abbrev cX6_meals : ByteArray := prog_1_method_24_code
def yX6_meals : MethodName := ⟨RX6, "meals", "(II)I"⟩
abbrev cX6_on : ByteArray := prog_1_method_25_code
def yX6_on : MethodName := ⟨RX6, "on", "(II)I"⟩
abbrev cX6_lasts : ByteArray := prog_1_method_26_code
def yX6_lasts : MethodName := ⟨RX6, "lasts", "(I)I"⟩
abbrev cX6_buy : ByteArray := prog_1_method_27_code
def yX6_buy : MethodName := ⟨RX6, "buy", "(I)I"⟩
abbrev cX6_steps : ByteArray := prog_1_method_28_code
def yX6_steps : MethodName := ⟨RX6, "steps", "(II)I"⟩
abbrev cX6_within : ByteArray := prog_1_method_29_code
def yX6_within : MethodName := ⟨RX6, "within", "(II)I"⟩
abbrev cX6_walk : ByteArray := prog_1_method_30_code
def yX6_walk : MethodName := ⟨RX6, "walk", "(II)I"⟩
abbrev cX6_now : ByteArray := prog_1_method_31_code
def yX6_now : MethodName := ⟨RX6, "now", "(I)I"⟩
abbrev cX6_feed : ByteArray := prog_1_method_32_code
def yX6_feed : MethodName := ⟨RX6, "feed", "(II)I"⟩
abbrev cX6_wipe : ByteArray := prog_1_method_33_code
def yX6_wipe : MethodName := ⟨RX6, "wipe", "()I"⟩
abbrev cX6_book : ByteArray := prog_1_method_34_code
def yX6_book : MethodName := ⟨RX6, "book", "()I"⟩
abbrev cX6_sheet : ByteArray := prog_1_method_35_code
def yX6_sheet : MethodName := ⟨RX6, "sheet", "(III)I"⟩
abbrev cX6_write : ByteArray := prog_1_method_36_code
def yX6_write : MethodName := ⟨RX6, "write", "(IIJ)J"⟩
abbrev cX6_copy : ByteArray := prog_1_method_37_code
def yX6_copy : MethodName := ⟨RX6, "copy", "(IIIII)I"⟩
abbrev cX6_lays : ByteArray := prog_1_method_38_code
def yX6_lays : MethodName := ⟨RX6, "lays", "(I)I"⟩
abbrev cX6_menu : ByteArray := prog_1_method_39_code
def yX6_menu : MethodName := ⟨RX6, "menu", "(II)I"⟩
abbrev cX6_read : ByteArray := prog_1_method_40_code
def yX6_read : MethodName := ⟨RX6, "read", "(II)I"⟩
abbrev cX6_image : ByteArray := prog_1_method_41_code
def yX6_image : MethodName := ⟨RX6, "image", "()I"⟩
abbrev cX6_undo : ByteArray := prog_1_method_42_code
def yX6_undo : MethodName := ⟨RX6, "undo", "()I"⟩
abbrev cX6_tear : ByteArray := prog_1_method_43_code
def yX6_tear : MethodName := ⟨RX6, "tear", "()I"⟩
abbrev cX6_count : ByteArray := prog_1_method_44_code
def yX6_count : MethodName := ⟨RX6, "count", "(I)I"⟩
abbrev cX6_status : ByteArray := prog_1_method_45_code
def yX6_status : MethodName := ⟨RX6, "status", "(I)I"⟩
abbrev cX6_finding : ByteArray := prog_1_method_46_code
def yX6_finding : MethodName := ⟨RX6, "finding", "(I)I"⟩
abbrev cX6_orNone : ByteArray := prog_1_method_47_code
def yX6_orNone : MethodName := ⟨RX6, "orNone", "(I)I"⟩
abbrev cX6_sheetFault : ByteArray := prog_1_method_48_code
def yX6_sheetFault : MethodName := ⟨RX6, "sheetFault", "(I)I"⟩
abbrev cX6_menuFault : ByteArray := prog_1_method_49_code
def yX6_menuFault : MethodName := ⟨RX6, "menuFault", "(II)I"⟩
abbrev cX6_isBelow : ByteArray := prog_1_method_50_code
def yX6_isBelow : MethodName := ⟨RX6, "isBelow", "(II)Z"⟩
abbrev cX6_isSet : ByteArray := prog_1_method_51_code
def yX6_isSet : MethodName := ⟨RX6, "isSet", "(I)Z"⟩
abbrev cX6_isDish : ByteArray := prog_1_method_52_code
def yX6_isDish : MethodName := ⟨RX6, "isDish", "(I)Z"⟩
abbrev cX6_dishNumber : ByteArray := prog_1_method_53_code
def yX6_dishNumber : MethodName := ⟨RX6, "dishNumber", "(III)I"⟩
abbrev cX6_setOf : ByteArray := prog_1_method_54_code
def yX6_setOf : MethodName := ⟨RX6, "setOf", "(I)I"⟩
abbrev cX6_mannerOf : ByteArray := prog_1_method_55_code
def yX6_mannerOf : MethodName := ⟨RX6, "mannerOf", "(I)I"⟩
abbrev cX6_wayOf : ByteArray := prog_1_method_56_code
def yX6_wayOf : MethodName := ⟨RX6, "wayOf", "(I)I"⟩
abbrev cX6_sauceOf : ByteArray := prog_1_method_57_code
def yX6_sauceOf : MethodName := ⟨RX6, "sauceOf", "(I)I"⟩
abbrev cX6_nearness : ByteArray := prog_1_method_58_code
def yX6_nearness : MethodName := ⟨RX6, "nearness", "(II)I"⟩
abbrev cX6_hasBit : ByteArray := prog_1_method_59_code
def yX6_hasBit : MethodName := ⟨RX6, "hasBit", "(II)Z"⟩
abbrev cX6_countOf : ByteArray := prog_1_method_60_code
def yX6_countOf : MethodName := ⟨RX6, "countOf", "([I)I"⟩
abbrev cX6_isOfKind : ByteArray := prog_1_method_61_code
def yX6_isOfKind : MethodName := ⟨RX6, "isOfKind", "(II)Z"⟩
abbrev cX6_mannersBarred : ByteArray := prog_1_method_62_code
def yX6_mannersBarred : MethodName := ⟨RX6, "mannersBarred", "(III)I"⟩
abbrev cX6_barsParts : ByteArray := prog_1_method_63_code
def yX6_barsParts : MethodName := ⟨RX6, "barsParts", "(I)Z"⟩
abbrev cX6_isPartEitherWay : ByteArray := prog_1_method_64_code
def yX6_isPartEitherWay : MethodName := ⟨RX6, "isPartEitherWay", "(II)Z"⟩
abbrev cX6_barsSet : ByteArray := prog_1_method_65_code
def yX6_barsSet : MethodName := ⟨RX6, "barsSet", "(III)Z"⟩
abbrev cX6_barsDish : ByteArray := prog_1_method_66_code
def yX6_barsDish : MethodName := ⟨RX6, "barsDish", "(IIII)Z"⟩
abbrev cX6_howManyBars : ByteArray := prog_1_method_67_code
def yX6_howManyBars : MethodName := ⟨RX6, "howManyBars", "(III)I"⟩
abbrev cX6_inStore : ByteArray := prog_1_method_68_code
def yX6_inStore : MethodName := ⟨RX6, "inStore", "([I)I"⟩
abbrev cX6_takeFrom : ByteArray := prog_1_method_69_code
def yX6_takeFrom : MethodName := ⟨RX6, "takeFrom", "([II)V"⟩
def RX7 : String := "NewDishesModel"
def TX7 : u_T := fun k => match k with
  | 0 => ("NewDishesModel", "stores", "[I", true)
  | 1 => ("NewDishesModel", "liked", "[I", true)
  | 2 => ("NewDishesModel", "edicts", "[I", true)
  | 3 => ("NewDishesModel", "day", "I", false)
  | 4 => ("NewDishesModel", "entries", "I", false)
  | 5 => ("NewDishesModel", "kinds", "[I", true)
  | 6 => ("NewDishesModel", "dishes", "[I", true)
  | 7 => ("NewDishesModel", "days", "[I", true)
  | 8 => ("NewDishesModel", "found", "[I", true)
  | 9 => ("NewDishesModel", "sets", "[I", true)
  | 10 => ("NewDishesModel", "setAt", "[I", true)
  | 11 => ("NewDishesModel", "barred", "[Z", true)
  | 12 => ("NewDishesModel", "alone", "[I", true)
  | 13 => ("NewDishesModel", "hadStores", "[I", true)
  | 14 => ("NewDishesModel", "hadEntries", "I", false)
  | 15 => ("NewDishesModel", "far", "[I", true)
  | 16 => ("NewDishesModel", "rowOf", "[I", true)
  | 17 => ("NewDishesModel", "goods", "[Z", true)
  | 18 => ("NewDishesModel", "rowMany", "I", false)
  | 19 => ("NewDishesModel", "tape", "[I", true)
  | 20 => ("NewDishesModel", "tapeMany", "I", false)
  | 21 => ("NewDishesModel", "sort", "I", false)
  | 22 => ("NewDishesModel", "begins", "I", false)
  | 23 => ("NewDishesModel", "tokenEnds", "I", false)
  | 24 => ("NewDishesModel", "word", "J", false)
  | 25 => ("NewDishesModel", "value", "I", false)
  | 26 => ("NewDishesModel", "good", "Z", false)
  | 27 => ("NewDishesModel", "bitsOf", "[I", true)
  | 28 => ("NewDishesModel", "sizeOf", "[I", true)
  | 29 => ("NewDishesModel", "sheets", "[J", true)
  | 30 => ("NewDishesModel", "lent", "[J", true)
  | 31 => ("NewDishesModel", "image", "[I", true)
  | 32 => ("NewDishesModel", "before", "[I", true)
  | 33 => ("NewDishesModel", "isKept", "Z", false)
  | 34 => ("NewDishesModel", "movedTo", "I", false)
  | _ => ("NewDishesModel", "single", "[I", true)
def tyX7 : Nat → FieldType := fun k => match k with
  | 0 => .array .int
  | 1 => .array .int
  | 2 => .array .int
  | 3 => .int
  | 4 => .int
  | 5 => .array .int
  | 6 => .array .int
  | 7 => .array .int
  | 8 => .array .int
  | 9 => .array .int
  | 10 => .array .int
  | 11 => .array .boolean
  | 12 => .array .int
  | 13 => .array .int
  | 14 => .int
  | 15 => .array .int
  | 16 => .array .int
  | 17 => .array .boolean
  | 18 => .int
  | 19 => .array .int
  | 20 => .int
  | 21 => .int
  | 22 => .int
  | 23 => .int
  | 24 => .long
  | 25 => .int
  | 26 => .boolean
  | 27 => .array .int
  | 28 => .array .int
  | 29 => .array .long
  | 30 => .array .long
  | 31 => .array .int
  | 32 => .array .int
  | 33 => .boolean
  | 34 => .int
  | _ => .array .int
abbrev wsX70 : List Cond := u_ws RX7 TX7 36
theorem nmX7 : ∀ a, a < 36 → ∀ b, b < 36 → a ≠ b → (TX7 a).2.1 ≠ (TX7 b).2.1 := by decide +kernel
theorem tyX7_ok : ∀ k, k < 36 → parseFieldDescriptor (TX7 k).2.2.1 = some (tyX7 k) := by decide +kernel
abbrev cX7_init : ByteArray := prog_9_method_1_code
def yX7_init : MethodName := ⟨RX7, "<init>", "()V"⟩
abbrev cX7_in : ByteArray := prog_9_method_2_code
def yX7_in : MethodName := ⟨RX7, "in", "(III)Z"⟩
abbrev cX7_finds : ByteArray := prog_9_method_3_code
def yX7_finds : MethodName := ⟨RX7, "finds", "(I)I"⟩
abbrev cX7_ones : ByteArray := prog_9_method_4_code
def yX7_ones : MethodName := ⟨RX7, "ones", "(I)I"⟩
abbrev cX7_has : ByteArray := prog_9_method_5_code
def yX7_has : MethodName := ⟨RX7, "has", "(II)Z"⟩
abbrev cX7_isThing : ByteArray := prog_9_method_6_code
def yX7_isThing : MethodName := ⟨RX7, "isThing", "(I)Z"⟩
abbrev cX7_isStore : ByteArray := prog_9_method_7_code
def yX7_isStore : MethodName := ⟨RX7, "isStore", "(I)Z"⟩
abbrev cX7_isDish : ByteArray := prog_9_method_8_code
def yX7_isDish : MethodName := ⟨RX7, "isDish", "(I)Z"⟩
abbrev cX7_setOf : ByteArray := prog_9_method_9_code
def yX7_setOf : MethodName := ⟨RX7, "setOf", "(I)I"⟩
abbrev cX7_wayOf : ByteArray := prog_9_method_10_code
def yX7_wayOf : MethodName := ⟨RX7, "wayOf", "(I)I"⟩
abbrev cX7_sauceOf : ByteArray := prog_9_method_11_code
def yX7_sauceOf : MethodName := ⟨RX7, "sauceOf", "(I)I"⟩
abbrev cX7_placeOf : ByteArray := prog_9_method_12_code
def yX7_placeOf : MethodName := ⟨RX7, "placeOf", "(I)I"⟩
abbrev cX7_dishAt : ByteArray := prog_9_method_13_code
def yX7_dishAt : MethodName := ⟨RX7, "dishAt", "(I)I"⟩
abbrev cX7_isKind : ByteArray := prog_9_method_14_code
def yX7_isKind : MethodName := ⟨RX7, "isKind", "(I)Z"⟩
abbrev cX7_isEntry : ByteArray := prog_9_method_15_code
def yX7_isEntry : MethodName := ⟨RX7, "isEntry", "(I)Z"⟩
abbrev cX7_store : ByteArray := prog_9_method_16_code
def yX7_store : MethodName := ⟨RX7, "store", "(II)I"⟩
abbrev cX7_storeOf : ByteArray := prog_9_method_17_code
def yX7_storeOf : MethodName := ⟨RX7, "storeOf", "(I)I"⟩
abbrev cX7_mostOf : ByteArray := prog_9_method_18_code
def yX7_mostOf : MethodName := ⟨RX7, "mostOf", "(I)I"⟩
abbrev cX7_likedAt : ByteArray := prog_9_method_19_code
def yX7_likedAt : MethodName := ⟨RX7, "likedAt", "(II)I"⟩
abbrev cX7_like : ByteArray := prog_9_method_20_code
def yX7_like : MethodName := ⟨RX7, "like", "(III)I"⟩
abbrev cX7_edict : ByteArray := prog_9_method_21_code
def yX7_edict : MethodName := ⟨RX7, "edict", "(IZ)I"⟩
abbrev cX7_dish : ByteArray := prog_9_method_22_code
def yX7_dish : MethodName := ⟨RX7, "dish", "(III)I"⟩
abbrev cX7_likingOf : ByteArray := prog_9_method_23_code
def yX7_likingOf : MethodName := ⟨RX7, "likingOf", "(I)I"⟩
abbrev cX7_canBe : ByteArray := prog_9_method_24_code
def yX7_canBe : MethodName := ⟨RX7, "canBe", "(I)Z"⟩
abbrev cX7_barsIt : ByteArray := prog_9_method_25_code
def yX7_barsIt : MethodName := ⟨RX7, "barsIt", "(II)Z"⟩
abbrev cX7_firstBy : ByteArray := prog_9_method_26_code
def yX7_firstBy : MethodName := ⟨RX7, "firstBy", "(I)I"⟩
abbrev cX7_isNew : ByteArray := prog_9_method_27_code
def yX7_isNew : MethodName := ⟨RX7, "isNew", "(I)Z"⟩
abbrev cX7_of : ByteArray := prog_9_method_28_code
def yX7_of : MethodName := ⟨RX7, "of", "(II)I"⟩
abbrev cX7_nearOf : ByteArray := prog_9_method_29_code
def yX7_nearOf : MethodName := ⟨RX7, "nearOf", "(II)I"⟩
abbrev cX7_near : ByteArray := prog_9_method_30_code
def yX7_near : MethodName := ⟨RX7, "near", "(II)I"⟩
abbrev cX7_nearHad : ByteArray := prog_9_method_31_code
def yX7_nearHad : MethodName := ⟨RX7, "nearHad", "(II)I"⟩
abbrev cX7_marks : ByteArray := prog_9_method_32_code
def yX7_marks : MethodName := ⟨RX7, "marks", "()V"⟩
abbrev cX7_marksBy : ByteArray := prog_9_method_33_code
def yX7_marksBy : MethodName := ⟨RX7, "marksBy", "(I)V"⟩
abbrev cX7_isGood : ByteArray := prog_9_method_34_code
def yX7_isGood : MethodName := ⟨RX7, "isGood", "(I)Z"⟩
abbrev cX7_newMany : ByteArray := prog_9_method_35_code
def yX7_newMany : MethodName := ⟨RX7, "newMany", "()I"⟩
abbrev cX7_many : ByteArray := prog_9_method_36_code
def yX7_many : MethodName := ⟨RX7, "many", "(I)I"⟩
abbrev cX7_next : ByteArray := prog_9_method_37_code
def yX7_next : MethodName := ⟨RX7, "next", "(I)I"⟩
abbrev cX7_addEntry : ByteArray := prog_9_method_38_code
def yX7_addEntry : MethodName := ⟨RX7, "addEntry", "(III)V"⟩
abbrev cX7_enter : ByteArray := prog_9_method_39_code
def yX7_enter : MethodName := ⟨RX7, "enter", "(II)I"⟩
abbrev cX7_barsMany : ByteArray := prog_9_method_40_code
def yX7_barsMany : MethodName := ⟨RX7, "barsMany", "(I)I"⟩
abbrev cX7_entryOf : ByteArray := prog_9_method_41_code
def yX7_entryOf : MethodName := ⟨RX7, "entryOf", "(II)I"⟩
abbrev cX7_turn : ByteArray := prog_9_method_42_code
def yX7_turn : MethodName := ⟨RX7, "turn", "(II)I"⟩
abbrev cX7_isUnder : ByteArray := prog_9_method_43_code
def yX7_isUnder : MethodName := ⟨RX7, "isUnder", "(II)Z"⟩
abbrev cX7_as : ByteArray := prog_9_method_44_code
def yX7_as : MethodName := ⟨RX7, "as", "(II)I"⟩
abbrev cX7_strike : ByteArray := prog_9_method_45_code
def yX7_strike : MethodName := ⟨RX7, "strike", "()I"⟩
abbrev cX7_bars : ByteArray := prog_9_method_46_code
def yX7_bars : MethodName := ⟨RX7, "bars", "(II)I"⟩
abbrev cX7_by : ByteArray := prog_9_method_47_code
def yX7_by : MethodName := ⟨RX7, "by", "(I)I"⟩
abbrev cX7_breach : ByteArray := prog_9_method_48_code
def yX7_breach : MethodName := ⟨RX7, "breach", "()I"⟩
abbrev cX7_keenest : ByteArray := prog_9_method_49_code
def yX7_keenest : MethodName := ⟨RX7, "keenest", "()I"⟩
abbrev cX7_wouldBe : ByteArray := prog_9_method_50_code
def yX7_wouldBe : MethodName := ⟨RX7, "wouldBe", "(I)I"⟩
abbrev cX7_bestPlace : ByteArray := prog_9_method_51_code
def yX7_bestPlace : MethodName := ⟨RX7, "bestPlace", "()I"⟩
abbrev cX7_best : ByteArray := prog_9_method_52_code
def yX7_best : MethodName := ⟨RX7, "best", "()I"⟩
abbrev cX7_eats : ByteArray := prog_9_method_53_code
def yX7_eats : MethodName := ⟨RX7, "eats", "(III)V"⟩
abbrev cX7_serve : ByteArray := prog_9_method_54_code
def yX7_serve : MethodName := ⟨RX7, "serve", "(II)I"⟩
abbrev cX7_meals : ByteArray := prog_9_method_55_code
def yX7_meals : MethodName := ⟨RX7, "meals", "(II)I"⟩
abbrev cX7_begins0 : ByteArray := prog_9_method_56_code
def yX7_begins0 : MethodName := ⟨RX7, "begins0", "()V"⟩
abbrev cX7_back : ByteArray := prog_9_method_57_code
def yX7_back : MethodName := ⟨RX7, "back", "()V"⟩
abbrev cX7_goesOn : ByteArray := prog_9_method_58_code
def yX7_goesOn : MethodName := ⟨RX7, "goesOn", "(I)I"⟩
abbrev cX7_on : ByteArray := prog_9_method_59_code
def yX7_on : MethodName := ⟨RX7, "on", "(II)I"⟩
abbrev cX7_lastsBy : ByteArray := prog_9_method_60_code
def yX7_lastsBy : MethodName := ⟨RX7, "lastsBy", "(I)I"⟩
abbrev cX7_lasts : ByteArray := prog_9_method_61_code
def yX7_lasts : MethodName := ⟨RX7, "lasts", "(I)I"⟩
abbrev cX7_buy : ByteArray := prog_9_method_62_code
def yX7_buy : MethodName := ⟨RX7, "buy", "(I)I"⟩
abbrev cX7_comesTo : ByteArray := prog_9_method_63_code
def yX7_comesTo : MethodName := ⟨RX7, "comesTo", "(II)V"⟩
abbrev cX7_goesFrom : ByteArray := prog_9_method_64_code
def yX7_goesFrom : MethodName := ⟨RX7, "goesFrom", "(I)V"⟩
abbrev cX7_findSteps : ByteArray := prog_9_method_65_code
def yX7_findSteps : MethodName := ⟨RX7, "findSteps", "(I)V"⟩
abbrev cX7_steps : ByteArray := prog_9_method_66_code
def yX7_steps : MethodName := ⟨RX7, "steps", "(II)I"⟩
abbrev cX7_within : ByteArray := prog_9_method_67_code
def yX7_within : MethodName := ⟨RX7, "within", "(II)I"⟩
abbrev cX7_walk : ByteArray := prog_9_method_68_code
def yX7_walk : MethodName := ⟨RX7, "walk", "(II)I"⟩
abbrev cX7_now : ByteArray := prog_9_method_69_code
def yX7_now : MethodName := ⟨RX7, "now", "(I)I"⟩
abbrev cX7_feed : ByteArray := prog_9_method_70_code
def yX7_feed : MethodName := ⟨RX7, "feed", "(II)I"⟩
abbrev cX7_wipe : ByteArray := prog_9_method_71_code
def yX7_wipe : MethodName := ⟨RX7, "wipe", "()I"⟩
abbrev cX7_byteAt : ByteArray := prog_9_method_72_code
def yX7_byteAt : MethodName := ⟨RX7, "byteAt", "(I)I"⟩
abbrev cX7_isLetter : ByteArray := prog_9_method_73_code
def yX7_isLetter : MethodName := ⟨RX7, "isLetter", "(I)Z"⟩
abbrev cX7_isDigit : ByteArray := prog_9_method_74_code
def yX7_isDigit : MethodName := ⟨RX7, "isDigit", "(I)Z"⟩
abbrev cX7_advance : ByteArray := prog_9_method_75_code
def yX7_advance : MethodName := ⟨RX7, "advance", "()V"⟩
abbrev cX7_isWord : ByteArray := prog_9_method_76_code
def yX7_isWord : MethodName := ⟨RX7, "isWord", "(J)Z"⟩
abbrev cX7_kindHere : ByteArray := prog_9_method_77_code
def yX7_kindHere : MethodName := ⟨RX7, "kindHere", "()I"⟩
abbrev cX7_wantNumber : ByteArray := prog_9_method_78_code
def yX7_wantNumber : MethodName := ⟨RX7, "wantNumber", "(II)I"⟩
abbrev cX7_wantWord : ByteArray := prog_9_method_79_code
def yX7_wantWord : MethodName := ⟨RX7, "wantWord", "(J)V"⟩
abbrev cX7_wantEither : ByteArray := prog_9_method_80_code
def yX7_wantEither : MethodName := ⟨RX7, "wantEither", "(JJ)Z"⟩
abbrev cX7_wantEntry : ByteArray := prog_9_method_81_code
def yX7_wantEntry : MethodName := ⟨RX7, "wantEntry", "(I)V"⟩
abbrev cX7_wantStore : ByteArray := prog_9_method_82_code
def yX7_wantStore : MethodName := ⟨RX7, "wantStore", "()V"⟩
abbrev cX7_wantLiking : ByteArray := prog_9_method_83_code
def yX7_wantLiking : MethodName := ⟨RX7, "wantLiking", "(Z)V"⟩
abbrev cX7_wantEdict : ByteArray := prog_9_method_84_code
def yX7_wantEdict : MethodName := ⟨RX7, "wantEdict", "()V"⟩
abbrev cX7_wantDay : ByteArray := prog_9_method_85_code
def yX7_wantDay : MethodName := ⟨RX7, "wantDay", "()V"⟩
abbrev cX7_wantItem : ByteArray := prog_9_method_86_code
def yX7_wantItem : MethodName := ⟨RX7, "wantItem", "()V"⟩
abbrev cX7_book : ByteArray := prog_9_method_87_code
def yX7_book : MethodName := ⟨RX7, "book", "()I"⟩
abbrev cX7_isSheet : ByteArray := prog_9_method_88_code
def yX7_isSheet : MethodName := ⟨RX7, "isSheet", "(I)Z"⟩
abbrev cX7_narrow : ByteArray := prog_9_method_89_code
def yX7_narrow : MethodName := ⟨RX7, "narrow", "(IJ)J"⟩
abbrev cX7_sheet : ByteArray := prog_9_method_90_code
def yX7_sheet : MethodName := ⟨RX7, "sheet", "(III)I"⟩
abbrev cX7_write : ByteArray := prog_9_method_91_code
def yX7_write : MethodName := ⟨RX7, "write", "(IIJ)J"⟩
abbrev cX7_isPart : ByteArray := prog_9_method_92_code
def yX7_isPart : MethodName := ⟨RX7, "isPart", "(III)Z"⟩
abbrev cX7_copy : ByteArray := prog_9_method_93_code
def yX7_copy : MethodName := ⟨RX7, "copy", "(IIIII)I"⟩
abbrev cX7_lays : ByteArray := prog_9_method_94_code
def yX7_lays : MethodName := ⟨RX7, "lays", "(I)I"⟩
abbrev cX7_noMenu : ByteArray := prog_9_method_95_code
def yX7_noMenu : MethodName := ⟨RX7, "noMenu", "(II)I"⟩
abbrev cX7_menu : ByteArray := prog_9_method_96_code
def yX7_menu : MethodName := ⟨RX7, "menu", "(II)I"⟩
abbrev cX7_canServe : ByteArray := prog_9_method_97_code
def yX7_canServe : MethodName := ⟨RX7, "canServe", "(JI)Z"⟩
abbrev cX7_read : ByteArray := prog_9_method_98_code
def yX7_read : MethodName := ⟨RX7, "read", "(II)I"⟩
abbrev cX7_moveRow : ByteArray := prog_9_method_99_code
def yX7_moveRow : MethodName := ⟨RX7, "moveRow", "([IIZ[I)V"⟩
abbrev cX7_moveAll : ByteArray := prog_9_method_100_code
def yX7_moveAll : MethodName := ⟨RX7, "moveAll", "(Z[I)V"⟩
abbrev cX7_image : ByteArray := prog_9_method_101_code
def yX7_image : MethodName := ⟨RX7, "image", "()I"⟩
abbrev cX7_undo : ByteArray := prog_9_method_102_code
def yX7_undo : MethodName := ⟨RX7, "undo", "()I"⟩
abbrev cX7_tear : ByteArray := prog_9_method_103_code
def yX7_tear : MethodName := ⟨RX7, "tear", "()I"⟩
abbrev cX7_count : ByteArray := prog_9_method_104_code
def yX7_count : MethodName := ⟨RX7, "count", "(I)I"⟩
abbrev cX7_status : ByteArray := prog_9_method_105_code
def yX7_status : MethodName := ⟨RX7, "status", "(I)I"⟩
def RJx145de : String := "java/io/Serializable"
def TJx145de : u_T := fun k => match k with
  | _ => ("", "", "", false)
def tyJx145de : Nat → FieldType := fun k => match k with
  | _ => .int
abbrev wsJx145de0 : List Cond := u_ws RJx145de TJx145de 0
theorem nmJx145de : ∀ a, a < 0 → ∀ b, b < 0 → a ≠ b → (TJx145de a).2.1 ≠ (TJx145de b).2.1 := by decide +kernel
theorem tyJx145de_ok : ∀ k, k < 0 → parseFieldDescriptor (TJx145de k).2.2.1 = some (tyJx145de k) := by decide +kernel
def RJx9f9b0 : String := "java/lang/CharSequence"
def TJx9f9b0 : u_T := fun k => match k with
  | _ => ("", "", "", false)
def tyJx9f9b0 : Nat → FieldType := fun k => match k with
  | _ => .int
abbrev wsJx9f9b00 : List Cond := u_ws RJx9f9b0 TJx9f9b0 0
theorem nmJx9f9b0 : ∀ a, a < 0 → ∀ b, b < 0 → a ≠ b → (TJx9f9b0 a).2.1 ≠ (TJx9f9b0 b).2.1 := by decide +kernel
theorem tyJx9f9b0_ok : ∀ k, k < 0 → parseFieldDescriptor (TJx9f9b0 k).2.2.1 = some (tyJx9f9b0 k) := by decide +kernel
def RJxb160c : String := "java/lang/Comparable"
def TJxb160c : u_T := fun k => match k with
  | _ => ("", "", "", false)
def tyJxb160c : Nat → FieldType := fun k => match k with
  | _ => .int
abbrev wsJxb160c0 : List Cond := u_ws RJxb160c TJxb160c 0
theorem nmJxb160c : ∀ a, a < 0 → ∀ b, b < 0 → a ≠ b → (TJxb160c a).2.1 ≠ (TJxb160c b).2.1 := by decide +kernel
theorem tyJxb160c_ok : ∀ k, k < 0 → parseFieldDescriptor (TJxb160c k).2.2.1 = some (tyJxb160c k) := by decide +kernel
def RJ6 : String := "java/lang/Integer"
def TJ6 : u_T := fun k => match k with
  | _ => ("", "", "", false)
def tyJ6 : Nat → FieldType := fun k => match k with
  | _ => .int
abbrev wsJ60 : List Cond := u_ws RJ6 TJ6 0
theorem nmJ6 : ∀ a, a < 0 → ∀ b, b < 0 → a ≠ b → (TJ6 a).2.1 ≠ (TJ6 b).2.1 := by decide +kernel
theorem tyJ6_ok : ∀ k, k < 0 → parseFieldDescriptor (TJ6 k).2.2.1 = some (tyJ6 k) := by decide +kernel
abbrev cJ6_bitCount_0f7a4 : ByteArray := prog_10_method_49_code
def yJ6_bitCount_0f7a4 : MethodName := ⟨RJ6, "bitCount", "(I)I"⟩
def RJ9 : String := "java/lang/Math"
def TJ9 : u_T := fun k => match k with
  | _ => ("", "", "", false)
def tyJ9 : Nat → FieldType := fun k => match k with
  | _ => .int
abbrev wsJ90 : List Cond := u_ws RJ9 TJ9 0
theorem nmJ9 : ∀ a, a < 0 → ∀ b, b < 0 → a ≠ b → (TJ9 a).2.1 ≠ (TJ9 b).2.1 := by decide +kernel
theorem tyJ9_ok : ∀ k, k < 0 → parseFieldDescriptor (TJ9 k).2.2.1 = some (tyJ9 k) := by decide +kernel
abbrev cJ9_min_7cf53 : ByteArray := prog_11_method_69_code
def yJ9_min_7cf53 : MethodName := ⟨RJ9, "min", "(II)I"⟩
def RJ0 : String := "java/lang/String"
def TJ0 : u_T := fun k => match k with
  | _ => ("", "", "", false)
def tyJ0 : Nat → FieldType := fun k => match k with
  | _ => .int
abbrev wsJ00 : List Cond := u_ws RJ0 TJ0 0
theorem nmJ0 : ∀ a, a < 0 → ∀ b, b < 0 → a ≠ b → (TJ0 a).2.1 ≠ (TJ0 b).2.1 := by decide +kernel
theorem tyJ0_ok : ∀ k, k < 0 → parseFieldDescriptor (TJ0 k).2.2.1 = some (tyJ0 k) := by decide +kernel
abbrev cJ0_length_8abf5 : ByteArray := prog_12_method_54_code
def yJ0_length_8abf5 : MethodName := ⟨RJ0, "length", "()I"⟩
abbrev cJ0_charAt_5068e : ByteArray := prog_12_method_56_code
def yJ0_charAt_5068e : MethodName := ⟨RJ0, "charAt", "(I)C"⟩
abbrev cJ0_coder_7d493 : ByteArray := prog_12_method_152_code
def yJ0_coder_7d493 : MethodName := ⟨RJ0, "coder", "()B"⟩
abbrev cJ0_isLatin1_aae02 : ByteArray := prog_12_method_154_code
def yJ0_isLatin1_aae02 : MethodName := ⟨RJ0, "isLatin1", "()Z"⟩
abbrev cJ0_checkIndex_df160 : ByteArray := prog_12_method_155_code
def yJ0_checkIndex_df160 : MethodName := ⟨RJ0, "checkIndex", "(II)V"⟩
def RJ1 : String := "java/lang/StringLatin1"
def TJ1 : u_T := fun k => match k with
  | _ => ("", "", "", false)
def tyJ1 : Nat → FieldType := fun k => match k with
  | _ => .int
abbrev wsJ10 : List Cond := u_ws RJ1 TJ1 0
theorem nmJ1 : ∀ a, a < 0 → ∀ b, b < 0 → a ≠ b → (TJ1 a).2.1 ≠ (TJ1 b).2.1 := by decide +kernel
theorem tyJ1_ok : ∀ k, k < 0 → parseFieldDescriptor (TJ1 k).2.2.1 = some (tyJ1 k) := by decide +kernel
abbrev cJ1_charAt_3b067 : ByteArray := prog_13_method_2_code
def yJ1_charAt_3b067 : MethodName := ⟨RJ1, "charAt", "([BI)C"⟩
def RJ2 : String := "java/lang/StringUTF16"
def TJ2 : u_T := fun k => match k with
  | _ => ("", "", "", false)
def tyJ2 : Nat → FieldType := fun k => match k with
  | _ => .int
abbrev wsJ20 : List Cond := u_ws RJ2 TJ2 0
theorem nmJ2 : ∀ a, a < 0 → ∀ b, b < 0 → a ≠ b → (TJ2 a).2.1 ≠ (TJ2 b).2.1 := by decide +kernel
theorem tyJ2_ok : ∀ k, k < 0 → parseFieldDescriptor (TJ2 k).2.2.1 = some (tyJ2 k) := by decide +kernel
abbrev cJ2_getChar_3b067 : ByteArray := prog_14_method_5_code
def yJ2_getChar_3b067 : MethodName := ⟨RJ2, "getChar", "([BI)C"⟩
abbrev cJ2_length_9d52b : ByteArray := prog_14_method_6_code
def yJ2_length_9d52b : MethodName := ⟨RJ2, "length", "([B)I"⟩
abbrev cJ2_charAt_3b067 : ByteArray := prog_14_method_83_code
def yJ2_charAt_3b067 : MethodName := ⟨RJ2, "charAt", "([BI)C"⟩
abbrev cJ2_checkIndex_2214a : ByteArray := prog_14_method_91_code
def yJ2_checkIndex_2214a : MethodName := ⟨RJ2, "checkIndex", "(I[B)V"⟩
def RJ10 : String := "java/lang/System"
def TJ10 : u_T := fun k => match k with
  | _ => ("", "", "", false)
def tyJ10 : Nat → FieldType := fun k => match k with
  | _ => .int
abbrev wsJ100 : List Cond := u_ws RJ10 TJ10 0
theorem nmJ10 : ∀ a, a < 0 → ∀ b, b < 0 → a ≠ b → (TJ10 a).2.1 ≠ (TJ10 b).2.1 := by decide +kernel
theorem tyJ10_ok : ∀ k, k < 0 → parseFieldDescriptor (TJ10 k).2.2.1 = some (tyJ10 k) := by decide +kernel
def RJxfd54e : String := "java/lang/constant/Constable"
def TJxfd54e : u_T := fun k => match k with
  | _ => ("", "", "", false)
def tyJxfd54e : Nat → FieldType := fun k => match k with
  | _ => .int
abbrev wsJxfd54e0 : List Cond := u_ws RJxfd54e TJxfd54e 0
theorem nmJxfd54e : ∀ a, a < 0 → ∀ b, b < 0 → a ≠ b → (TJxfd54e a).2.1 ≠ (TJxfd54e b).2.1 := by decide +kernel
theorem tyJxfd54e_ok : ∀ k, k < 0 → parseFieldDescriptor (TJxfd54e k).2.2.1 = some (tyJxfd54e k) := by decide +kernel
def RJx3cf43 : String := "java/lang/constant/ConstantDesc"
def TJx3cf43 : u_T := fun k => match k with
  | _ => ("", "", "", false)
def tyJx3cf43 : Nat → FieldType := fun k => match k with
  | _ => .int
abbrev wsJx3cf430 : List Cond := u_ws RJx3cf43 TJx3cf43 0
theorem nmJx3cf43 : ∀ a, a < 0 → ∀ b, b < 0 → a ≠ b → (TJx3cf43 a).2.1 ≠ (TJx3cf43 b).2.1 := by decide +kernel
theorem tyJx3cf43_ok : ∀ k, k < 0 → parseFieldDescriptor (TJx3cf43 k).2.2.1 = some (tyJx3cf43 k) := by decide +kernel
def RJ7 : String := "java/util/Arrays"
def TJ7 : u_T := fun k => match k with
  | _ => ("", "", "", false)
def tyJ7 : Nat → FieldType := fun k => match k with
  | _ => .int
abbrev wsJ70 : List Cond := u_ws RJ7 TJ7 0
theorem nmJ7 : ∀ a, a < 0 → ∀ b, b < 0 → a ≠ b → (TJ7 a).2.1 ≠ (TJ7 b).2.1 := by decide +kernel
theorem tyJ7_ok : ∀ k, k < 0 → parseFieldDescriptor (TJ7 k).2.2.1 = some (tyJ7 k) := by decide +kernel
abbrev cJ7_fill_d0a16 : ByteArray := prog_16_method_101_code
def yJ7_fill_d0a16 : MethodName := ⟨RJ7, "fill", "([JJ)V"⟩
abbrev cJ7_fill_53178 : ByteArray := prog_16_method_103_code
def yJ7_fill_53178 : MethodName := ⟨RJ7, "fill", "([II)V"⟩
def RJ3 : String := "jdk/internal/util/Preconditions"
def TJ3 : u_T := fun k => match k with
  | _ => ("", "", "", false)
def tyJ3 : Nat → FieldType := fun k => match k with
  | _ => .int
abbrev wsJ30 : List Cond := u_ws RJ3 TJ3 0
theorem nmJ3 : ∀ a, a < 0 → ∀ b, b < 0 → a ≠ b → (TJ3 a).2.1 ≠ (TJ3 b).2.1 := by decide +kernel
theorem tyJ3_ok : ∀ k, k < 0 → parseFieldDescriptor (TJ3 k).2.2.1 = some (tyJ3 k) := by decide +kernel
abbrev cJ3_checkIndex_8e157 : ByteArray := prog_17_method_11_code
def yJ3_checkIndex_8e157 : MethodName := ⟨RJ3, "checkIndex", "(IILjava/util/function/BiFunction;)I"⟩
def RL : String := "NewDishesLaw"
abbrev cL_law : ByteArray := code
def yL_law : MethodName := ⟨RL, "law", "([I)Z"⟩
abbrev vwCl : List vw_C := [(RX0, TX0, 2), (RX1, TX1, 10), (RX2, TX2, 7), (RX3, TX3, 2), (RX4, TX4, 3), (RX5, TX5, 6), (RX6, TX6, 9), (RX7, TX7, 36)]
end
section
/-! A small machine over the kit's: the cells are numbered, their shape stands still, what moves is one table of ints and one of longs.
    Go: from a place in a method, with locals and stack as lists, the kit's W holds, whatever the caller. Ex: a method's contract in these words. -/
abbrev Sh : Type := (Nat × Nat × List (Option Nat)) ⊕ (Nat × List (Option Nat ⊕ Bool))
abbrev Mm : Type := (Nat → Nat → Int32) × (Nat → Nat → Int64)
/-- launch; class numbers, slots; addresses by cell numbers; array classes; shape; floor; the script's length and ints -/
abbrev Gt : Type := Launch × va_G × (Nat → Nat) × (Nat → ClassId) × List Sh × Nat × Nat × (Nat → Int32)
def gl (G : Gt) : Launch := G.1
def gD (G : Gt) : va_G := G.2.1
def ga (G : Gt) : Nat → Nat := G.2.2.1
def gA (G : Gt) : Nat → ClassId := G.2.2.2.1
def gS (G : Gt) : List Sh := G.2.2.2.2.1
def gz (G : Gt) : Nat := G.2.2.2.2.2.1
def gn (G : Gt) : Nat := G.2.2.2.2.2.2.1
def gx (G : Gt) : Nat → Int32 := G.2.2.2.2.2.2.2
def tv (ad : Nat → Nat) : Value → Value
  | .ref k => .ref (ad k)
  | v => v
def seti (M : Mm) (k : Nat) (f : Nat → Int32) : Mm := (fun a => if a = k then f else M.1 a, M.2)
def setl (M : Mm) (k : Nat) (f : Nat → Int64) : Mm := (M.1, fun a => if a = k then f else M.2 a)
def upi (M : Mm) (k j : Nat) (x : Int32) : Mm := seti M k (upd (M.1 k) j x)
def upl (M : Mm) (k j : Nat) (x : Int64) : Mm := setl M k (vp_updL (M.2 k) j x)
def cf (ad : Nat → Nat) (M : Mm) (k j : Nat) : Option Nat ⊕ Bool → Value
  | .inl (some r) => .ref (ad r)
  | .inl none => .null
  | .inr true => .int (M.1 k j)
  | .inr false => .long (M.2 k j)
def ce (ad : Nat → Nat) (dA : Nat → ClassId) (M : Mm) (k : Nat) : Sh → va_E
  | .inl (0, n, _) => .inl (dA 0, n, .inl (M.1 k))
  | .inl (1, n, _) => .inl (dA 1, n, .inl (M.1 k))
  | .inl (2, n, _) => .inl (dA 2, n, .inr (.inl (M.2 k)))
  | .inl (_, n, rs) => .inl (dA 3, n, .inr (.inr (.inr (.inr (fun j => (rs.getD j none).map ad)))))
  | .inr (ci, fs) => .inr (ci, fs.mapIdx (cf ad M k))
def wld (G : Gt) (M : Mm) : va_W := (gS G).mapIdx (fun k sh => (ga G k, ce (ga G) (gA G) M k sh))
def tysG (G : Gt) : List (ClassId × FieldType) := [(gA G 0, .int), (gA G 1, .boolean), (gA G 2, .long), (gA G 3, .object "NewDishes$Sheet")]
def A0 (G : Gt) : Nat → Prop := fun q => gz G ≤ q
def OkG (G : Gt) : Prop := (∀ i j : Nat, i < (gS G).length → j < (gS G).length → ga G i = ga G j → i = j) ∧ ∀ k : Nat, k < (gS G).length → gz G ≤ ga G k
theorem wld_at {G : Gt} {M : Mm} {k : Nat} {x : Sh} (h : (gS G)[k]? = some x) : (wld G M)[k]? = some (ga G k, ce (ga G) (gA G) M k x) := by
  simp [wld, h]
theorem wld_len (G : Gt) (M : Mm) : (wld G M).length = (gS G).length := by simp [wld]
theorem wld_D {G : Gt} (h : OkG G) (M : Mm) : va_D (A0 G) (wld G M) := by
  have at' : ∀ (i : Nat) (q : Nat × va_E), (wld G M)[i]? = some q → i < (gS G).length ∧ q.1 = ga G i := by
    intro i q hq
    have hi : i < (wld G M).length := (List.getElem?_eq_some_iff.mp hq).1
    rw [wld_len] at hi
    have := wld_at (G := G) (M := M) (List.getElem?_eq_getElem hi)
    rw [this] at hq
    cases hq
    exact ⟨hi, rfl⟩
  refine ⟨fun i j p q hp hq e => ?_, fun k q hq => ?_⟩
  · obtain ⟨a1, a2⟩ := at' i p hp
    obtain ⟨b1, b2⟩ := at' j q hq
    exact h.1 i j a1 b1 (by rw [← a2, ← b2]; exact e)
  · obtain ⟨a1, a2⟩ := at' k q hq
    show gz G ≤ q.1
    rw [a2]
    exact h.2 k a1
theorem ce_seti {ad : Nat → Nat} {dA : Nat → ClassId} {M : Mm} {k i : Nat} {f : Nat → Int32} (h : i ≠ k) (x : Sh) : ce ad dA (seti M k f) i x = ce ad dA M i x := by
  have e : (seti M k f).1 i = M.1 i := by simp [seti, h]
  rcases x with ⟨t, n, rs⟩ | ⟨ci, fs⟩
  · match t with
    | 0 => simp only [ce, e]
    | 1 => simp only [ce, e]
    | 2 => rfl
    | t + 3 => rfl
  · simp only [ce]
    congr 3
    funext j x
    rcases x with (_ | r) | (_ | _) <;> simp [cf, h, seti]
theorem ce_setl {ad : Nat → Nat} {dA : Nat → ClassId} {M : Mm} {k i : Nat} {f : Nat → Int64} (h : i ≠ k) (x : Sh) : ce ad dA (setl M k f) i x = ce ad dA M i x := by
  have e : (setl M k f).2 i = M.2 i := by simp [setl, h]
  rcases x with ⟨t, n, rs⟩ | ⟨ci, fs⟩
  · match t with
    | 0 => rfl
    | 1 => rfl
    | 2 => simp only [ce, e]
    | t + 3 => rfl
  · simp only [ce]
    congr 3
    funext j x
    rcases x with (_ | r) | (_ | _) <;> simp [cf, h, setl]
theorem wld_set {G : Gt} {M M' : Mm} {k : Nat} {x : Sh} (h : (gS G)[k]? = some x) (ho : ∀ i y, i ≠ k → ce (ga G) (gA G) M' i y = ce (ga G) (gA G) M i y) : wld G M' = (wld G M).set k (ga G k, ce (ga G) (gA G) M' k x) := by
  apply List.ext_getElem?
  intro i
  by_cases hi : i = k
  · subst hi
    rw [wld_at h, List.getElem?_set_self (by rw [wld_len]; exact (List.getElem?_eq_some_iff.mp h).1)]
  · rw [List.getElem?_set_ne (fun e => hi e.symm)]
    simp only [wld, List.getElem?_mapIdx]
    cases (gS G)[i]? with
    | none => rfl
    | some y => simp [ho i y hi]
theorem cf_set {ad : Nat → Nat} {M : Mm} {k j : Nat} {x : Int32} {fs : List (Option Nat ⊕ Bool)} (h : fs[j]? = some (.inr true)) : fs.mapIdx (cf ad (upi M k j x) k) = (fs.mapIdx (cf ad M k)).set j (.int x) := by
  apply List.ext_getElem?
  intro i
  by_cases hi : i = j
  · subst hi
    rw [List.getElem?_set_self (by simp; exact (List.getElem?_eq_some_iff.mp h).1)]
    simp [h, cf, upi, seti, upd]
  · rw [List.getElem?_set_ne (fun e => hi e.symm)]
    simp only [List.getElem?_mapIdx]
    cases fs[i]? with
    | none => rfl
    | some y => rcases y with (_ | r) | (_ | _) <;> simp [cf, upi, seti, upd, hi]
theorem cf_setl {ad : Nat → Nat} {M : Mm} {k j : Nat} {x : Int64} {fs : List (Option Nat ⊕ Bool)} (h : fs[j]? = some (.inr false)) : fs.mapIdx (cf ad (upl M k j x) k) = (fs.mapIdx (cf ad M k)).set j (.long x) := by
  apply List.ext_getElem?
  intro i
  by_cases hi : i = j
  · subst hi
    rw [List.getElem?_set_self (by simp; exact (List.getElem?_eq_some_iff.mp h).1)]
    simp [h, cf, upl, setl, vp_updL]
  · rw [List.getElem?_set_ne (fun e => hi e.symm)]
    simp only [List.getElem?_mapIdx]
    cases fs[i]? with
    | none => rfl
    | some y => rcases y with (_ | r) | (_ | _) <;> simp [cf, upl, setl, vp_updL, hi]
-- ===== locals, by their places =====
theorem tv_cat (ad : Nat → Nat) (v : Value) : (tv ad v).category = v.category := by cases v <;> rfl
def Lh (ad : Nat → Nat) (lsA : Array Slot) (nL : Nat) (ls : List (Option Value)) : Prop :=
  ls.length = nL ∧ lsA.size = nL ∧ lv_wf lsA ∧ ∀ (i : Nat) (v : Value), ls[i]? = some (some v) → lsA[i]? = some (.val (tv ad v))
def posL (ad : Nat → Nat) (ls : List (Option Value)) : List (Nat × Value) := (ls.mapIdx (fun i o => o.map (fun v => (i, tv ad v)))).filterMap id
theorem posL_mem {ad : Nat → Nat} {ls : List (Option Value)} {q : Nat × Value} : q ∈ posL ad ls ↔ ∃ v, ls[q.1]? = some (some v) ∧ q.2 = tv ad v := by
  unfold posL
  rw [List.mem_filterMap]
  constructor
  · rintro ⟨o, ho, e⟩
    obtain ⟨i, hi⟩ := List.getElem?_of_mem ho
    rw [List.getElem?_mapIdx] at hi
    cases h : ls[i]? with
    | none => rw [h] at hi; simp at hi
    | some o2 =>
      rw [h] at hi
      simp only [Option.map_some, Option.some.injEq] at hi
      subst hi
      cases o2 with
      | none => simp at e
      | some v =>
        simp only [Option.map_some, id, Option.some.injEq] at e
        subst e
        exact ⟨v, h, rfl⟩
  · rintro ⟨v, h, e⟩
    refine ⟨some (q.1, tv ad v), ?_, by rw [← e]; rfl⟩
    apply List.mem_of_getElem? (i := q.1)
    rw [List.getElem?_mapIdx, h]
    rfl
theorem Lh.has {ad : Nat → Nat} {lsA : Array Slot} {nL : Nat} {ls : List (Option Value)} (h : Lh ad lsA nL ls) : lv_has lsA nL (posL ad ls) := by
  refine ⟨h.2.1, h.2.2.1, fun q hq => ?_⟩
  obtain ⟨v, h1, h2⟩ := posL_mem.mp hq
  rw [h2]
  exact h.2.2.2 _ _ h1
def ok1 (ls : List (Option Value)) : Nat → Bool
  | 0 => true
  | i + 1 => match ls[i]? with
    | some (some v) => !(v.category == 2)
    | _ => true
theorem ok1_ne {ls : List (Option Value)} {i j : Nat} {v : Value} (h : ok1 ls i = true) (hj : j + 1 = i) (hv : ls[j]? = some (some v)) : (v.category == 2) = false := by
  subst hj
  simp only [ok1, hv] at h
  revert h
  cases (v.category == 2) <;> simp
theorem Lh.set1 {ad : Nat → Nat} {ls' : Array Slot} {nL i : Nat} {ls : List (Option Value)} {v : Value} (hlen : ls.length = nL) (ho : ok1 ls i = true) (h : lv_has ls' nL ((i, tv ad v) :: (posL ad ls).filter (fun q => !(q.1 == i) && !(q.1 + 1 == i && q.2.category == 2)))) : Lh ad ls' nL (ls.set i (some v)) := by
  refine ⟨by simp [hlen], h.1, h.2.1, fun j w hw => ?_⟩
  by_cases hj : j = i
  · subst hj
    have hl : j < ls.length := by
      have := (List.getElem?_eq_some_iff.mp hw).1
      simpa using this
    rw [List.getElem?_set_self hl] at hw
    cases hw
    exact h.2.2 (j, tv ad v) List.mem_cons_self
  · rw [List.getElem?_set_ne (fun e => hj e.symm)] at hw
    refine h.2.2 (j, tv ad w) (List.mem_cons_of_mem _ (List.mem_filter.mpr ⟨posL_mem.mpr ⟨w, hw, rfl⟩, ?_⟩))
    simp only [tv_cat]
    by_cases h2 : j + 1 = i
    · rw [ok1_ne ho h2 hw]
      simp [hj]
    · simp [hj, h2]
theorem Lh.set2 {ad : Nat → Nat} {ls' : Array Slot} {nL i : Nat} {ls : List (Option Value)} {v : Value} (hlen : ls.length = nL) (ho : ok1 ls i = true) (h : lv_has ls' nL ((i, tv ad v) :: (posL ad ls).filter (fun q => !(q.1 == i) && (!(q.1 == i + 1) && !(q.1 + 1 == i && q.2.category == 2))))) : Lh ad ls' nL ((ls.set i (some v)).set (i + 1) none) := by
  refine ⟨by simp [hlen], h.1, h.2.1, fun j w hw => ?_⟩
  by_cases hk : j = i + 1
  · subst hk
    have hl : i + 1 < (ls.set i (some v)).length := by
      have := (List.getElem?_eq_some_iff.mp hw).1
      simpa using this
    rw [List.getElem?_set_self hl] at hw
    cases hw
  · rw [List.getElem?_set_ne (fun e => hk e.symm)] at hw
    by_cases hj : j = i
    · subst hj
      have hl : j < ls.length := by
        have := (List.getElem?_eq_some_iff.mp hw).1
        simpa using this
      rw [List.getElem?_set_self hl] at hw
      cases hw
      exact h.2.2 (j, tv ad v) List.mem_cons_self
    · rw [List.getElem?_set_ne (fun e => hj e.symm)] at hw
      refine h.2.2 (j, tv ad w) (List.mem_cons_of_mem _ (List.mem_filter.mpr ⟨posL_mem.mpr ⟨w, hw, rfl⟩, ?_⟩))
      simp only [tv_cat]
      by_cases h2 : j + 1 = i
      · rw [ok1_ne ho h2 hw]
        simp [hj, hk]
      · simp [hj, h2, hk]
/-- the locals at a method's entry -/
def argL : List Value → List (Option Value)
  | [] => []
  | v :: vs => if v.category = 2 then some v :: none :: argL vs else some v :: argL vs
def entL (n : Nat) (vs : List Value) : List (Option Value) := argL vs ++ List.replicate (n - (argL vs).length) none
theorem lv_args_in {ad : Nat → Nat} : ∀ (vs : List Value) (b i : Nat) (v : Value), (argL vs)[i]? = some (some v) → (b + i, tv ad v) ∈ lv_args b (vs.map (tv ad))
  | [], b, i, v, h => by simp [argL] at h
  | w :: vs, b, i, v, h => by
    simp only [argL] at h
    simp only [List.map_cons, lv_args, tv_cat]
    by_cases hc : w.category = 2
    · rw [if_pos hc] at h ⊢
      match i, h with
      | 0, h =>
        simp at h
        subst h
        exact List.mem_cons_self
      | 1, h => simp at h
      | i + 2, h =>
        have := lv_args_in (ad := ad) vs (b + 2) i v (by simpa using h)
        exact List.mem_cons_of_mem _ (by rw [show b + (i + 2) = b + 2 + i by omega]; exact this)
    · rw [if_neg hc] at h ⊢
      match i, h with
      | 0, h =>
        simp at h
        subst h
        exact List.mem_cons_self
      | i + 1, h =>
        have := lv_args_in (ad := ad) vs (b + 1) i v (by simpa using h)
        exact List.mem_cons_of_mem _ (by rw [show b + (i + 1) = b + 1 + i by omega]; exact this)
theorem argL_len (ad : Nat → Nat) : ∀ vs : List Value, (lg_sl (vs.map (tv ad))).length = (argL vs).length
  | [] => rfl
  | v :: vs => by
    have := argL_len ad vs
    simp only [lg_sl, List.map_cons, List.flatMap_cons, List.length_append, tv_cat, argL] at this ⊢
    rw [this]
    by_cases hc : v.category = 2 <;> simp [hc] <;> omega
theorem Lh.entry (ad : Nat → Nat) (vs : List Value) {n : Nat} (h : (argL vs).length ≤ n) : Lh ad ((lg_sl (vs.map (tv ad)) ++ List.replicate (n - (lg_sl (vs.map (tv ad))).length) Slot.unset).toArray) n (entL n vs) := by
  have h1 := lv_entry (vs.map (tv ad)) (n := n) (by rw [argL_len]; exact h)
  refine ⟨by simp [entL]; omega, h1.1, h1.2.1, fun i v hv => ?_⟩
  have hi : (argL vs)[i]? = some (some v) := by
    unfold entL at hv
    rw [List.getElem?_append] at hv
    split at hv
    · exact hv
    · rw [List.getElem?_replicate] at hv
      split at hv <;> simp at hv
  have := lv_args_in (ad := ad) vs 0 i v hi
  rw [Nat.zero_add] at this
  exact h1.2.2 _ this
end
section
/-! ===== what stands still about a state: nest links, static rows, the literals ===== -/
def WSall : List Cond := lw_tbl.filter goodWord
def nestW : List Cond := [Cond.methodLinkNest "NewDishes$Kitchen" 17 ⟨"NewDishes$Barred", "<init>", "()V"⟩ "NewDishes", Cond.methodLinkNest "NewDishes" 35 ⟨"NewDishes$Paths", "<init>", "()V"⟩ "NewDishes", Cond.methodLinkNest "NewDishes" 42 ⟨"NewDishes$Tape", "<init>", "()V"⟩ "NewDishes", Cond.methodLinkNest "NewDishes" 57 ⟨"NewDishes$Sheet", "<init>", "()V"⟩ "NewDishes", Cond.methodLinkNest "NewDishes$Bureau" 55 ⟨"NewDishes", "hasBit", "(II)Z"⟩ "NewDishes", Cond.methodLinkNest "NewDishes$Bureau" 59 ⟨"NewDishes", "wayOf", "(I)I"⟩ "NewDishes", Cond.methodLinkNest "NewDishes$Bureau" 63 ⟨"NewDishes", "sauceOf", "(I)I"⟩ "NewDishes", Cond.methodLinkNest "NewDishes$Bureau" 66 ⟨"NewDishes", "setOf", "(I)I"⟩ "NewDishes", Cond.methodLinkNest "NewDishes$Bureau" 69 ⟨"NewDishes", "inStore", "([I)I"⟩ "NewDishes", Cond.methodLinkNest "NewDishes$Bureau" 91 ⟨"NewDishes", "barsDish", "(IIII)Z"⟩ "NewDishes", Cond.methodLinkNest "NewDishes$Bureau" 98 ⟨"NewDishes", "nearness", "(II)I"⟩ "NewDishes", Cond.methodLinkNest "NewDishes$Barred" 40 ⟨"NewDishes", "mannerOf", "(I)I"⟩ "NewDishes", Cond.methodLinkNest "NewDishes$Barred" 44 ⟨"NewDishes", "mannersBarred", "(III)I"⟩ "NewDishes", Cond.methodLinkNest "NewDishes$Barred" 48 ⟨"NewDishes", "setOf", "(I)I"⟩ "NewDishes", Cond.methodLinkNest "NewDishes$Barred" 51 ⟨"NewDishes", "barsParts", "(I)Z"⟩ "NewDishes", Cond.fieldLinkNest "NewDishes$Barred" 59 "NewDishes" "SETS" "[I" "NewDishes", Cond.methodLinkNest "NewDishes$Barred" 62 ⟨"NewDishes", "isPartEitherWay", "(II)Z"⟩ "NewDishes", Cond.fieldLinkNest "NewDishes$Kitchen" 75 "NewDishes" "SETS" "[I" "NewDishes", Cond.methodLinkNest "NewDishes$Kitchen" 78 ⟨"NewDishes", "hasBit", "(II)Z"⟩ "NewDishes", Cond.methodLinkNest "NewDishes$Kitchen" 85 ⟨"NewDishes", "wayOf", "(I)I"⟩ "NewDishes", Cond.methodLinkNest "NewDishes$Kitchen" 92 ⟨"NewDishes", "sauceOf", "(I)I"⟩ "NewDishes", Cond.methodLinkNest "NewDishes$Kitchen" 98 ⟨"NewDishes", "inStore", "([I)I"⟩ "NewDishes", Cond.methodLinkNest "NewDishes$Barred" 66 ⟨"NewDishes", "countOf", "([I)I"⟩ "NewDishes", Cond.methodLinkNest "NewDishes$Barred" 70 ⟨"NewDishes", "barsSet", "(III)Z"⟩ "NewDishes", Cond.methodLinkNest "NewDishes$Bureau" 88 ⟨"NewDishes", "takeFrom", "([II)V"⟩ "NewDishes", Cond.methodLinkNest "NewDishes$Kitchen" 123 ⟨"NewDishes", "takeFrom", "([II)V"⟩ "NewDishes", Cond.methodLinkNest "NewDishes$Paths" 26 ⟨"NewDishes", "setOf", "(I)I"⟩ "NewDishes", Cond.methodLinkNest "NewDishes$Paths" 30 ⟨"NewDishes", "mannerOf", "(I)I"⟩ "NewDishes", Cond.methodLinkNest "NewDishes$Paths" 33 ⟨"NewDishes", "hasBit", "(II)Z"⟩ "NewDishes", Cond.methodLinkNest "NewDishes$Paths" 54 ⟨"NewDishes", "inStore", "([I)I"⟩ "NewDishes", Cond.fieldLinkNest "NewDishes$Paths" 58 "NewDishes" "SETS" "[I" "NewDishes", Cond.methodLinkNest "NewDishes$Tape" 112 ⟨"NewDishes", "hasBit", "(II)Z"⟩ "NewDishes", Cond.methodLinkNest "NewDishes$Tape" 104 ⟨"NewDishes", "dishNumber", "(III)I"⟩ "NewDishes", Cond.methodLinkNest "NewDishes$Sheet" 28 ⟨"NewDishes", "isBelow", "(II)Z"⟩ "NewDishes", Cond.methodLinkNest "NewDishes$Kitchen" 117 ⟨"NewDishes", "setOf", "(I)I"⟩ "NewDishes", Cond.methodLinkNest "NewDishes$Kitchen" 120 ⟨"NewDishes", "mannerOf", "(I)I"⟩ "NewDishes"]
def nestOk : Cond → Bool
  | .methodLinkNest _ _ _ _ => true
  | .fieldLinkNest _ _ _ _ _ _ => true
  | _ => false
theorem nestW_ok : ∀ w ∈ nestW, nestOk w = true := by decide +kernel
def strIx : List Nat := [72, 77, 79, 81, 83, 85, 96, 102, 46, 55, 126, 60, 62, 128, 130, 132, 134, 67]
def strTx : List String := ["entry", "parted", "guest", "named", "feast", "secret", "way", "sauce", "store", "likes", "thing", "loathes", "edict", "sauces", "ways", "on", "off", "day"]
def strBy : List (List Int32) := [[101, 110, 116, 114, 121], [112, 97, 114, 116, 101, 100], [103, 117, 101, 115, 116], [110, 97, 109, 101, 100], [102, 101, 97, 115, 116], [115, 101, 99, 114, 101, 116], [119, 97, 121], [115, 97, 117, 99, 101], [115, 116, 111, 114, 101], [108, 105, 107, 101, 115], [116, 104, 105, 110, 103], [108, 111, 97, 116, 104, 101, 115], [101, 100, 105, 99, 116], [115, 97, 117, 99, 101, 115], [119, 97, 121, 115], [111, 110], [111, 102, 102], [100, 97, 121]]
def strLn : List Nat := [5, 6, 5, 5, 5, 6, 3, 5, 5, 5, 5, 7, 5, 6, 4, 2, 3, 3]
def setsL : List Int32 := [1, 2, 3, 4, 5, 6, 7, 8, 9, 10, 11, 12, 13, 14, 16, 17, 18, 19, 20, 21, 22, 24, 25, 26, 28, 32, 33, 34, 35, 36, 37, 38, 40, 41, 42, 44, 48, 49, 50, 52, 56, 64, 65, 66, 67, 68, 69, 70, 72, 73, 74, 76, 80, 81, 82, 84, 88, 96, 97, 98, 100, 104, 112, 128, 129, 130, 131, 132, 133, 134, 136, 137, 138, 140, 144, 145, 146, 148, 152, 160, 161, 162, 164, 168, 176, 192, 193, 194, 196, 200, 208, 224]
def setsF (j : Nat) : Int32 := setsL.getD j 0
def aboveF (j : Nat) : Int32 := ([-1, 0, 0, 0, 1, 3] : List Int32).getD j 0
def Stat (G : Gt) (U : State) (H : Heap) : Prop :=
  (∀ w ∈ nestW, va_Nw w U) ∧
  va_Z "NewDishes" "SETS" "[I" (.ref (ga G 1000)) (A0 G) U H ∧ va_T .int (ga G 1000) 92 (fun j => .int (setsF j)) (A0 G) U H ∧
  va_Z "NewDishes" "ABOVE" "[I" (.ref (ga G 1001)) (A0 G) U H ∧ va_T .int (ga G 1001) 6 (fun j => .int (aboveF j)) (A0 G) U H ∧
  va_T .int (ga G 1002) (gn G) (fun j => .int (gx G j)) (A0 G) U H ∧
  va_Z "java/lang/String" "COMPACT_STRINGS" "Z" (.int 1) (A0 G) U H ∧
  (va_Z "jdk/internal/util/Preconditions" "SIOOBE_FORMATTER" "Ljava/util/function/BiFunction;" .null (A0 G) U H ∨ va_Z "jdk/internal/util/Preconditions" "SIOOBE_FORMATTER" "Ljava/util/function/BiFunction;" (.ref (ga G 3000)) (A0 G) U H) ∧
  vk_S 18 strLn strBy (fun i => ga G (2000 + i)) (fun i => ga G (2100 + i)) (A0 G) U H ∧
  ∀ i : Nat, i < 18 → vk_R "NewDishes$Tape" (strIx.getD i 0) (strTx.getD i "") (ga G (2000 + i)) U
theorem nest_warm {w : Cond} (hw : nestOk w = true) {s U : State} (hW : s.WarmedH U.vm) (h : va_Nw w s) : va_Nw w U := by
  cases w with
  | methodLinkNest a b c d => exact va_Nw.warmM hW h
  | fieldLinkNest a b c d e f => exact va_Nw.warmF hW h
  | _ => simp [nestOk] at hw
theorem nest_same {w : Cond} (hw : nestOk w = true) {s U : State} (hv : s.vm = U.vm) (h : va_Nw w s) : va_Nw w U := by
  cases w with
  | methodLinkNest a b c d => exact va_Nw.same rfl hv h
  | fieldLinkNest a b c d e f => exact va_Nw.same rfl hv h
  | _ => simp [nestOk] at hw
theorem Stat.kept {G : Gt} {U : State} {H H1 : Heap} (h : Stat G U H) (hq : ∀ a : Nat, a < H.size → ¬ A0 G a → H1[a]? = H[a]?) : Stat G U H1 := by
  obtain ⟨h1, h2, h3, h4, h5, h6, h7, h8, h9, h10⟩ := h
  exact ⟨h1, h2.kept hq, h3.kept hq, h4.kept hq, h5.kept hq, h6.kept hq, h7.kept hq, h8.imp (fun z => z.kept hq) (fun z => z.kept hq), h9.kept hq, h10⟩
theorem Stat.warm {G : Gt} {s U : State} {H : Heap} (h : Stat G s H) (hW : s.WarmedH U.vm) : Stat G U H := by
  obtain ⟨h1, h2, h3, h4, h5, h6, h7, h8, h9, h10⟩ := h
  have hA := hW.alike
  exact ⟨fun w hw => nest_warm (nestW_ok w hw) hW (h1 w hw), h2.moved hA, h3.moved hA, h4.moved hA, h5.moved hA, h6.moved hA, h7.moved hA, h8.imp (fun z => z.moved hA) (fun z => z.moved hA), h9.moved hA, fun i hi => (h10 i hi).warm hW⟩
theorem Stat.same {G : Gt} {s U : State} {H : Heap} (h : Stat G s H) (hv : s.vm = U.vm) : Stat G U H := by
  obtain ⟨h1, h2, h3, h4, h5, h6, h7, h8, h9, h10⟩ := h
  have hA : s.vm.Alike U.vm := by rw [hv]; exact Vm.Alike.refl _
  exact ⟨fun w hw => nest_same (nestW_ok w hw) hv (h1 w hw), h2.moved hA, h3.moved hA, h4.moved hA, h5.moved hA, h6.moved hA, h7.moved hA, h8.imp (fun z => z.moved hA) (fun z => z.moved hA), h9.moved hA, fun i hi => (h10 i hi).same hv.symm⟩
-- ===== Go and Ex =====
abbrev Mt : Type := MethodName × ByteArray × Nat × Option FieldType
def wsM (mt : Mt) : List Cond := .code mt.1 mt.2.1 mt.2.2.1 mt.2.2.2 :: WSall
def room (d : Nat) : Room := { frames := d, cells := 0, slots := 0, locals := 40 * d }
def Cx (G : Gt) (d : Nat) (mt : Mt) (p : Program) (R : Room) (s : State) (m : MethodId) (a : Array Value) (c : Code) (cells slots : Nat) : Prop :=
  p.tables.exec = Jvm.exec ∧ c.code = mt.2.1 ∧ c.maxLocals = mt.2.2.1 ∧ s.vm.findClass mt.1.cls = some m.cls ∧ (∀ w ∈ wsM mt, w.before a s = true) ∧ OkG G ∧ gz G ≤ s.heap.size ∧ va_K (gD G) vwCl (tysG G) s ∧ Stat G s s.heap ∧ d ≤ R.frames ∧ 40 * d ≤ R.locals ∧ cells ≤ R.cells ∧ slots ≤ R.slots
def RetAt (mt : Mt) (pc : Nat) : Option Value → Prop
  | none => decode mt.2.1 pc = .ok (.return_, 1) ∧ mt.2.2.2 = none
  | some (.int x) => decode mt.2.1 pc = .ok (.ireturn, 1) ∧ ∃ ty, mt.2.2.2 = some ty ∧ narrow ty (.int x) = .int x
  | some (.long _) => decode mt.2.1 pc = .ok (.lreturn, 1) ∧ mt.2.2.2 = some .long
  | some (.ref _) => decode mt.2.1 pc = .ok (.areturn, 1) ∧ ∃ t, mt.2.2.2 = some (.array t)
  | _ => False
def Fin' (G : Gt) (mt : Mt) (post : Option Value → Mm → Prop) (p : Program) (e : Env) (R : Room) (s : State) (m : MethodId) (a : Array Value) (below : List Frame) (meth : Method) (c : Code) (cells slots : Nat) (Q : State → Prop) : Prop :=
  ∀ (v : Option Value) (M : Mm), post v M → ∀ (pc : Nat) (lsA : Array Slot) (H : Heap) (locs : List Loc), RetAt mt pc v → va_P (gD G) vwCl (wld G M) H → va_S (A0 G) s.heap H locs → W p (gl G) e R s m a below meth c H locs cells slots Q (F0 m pc lsA (v.toList.map (tv (ga G))))
def Go (G : Gt) (d : Nat) (mt : Mt) (pc : Nat) (ls : List (Option Value)) (st : List Value) (M : Mm) (post : Option Value → Mm → Prop) : Prop :=
  ∀ (p : Program) (e : Env) (R : Room) (s : State) (m : MethodId) (a : Array Value) (below : List Frame) (meth : Method) (c : Code) (cells slots : Nat) (Q : State → Prop) (H : Heap) (locs : List Loc) (lsA : Array Slot),
    Cx G d mt p R s m a c cells slots → va_P (gD G) vwCl (wld G M) H → va_S (A0 G) s.heap H locs → Lh (ga G) lsA mt.2.2.1 ls → Fin' G mt post p e R s m a below meth c cells slots Q →
    W p (gl G) e R s m a below meth c H locs cells slots Q (F0 m pc lsA (st.map (tv (ga G))))
def PcW (G : Gt) (M : Mm) (U : State) : Prop := OkG G ∧ gz G ≤ U.heap.size ∧ va_P (gD G) vwCl (wld G M) U.heap ∧ va_K (gD G) vwCl (tysG G) U ∧ Stat G U U.heap
def QcW (G : Gt) (post : Option Value → Mm → Prop) : Array Value → State → Outcome → State → Prop := fun _ st oc t => (∃ (v : Option Value) (M : Mm), oc = .returned (v.map (tv (ga G))) ∧ post v M ∧ va_P (gD G) vwCl (wld G M) t.heap) ∧ va_F (A0 G) st t
def Ex (G : Gt) (d : Nat) (mt : Mt) (as : List Value) (M : Mm) (post : Option Value → Mm → Prop) : Prop :=
  Met (gl G) mt.1 (wsM mt) (room d) (va_Pc (as.map (tv (ga G))) (PcW G M)) (QcW G post) 0 0 (A0 G)
set_option maxHeartbeats 1000000 in
theorem Ex.of {G : Gt} {d : Nat} {mt : Mt} {as : List Value} {M : Mm} {post : Option Value → Mm → Prop} (hy : plainName mt.1.cls = true) (hlen : (argL as).length ≤ mt.2.2.1) (h : Go G d mt 0 (entL mt.2.2.1 as) [] M post) : Ex G d mt as M post := by
  refine Met.ofW (cc := mt.2.1) (maxL := mt.2.2.1) (ret := mt.2.2.2) hy rfl ?_
  intro p e s m args below meth c s₁ B hml hv
  obtain ⟨rfl, hok, hsz, hP, hK, hSt⟩ := hv
  have hx := B.exec
  have hb := B.bytes
  have hr := B.returns
  have hts := atoms_spec (ws := wsM mt) B.pre
  have hown : s.vm.findClass mt.1.cls = some m.cls := findClass_of_methodNamed B.named
  have hlocks := B.notSynchronized
  rw [lg_entry_eq]
  have hS : va_S (A0 G) s.heap s.heap [] := va_S.rf
  refine h p e _ s m _ below meth c 0 0 _ s.heap [] _ ⟨hx, hb, hml, hown, hts, hok, hsz, hK, hSt, Nat.le_refl d, Nat.le_refl (40 * d), Nat.zero_le _, Nat.zero_le _⟩ hP hS (Lh.entry (ga G) as hlen) ?_
  intro v M' hpost pc lsA H locs hret hP' hS'
  have hq : ∀ t : State, t.heap = H → QcW G post (as.map (tv (ga G))).toArray s (.returned (v.map (tv (ga G)))) t := fun t ht => ⟨⟨v, M', rfl, hpost, by rw [ht]; exact hP'⟩, hS'.F ht⟩
  match v, hret, hq with
  | none, ⟨h1, h2⟩, hq => exact W.vret hx hb (by rw [hr, h2]) (fun t ht _ => hq t ht) hS'.2.2 h1 hlocks
  | some (.int x), ⟨h1, ty, h2, h3⟩, hq => exact W.zret (ty := ty) hx hb (by rw [hr, h2]) h3 (fun t ht _ => hq t ht) hS'.2.2 h1 hlocks
  | some (.long x), ⟨h1, h2⟩, hq => exact W.lret hx hb (by rw [hr, h2]) (fun t ht _ => hq t ht) hS'.2.2 h1 hlocks
  | some (.ref x), ⟨h1, t0, h2⟩, hq => exact W.aret (rt := .array t0) hx hb (by rw [hr, h2]) (Or.inr ⟨t0, rfl⟩) (Or.inr ⟨_, rfl⟩) (fun t ht _ => hq t ht) hS'.2.2 h1 hlocks
  | some .null, h1, _ => exact absurd h1 (fun z => z)
  | some (.float _), h1, _ => exact absurd h1 (fun z => z)
  | some (.double _), h1, _ => exact absurd h1 (fun z => z)
  | some (.retAddr _), h1, _ => exact absurd h1 (fun z => z)
theorem Ex.mono {G : Gt} {d : Nat} {mt : Mt} {as : List Value} {M : Mm} {post post' : Option Value → Mm → Prop} (h : Ex G d mt as M post) (hp : ∀ v M', post v M' → post' v M') : Ex G d mt as M post' := by
  intro p e ha hc hk s m args below hf happ hP hx
  obtain ⟨t, o, h1, h2, h3, ⟨⟨⟨v, M', e1, e2, e3⟩, e4⟩, hF⟩⟩ := h p e ha hc hk s m args below hf happ hP hx
  exact ⟨t, o, h1, h2, h3, ⟨⟨v, M', e1, hp v M' e2, e3⟩, e4⟩, hF⟩
theorem Go.mono {G : Gt} {d : Nat} {mt : Mt} {pc : Nat} {ls : List (Option Value)} {st : List Value} {M : Mm} {post post' : Option Value → Mm → Prop} (h : Go G d mt pc ls st M post) (hp : ∀ v M', post v M' → post' v M') : Go G d mt pc ls st M post' := by
  intro p e R s m a below meth c cells slots Q H locs lsA C hP hS hl hF
  exact h p e R s m a below meth c cells slots Q H locs lsA C hP hS hl (fun v M' hv => hF v M' (hp v M' hv))
theorem PcW.blind (G : Gt) (M : Mm) (av : List Value) : FrameBlind (va_Pc av (PcW G M)) := by
  intro a U g mk q
  obtain ⟨q0, q1, q2, q3, q4, q5⟩ := q
  exact ⟨q0, q1, q2, q3, va_K.moved (u := U) (U := U.calling g mk a) (Vm.Alike.refl U.vm) q4, Stat.same q5 rfl⟩
theorem PcW.at {G : Gt} {M : Mm} {s U : State} {H : Heap} {locs : List Loc} (hok : OkG G) (hsz : gz G ≤ s.heap.size) (hP : va_P (gD G) vwCl (wld G M) H) (hS : va_S (A0 G) s.heap H locs) (hK : va_K (gD G) vwCl (tysG G) s) (hSt : Stat G s s.heap) (hU : U.heap = H) (hW : s.WarmedH U.vm) : PcW G M U := by
  refine ⟨hok, by rw [hU]; exact Nat.le_trans hsz hS.1, by rw [hU]; exact hP, va_K.moved hW.alike hK, ?_⟩
  rw [hU]
  exact (hSt.kept (fun a h1 h2 => hS.2.1 a h1 h2)).warm hW
/-- behind a call: its answer on the stack -/
theorem Go.back {G : Gt} {p : Program} {e : Env} {R : Room} {s : State} {m : MethodId} {a : Array Value} {below : List Frame} {meth : Method} {c : Code} {cells slots : Nat} {Q : State → Prop} {H : Heap} {locs : List Loc} {lsA : Array Slot} {pc : Nat} {st0 rest : List Value} {post1 : Option Value → Mm → Prop} {av : Array Value}
    (hr : va_Run p (gl G) e R s m a below meth c H locs cells slots 0 0 (F0 m pc lsA st0) rest (QcW G post1 av) (A0 G)) (hS : va_S (A0 G) s.heap H locs)
    (kk : ∀ (v : Option Value) (M : Mm) (H1 : Heap) (locs1 : List Loc), post1 v M → va_P (gD G) vwCl (wld G M) H1 → va_S (A0 G) s.heap H1 locs1 → W p (gl G) e R s m a below meth c H1 locs1 cells slots Q (F0 m (pc + 3) lsA (v.toList.map (tv (ga G)) ++ rest))) : W p (gl G) e R s m a below meth c H locs cells slots Q (F0 m pc lsA st0) := by
  intro T hT X
  obtain ⟨v, st₀, t, T', L, h0, X', hL, e1, e2, ⟨⟨u, M, hv, hp, hb⟩, hz, hk⟩, st⟩ := hr T hT X
  cases hv
  rw [h0] at hz hk
  have hS' : va_S (A0 G) s.heap T'.heap (locs ++ L) := ⟨Nat.le_trans hS.1 (by rw [e1]; exact hz), fun q h1 h2 => by rw [e1, hk q (Nat.lt_of_lt_of_le h1 hS.1) h2]; exact hS.2.1 q h1 h2, fun q hq => by
      rcases List.mem_append.mp hq with h | h
      · exact hS.2.2 q h
      · exact hL q h⟩
  obtain ⟨t2, a1, b1⟩ := kk u M T'.heap (locs ++ L) hp (by rw [e1]; exact hb) hS' T' rfl X'
  refine ⟨t2, st t2 ?_, b1⟩
  have e3 : (u.map (tv (ga G))).toList = u.toList.map (tv (ga G)) := by cases u <;> rfl
  rw [e3]
  exact a1
end
section
theorem Go.iconst {G : Gt} {d : Nat} {mt : Mt} {pc : Nat} {ls : List (Option Value)} {st : List Value} {M : Mm} {post : Option Value → Mm → Prop} {n : Int} {v : Int32} (hd : decode mt.2.1 pc = .ok (.iconst n, 1)) (hv : Int32.ofInt n = v) (k : Go G d mt (pc + 1) ls (.int v :: st) M post) : Go G d mt pc ls (st) M post := by
  intro p e R s m a below meth c cells slots Q H locs lsA C hP hS hl hF
  have hx := C.1
  have hb := C.2.1
  exact lv_iconst hx hb hd hv (k p e R s m a below meth c cells slots Q H locs lsA C hP hS hl hF)
theorem Go.bipush {G : Gt} {d : Nat} {mt : Mt} {pc : Nat} {ls : List (Option Value)} {st : List Value} {M : Mm} {post : Option Value → Mm → Prop} {n : Int} {v : Int32} (hd : decode mt.2.1 pc = .ok (.bipush n, 2)) (hv : (Int8.ofInt n).toInt32 = v) (k : Go G d mt (pc + 2) ls (.int v :: st) M post) : Go G d mt pc ls (st) M post := by
  intro p e R s m a below meth c cells slots Q H locs lsA C hP hS hl hF
  have hx := C.1
  have hb := C.2.1
  exact lv_bipush hx hb hd hv (k p e R s m a below meth c cells slots Q H locs lsA C hP hS hl hF)
theorem Go.sipush {G : Gt} {d : Nat} {mt : Mt} {pc : Nat} {ls : List (Option Value)} {st : List Value} {M : Mm} {post : Option Value → Mm → Prop} {n : Int} {v : Int32} (hd : decode mt.2.1 pc = .ok (.sipush n, 3)) (hv : (Int16.ofInt n).toInt32 = v) (k : Go G d mt (pc + 3) ls (.int v :: st) M post) : Go G d mt pc ls (st) M post := by
  intro p e R s m a below meth c cells slots Q H locs lsA C hP hS hl hF
  have hx := C.1
  have hb := C.2.1
  exact lv_sipush hx hb hd hv (k p e R s m a below meth c cells slots Q H locs lsA C hP hS hl hF)
theorem Go.lconst {G : Gt} {d : Nat} {mt : Mt} {pc : Nat} {ls : List (Option Value)} {st : List Value} {M : Mm} {post : Option Value → Mm → Prop} {n : Fin 2} {v : Int64} (hd : decode mt.2.1 pc = .ok (.lconst n, 1)) (hv : Int64.ofNat (n : Nat) = v) (k : Go G d mt (pc + 1) ls (.long v :: st) M post) : Go G d mt pc ls (st) M post := by
  intro p e R s m a below meth c cells slots Q H locs lsA C hP hS hl hF
  have hx := C.1
  have hb := C.2.1
  exact lv_lconst hx hb hd hv (k p e R s m a below meth c cells slots Q H locs lsA C hP hS hl hF)
theorem Go.ldc {G : Gt} {d : Nat} {mt : Mt} {pc : Nat} {ls : List (Option Value)} {st : List Value} {M : Mm} {post : Option Value → Mm → Prop} {i : Nat} {v : Int32} (hd : decode mt.2.1 pc = .ok (.ldc i, 2)) (hw : Cond.constant mt.1.cls i v ∈ WSall) (k : Go G d mt (pc + 2) ls (.int v :: st) M post) : Go G d mt pc ls (st) M post := by
  intro p e R s m a below meth c cells slots Q H locs lsA C hP hS hl hF
  have hx := C.1
  have hb := C.2.1
  exact lv_ldc hx hb C.2.2.2.1 (C.2.2.2.2.1 _ (List.mem_cons_of_mem _ hw)) hd (k p e R s m a below meth c cells slots Q H locs lsA C hP hS hl hF)
theorem Go.ldcw {G : Gt} {d : Nat} {mt : Mt} {pc : Nat} {ls : List (Option Value)} {st : List Value} {M : Mm} {post : Option Value → Mm → Prop} {i : Nat} {v : Int32} (hd : decode mt.2.1 pc = .ok (.ldc_w i, 3)) (hw : Cond.constant mt.1.cls i v ∈ WSall) (k : Go G d mt (pc + 3) ls (.int v :: st) M post) : Go G d mt pc ls (st) M post := by
  intro p e R s m a below meth c cells slots Q H locs lsA C hP hS hl hF
  have hx := C.1
  have hb := C.2.1
  exact lv_ldcw hx hb C.2.2.2.1 (C.2.2.2.2.1 _ (List.mem_cons_of_mem _ hw)) hd (k p e R s m a below meth c cells slots Q H locs lsA C hP hS hl hF)
theorem Go.ldc2 {G : Gt} {d : Nat} {mt : Mt} {pc : Nat} {ls : List (Option Value)} {st : List Value} {M : Mm} {post : Option Value → Mm → Prop} {i : Nat} {v : Int64} (hd : decode mt.2.1 pc = .ok (.ldc2_w i, 3)) (hw : Cond.constantLong mt.1.cls i v ∈ WSall) (k : Go G d mt (pc + 3) ls (.long v :: st) M post) : Go G d mt pc ls (st) M post := by
  intro p e R s m a below meth c cells slots Q H locs lsA C hP hS hl hF
  have hx := C.1
  have hb := C.2.1
  exact lv_ldc2 hx hb C.2.2.2.1 (C.2.2.2.2.1 _ (List.mem_cons_of_mem _ hw)) hd (k p e R s m a below meth c cells slots Q H locs lsA C hP hS hl hF)
theorem Go.iload_n {G : Gt} {d : Nat} {mt : Mt} {pc : Nat} {ls : List (Option Value)} {st : List Value} {M : Mm} {post : Option Value → Mm → Prop} {n : Fin 4} {x : Int32} (hd : decode mt.2.1 pc = .ok (.iload_n n, 1)) (hv : ls[(n : Nat)]? = some (some (.int x))) (k : Go G d mt (pc + 1) ls (.int x :: st) M post) : Go G d mt pc ls (st) M post := by
  intro p e R s m a below meth c cells slots Q H locs lsA C hP hS hl hF
  have hx := C.1
  have hb := C.2.1
  exact lv_iload_n hx hb hd rfl (hl.2.2.2 _ _ hv) (k p e R s m a below meth c cells slots Q H locs lsA C hP hS hl hF)
theorem Go.iload {G : Gt} {d : Nat} {mt : Mt} {pc : Nat} {ls : List (Option Value)} {st : List Value} {M : Mm} {post : Option Value → Mm → Prop} {i : Nat} {x : Int32} (hd : decode mt.2.1 pc = .ok (.iload i, 2)) (hv : ls[i]? = some (some (.int x))) (k : Go G d mt (pc + 2) ls (.int x :: st) M post) : Go G d mt pc ls (st) M post := by
  intro p e R s m a below meth c cells slots Q H locs lsA C hP hS hl hF
  have hx := C.1
  have hb := C.2.1
  exact lv_iload hx hb hd (hl.2.2.2 _ _ hv) (k p e R s m a below meth c cells slots Q H locs lsA C hP hS hl hF)
theorem Go.lload_n {G : Gt} {d : Nat} {mt : Mt} {pc : Nat} {ls : List (Option Value)} {st : List Value} {M : Mm} {post : Option Value → Mm → Prop} {n : Fin 4} {x : Int64} (hd : decode mt.2.1 pc = .ok (.lload_n n, 1)) (hv : ls[(n : Nat)]? = some (some (.long x))) (k : Go G d mt (pc + 1) ls (.long x :: st) M post) : Go G d mt pc ls (st) M post := by
  intro p e R s m a below meth c cells slots Q H locs lsA C hP hS hl hF
  have hx := C.1
  have hb := C.2.1
  exact lv_lload_n hx hb hd rfl (hl.2.2.2 _ _ hv) (k p e R s m a below meth c cells slots Q H locs lsA C hP hS hl hF)
theorem Go.lload {G : Gt} {d : Nat} {mt : Mt} {pc : Nat} {ls : List (Option Value)} {st : List Value} {M : Mm} {post : Option Value → Mm → Prop} {i : Nat} {x : Int64} (hd : decode mt.2.1 pc = .ok (.lload i, 2)) (hv : ls[i]? = some (some (.long x))) (k : Go G d mt (pc + 2) ls (.long x :: st) M post) : Go G d mt pc ls (st) M post := by
  intro p e R s m a below meth c cells slots Q H locs lsA C hP hS hl hF
  have hx := C.1
  have hb := C.2.1
  exact lv_lload hx hb hd (hl.2.2.2 _ _ hv) (k p e R s m a below meth c cells slots Q H locs lsA C hP hS hl hF)
theorem Go.aload_n {G : Gt} {d : Nat} {mt : Mt} {pc : Nat} {ls : List (Option Value)} {st : List Value} {M : Mm} {post : Option Value → Mm → Prop} {n : Fin 4} {x : Nat} (hd : decode mt.2.1 pc = .ok (.aload_n n, 1)) (hv : ls[(n : Nat)]? = some (some (.ref x))) (k : Go G d mt (pc + 1) ls (.ref x :: st) M post) : Go G d mt pc ls (st) M post := by
  intro p e R s m a below meth c cells slots Q H locs lsA C hP hS hl hF
  have hx := C.1
  have hb := C.2.1
  exact lv_aload_n hx hb hd rfl (hl.2.2.2 _ _ hv) (k p e R s m a below meth c cells slots Q H locs lsA C hP hS hl hF)
theorem Go.aload {G : Gt} {d : Nat} {mt : Mt} {pc : Nat} {ls : List (Option Value)} {st : List Value} {M : Mm} {post : Option Value → Mm → Prop} {i : Nat} {x : Nat} (hd : decode mt.2.1 pc = .ok (.aload i, 2)) (hv : ls[i]? = some (some (.ref x))) (k : Go G d mt (pc + 2) ls (.ref x :: st) M post) : Go G d mt pc ls (st) M post := by
  intro p e R s m a below meth c cells slots Q H locs lsA C hP hS hl hF
  have hx := C.1
  have hb := C.2.1
  exact lv_aload hx hb hd (hl.2.2.2 _ _ hv) (k p e R s m a below meth c cells slots Q H locs lsA C hP hS hl hF)
theorem Go.istore_n {G : Gt} {d : Nat} {mt : Mt} {pc : Nat} {ls : List (Option Value)} {st : List Value} {M : Mm} {post : Option Value → Mm → Prop} {n : Fin 4} {x : Int32} {ls' : List (Option Value)} (hd : decode mt.2.1 pc = .ok (.istore_n n, 1)) (hi : (n : Nat) < ls.length) (ho : ok1 ls (n : Nat) = true) (hl2 : ls.set (n : Nat) (some (.int x)) = ls') (k : Go G d mt (pc + 1) ls' st M post) : Go G d mt pc ls (.int x :: st) M post := by
  intro p e R s m a below meth c cells slots Q H locs lsA C hP hS hl hF
  have hx := C.1
  have hb := C.2.1
  exact lv_istore_n hx hb hd rfl hl.has (by have := hl.1; omega) rfl (fun ls2 h2 => k p e R s m a below meth c cells slots Q H locs ls2 C hP hS (by rw [← hl2]; exact Lh.set1 (v := .int x) hl.1 ho h2) hF)
theorem Go.istore {G : Gt} {d : Nat} {mt : Mt} {pc : Nat} {ls : List (Option Value)} {st : List Value} {M : Mm} {post : Option Value → Mm → Prop} {i : Nat} {x : Int32} {ls' : List (Option Value)} (hd : decode mt.2.1 pc = .ok (.istore i, 2)) (hi : i < ls.length) (ho : ok1 ls i = true) (hl2 : ls.set i (some (.int x)) = ls') (k : Go G d mt (pc + 2) ls' st M post) : Go G d mt pc ls (.int x :: st) M post := by
  intro p e R s m a below meth c cells slots Q H locs lsA C hP hS hl hF
  have hx := C.1
  have hb := C.2.1
  exact lv_istore hx hb hd hl.has (by have := hl.1; omega) rfl (fun ls2 h2 => k p e R s m a below meth c cells slots Q H locs ls2 C hP hS (by rw [← hl2]; exact Lh.set1 (v := .int x) hl.1 ho h2) hF)
theorem Go.astore_n {G : Gt} {d : Nat} {mt : Mt} {pc : Nat} {ls : List (Option Value)} {st : List Value} {M : Mm} {post : Option Value → Mm → Prop} {n : Fin 4} {x : Nat} {ls' : List (Option Value)} (hd : decode mt.2.1 pc = .ok (.astore_n n, 1)) (hi : (n : Nat) < ls.length) (ho : ok1 ls (n : Nat) = true) (hl2 : ls.set (n : Nat) (some (.ref x)) = ls') (k : Go G d mt (pc + 1) ls' st M post) : Go G d mt pc ls (.ref x :: st) M post := by
  intro p e R s m a below meth c cells slots Q H locs lsA C hP hS hl hF
  have hx := C.1
  have hb := C.2.1
  exact lv_astore_n hx hb hd rfl hl.has (by have := hl.1; omega) rfl (fun ls2 h2 => k p e R s m a below meth c cells slots Q H locs ls2 C hP hS (by rw [← hl2]; exact Lh.set1 (v := .ref x) hl.1 ho h2) hF)
theorem Go.astore {G : Gt} {d : Nat} {mt : Mt} {pc : Nat} {ls : List (Option Value)} {st : List Value} {M : Mm} {post : Option Value → Mm → Prop} {i : Nat} {x : Nat} {ls' : List (Option Value)} (hd : decode mt.2.1 pc = .ok (.astore i, 2)) (hi : i < ls.length) (ho : ok1 ls i = true) (hl2 : ls.set i (some (.ref x)) = ls') (k : Go G d mt (pc + 2) ls' st M post) : Go G d mt pc ls (.ref x :: st) M post := by
  intro p e R s m a below meth c cells slots Q H locs lsA C hP hS hl hF
  have hx := C.1
  have hb := C.2.1
  exact lv_astore hx hb hd hl.has (by have := hl.1; omega) rfl (fun ls2 h2 => k p e R s m a below meth c cells slots Q H locs ls2 C hP hS (by rw [← hl2]; exact Lh.set1 (v := .ref x) hl.1 ho h2) hF)
theorem Go.lstore_n {G : Gt} {d : Nat} {mt : Mt} {pc : Nat} {ls : List (Option Value)} {st : List Value} {M : Mm} {post : Option Value → Mm → Prop} {n : Fin 4} {x : Int64} {ls' : List (Option Value)} (hd : decode mt.2.1 pc = .ok (.lstore_n n, 1)) (hi : (n : Nat) + 1 < ls.length) (ho : ok1 ls (n : Nat) = true) (hl2 : (ls.set (n : Nat) (some (.long x))).set ((n : Nat) + 1) none = ls') (k : Go G d mt (pc + 1) ls' st M post) : Go G d mt pc ls (.long x :: st) M post := by
  intro p e R s m a below meth c cells slots Q H locs lsA C hP hS hl hF
  have hx := C.1
  have hb := C.2.1
  exact lv_lstore_n hx hb hd rfl hl.has (by have := hl.1; omega) rfl (fun ls2 h2 => k p e R s m a below meth c cells slots Q H locs ls2 C hP hS (by rw [← hl2]; exact Lh.set2 (v := .long x) hl.1 ho h2) hF)
theorem Go.lstore {G : Gt} {d : Nat} {mt : Mt} {pc : Nat} {ls : List (Option Value)} {st : List Value} {M : Mm} {post : Option Value → Mm → Prop} {i : Nat} {x : Int64} {ls' : List (Option Value)} (hd : decode mt.2.1 pc = .ok (.lstore i, 2)) (hi : i + 1 < ls.length) (ho : ok1 ls i = true) (hl2 : (ls.set i (some (.long x))).set (i + 1) none = ls') (k : Go G d mt (pc + 2) ls' st M post) : Go G d mt pc ls (.long x :: st) M post := by
  intro p e R s m a below meth c cells slots Q H locs lsA C hP hS hl hF
  have hx := C.1
  have hb := C.2.1
  exact lv_lstore hx hb hd hl.has (by have := hl.1; omega) rfl (fun ls2 h2 => k p e R s m a below meth c cells slots Q H locs ls2 C hP hS (by rw [← hl2]; exact Lh.set2 (v := .long x) hl.1 ho h2) hF)
theorem Go.iinc {G : Gt} {d : Nat} {mt : Mt} {pc : Nat} {ls : List (Option Value)} {st : List Value} {M : Mm} {post : Option Value → Mm → Prop} {i : Nat} {n : Int} {x v : Int32} {ls' : List (Option Value)} (hd : decode mt.2.1 pc = .ok (.iinc i n, 3)) (hv : ls[i]? = some (some (.int x))) (hn : x + Int32.ofInt n = v) (ho : ok1 ls i = true) (hl2 : ls.set i (some (.int v)) = ls') (k : Go G d mt (pc + 3) ls' st M post) : Go G d mt pc ls st M post := by
  intro p e R s m a below meth c cells slots Q H locs lsA C hP hS hl hF
  have hx := C.1
  have hb := C.2.1
  have hi : i < ls.length := (List.getElem?_eq_some_iff.mp hv).1
  have hm : (i, Value.int x) ∈ posL (ga G) ls := posL_mem.mpr ⟨.int x, hv, rfl⟩
  obtain ⟨k0, hk0⟩ := List.getElem?_of_mem hm
  exact lv_iinc (k := k0) hx hb hd hl.has hk0 hn (by have := hl.1; omega) rfl (fun ls2 h2 => k p e R s m a below meth c cells slots Q H locs ls2 C hP hS (by rw [← hl2]; exact Lh.set1 (v := .int v) hl.1 ho h2) hF)
theorem Go.iadd {G : Gt} {d : Nat} {mt : Mt} {pc : Nat} {ls : List (Option Value)} {st : List Value} {M : Mm} {post : Option Value → Mm → Prop} {x y : Int32} (hd : decode mt.2.1 pc = .ok (.iadd, 1)) (k : Go G d mt (pc + 1) ls (.int (x + y) :: st) M post) : Go G d mt pc ls (.int y :: .int x :: st) M post := by
  intro p e R s m a below meth c cells slots Q H locs lsA C hP hS hl hF
  have hx := C.1
  have hb := C.2.1
  exact lv_iadd hx hb hd (k p e R s m a below meth c cells slots Q H locs lsA C hP hS hl hF)
theorem Go.isub {G : Gt} {d : Nat} {mt : Mt} {pc : Nat} {ls : List (Option Value)} {st : List Value} {M : Mm} {post : Option Value → Mm → Prop} {x y : Int32} (hd : decode mt.2.1 pc = .ok (.isub, 1)) (k : Go G d mt (pc + 1) ls (.int (x - y) :: st) M post) : Go G d mt pc ls (.int y :: .int x :: st) M post := by
  intro p e R s m a below meth c cells slots Q H locs lsA C hP hS hl hF
  have hx := C.1
  have hb := C.2.1
  exact lv_isub hx hb hd (k p e R s m a below meth c cells slots Q H locs lsA C hP hS hl hF)
theorem Go.imul {G : Gt} {d : Nat} {mt : Mt} {pc : Nat} {ls : List (Option Value)} {st : List Value} {M : Mm} {post : Option Value → Mm → Prop} {x y : Int32} (hd : decode mt.2.1 pc = .ok (.imul, 1)) (k : Go G d mt (pc + 1) ls (.int (x * y) :: st) M post) : Go G d mt pc ls (.int y :: .int x :: st) M post := by
  intro p e R s m a below meth c cells slots Q H locs lsA C hP hS hl hF
  have hx := C.1
  have hb := C.2.1
  exact lv_imul hx hb hd (k p e R s m a below meth c cells slots Q H locs lsA C hP hS hl hF)
theorem Go.iand {G : Gt} {d : Nat} {mt : Mt} {pc : Nat} {ls : List (Option Value)} {st : List Value} {M : Mm} {post : Option Value → Mm → Prop} {x y : Int32} (hd : decode mt.2.1 pc = .ok (.iand, 1)) (k : Go G d mt (pc + 1) ls (.int (x &&& y) :: st) M post) : Go G d mt pc ls (.int y :: .int x :: st) M post := by
  intro p e R s m a below meth c cells slots Q H locs lsA C hP hS hl hF
  have hx := C.1
  have hb := C.2.1
  exact lv_iand hx hb hd (k p e R s m a below meth c cells slots Q H locs lsA C hP hS hl hF)
theorem Go.ior {G : Gt} {d : Nat} {mt : Mt} {pc : Nat} {ls : List (Option Value)} {st : List Value} {M : Mm} {post : Option Value → Mm → Prop} {x y : Int32} (hd : decode mt.2.1 pc = .ok (.ior, 1)) (k : Go G d mt (pc + 1) ls (.int (x ||| y) :: st) M post) : Go G d mt pc ls (.int y :: .int x :: st) M post := by
  intro p e R s m a below meth c cells slots Q H locs lsA C hP hS hl hF
  have hx := C.1
  have hb := C.2.1
  exact lv_ior hx hb hd (k p e R s m a below meth c cells slots Q H locs lsA C hP hS hl hF)
theorem Go.ixor {G : Gt} {d : Nat} {mt : Mt} {pc : Nat} {ls : List (Option Value)} {st : List Value} {M : Mm} {post : Option Value → Mm → Prop} {x y : Int32} (hd : decode mt.2.1 pc = .ok (.ixor, 1)) (k : Go G d mt (pc + 1) ls (.int (x ^^^ y) :: st) M post) : Go G d mt pc ls (.int y :: .int x :: st) M post := by
  intro p e R s m a below meth c cells slots Q H locs lsA C hP hS hl hF
  have hx := C.1
  have hb := C.2.1
  exact lv_ixor hx hb hd (k p e R s m a below meth c cells slots Q H locs lsA C hP hS hl hF)
theorem Go.ishl {G : Gt} {d : Nat} {mt : Mt} {pc : Nat} {ls : List (Option Value)} {st : List Value} {M : Mm} {post : Option Value → Mm → Prop} {x y : Int32} (hd : decode mt.2.1 pc = .ok (.ishl, 1)) (k : Go G d mt (pc + 1) ls (.int (x <<< (y &&& 31)) :: st) M post) : Go G d mt pc ls (.int y :: .int x :: st) M post := by
  intro p e R s m a below meth c cells slots Q H locs lsA C hP hS hl hF
  have hx := C.1
  have hb := C.2.1
  exact lv_ishl hx hb hd (k p e R s m a below meth c cells slots Q H locs lsA C hP hS hl hF)
theorem Go.ishr {G : Gt} {d : Nat} {mt : Mt} {pc : Nat} {ls : List (Option Value)} {st : List Value} {M : Mm} {post : Option Value → Mm → Prop} {x y : Int32} (hd : decode mt.2.1 pc = .ok (.ishr, 1)) (k : Go G d mt (pc + 1) ls (.int (x >>> (y &&& 31)) :: st) M post) : Go G d mt pc ls (.int y :: .int x :: st) M post := by
  intro p e R s m a below meth c cells slots Q H locs lsA C hP hS hl hF
  have hx := C.1
  have hb := C.2.1
  exact lv_ishr hx hb hd (k p e R s m a below meth c cells slots Q H locs lsA C hP hS hl hF)
theorem Go.iushr {G : Gt} {d : Nat} {mt : Mt} {pc : Nat} {ls : List (Option Value)} {st : List Value} {M : Mm} {post : Option Value → Mm → Prop} {x y : Int32} (hd : decode mt.2.1 pc = .ok (.iushr, 1)) (k : Go G d mt (pc + 1) ls (.int ((x.toUInt32 >>> (y.toUInt32 &&& Int32.toUInt32 31)).toInt32) :: st) M post) : Go G d mt pc ls (.int y :: .int x :: st) M post := by
  intro p e R s m a below meth c cells slots Q H locs lsA C hP hS hl hF
  have hx := C.1
  have hb := C.2.1
  exact lv_iushr hx hb hd rfl (k p e R s m a below meth c cells slots Q H locs lsA C hP hS hl hF)
theorem Go.idiv {G : Gt} {d : Nat} {mt : Mt} {pc : Nat} {ls : List (Option Value)} {st : List Value} {M : Mm} {post : Option Value → Mm → Prop} {x y : Int32} (hd : decode mt.2.1 pc = .ok (.idiv, 1)) (hne : ¬ y = 0) (k : Go G d mt (pc + 1) ls (.int (x / y) :: st) M post) : Go G d mt pc ls (.int y :: .int x :: st) M post := by
  intro p e R s m a below meth c cells slots Q H locs lsA C hP hS hl hF
  have hx := C.1
  have hb := C.2.1
  exact lv_idiv hx hb hd hne (k p e R s m a below meth c cells slots Q H locs lsA C hP hS hl hF)
theorem Go.irem {G : Gt} {d : Nat} {mt : Mt} {pc : Nat} {ls : List (Option Value)} {st : List Value} {M : Mm} {post : Option Value → Mm → Prop} {x y : Int32} (hd : decode mt.2.1 pc = .ok (.irem, 1)) (hne : ¬ y = 0) (k : Go G d mt (pc + 1) ls (.int (x - x / y * y) :: st) M post) : Go G d mt pc ls (.int y :: .int x :: st) M post := by
  intro p e R s m a below meth c cells slots Q H locs lsA C hP hS hl hF
  have hx := C.1
  have hb := C.2.1
  exact lv_irem hx hb hd hne (k p e R s m a below meth c cells slots Q H locs lsA C hP hS hl hF)
theorem Go.ladd {G : Gt} {d : Nat} {mt : Mt} {pc : Nat} {ls : List (Option Value)} {st : List Value} {M : Mm} {post : Option Value → Mm → Prop} {x y : Int64} (hd : decode mt.2.1 pc = .ok (.ladd, 1)) (k : Go G d mt (pc + 1) ls (.long (x + y) :: st) M post) : Go G d mt pc ls (.long y :: .long x :: st) M post := by
  intro p e R s m a below meth c cells slots Q H locs lsA C hP hS hl hF
  have hx := C.1
  have hb := C.2.1
  exact lv_ladd hx hb hd (k p e R s m a below meth c cells slots Q H locs lsA C hP hS hl hF)
theorem Go.lsub {G : Gt} {d : Nat} {mt : Mt} {pc : Nat} {ls : List (Option Value)} {st : List Value} {M : Mm} {post : Option Value → Mm → Prop} {x y : Int64} (hd : decode mt.2.1 pc = .ok (.lsub, 1)) (k : Go G d mt (pc + 1) ls (.long (x - y) :: st) M post) : Go G d mt pc ls (.long y :: .long x :: st) M post := by
  intro p e R s m a below meth c cells slots Q H locs lsA C hP hS hl hF
  have hx := C.1
  have hb := C.2.1
  exact lv_lsub hx hb hd (k p e R s m a below meth c cells slots Q H locs lsA C hP hS hl hF)
theorem Go.lmul {G : Gt} {d : Nat} {mt : Mt} {pc : Nat} {ls : List (Option Value)} {st : List Value} {M : Mm} {post : Option Value → Mm → Prop} {x y : Int64} (hd : decode mt.2.1 pc = .ok (.lmul, 1)) (k : Go G d mt (pc + 1) ls (.long (x * y) :: st) M post) : Go G d mt pc ls (.long y :: .long x :: st) M post := by
  intro p e R s m a below meth c cells slots Q H locs lsA C hP hS hl hF
  have hx := C.1
  have hb := C.2.1
  exact lv_lmul hx hb hd (k p e R s m a below meth c cells slots Q H locs lsA C hP hS hl hF)
theorem Go.land {G : Gt} {d : Nat} {mt : Mt} {pc : Nat} {ls : List (Option Value)} {st : List Value} {M : Mm} {post : Option Value → Mm → Prop} {x y : Int64} (hd : decode mt.2.1 pc = .ok (.land, 1)) (k : Go G d mt (pc + 1) ls (.long (x &&& y) :: st) M post) : Go G d mt pc ls (.long y :: .long x :: st) M post := by
  intro p e R s m a below meth c cells slots Q H locs lsA C hP hS hl hF
  have hx := C.1
  have hb := C.2.1
  exact lv_land hx hb hd (k p e R s m a below meth c cells slots Q H locs lsA C hP hS hl hF)
theorem Go.lor {G : Gt} {d : Nat} {mt : Mt} {pc : Nat} {ls : List (Option Value)} {st : List Value} {M : Mm} {post : Option Value → Mm → Prop} {x y : Int64} (hd : decode mt.2.1 pc = .ok (.lor, 1)) (k : Go G d mt (pc + 1) ls (.long (x ||| y) :: st) M post) : Go G d mt pc ls (.long y :: .long x :: st) M post := by
  intro p e R s m a below meth c cells slots Q H locs lsA C hP hS hl hF
  have hx := C.1
  have hb := C.2.1
  exact lv_lor hx hb hd (k p e R s m a below meth c cells slots Q H locs lsA C hP hS hl hF)
theorem Go.lshl {G : Gt} {d : Nat} {mt : Mt} {pc : Nat} {ls : List (Option Value)} {st : List Value} {M : Mm} {post : Option Value → Mm → Prop} {x : Int64} {y : Int32} (hd : decode mt.2.1 pc = .ok (.lshl, 1)) (k : Go G d mt (pc + 1) ls (.long (x <<< (y.toInt64 &&& 63)) :: st) M post) : Go G d mt pc ls (.int y :: .long x :: st) M post := by
  intro p e R s m a below meth c cells slots Q H locs lsA C hP hS hl hF
  have hx := C.1
  have hb := C.2.1
  exact lv_lshl hx hb hd rfl (k p e R s m a below meth c cells slots Q H locs lsA C hP hS hl hF)
theorem Go.lshr {G : Gt} {d : Nat} {mt : Mt} {pc : Nat} {ls : List (Option Value)} {st : List Value} {M : Mm} {post : Option Value → Mm → Prop} {x : Int64} {y : Int32} (hd : decode mt.2.1 pc = .ok (.lshr, 1)) (k : Go G d mt (pc + 1) ls (.long (x >>> (y.toInt64 &&& 63)) :: st) M post) : Go G d mt pc ls (.int y :: .long x :: st) M post := by
  intro p e R s m a below meth c cells slots Q H locs lsA C hP hS hl hF
  have hx := C.1
  have hb := C.2.1
  exact lv_lshr hx hb hd rfl (k p e R s m a below meth c cells slots Q H locs lsA C hP hS hl hF)
theorem Go.lcmp {G : Gt} {d : Nat} {mt : Mt} {pc : Nat} {ls : List (Option Value)} {st : List Value} {M : Mm} {post : Option Value → Mm → Prop} {x y : Int64} (hd : decode mt.2.1 pc = .ok (.lcmp, 1)) (k : Go G d mt (pc + 1) ls (.int (lg_cmp x y) :: st) M post) : Go G d mt pc ls (.long y :: .long x :: st) M post := by
  intro p e R s m a below meth c cells slots Q H locs lsA C hP hS hl hF
  have hx := C.1
  have hb := C.2.1
  exact W.lcmp hx hb hd (k p e R s m a below meth c cells slots Q H locs lsA C hP hS hl hF)
theorem Go.i2l {G : Gt} {d : Nat} {mt : Mt} {pc : Nat} {ls : List (Option Value)} {st : List Value} {M : Mm} {post : Option Value → Mm → Prop} {x : Int32} (hd : decode mt.2.1 pc = .ok (.i2l, 1)) (k : Go G d mt (pc + 1) ls (.long x.toInt64 :: st) M post) : Go G d mt pc ls (.int x :: st) M post := by
  intro p e R s m a below meth c cells slots Q H locs lsA C hP hS hl hF
  have hx := C.1
  have hb := C.2.1
  exact lv_i2l hx hb hd rfl (k p e R s m a below meth c cells slots Q H locs lsA C hP hS hl hF)
theorem Go.l2i {G : Gt} {d : Nat} {mt : Mt} {pc : Nat} {ls : List (Option Value)} {st : List Value} {M : Mm} {post : Option Value → Mm → Prop} {x : Int64} (hd : decode mt.2.1 pc = .ok (.l2i, 1)) (k : Go G d mt (pc + 1) ls (.int x.toInt32 :: st) M post) : Go G d mt pc ls (.long x :: st) M post := by
  intro p e R s m a below meth c cells slots Q H locs lsA C hP hS hl hF
  have hx := C.1
  have hb := C.2.1
  exact lv_l2i hx hb hd rfl (k p e R s m a below meth c cells slots Q H locs lsA C hP hS hl hF)
theorem Go.i2b {G : Gt} {d : Nat} {mt : Mt} {pc : Nat} {ls : List (Option Value)} {st : List Value} {M : Mm} {post : Option Value → Mm → Prop} {x : Int32} (hd : decode mt.2.1 pc = .ok (.i2b, 1)) (k : Go G d mt (pc + 1) ls (.int x.toInt8.toInt32 :: st) M post) : Go G d mt pc ls (.int x :: st) M post := by
  intro p e R s m a below meth c cells slots Q H locs lsA C hP hS hl hF
  have hx := C.1
  have hb := C.2.1
  exact lv_i2b hx hb hd rfl (k p e R s m a below meth c cells slots Q H locs lsA C hP hS hl hF)
theorem Go.i2s {G : Gt} {d : Nat} {mt : Mt} {pc : Nat} {ls : List (Option Value)} {st : List Value} {M : Mm} {post : Option Value → Mm → Prop} {x : Int32} (hd : decode mt.2.1 pc = .ok (.i2s, 1)) (k : Go G d mt (pc + 1) ls (.int x.toInt16.toInt32 :: st) M post) : Go G d mt pc ls (.int x :: st) M post := by
  intro p e R s m a below meth c cells slots Q H locs lsA C hP hS hl hF
  have hx := C.1
  have hb := C.2.1
  exact lv_i2s hx hb hd rfl (k p e R s m a below meth c cells slots Q H locs lsA C hP hS hl hF)
theorem Go.i2c {G : Gt} {d : Nat} {mt : Mt} {pc : Nat} {ls : List (Option Value)} {st : List Value} {M : Mm} {post : Option Value → Mm → Prop} {x : Int32} (hd : decode mt.2.1 pc = .ok (.i2c, 1)) (k : Go G d mt (pc + 1) ls (.int (x.toUInt32 % 65536).toInt32 :: st) M post) : Go G d mt pc ls (.int x :: st) M post := by
  intro p e R s m a below meth c cells slots Q H locs lsA C hP hS hl hF
  have hx := C.1
  have hb := C.2.1
  exact lv_i2c hx hb hd rfl (k p e R s m a below meth c cells slots Q H locs lsA C hP hS hl hF)
theorem Go.dup {G : Gt} {d : Nat} {mt : Mt} {pc : Nat} {ls : List (Option Value)} {st : List Value} {M : Mm} {post : Option Value → Mm → Prop} {v : Value} (hd : decode mt.2.1 pc = .ok (.dup, 1)) (hc : v.category = 1) (k : Go G d mt (pc + 1) ls (v :: v :: st) M post) : Go G d mt pc ls (v :: st) M post := by
  intro p e R s m a below meth c cells slots Q H locs lsA C hP hS hl hF
  have hx := C.1
  have hb := C.2.1
  exact lv_dup hx hb hd (by rw [tv_cat]; exact hc) (k p e R s m a below meth c cells slots Q H locs lsA C hP hS hl hF)
theorem Go.pop {G : Gt} {d : Nat} {mt : Mt} {pc : Nat} {ls : List (Option Value)} {st : List Value} {M : Mm} {post : Option Value → Mm → Prop} {v : Value} (hd : decode mt.2.1 pc = .ok (.pop, 1)) (hc : v.category = 1) (k : Go G d mt (pc + 1) ls (st) M post) : Go G d mt pc ls (v :: st) M post := by
  intro p e R s m a below meth c cells slots Q H locs lsA C hP hS hl hF
  have hx := C.1
  have hb := C.2.1
  exact lv_pop hx hb hd (by rw [tv_cat]; exact hc) (k p e R s m a below meth c cells slots Q H locs lsA C hP hS hl hF)
theorem Go.dup2 {G : Gt} {d : Nat} {mt : Mt} {pc : Nat} {ls : List (Option Value)} {st : List Value} {M : Mm} {post : Option Value → Mm → Prop} {v w : Value} (hd : decode mt.2.1 pc = .ok (.dup2, 1)) (hc : v.category = 1) (hc2 : w.category = 1) (k : Go G d mt (pc + 1) ls (v :: w :: v :: w :: st) M post) : Go G d mt pc ls (v :: w :: st) M post := by
  intro p e R s m a below meth c cells slots Q H locs lsA C hP hS hl hF
  have hx := C.1
  have hb := C.2.1
  exact lv_dup2_11 hx hb hd (by rw [tv_cat]; exact hc) (by rw [tv_cat]; exact hc2) (k p e R s m a below meth c cells slots Q H locs lsA C hP hS hl hF)
theorem Go.if_eq {G : Gt} {d : Nat} {mt : Mt} {pc : Nat} {ls : List (Option Value)} {st : List Value} {M : Mm} {post : Option Value → Mm → Prop} {x : Int32} {off : Int} (tgt : Nat) (hd : decode mt.2.1 pc = .ok (.ifCond .eq off, 3)) (ht : (pc : Int) + off = (tgt : Int)) (kt : x = 0 → Go G d mt tgt ls st M post) (kf : ¬ (x = 0) → Go G d mt (pc + 3) ls st M post) : Go G d mt pc ls (.int x :: st) M post := by
  intro p e R s m a below meth c cells slots Q H locs lsA C hP hS hl hF
  have hx := C.1
  have hb := C.2.1
  exact lv_if_eq hx hb hd ht (fun h => kt h p e R s m a below meth c cells slots Q H locs lsA C hP hS hl hF) (fun h => kf h p e R s m a below meth c cells slots Q H locs lsA C hP hS hl hF)
theorem Go.icmp_eq {G : Gt} {d : Nat} {mt : Mt} {pc : Nat} {ls : List (Option Value)} {st : List Value} {M : Mm} {post : Option Value → Mm → Prop} {x y : Int32} {off : Int} (tgt : Nat) (hd : decode mt.2.1 pc = .ok (.if_icmp .eq off, 3)) (ht : (pc : Int) + off = (tgt : Int)) (kt : x = y → Go G d mt tgt ls st M post) (kf : ¬ (x = y) → Go G d mt (pc + 3) ls st M post) : Go G d mt pc ls (.int y :: .int x :: st) M post := by
  intro p e R s m a below meth c cells slots Q H locs lsA C hP hS hl hF
  have hx := C.1
  have hb := C.2.1
  exact lv_icmp_eq hx hb hd ht (fun h => kt h p e R s m a below meth c cells slots Q H locs lsA C hP hS hl hF) (fun h => kf h p e R s m a below meth c cells slots Q H locs lsA C hP hS hl hF)
theorem Go.if_ne {G : Gt} {d : Nat} {mt : Mt} {pc : Nat} {ls : List (Option Value)} {st : List Value} {M : Mm} {post : Option Value → Mm → Prop} {x : Int32} {off : Int} (tgt : Nat) (hd : decode mt.2.1 pc = .ok (.ifCond .ne off, 3)) (ht : (pc : Int) + off = (tgt : Int)) (kt : ¬ x = 0 → Go G d mt tgt ls st M post) (kf : x = 0 → Go G d mt (pc + 3) ls st M post) : Go G d mt pc ls (.int x :: st) M post := by
  intro p e R s m a below meth c cells slots Q H locs lsA C hP hS hl hF
  have hx := C.1
  have hb := C.2.1
  exact lv_if_ne hx hb hd ht (fun h => kt h p e R s m a below meth c cells slots Q H locs lsA C hP hS hl hF) (fun h => kf h p e R s m a below meth c cells slots Q H locs lsA C hP hS hl hF)
theorem Go.icmp_ne {G : Gt} {d : Nat} {mt : Mt} {pc : Nat} {ls : List (Option Value)} {st : List Value} {M : Mm} {post : Option Value → Mm → Prop} {x y : Int32} {off : Int} (tgt : Nat) (hd : decode mt.2.1 pc = .ok (.if_icmp .ne off, 3)) (ht : (pc : Int) + off = (tgt : Int)) (kt : ¬ x = y → Go G d mt tgt ls st M post) (kf : x = y → Go G d mt (pc + 3) ls st M post) : Go G d mt pc ls (.int y :: .int x :: st) M post := by
  intro p e R s m a below meth c cells slots Q H locs lsA C hP hS hl hF
  have hx := C.1
  have hb := C.2.1
  exact lv_icmp_ne hx hb hd ht (fun h => kt h p e R s m a below meth c cells slots Q H locs lsA C hP hS hl hF) (fun h => kf h p e R s m a below meth c cells slots Q H locs lsA C hP hS hl hF)
theorem Go.if_lt {G : Gt} {d : Nat} {mt : Mt} {pc : Nat} {ls : List (Option Value)} {st : List Value} {M : Mm} {post : Option Value → Mm → Prop} {x : Int32} {off : Int} (tgt : Nat) (hd : decode mt.2.1 pc = .ok (.ifCond .lt off, 3)) (ht : (pc : Int) + off = (tgt : Int)) (kt : x < 0 → Go G d mt tgt ls st M post) (kf : ¬ (x < 0) → Go G d mt (pc + 3) ls st M post) : Go G d mt pc ls (.int x :: st) M post := by
  intro p e R s m a below meth c cells slots Q H locs lsA C hP hS hl hF
  have hx := C.1
  have hb := C.2.1
  exact lv_if_lt hx hb hd ht (fun h => kt h p e R s m a below meth c cells slots Q H locs lsA C hP hS hl hF) (fun h => kf h p e R s m a below meth c cells slots Q H locs lsA C hP hS hl hF)
theorem Go.icmp_lt {G : Gt} {d : Nat} {mt : Mt} {pc : Nat} {ls : List (Option Value)} {st : List Value} {M : Mm} {post : Option Value → Mm → Prop} {x y : Int32} {off : Int} (tgt : Nat) (hd : decode mt.2.1 pc = .ok (.if_icmp .lt off, 3)) (ht : (pc : Int) + off = (tgt : Int)) (kt : x < y → Go G d mt tgt ls st M post) (kf : ¬ (x < y) → Go G d mt (pc + 3) ls st M post) : Go G d mt pc ls (.int y :: .int x :: st) M post := by
  intro p e R s m a below meth c cells slots Q H locs lsA C hP hS hl hF
  have hx := C.1
  have hb := C.2.1
  exact lv_icmp_lt hx hb hd ht (fun h => kt h p e R s m a below meth c cells slots Q H locs lsA C hP hS hl hF) (fun h => kf h p e R s m a below meth c cells slots Q H locs lsA C hP hS hl hF)
theorem Go.if_ge {G : Gt} {d : Nat} {mt : Mt} {pc : Nat} {ls : List (Option Value)} {st : List Value} {M : Mm} {post : Option Value → Mm → Prop} {x : Int32} {off : Int} (tgt : Nat) (hd : decode mt.2.1 pc = .ok (.ifCond .ge off, 3)) (ht : (pc : Int) + off = (tgt : Int)) (kt : 0 ≤ x → Go G d mt tgt ls st M post) (kf : ¬ (0 ≤ x) → Go G d mt (pc + 3) ls st M post) : Go G d mt pc ls (.int x :: st) M post := by
  intro p e R s m a below meth c cells slots Q H locs lsA C hP hS hl hF
  have hx := C.1
  have hb := C.2.1
  exact lv_if_ge hx hb hd ht (fun h => kt h p e R s m a below meth c cells slots Q H locs lsA C hP hS hl hF) (fun h => kf h p e R s m a below meth c cells slots Q H locs lsA C hP hS hl hF)
theorem Go.icmp_ge {G : Gt} {d : Nat} {mt : Mt} {pc : Nat} {ls : List (Option Value)} {st : List Value} {M : Mm} {post : Option Value → Mm → Prop} {x y : Int32} {off : Int} (tgt : Nat) (hd : decode mt.2.1 pc = .ok (.if_icmp .ge off, 3)) (ht : (pc : Int) + off = (tgt : Int)) (kt : y ≤ x → Go G d mt tgt ls st M post) (kf : ¬ (y ≤ x) → Go G d mt (pc + 3) ls st M post) : Go G d mt pc ls (.int y :: .int x :: st) M post := by
  intro p e R s m a below meth c cells slots Q H locs lsA C hP hS hl hF
  have hx := C.1
  have hb := C.2.1
  exact lv_icmp_ge hx hb hd ht (fun h => kt h p e R s m a below meth c cells slots Q H locs lsA C hP hS hl hF) (fun h => kf h p e R s m a below meth c cells slots Q H locs lsA C hP hS hl hF)
theorem Go.if_gt {G : Gt} {d : Nat} {mt : Mt} {pc : Nat} {ls : List (Option Value)} {st : List Value} {M : Mm} {post : Option Value → Mm → Prop} {x : Int32} {off : Int} (tgt : Nat) (hd : decode mt.2.1 pc = .ok (.ifCond .gt off, 3)) (ht : (pc : Int) + off = (tgt : Int)) (kt : 0 < x → Go G d mt tgt ls st M post) (kf : ¬ (0 < x) → Go G d mt (pc + 3) ls st M post) : Go G d mt pc ls (.int x :: st) M post := by
  intro p e R s m a below meth c cells slots Q H locs lsA C hP hS hl hF
  have hx := C.1
  have hb := C.2.1
  exact lv_if_gt hx hb hd ht (fun h => kt h p e R s m a below meth c cells slots Q H locs lsA C hP hS hl hF) (fun h => kf h p e R s m a below meth c cells slots Q H locs lsA C hP hS hl hF)
theorem Go.icmp_gt {G : Gt} {d : Nat} {mt : Mt} {pc : Nat} {ls : List (Option Value)} {st : List Value} {M : Mm} {post : Option Value → Mm → Prop} {x y : Int32} {off : Int} (tgt : Nat) (hd : decode mt.2.1 pc = .ok (.if_icmp .gt off, 3)) (ht : (pc : Int) + off = (tgt : Int)) (kt : y < x → Go G d mt tgt ls st M post) (kf : ¬ (y < x) → Go G d mt (pc + 3) ls st M post) : Go G d mt pc ls (.int y :: .int x :: st) M post := by
  intro p e R s m a below meth c cells slots Q H locs lsA C hP hS hl hF
  have hx := C.1
  have hb := C.2.1
  exact lv_icmp_gt hx hb hd ht (fun h => kt h p e R s m a below meth c cells slots Q H locs lsA C hP hS hl hF) (fun h => kf h p e R s m a below meth c cells slots Q H locs lsA C hP hS hl hF)
theorem Go.if_le {G : Gt} {d : Nat} {mt : Mt} {pc : Nat} {ls : List (Option Value)} {st : List Value} {M : Mm} {post : Option Value → Mm → Prop} {x : Int32} {off : Int} (tgt : Nat) (hd : decode mt.2.1 pc = .ok (.ifCond .le off, 3)) (ht : (pc : Int) + off = (tgt : Int)) (kt : x ≤ 0 → Go G d mt tgt ls st M post) (kf : ¬ (x ≤ 0) → Go G d mt (pc + 3) ls st M post) : Go G d mt pc ls (.int x :: st) M post := by
  intro p e R s m a below meth c cells slots Q H locs lsA C hP hS hl hF
  have hx := C.1
  have hb := C.2.1
  exact lv_if_le hx hb hd ht (fun h => kt h p e R s m a below meth c cells slots Q H locs lsA C hP hS hl hF) (fun h => kf h p e R s m a below meth c cells slots Q H locs lsA C hP hS hl hF)
theorem Go.icmp_le {G : Gt} {d : Nat} {mt : Mt} {pc : Nat} {ls : List (Option Value)} {st : List Value} {M : Mm} {post : Option Value → Mm → Prop} {x y : Int32} {off : Int} (tgt : Nat) (hd : decode mt.2.1 pc = .ok (.if_icmp .le off, 3)) (ht : (pc : Int) + off = (tgt : Int)) (kt : x ≤ y → Go G d mt tgt ls st M post) (kf : ¬ (x ≤ y) → Go G d mt (pc + 3) ls st M post) : Go G d mt pc ls (.int y :: .int x :: st) M post := by
  intro p e R s m a below meth c cells slots Q H locs lsA C hP hS hl hF
  have hx := C.1
  have hb := C.2.1
  exact lv_icmp_le hx hb hd ht (fun h => kt h p e R s m a below meth c cells slots Q H locs lsA C hP hS hl hF) (fun h => kf h p e R s m a below meth c cells slots Q H locs lsA C hP hS hl hF)
theorem Go.goto {G : Gt} {d : Nat} {mt : Mt} {pc : Nat} {ls : List (Option Value)} {st : List Value} {M : Mm} {post : Option Value → Mm → Prop} {off : Int} (tgt : Nat) (hd : decode mt.2.1 pc = .ok (.goto off, 3)) (ht : (pc : Int) + off = (tgt : Int)) (k : Go G d mt tgt ls st M post) : Go G d mt pc ls st M post := by
  intro p e R s m a below meth c cells slots Q H locs lsA C hP hS hl hF
  have hx := C.1
  have hb := C.2.1
  exact lv_goto hx hb hd ht (k p e R s m a below meth c cells slots Q H locs lsA C hP hS hl hF)
theorem Go.tableIn {G : Gt} {d : Nat} {mt : Mt} {pc : Nat} {ls : List (Option Value)} {st : List Value} {M : Mm} {post : Option Value → Mm → Prop} {dflt lo hi : Int} {offs : Array Int} {len : Nat} {x : Int32} {off : Int} (tgt : Nat) (hd : decode mt.2.1 pc = .ok (.tableswitch dflt lo hi offs, len)) (h1 : ¬ x.toInt < lo) (h2 : ¬ hi < x.toInt) (ho : offs[(x.toInt - lo).toNat]? = some off) (ht : (pc : Int) + off = (tgt : Int)) (k : Go G d mt tgt ls st M post) : Go G d mt pc ls (.int x :: st) M post := by
  intro p e R s m a below meth c cells slots Q H locs lsA C hP hS hl hF
  have hx := C.1
  have hb := C.2.1
  exact lv_tableIn hx hb hd h1 h2 ho ht (k p e R s m a below meth c cells slots Q H locs lsA C hP hS hl hF)
theorem Go.tableOut {G : Gt} {d : Nat} {mt : Mt} {pc : Nat} {ls : List (Option Value)} {st : List Value} {M : Mm} {post : Option Value → Mm → Prop} {dflt lo hi : Int} {offs : Array Int} {len : Nat} {x : Int32} (tgt : Nat) (hd : decode mt.2.1 pc = .ok (.tableswitch dflt lo hi offs, len)) (h : x.toInt < lo ∨ hi < x.toInt) (ht : (pc : Int) + dflt = (tgt : Int)) (k : Go G d mt tgt ls st M post) : Go G d mt pc ls (.int x :: st) M post := by
  intro p e R s m a below meth c cells slots Q H locs lsA C hP hS hl hF
  have hx := C.1
  have hb := C.2.1
  exact lv_tableOut hx hb hd h ht (k p e R s m a below meth c cells slots Q H locs lsA C hP hS hl hF)
theorem Go.lookup {G : Gt} {d : Nat} {mt : Mt} {pc : Nat} {ls : List (Option Value)} {st : List Value} {M : Mm} {post : Option Value → Mm → Prop} {dflt : Int} {ps : Array (Int × Int)} {len : Nat} {x : Int32} {off : Int} (tgt : Nat) (hd : decode mt.2.1 pc = .ok (.lookupswitch dflt ps, len)) (hp : (ps.toList.zip (ps.toList.drop 1)).all (fun (a, next) => a.1 < next.1) = true) (ho : Op.lookupswitch.offset ps.toList dflt x.toInt = off) (ht : (pc : Int) + off = (tgt : Int)) (k : Go G d mt tgt ls st M post) : Go G d mt pc ls (.int x :: st) M post := by
  intro p e R s m a below meth c cells slots Q H locs lsA C hP hS hl hF
  have hx := C.1
  have hb := C.2.1
  exact lv_lookup hx hb hd hp ho ht (k p e R s m a below meth c cells slots Q H locs lsA C hP hS hl hF)
theorem Go.iret {G : Gt} {d : Nat} {mt : Mt} {pc : Nat} {ls : List (Option Value)} {st : List Value} {M : Mm} {post : Option Value → Mm → Prop} {x : Int32} {ty : FieldType} (hd : decode mt.2.1 pc = .ok (.ireturn, 1)) (hr : mt.2.2.2 = some ty) (hn : narrow ty (.int x) = .int x) (hp : post (some (.int x)) M) : Go G d mt pc ls [.int x] M post := by
  intro p e R s m a below meth c cells slots Q H locs lsA C hP hS hl hF
  exact hF _ _ hp pc lsA H locs ⟨hd, ty, hr, hn⟩ hP hS
theorem Go.lret {G : Gt} {d : Nat} {mt : Mt} {pc : Nat} {ls : List (Option Value)} {st : List Value} {M : Mm} {post : Option Value → Mm → Prop} {x : Int64} (hd : decode mt.2.1 pc = .ok (.lreturn, 1)) (hr : mt.2.2.2 = some .long) (hp : post (some (.long x)) M) : Go G d mt pc ls [.long x] M post := by
  intro p e R s m a below meth c cells slots Q H locs lsA C hP hS hl hF
  exact hF _ _ hp pc lsA H locs ⟨hd, hr⟩ hP hS
theorem Go.vret {G : Gt} {d : Nat} {mt : Mt} {pc : Nat} {ls : List (Option Value)} {st : List Value} {M : Mm} {post : Option Value → Mm → Prop} (hd : decode mt.2.1 pc = .ok (.return_, 1)) (hr : mt.2.2.2 = none) (hp : post none M) : Go G d mt pc ls [] M post := by
  intro p e R s m a below meth c cells slots Q H locs lsA C hP hS hl hF
  exact hF _ _ hp pc lsA H locs ⟨hd, hr⟩ hP hS
theorem Go.aret {G : Gt} {d : Nat} {mt : Mt} {pc : Nat} {ls : List (Option Value)} {st : List Value} {M : Mm} {post : Option Value → Mm → Prop} {x : Nat} {t : FieldType} (hd : decode mt.2.1 pc = .ok (.areturn, 1)) (hr : mt.2.2.2 = some (.array t)) (hp : post (some (.ref x)) M) : Go G d mt pc ls [.ref x] M post := by
  intro p e R s m a below meth c cells slots Q H locs lsA C hP hS hl hF
  exact hF _ _ hp pc lsA H locs ⟨hd, t, hr⟩ hP hS
end
section
/-! fields of the classes: every class' words are in WSall, its types and names -/
theorem in_all {w : Cond} (h1 : w ∈ lw_tbl) (h2 : goodWord w = true) : w ∈ WSall := List.mem_filter.mpr ⟨h1, h2⟩
set_option maxRecDepth 100000 in
theorem clsW_ok : ∀ q ∈ vwCl, ∀ w ∈ u_ws q.1 q.2.1 q.2.2, (w ∈ lw_tbl ∧ goodWord w = true) := by decide +kernel
theorem clsW {ci : Nat} {C : String} {T : u_T} {N : Nat} (h : vwCl[ci]? = some (C, T, N)) : ∀ w ∈ u_ws C T N, w ∈ WSall := fun w hw =>
  have := clsW_ok (C, T, N) (List.mem_of_getElem? h) w hw
  in_all this.1 this.2
theorem clsT {ci : Nat} {C : String} {T : u_T} {N : Nat} (h : vwCl[ci]? = some (C, T, N)) : ∃ ty0 : Nat → FieldType, (∀ k, k < N → parseFieldDescriptor (T k).2.2.1 = some (ty0 k)) ∧ ∀ a, a < N → ∀ b, b < N → a ≠ b → (T a).2.1 ≠ (T b).2.1 := by
  match ci, h with
  | 0, h => cases h; exact ⟨_, tyX0_ok, nmX0⟩
  | 1, h => cases h; exact ⟨_, tyX1_ok, nmX1⟩
  | 2, h => cases h; exact ⟨_, tyX2_ok, nmX2⟩
  | 3, h => cases h; exact ⟨_, tyX3_ok, nmX3⟩
  | 4, h => cases h; exact ⟨_, tyX4_ok, nmX4⟩
  | 5, h => cases h; exact ⟨_, tyX5_ok, nmX5⟩
  | 6, h => cases h; exact ⟨_, tyX6_ok, nmX6⟩
  | 7, h => cases h; exact ⟨_, tyX7_ok, nmX7⟩
  | k + 8, h => simp at h
def FL (own : String) (idx ci j : Nat) : Prop := ∃ (C : String) (T : u_T) (N : Nat), vwCl[ci]? = some (C, T, N) ∧ j < N ∧ Cond.fieldLink own idx (T j).1 (T j).2.1 (T j).2.2.1 ∈ WSall
def FP (own : String) (idx ci j : Nat) (ty : FieldType) : Prop := ∃ (C : String) (T : u_T) (N : Nat), vwCl[ci]? = some (C, T, N) ∧ j < N ∧ Cond.fieldLink own idx (T j).1 (T j).2.1 (T j).2.2.1 ∈ WSall ∧ (T j).2.2.2 = false ∧ parseFieldDescriptor (T j).2.2.1 = some ty
theorem Go.getI {G : Gt} {d : Nat} {mt : Mt} {pc : Nat} {ls : List (Option Value)} {st : List Value} {M : Mm} {post : Option Value → Mm → Prop} {idx ci j k : Nat} {fs : List (Option Nat ⊕ Bool)} (hd : decode mt.2.1 pc = .ok (.getfield idx, 3)) (hw : FL mt.1.cls idx ci j) (hs : (gS G)[k]? = some (.inr (ci, fs))) (hf : fs[j]? = some (.inr true)) (kk : Go G d mt (pc + 3) ls (.int (M.1 k j) :: st) M post) : Go G d mt pc ls (.ref k :: st) M post := by
  intro p e R s m a below meth c cells slots Q H locs lsA C hP hS hl hF
  obtain ⟨hx, hb, hml, hown, hts, hok, hsz, hK, hSt, hfr, hlo, hce, hsl⟩ := id C
  obtain ⟨C0, T, N, h1, h2, h3⟩ := hw
  exact va_get (D := gD G) (ci := ci) (v := tv (ga G) (.int (M.1 k j))) (C := C0) (T := T) (N := N) hx hb hts (fun w h => List.mem_cons_of_mem _ (clsW h1 w h)) hown hK hP k (wld_at hs) h1 j h2 (hts _ (List.mem_cons_of_mem _ h3)) (fun _ h9 => h9) (by rw [List.getElem?_mapIdx, hf]; rfl) hd (kk p e R s m a below meth c cells slots Q H locs lsA C hP hS hl hF)
theorem Go.getL {G : Gt} {d : Nat} {mt : Mt} {pc : Nat} {ls : List (Option Value)} {st : List Value} {M : Mm} {post : Option Value → Mm → Prop} {idx ci j k : Nat} {fs : List (Option Nat ⊕ Bool)} (hd : decode mt.2.1 pc = .ok (.getfield idx, 3)) (hw : FL mt.1.cls idx ci j) (hs : (gS G)[k]? = some (.inr (ci, fs))) (hf : fs[j]? = some (.inr false)) (kk : Go G d mt (pc + 3) ls (.long (M.2 k j) :: st) M post) : Go G d mt pc ls (.ref k :: st) M post := by
  intro p e R s m a below meth c cells slots Q H locs lsA C hP hS hl hF
  obtain ⟨hx, hb, hml, hown, hts, hok, hsz, hK, hSt, hfr, hlo, hce, hsl⟩ := id C
  obtain ⟨C0, T, N, h1, h2, h3⟩ := hw
  exact va_get (D := gD G) (ci := ci) (v := tv (ga G) (.long (M.2 k j))) (C := C0) (T := T) (N := N) hx hb hts (fun w h => List.mem_cons_of_mem _ (clsW h1 w h)) hown hK hP k (wld_at hs) h1 j h2 (hts _ (List.mem_cons_of_mem _ h3)) (fun _ h9 => h9) (by rw [List.getElem?_mapIdx, hf]; rfl) hd (kk p e R s m a below meth c cells slots Q H locs lsA C hP hS hl hF)
theorem Go.getR {G : Gt} {d : Nat} {mt : Mt} {pc : Nat} {ls : List (Option Value)} {st : List Value} {M : Mm} {post : Option Value → Mm → Prop} {idx ci j k : Nat} {r : Nat} {fs : List (Option Nat ⊕ Bool)} (hd : decode mt.2.1 pc = .ok (.getfield idx, 3)) (hw : FL mt.1.cls idx ci j) (hs : (gS G)[k]? = some (.inr (ci, fs))) (hf : fs[j]? = some (.inl (some r))) (kk : Go G d mt (pc + 3) ls (.ref r :: st) M post) : Go G d mt pc ls (.ref k :: st) M post := by
  intro p e R s m a below meth c cells slots Q H locs lsA C hP hS hl hF
  obtain ⟨hx, hb, hml, hown, hts, hok, hsz, hK, hSt, hfr, hlo, hce, hsl⟩ := id C
  obtain ⟨C0, T, N, h1, h2, h3⟩ := hw
  exact va_get (D := gD G) (ci := ci) (v := tv (ga G) (.ref r)) (C := C0) (T := T) (N := N) hx hb hts (fun w h => List.mem_cons_of_mem _ (clsW h1 w h)) hown hK hP k (wld_at hs) h1 j h2 (hts _ (List.mem_cons_of_mem _ h3)) (fun _ h9 => h9) (by rw [List.getElem?_mapIdx, hf]; rfl) hd (kk p e R s m a below meth c cells slots Q H locs lsA C hP hS hl hF)
theorem Go.putI {G : Gt} {d : Nat} {mt : Mt} {pc : Nat} {ls : List (Option Value)} {st : List Value} {M : Mm} {post : Option Value → Mm → Prop} {idx ci j k : Nat} {x : Int32} {ty : FieldType} {fs : List (Option Nat ⊕ Bool)} (hd : decode mt.2.1 pc = .ok (.putfield idx, 3)) (hw : FP mt.1.cls idx ci j ty) (hs : (gS G)[k]? = some (.inr (ci, fs))) (hf : fs[j]? = some (.inr true)) (hn : narrow ty (.int x) = .int x) (hfit : fits ty (.int x) = true) (kk : Go G d mt (pc + 3) ls st (upi M k j x) post) : Go G d mt pc ls (.int x :: .ref k :: st) M post := by
  intro p e R s m a below meth c cells slots Q H locs lsA C hP hS hl hF
  obtain ⟨hx, hb, hml, hown, hts, hok, hsz, hK, hSt, hfr, hlo, hce, hsl⟩ := id C
  obtain ⟨C0, T, N, h1, h2, h3, h4, h5⟩ := hw
  obtain ⟨ty0, t1, t2⟩ := clsT h1
  have ew : wld G (upi M k j x) = (wld G M).set k (ga G k, .inr (ci, (fs.mapIdx (cf (ga G) M k)).set j (.int x))) := by
    rw [wld_set hs (M := M) (M' := upi M k j x) (fun i y hi => ce_seti hi y)]
    simp only [ce]
    rw [cf_set hf]
  refine va_put (D := gD G) (ci := ci) (v := .int x) (ty := ty) (C := C0) (T := T) (N := N) hx hb hts (fun w h => List.mem_cons_of_mem _ (clsW h1 w h)) ty0 t1 t2 hown hK hP (wld_D hok M) hS k (wld_at hs) h1 j h2 (hts _ (List.mem_cons_of_mem _ h3)) (fun _ h9 => h9) h4 h5 hn hfit (by simp; exact (List.getElem?_eq_some_iff.mp hf).1) hd (fun H1 locs1 hP1 hD1 hS1 => ?_)
  exact kk p e R s m a below meth c cells slots Q H1 locs1 lsA C (by rw [ew]; exact hP1) hS1 hl hF
theorem Go.putL {G : Gt} {d : Nat} {mt : Mt} {pc : Nat} {ls : List (Option Value)} {st : List Value} {M : Mm} {post : Option Value → Mm → Prop} {idx ci j k : Nat} {x : Int64} {ty : FieldType} {fs : List (Option Nat ⊕ Bool)} (hd : decode mt.2.1 pc = .ok (.putfield idx, 3)) (hw : FP mt.1.cls idx ci j ty) (hs : (gS G)[k]? = some (.inr (ci, fs))) (hf : fs[j]? = some (.inr false)) (hn : narrow ty (.long x) = .long x) (hfit : fits ty (.long x) = true) (kk : Go G d mt (pc + 3) ls st (upl M k j x) post) : Go G d mt pc ls (.long x :: .ref k :: st) M post := by
  intro p e R s m a below meth c cells slots Q H locs lsA C hP hS hl hF
  obtain ⟨hx, hb, hml, hown, hts, hok, hsz, hK, hSt, hfr, hlo, hce, hsl⟩ := id C
  obtain ⟨C0, T, N, h1, h2, h3, h4, h5⟩ := hw
  obtain ⟨ty0, t1, t2⟩ := clsT h1
  have ew : wld G (upl M k j x) = (wld G M).set k (ga G k, .inr (ci, (fs.mapIdx (cf (ga G) M k)).set j (.long x))) := by
    rw [wld_set hs (M := M) (M' := upl M k j x) (fun i y hi => ce_setl hi y)]
    simp only [ce]
    rw [cf_setl hf]
  refine va_put (D := gD G) (ci := ci) (v := .long x) (ty := ty) (C := C0) (T := T) (N := N) hx hb hts (fun w h => List.mem_cons_of_mem _ (clsW h1 w h)) ty0 t1 t2 hown hK hP (wld_D hok M) hS k (wld_at hs) h1 j h2 (hts _ (List.mem_cons_of_mem _ h3)) (fun _ h9 => h9) h4 h5 hn hfit (by simp; exact (List.getElem?_eq_some_iff.mp hf).1) hd (fun H1 locs1 hP1 hD1 hS1 => ?_)
  exact kk p e R s m a below meth c cells slots Q H1 locs1 lsA C (by rw [ew]; exact hP1) hS1 hl hF
theorem Go.iald {G : Gt} {d : Nat} {mt : Mt} {pc : Nat} {ls : List (Option Value)} {st : List Value} {M : Mm} {post : Option Value → Mm → Prop} {k n : Nat} {i : Int32} {rs : List (Option Nat)} (hd : decode mt.2.1 pc = .ok (.iaload, 1)) (hs : (gS G)[k]? = some (.inl (0, n, rs))) (hin : vp_in i n) (kk : Go G d mt (pc + 1) ls (.int (M.1 k i.toNatClampNeg) :: st) M post) : Go G d mt pc ls (.int i :: .ref k :: st) M post := by
  intro p e R s m a below meth c cells slots Q H locs lsA C hP hS hl hF
  obtain ⟨hx, hb, hml, hown, hts, hok, hsz, hK, hSt, hfr, hlo, hce, hsl⟩ := id C
  exact va_iald (D := gD G) hx hb hK hP k 0 (wld_at hs) rfl hin hd (kk p e R s m a below meth c cells slots Q H locs lsA C hP hS hl hF)
theorem Go.zald {G : Gt} {d : Nat} {mt : Mt} {pc : Nat} {ls : List (Option Value)} {st : List Value} {M : Mm} {post : Option Value → Mm → Prop} {k n : Nat} {i : Int32} {rs : List (Option Nat)} (hd : decode mt.2.1 pc = .ok (.baload, 1)) (hs : (gS G)[k]? = some (.inl (1, n, rs))) (hin : vp_in i n) (kk : Go G d mt (pc + 1) ls (.int (M.1 k i.toNatClampNeg) :: st) M post) : Go G d mt pc ls (.int i :: .ref k :: st) M post := by
  intro p e R s m a below meth c cells slots Q H locs lsA C hP hS hl hF
  obtain ⟨hx, hb, hml, hown, hts, hok, hsz, hK, hSt, hfr, hlo, hce, hsl⟩ := id C
  exact va_zald (D := gD G) hx hb hK hP k 1 (wld_at hs) rfl hin hd (kk p e R s m a below meth c cells slots Q H locs lsA C hP hS hl hF)
theorem Go.lald {G : Gt} {d : Nat} {mt : Mt} {pc : Nat} {ls : List (Option Value)} {st : List Value} {M : Mm} {post : Option Value → Mm → Prop} {k n : Nat} {i : Int32} {rs : List (Option Nat)} (hd : decode mt.2.1 pc = .ok (.laload, 1)) (hs : (gS G)[k]? = some (.inl (2, n, rs))) (hin : vp_in i n) (kk : Go G d mt (pc + 1) ls (.long (M.2 k i.toNatClampNeg) :: st) M post) : Go G d mt pc ls (.int i :: .ref k :: st) M post := by
  intro p e R s m a below meth c cells slots Q H locs lsA C hP hS hl hF
  obtain ⟨hx, hb, hml, hown, hts, hok, hsz, hK, hSt, hfr, hlo, hce, hsl⟩ := id C
  exact va_lald (D := gD G) hx hb hK hP k 2 (wld_at hs) rfl hin hd (kk p e R s m a below meth c cells slots Q H locs lsA C hP hS hl hF)
theorem Go.iast {G : Gt} {d : Nat} {mt : Mt} {pc : Nat} {ls : List (Option Value)} {st : List Value} {M : Mm} {post : Option Value → Mm → Prop} {k n : Nat} {i : Int32} {x : Int32} {rs : List (Option Nat)} (hd : decode mt.2.1 pc = .ok (.iastore, 1)) (hs : (gS G)[k]? = some (.inl (0, n, rs))) (hin : vp_in i n) (kk : Go G d mt (pc + 1) ls st (upi M k i.toNatClampNeg x) post) : Go G d mt pc ls (.int x :: .int i :: .ref k :: st) M post := by
  intro p e R s m a below meth c cells slots Q H locs lsA C hP hS hl hF
  obtain ⟨hx, hb, hml, hown, hts, hok, hsz, hK, hSt, hfr, hlo, hce, hsl⟩ := id C
  refine va_iast (D := gD G) hx hb hK hP (wld_D hok M) hS k 0 (wld_at hs) rfl hin hd (fun H1 locs1 hP1 hD1 hS1 => ?_)
  refine kk p e R s m a below meth c cells slots Q H1 locs1 lsA C ?_ hS1 hl hF
  rw [wld_set hs (M := M) (M' := upi M k i.toNatClampNeg x) (fun i y hi => ce_seti hi y)]
  simp only [ce, upi, seti, upl, setl, if_true]
  exact hP1
theorem Go.zast {G : Gt} {d : Nat} {mt : Mt} {pc : Nat} {ls : List (Option Value)} {st : List Value} {M : Mm} {post : Option Value → Mm → Prop} {k n : Nat} {i : Int32} {x : Int32} {rs : List (Option Nat)} (hd : decode mt.2.1 pc = .ok (.bastore, 1)) (hs : (gS G)[k]? = some (.inl (1, n, rs))) (hin : vp_in i n) (kk : Go G d mt (pc + 1) ls st (upi M k i.toNatClampNeg (vp_nar .boolean x)) post) : Go G d mt pc ls (.int x :: .int i :: .ref k :: st) M post := by
  intro p e R s m a below meth c cells slots Q H locs lsA C hP hS hl hF
  obtain ⟨hx, hb, hml, hown, hts, hok, hsz, hK, hSt, hfr, hlo, hce, hsl⟩ := id C
  refine va_zast (D := gD G) hx hb hK hP (wld_D hok M) hS k 1 (wld_at hs) rfl hin hd (fun H1 locs1 hP1 hD1 hS1 => ?_)
  refine kk p e R s m a below meth c cells slots Q H1 locs1 lsA C ?_ hS1 hl hF
  rw [wld_set hs (M := M) (M' := upi M k i.toNatClampNeg (vp_nar .boolean x)) (fun i y hi => ce_seti hi y)]
  simp only [ce, upi, seti, upl, setl, if_true]
  exact hP1
theorem Go.last {G : Gt} {d : Nat} {mt : Mt} {pc : Nat} {ls : List (Option Value)} {st : List Value} {M : Mm} {post : Option Value → Mm → Prop} {k n : Nat} {i : Int32} {x : Int64} {rs : List (Option Nat)} (hd : decode mt.2.1 pc = .ok (.lastore, 1)) (hs : (gS G)[k]? = some (.inl (2, n, rs))) (hin : vp_in i n) (kk : Go G d mt (pc + 1) ls st (upl M k i.toNatClampNeg x) post) : Go G d mt pc ls (.long x :: .int i :: .ref k :: st) M post := by
  intro p e R s m a below meth c cells slots Q H locs lsA C hP hS hl hF
  obtain ⟨hx, hb, hml, hown, hts, hok, hsz, hK, hSt, hfr, hlo, hce, hsl⟩ := id C
  refine va_last (D := gD G) hx hb hK hP (wld_D hok M) hS k 2 (wld_at hs) rfl hin hd (fun H1 locs1 hP1 hD1 hS1 => ?_)
  refine kk p e R s m a below meth c cells slots Q H1 locs1 lsA C ?_ hS1 hl hF
  rw [wld_set hs (M := M) (M' := upl M k i.toNatClampNeg x) (fun i y hi => ce_setl hi y)]
  simp only [ce, upi, seti, upl, setl, if_true]
  exact hP1
theorem Go.alenI {G : Gt} {d : Nat} {mt : Mt} {pc : Nat} {ls : List (Option Value)} {st : List Value} {M : Mm} {post : Option Value → Mm → Prop} {k n : Nat} {v : Int32} {tag : Nat} {rs : List (Option Nat)} (hd : decode mt.2.1 pc = .ok (.arraylength, 1)) (hs : (gS G)[k]? = some (.inl (tag, n, rs))) (hv : Int32.ofNat n = v) (kk : Go G d mt (pc + 1) ls (.int v :: st) M post) : Go G d mt pc ls (.ref k :: st) M post := by
  intro p e R s m a below meth c cells slots Q H locs lsA C hP hS hl hF
  obtain ⟨hx, hb, hml, hown, hts, hok, hsz, hK, hSt, hfr, hlo, hce, hsl⟩ := id C
  match tag, hs with
  | 0, hs => exact va_alen (D := gD G) hx hb hK hP k 0 (wld_at hs) rfl hv hd (kk p e R s m a below meth c cells slots Q H locs lsA C hP hS hl hF)
  | 1, hs => exact va_alen (D := gD G) hx hb hK hP k 1 (wld_at hs) rfl hv hd (kk p e R s m a below meth c cells slots Q H locs lsA C hP hS hl hF)
  | 2, hs => exact va_alen (D := gD G) hx hb hK hP k 2 (wld_at hs) rfl hv hd (kk p e R s m a below meth c cells slots Q H locs lsA C hP hS hl hF)
  | t + 3, hs => exact va_alen (D := gD G) hx hb hK hP k 3 (wld_at hs) rfl hv hd (kk p e R s m a below meth c cells slots Q H locs lsA C hP hS hl hF)
theorem Go.aald {G : Gt} {d : Nat} {mt : Mt} {pc : Nat} {ls : List (Option Value)} {st : List Value} {M : Mm} {post : Option Value → Mm → Prop} {k n r : Nat} {i : Int32} {rs : List (Option Nat)} (hd : decode mt.2.1 pc = .ok (.aaload, 1)) (hs : (gS G)[k]? = some (.inl (3, n, rs))) (hin : vp_in i n) (hr : rs.getD i.toNatClampNeg none = some r) (kk : Go G d mt (pc + 1) ls (.ref r :: st) M post) : Go G d mt pc ls (.int i :: .ref k :: st) M post := by
  intro p e R s m a below meth c cells slots Q H locs lsA C hP hS hl hF
  obtain ⟨hx, hb, hml, hown, hts, hok, hsz, hK, hSt, hfr, hlo, hce, hsl⟩ := id C
  refine va_aldq (D := gD G) hx hb hK hP k 3 (wld_at hs) rfl hin hd ?_
  simp only [hr]
  exact kk p e R s m a below meth c cells slots Q H locs lsA C hP hS hl hF
theorem Go.sets {G : Gt} {d : Nat} {mt : Mt} {pc : Nat} {ls : List (Option Value)} {st : List Value} {M : Mm} {post : Option Value → Mm → Prop} {i : Int32} (hd : decode mt.2.1 pc = .ok (.iaload, 1)) (hin : vp_in i 92) (kk : Go G d mt (pc + 1) ls (.int (setsF i.toNatClampNeg) :: st) M post) : Go G d mt pc ls (.int i :: .ref 1000 :: st) M post := by
  intro p e R s m a below meth c cells slots Q H locs lsA C hP hS hl hF
  obtain ⟨hx, hb, hml, hown, hts, hok, hsz, hK, hSt, hfr, hlo, hce, hsl⟩ := id C
  exact va_ti hx hb hSt.2.2.1 hS hin rfl hd (kk p e R s m a below meth c cells slots Q H locs lsA C hP hS hl hF)
theorem Go.above {G : Gt} {d : Nat} {mt : Mt} {pc : Nat} {ls : List (Option Value)} {st : List Value} {M : Mm} {post : Option Value → Mm → Prop} {i : Int32} (hd : decode mt.2.1 pc = .ok (.iaload, 1)) (hin : vp_in i 6) (kk : Go G d mt (pc + 1) ls (.int (aboveF i.toNatClampNeg) :: st) M post) : Go G d mt pc ls (.int i :: .ref 1001 :: st) M post := by
  intro p e R s m a below meth c cells slots Q H locs lsA C hP hS hl hF
  obtain ⟨hx, hb, hml, hown, hts, hok, hsz, hK, hSt, hfr, hlo, hce, hsl⟩ := id C
  exact va_ti hx hb hSt.2.2.2.2.1 hS hin rfl hd (kk p e R s m a below meth c cells slots Q H locs lsA C hP hS hl hF)
theorem Go.script {G : Gt} {d : Nat} {mt : Mt} {pc : Nat} {ls : List (Option Value)} {st : List Value} {M : Mm} {post : Option Value → Mm → Prop} {i : Int32} (hd : decode mt.2.1 pc = .ok (.iaload, 1)) (hin : vp_in i (gn G)) (kk : Go G d mt (pc + 1) ls (.int (gx G i.toNatClampNeg) :: st) M post) : Go G d mt pc ls (.int i :: .ref 1002 :: st) M post := by
  intro p e R s m a below meth c cells slots Q H locs lsA C hP hS hl hF
  obtain ⟨hx, hb, hml, hown, hts, hok, hsz, hK, hSt, hfr, hlo, hce, hsl⟩ := id C
  exact va_ti hx hb hSt.2.2.2.2.2.1 hS hin rfl hd (kk p e R s m a below meth c cells slots Q H locs lsA C hP hS hl hF)
theorem Go.setsLen {G : Gt} {d : Nat} {mt : Mt} {pc : Nat} {ls : List (Option Value)} {st : List Value} {M : Mm} {post : Option Value → Mm → Prop} (hd : decode mt.2.1 pc = .ok (.arraylength, 1)) (kk : Go G d mt (pc + 1) ls (.int 92 :: st) M post) : Go G d mt pc ls (.ref 1000 :: st) M post := by
  intro p e R s m a below meth c cells slots Q H locs lsA C hP hS hl hF
  obtain ⟨hx, hb, hml, hown, hts, hok, hsz, hK, hSt, hfr, hlo, hce, hsl⟩ := id C
  exact va_tlen hx hb hSt.2.2.1 hS rfl hd (kk p e R s m a below meth c cells slots Q H locs lsA C hP hS hl hF)
theorem Go.scriptLen {G : Gt} {d : Nat} {mt : Mt} {pc : Nat} {ls : List (Option Value)} {st : List Value} {M : Mm} {post : Option Value → Mm → Prop} (hd : decode mt.2.1 pc = .ok (.arraylength, 1)) (kk : Go G d mt (pc + 1) ls (.int (Int32.ofNat (gn G)) :: st) M post) : Go G d mt pc ls (.ref 1002 :: st) M post := by
  intro p e R s m a below meth c cells slots Q H locs lsA C hP hS hl hF
  obtain ⟨hx, hb, hml, hown, hts, hok, hsz, hK, hSt, hfr, hlo, hce, hsl⟩ := id C
  exact va_tlen hx hb hSt.2.2.2.2.2.1 hS rfl hd (kk p e R s m a below meth c cells slots Q H locs lsA C hP hS hl hF)
theorem Go.getSets {G : Gt} {d : Nat} {mt : Mt} {pc : Nat} {ls : List (Option Value)} {st : List Value} {M : Mm} {post : Option Value → Mm → Prop} {idx : Nat} (hd : decode mt.2.1 pc = .ok (.getstatic idx, 3)) (hw : Cond.fieldLink mt.1.cls idx "NewDishes" "SETS" "[I" ∈ WSall ∨ Cond.fieldLinkNest mt.1.cls idx "NewDishes" "SETS" "[I" "NewDishes" ∈ nestW) (kk : Go G d mt (pc + 3) ls (.ref 1000 :: st) M post) : Go G d mt pc ls st M post := by
  intro p e R s m a below meth c cells slots Q H locs lsA C hP hS hl hF
  obtain ⟨hx, hb, hml, hown, hts, hok, hsz, hK, hSt, hfr, hlo, hce, hsl⟩ := id C
  rcases hw with hw | hw
  · exact va_gets hx hb hSt.2.1 hS hown (hts _ (List.mem_cons_of_mem _ hw)) (fun _ h => h) hd (kk p e R s m a below meth c cells slots Q H locs lsA C hP hS hl hF)
  · exact va_getsN hx hb hSt.2.1 hS hown (va_Nw.use rfl (hSt.1 _ hw)) (fun _ h => h) hd (kk p e R s m a below meth c cells slots Q H locs lsA C hP hS hl hF)
theorem Go.getAbove {G : Gt} {d : Nat} {mt : Mt} {pc : Nat} {ls : List (Option Value)} {st : List Value} {M : Mm} {post : Option Value → Mm → Prop} {idx : Nat} (hd : decode mt.2.1 pc = .ok (.getstatic idx, 3)) (hw : Cond.fieldLink mt.1.cls idx "NewDishes" "ABOVE" "[I" ∈ WSall) (kk : Go G d mt (pc + 3) ls (.ref 1001 :: st) M post) : Go G d mt pc ls st M post := by
  intro p e R s m a below meth c cells slots Q H locs lsA C hP hS hl hF
  obtain ⟨hx, hb, hml, hown, hts, hok, hsz, hK, hSt, hfr, hlo, hce, hsl⟩ := id C
  exact va_gets hx hb hSt.2.2.2.1 hS hown (hts _ (List.mem_cons_of_mem _ hw)) (fun _ h => h) hd (kk p e R s m a below meth c cells slots Q H locs lsA C hP hS hl hF)
/-- a call's words -/
def CB (mt : Mt) (n : Nat) : Prop := Cond.initialized mt.1.cls ∈ WSall ∧ Cond.code mt.1 mt.2.1 mt.2.2.1 mt.2.2.2 ∈ WSall ∧ (mt.1.cls ≠ "java/lang/invoke/MethodHandle" ∧ mt.1.cls ≠ "java/lang/invoke/VarHandle" ∧ (parseMethodDescriptor mt.1.desc).map (fun d => d.parameters.length) = some n) ∧ mt.2.2.1 ≤ 21
def LK (own : String) (idx : Nat) (mt : Mt) : Prop := Cond.methodLink own idx mt.1 ∈ WSall ∨ ∃ host, Cond.methodLinkNest own idx mt.1 host ∈ nestW
theorem good_all {w : Cond} (h : w ∈ WSall) : (w.onTables && w.keeps) = true ∨ ∃ ty, w = .arrayClass ty := good_of_word (List.mem_filter.mp h).2
theorem CB.good {mt : Mt} {n : Nat} (h : CB mt n) (mt0 : Mt) : GoodIn (wsM mt0) (wsM mt) := by
  intro w hw
  have hw2 : w ∈ WSall := by
    rcases List.mem_cons.mp hw with e | h9
    · rw [e]; exact h.2.1
    · exact h9
  exact ⟨List.mem_cons_of_mem _ hw2, good_all hw2⟩
set_option maxHeartbeats 1000000 in
theorem Go.callS {G : Gt} {d : Nat} {mt : Mt} {pc : Nat} {ls : List (Option Value)} {st : List Value} {M : Mm} {post : Option Value → Mm → Prop} {idx n : Nat} {mt' : Mt} {as rest : List Value} {post1 : Option Value → Mm → Prop} (hd : decode mt.2.1 pc = .ok (.invokestatic idx, 3)) (hk : LK mt.1.cls idx mt') (hst : Cond.static mt'.1 ∈ WSall) (hc : CB mt' n) (hn : as.length = n) (hE : Ex G d mt' as M post1) (hst2 : st = as.reverse ++ rest) (hr : (rest.map fun v => v.category).sum ≤ 8)
    (kk : ∀ v M', post1 v M' → Go G (d + 1) mt (pc + 3) ls (v.toList ++ rest) M' post) : Go G (d + 1) mt pc ls st M post := by
  intro p e R s m a below meth c cells slots Q H locs lsA C hP hS hl hF
  obtain ⟨hx, hb, hml, hown, hts, hok, hsz, hK, hSt, hfr, hlo, hce, hsl⟩ := id C
  subst hst2
  have hrm : (room d).frames + 1 ≤ R.frames ∧ 8 + (mt'.2.2.1 + 11) + (room d).locals ≤ R.locals := ⟨hfr, by have := hc.2.2.2; show 8 + (mt'.2.2.1 + 11) + 40 * d ≤ R.locals; omega⟩
  have hpre : PreS s H (va_Pc (as.map (tv (ga G))) (PcW G M)) (as.map (tv (ga G))) := ⟨PcW.blind G M _, fun U hU hW => ⟨rfl, PcW.at hok hsz hP hS hK hSt hU hW⟩⟩
  have hstk : ((as.reverse ++ rest).map (tv (ga G))) = (as.map (tv (ga G))).reverse ++ rest.map (tv (ga G)) := by rw [List.map_append, List.map_reverse]
  have hcat : ((rest.map (tv (ga G))).map fun v => v.category).sum ≤ 8 := by rw [List.map_map]; simpa [Function.comp_def, tv_cat] using hr
  have hini := hts _ (List.mem_cons_of_mem _ hc.1)
  have hrun : va_Run p (gl G) e R s m a below meth c H locs cells slots 0 0 (F0 m pc lsA ((as.reverse ++ rest).map (tv (ga G)))) (rest.map (tv (ga G))) (QcW G post1 (as.map (tv (ga G))).toArray) (A0 G) := by
    rcases hk with hk | ⟨host, hk⟩
    · exact va_runS ⟨hx, hb, hml, hown, hts⟩ hE ⟨callB_of n hts (hc.good mt) rfl rfl rfl hini (hts _ (List.mem_cons_of_mem _ hk)) hc.2.2.1 hrm, hts _ (List.mem_cons_of_mem _ hst)⟩ hpre rfl (by simp [hn]) hl.2.1 hstk (lv_room hcat) hd ⟨hce, hsl⟩
    · exact va_runSN ⟨hx, hb, hml, hown, hts⟩ hE ⟨va_cnB n hts (hc.good mt) rfl rfl rfl (hSt.1 _ hk) hini hc.2.2.1 hrm, hts _ (List.mem_cons_of_mem _ hst), trivial⟩ hpre rfl (by simp [hn]) hl.2.1 hstk (lv_room hcat) hd ⟨hce, hsl⟩
  refine Go.back hrun hS (fun v M' H1 locs1 hv hP1 hS1 => ?_)
  have := kk v M' hv p e R s m a below meth c cells slots Q H1 locs1 lsA C hP1 hS1 hl hF
  rw [List.map_append] at this
  exact this
set_option maxHeartbeats 1000000 in
theorem Go.callV {G : Gt} {d : Nat} {mt : Mt} {pc : Nat} {ls : List (Option Value)} {st : List Value} {M : Mm} {post : Option Value → Mm → Prop} {idx n k ci : Nat} {mt' : Mt} {as rest : List Value} {fs : List (Option Nat ⊕ Bool)} {T : u_T} {N : Nat} {post1 : Option Value → Mm → Prop} (hd : decode mt.2.1 pc = .ok (.invokevirtual idx, 3)) (hk : LK mt.1.cls idx mt') (hin : Cond.instanceMethod mt'.1 ∈ WSall) (hse : Cond.selects mt'.1.cls mt'.1 mt'.1 ∈ WSall) (hc : CB mt' n) (hn : as.length = n) (hs : (gS G)[k]? = some (.inr (ci, fs))) (hcl : vwCl[ci]? = some (mt'.1.cls, T, N)) (hE : Ex G d mt' (.ref k :: as) M post1) (hst2 : st = as.reverse ++ .ref k :: rest) (hr : (rest.map fun v => v.category).sum ≤ 8)
    (kk : ∀ v M', post1 v M' → Go G (d + 1) mt (pc + 3) ls (v.toList ++ rest) M' post) : Go G (d + 1) mt pc ls st M post := by
  intro p e R s m a below meth c cells slots Q H locs lsA C hP hS hl hF
  obtain ⟨hx, hb, hml, hown, hts, hok, hsz, hK, hSt, hfr, hlo, hce, hsl⟩ := id C
  subst hst2
  have hrm : (room d).frames + 1 ≤ R.frames ∧ 8 + (mt'.2.2.1 + 11) + (room d).locals ≤ R.locals := ⟨hfr, by have := hc.2.2.2; show 8 + (mt'.2.2.1 + 11) + 40 * d ≤ R.locals; omega⟩
  have hpre : PreV s H mt'.1.cls (ga G k) (va_Pc ((.ref k :: as).map (tv (ga G))) (PcW G M)) (as.map (tv (ga G))) := ⟨PcW.blind G M _, va_recv (D := gD G) hK hP hcl (wld_at hs), fun U hU hW => ⟨rfl, PcW.at hok hsz hP hS hK hSt hU hW⟩⟩
  have hstk : ((as.reverse ++ .ref k :: rest).map (tv (ga G))) = (as.map (tv (ga G))).reverse ++ .ref (ga G k) :: rest.map (tv (ga G)) := by rw [List.map_append, List.map_reverse]; rfl
  have hcat : ((rest.map (tv (ga G))).map fun v => v.category).sum ≤ 8 := by rw [List.map_map]; simpa [Function.comp_def, tv_cat] using hr
  have hini := hts _ (List.mem_cons_of_mem _ hc.1)
  have hrun : va_Run p (gl G) e R s m a below meth c H locs cells slots 0 0 (F0 m pc lsA ((as.reverse ++ .ref k :: rest).map (tv (ga G)))) (rest.map (tv (ga G))) (QcW G post1 ((.ref k :: as).map (tv (ga G))).toArray) (A0 G) := by
    rcases hk with hk | ⟨host, hk⟩
    · exact va_runV ⟨hx, hb, hml, hown, hts⟩ hE ⟨callB_of n hts (hc.good mt) rfl rfl rfl hini (hts _ (List.mem_cons_of_mem _ hk)) hc.2.2.1 hrm, hts _ (List.mem_cons_of_mem _ hin), hts _ (List.mem_cons_of_mem _ hse)⟩ hpre rfl (by simp [hn]) hl.2.1 hstk (lv_room hcat) hd ⟨hce, hsl⟩
    · exact va_runVN ⟨hx, hb, hml, hown, hts⟩ hE ⟨va_cnB n hts (hc.good mt) rfl rfl rfl (hSt.1 _ hk) hini hc.2.2.1 hrm, hts _ (List.mem_cons_of_mem _ hin), hts _ (List.mem_cons_of_mem _ hse)⟩ hpre rfl (by simp [hn]) hl.2.1 hstk (lv_room hcat) hd ⟨hce, hsl⟩
  refine Go.back hrun hS (fun v M' H1 locs1 hv hP1 hS1 => ?_)
  have := kk v M' hv p e R s m a below meth c cells slots Q H1 locs1 lsA C hP1 hS1 hl hF
  rw [List.map_append] at this
  exact this
end
