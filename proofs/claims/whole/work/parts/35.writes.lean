def noteM (b : Nat) (M : Mm) (n : Nat) (k x : Int32) : Mm := upi (upi (upi (upi M (b + 5) n k) (b + 6) n x) (b + 7) n (M.1 b 9)) b 7 (nI (n + 1))
def mealM (M : Mm) (n : Nat) (k : Int32) (x : Nat) : Mm := upi (tkM (noteM 1 M n k (nI x)) 2 (x / 20) 8) 1 9 (M.1 1 9 + 1)
def decM (M : Mm) (b ed w : Nat) (v : Bool) : Mm := if v = ed.testBit w then M else upi M b 8 (nI (ed ^^^ 2 ^ w))
theorem xor_ed : ∀ ed, ed < 4 → ∀ w, w < 2 → (nI ed ^^^ ((1 : Int32) <<< (nI w &&& 31))) = nI (ed ^^^ 2 ^ w) := by decide +kernel
theorem bi_inj {a b : Bool} : bi a = bi b ↔ a = b := by cases a <;> cases b <;> decide
set_option maxRecDepth 20000 in
theorem s_isFull1 {G : Gt} {d : Nat} {M : Mm} (hG : gS G = SHAPE) {n : Nat} (hn : M.1 1 7 = nI n) (h30 : n ≤ 30) : ExI G (d) mX1_isFull [.ref 1] M (fun r M' => r = bi (decide (n = 30)) ∧ M' = M) := by
  refine Ex.of (by decide) (Nat.le_of_ble_eq_true rfl) ?_
  show Go G (d) mX1_isFull 0 [some (.ref 1)] [] M _
  refine Go.aload_n dX1_isFull_0 rfl ?_
  refine Go.getI dX1_isFull_1 flX1_33 (shp hG rfl) rfl ?_
  refine Go.eqI (y := nI n) (hn) ?_
  refine Go.bipush (v := 30) dX1_isFull_4 (by decide) ?_
  refine Go.icmp_lt 13 dX1_isFull_6 rfl (fun h6 => ?_) (fun h6 => ?_)
  · have n6 : n < 30 := (nI_ltI (a := n) (b := 30) (by omega) (by omega)).mp h6
    refine Go.iconst (v := 0) dX1_isFull_13 (by decide) ?_
    refine Go.iret dX1_isFull_14 rfl (by decide) ?_
    refine ⟨_, rfl, ?_, rfl⟩
    have h9 : ¬ n = 30 := by omega
    simp [bi, h9]
  · have n6 : ¬ n < 30 := fun q => h6 ((nI_ltI (a := n) (b := 30) (by omega) (by omega)).mpr q)
    refine Go.iconst (v := 1) dX1_isFull_9 (by decide) ?_
    refine Go.goto 14 dX1_isFull_10 rfl ?_
    refine Go.iret dX1_isFull_14 rfl (by decide) ?_
    refine ⟨_, rfl, ?_, rfl⟩
    have h9 : n = 30 := by omega
    simp [bi, h9]
set_option maxRecDepth 20000 in
theorem s_note1 {G : Gt} {d : Nat} {M : Mm} (hG : gS G = SHAPE) {n : Nat} (hn : M.1 1 7 = nI n) (h30 : n < 30) (k x : Int32) : ExI G (d + 1) mX1_note [.ref 1, .int k, .int x] M (fun r M' => r = nI n ∧ M' = noteM 1 M n k x) := by
  refine Ex.of (by decide) (Nat.le_of_ble_eq_true rfl) ?_
  show Go G (d + 1) mX1_note 0 [some (.ref 1), some (.int k), some (.int x)] [] M _
  refine Go.aload_n dX1_note_0 rfl ?_
  refine Go.callVI [] dX1_note_1 lkX1_81 imX1_isFull seX1_isFull cbX1_isFull (s_isFull1 hG hn (by omega)) (shp hG rfl) rfl rfl rfl (Nat.le_of_ble_eq_true rfl) (fun r1 M2 hr1 => ?_)
  obtain ⟨er1, emr1⟩ := hr1
  rw [emr1]
  clear emr1 M2
  subst er1
  refine Go.if_eq 9 dX1_note_4 rfl (fun _ => ?_) (fun h4 => absurd (bi_0.mpr (decide_eq_false (by omega))) h4)
  refine Go.aload_n dX1_note_9 rfl ?_
  refine Go.getR dX1_note_10 flX1_24 (shp hG rfl) rfl ?_
  refine Go.aload_n dX1_note_13 rfl ?_
  refine Go.getI dX1_note_14 flX1_33 (shp hG rfl) rfl ?_
  refine Go.eqI (y := nI n) (hn) ?_
  refine Go.iload_n dX1_note_17 rfl ?_
  refine Go.iast dX1_note_18 (shp hG rfl) (vin (by omega) (by decide)) ?_
  refine Go.nmM (fun N3 eN3 => ?_)
  refine Go.aload_n dX1_note_19 rfl ?_
  refine Go.getR dX1_note_20 flX1_27 (shp hG rfl) rfl ?_
  refine Go.aload_n dX1_note_23 rfl ?_
  refine Go.getI dX1_note_24 flX1_33 (shp hG rfl) rfl ?_
  refine Go.eqI (y := nI n) (by rw [eN3, rd_ne (by decide)]; exact hn) ?_
  refine Go.iload_n dX1_note_27 rfl ?_
  refine Go.iast dX1_note_28 (shp hG rfl) (vin (by omega) (by decide)) ?_
  refine Go.nmM (fun N4 eN4 => ?_)
  refine Go.aload_n dX1_note_29 rfl ?_
  refine Go.getR dX1_note_30 flX1_30 (shp hG rfl) rfl ?_
  refine Go.aload_n dX1_note_33 rfl ?_
  refine Go.getI dX1_note_34 flX1_33 (shp hG rfl) rfl ?_
  refine Go.eqI (y := nI n) (by rw [eN4, rd_ne (by decide), eN3, rd_ne (by decide)]; exact hn) ?_
  refine Go.aload_n dX1_note_37 rfl ?_
  refine Go.getI dX1_note_38 flX1_40 (shp hG rfl) rfl ?_
  refine Go.eqI (y := M.1 1 9) (by rw [eN4, rd_ne (by decide), eN3, rd_ne (by decide)]) ?_
  refine Go.iast dX1_note_41 (shp hG rfl) (vin (by omega) (by decide)) ?_
  refine Go.nmM (fun N5 eN5 => ?_)
  refine Go.aload_n dX1_note_42 rfl ?_
  refine Go.dup dX1_note_43 rfl ?_
  refine Go.getI dX1_note_44 flX1_33 (shp hG rfl) rfl ?_
  refine Go.eqI (y := nI n) (by rw [eN5, rd_ne (by decide), eN4, rd_ne (by decide), eN3, rd_ne (by decide)]; exact hn) ?_
  refine Go.iconst (v := 1) dX1_note_47 (by decide) ?_
  refine Go.iadd dX1_note_48 ?_
  refine Go.eqI (y := nI (n + 1)) (nI_add _ _) ?_
  refine Go.putI dX1_note_49 fpX1_33 (shp hG rfl) rfl rfl rfl ?_
  refine Go.nmM (fun N6 eN6 => ?_)
  refine Go.aload_n dX1_note_52 rfl ?_
  refine Go.getI dX1_note_53 flX1_33 (shp hG rfl) rfl ?_
  refine Go.eqI (y := nI (n + 1)) (by rw [eN6, rd_eq]; simp [upd]) ?_
  refine Go.iconst (v := 1) dX1_note_56 (by decide) ?_
  refine Go.isub dX1_note_57 ?_
  refine Go.eqI (y := nI n) (nI_pred n) ?_
  refine Go.iret dX1_note_58 rfl rfl ?_
  refine ⟨_, rfl, rfl, ?_⟩
  rw [eN6, eN5, eN4, eN3, ncl (by omega)]
  rfl
set_option maxRecDepth 20000 in
theorem s_isFull17 {G : Gt} {d : Nat} {M : Mm} (hG : gS G = SHAPE) {n : Nat} (hn : M.1 17 7 = nI n) (h30 : n ≤ 30) : ExI G (d) mX1_isFull [.ref 17] M (fun r M' => r = bi (decide (n = 30)) ∧ M' = M) := by
  refine Ex.of (by decide) (Nat.le_of_ble_eq_true rfl) ?_
  show Go G (d) mX1_isFull 0 [some (.ref 17)] [] M _
  refine Go.aload_n dX1_isFull_0 rfl ?_
  refine Go.getI dX1_isFull_1 flX1_33 (shp hG rfl) rfl ?_
  refine Go.eqI (y := nI n) (hn) ?_
  refine Go.bipush (v := 30) dX1_isFull_4 (by decide) ?_
  refine Go.icmp_lt 13 dX1_isFull_6 rfl (fun h6 => ?_) (fun h6 => ?_)
  · have n6 : n < 30 := (nI_ltI (a := n) (b := 30) (by omega) (by omega)).mp h6
    refine Go.iconst (v := 0) dX1_isFull_13 (by decide) ?_
    refine Go.iret dX1_isFull_14 rfl (by decide) ?_
    refine ⟨_, rfl, ?_, rfl⟩
    have h9 : ¬ n = 30 := by omega
    simp [bi, h9]
  · have n6 : ¬ n < 30 := fun q => h6 ((nI_ltI (a := n) (b := 30) (by omega) (by omega)).mpr q)
    refine Go.iconst (v := 1) dX1_isFull_9 (by decide) ?_
    refine Go.goto 14 dX1_isFull_10 rfl ?_
    refine Go.iret dX1_isFull_14 rfl (by decide) ?_
    refine ⟨_, rfl, ?_, rfl⟩
    have h9 : n = 30 := by omega
    simp [bi, h9]
set_option maxRecDepth 20000 in
theorem s_note17 {G : Gt} {d : Nat} {M : Mm} (hG : gS G = SHAPE) {n : Nat} (hn : M.1 17 7 = nI n) (h30 : n < 30) (k x : Int32) : ExI G (d + 1) mX1_note [.ref 17, .int k, .int x] M (fun r M' => r = nI n ∧ M' = noteM 17 M n k x) := by
  refine Ex.of (by decide) (Nat.le_of_ble_eq_true rfl) ?_
  show Go G (d + 1) mX1_note 0 [some (.ref 17), some (.int k), some (.int x)] [] M _
  refine Go.aload_n dX1_note_0 rfl ?_
  refine Go.callVI [] dX1_note_1 lkX1_81 imX1_isFull seX1_isFull cbX1_isFull (s_isFull17 hG hn (by omega)) (shp hG rfl) rfl rfl rfl (Nat.le_of_ble_eq_true rfl) (fun r1 M2 hr1 => ?_)
  obtain ⟨er1, emr1⟩ := hr1
  rw [emr1]
  clear emr1 M2
  subst er1
  refine Go.if_eq 9 dX1_note_4 rfl (fun _ => ?_) (fun h4 => absurd (bi_0.mpr (decide_eq_false (by omega))) h4)
  refine Go.aload_n dX1_note_9 rfl ?_
  refine Go.getR dX1_note_10 flX1_24 (shp hG rfl) rfl ?_
  refine Go.aload_n dX1_note_13 rfl ?_
  refine Go.getI dX1_note_14 flX1_33 (shp hG rfl) rfl ?_
  refine Go.eqI (y := nI n) (hn) ?_
  refine Go.iload_n dX1_note_17 rfl ?_
  refine Go.iast dX1_note_18 (shp hG rfl) (vin (by omega) (by decide)) ?_
  refine Go.nmM (fun N3 eN3 => ?_)
  refine Go.aload_n dX1_note_19 rfl ?_
  refine Go.getR dX1_note_20 flX1_27 (shp hG rfl) rfl ?_
  refine Go.aload_n dX1_note_23 rfl ?_
  refine Go.getI dX1_note_24 flX1_33 (shp hG rfl) rfl ?_
  refine Go.eqI (y := nI n) (by rw [eN3, rd_ne (by decide)]; exact hn) ?_
  refine Go.iload_n dX1_note_27 rfl ?_
  refine Go.iast dX1_note_28 (shp hG rfl) (vin (by omega) (by decide)) ?_
  refine Go.nmM (fun N4 eN4 => ?_)
  refine Go.aload_n dX1_note_29 rfl ?_
  refine Go.getR dX1_note_30 flX1_30 (shp hG rfl) rfl ?_
  refine Go.aload_n dX1_note_33 rfl ?_
  refine Go.getI dX1_note_34 flX1_33 (shp hG rfl) rfl ?_
  refine Go.eqI (y := nI n) (by rw [eN4, rd_ne (by decide), eN3, rd_ne (by decide)]; exact hn) ?_
  refine Go.aload_n dX1_note_37 rfl ?_
  refine Go.getI dX1_note_38 flX1_40 (shp hG rfl) rfl ?_
  refine Go.eqI (y := M.1 17 9) (by rw [eN4, rd_ne (by decide), eN3, rd_ne (by decide)]) ?_
  refine Go.iast dX1_note_41 (shp hG rfl) (vin (by omega) (by decide)) ?_
  refine Go.nmM (fun N5 eN5 => ?_)
  refine Go.aload_n dX1_note_42 rfl ?_
  refine Go.dup dX1_note_43 rfl ?_
  refine Go.getI dX1_note_44 flX1_33 (shp hG rfl) rfl ?_
  refine Go.eqI (y := nI n) (by rw [eN5, rd_ne (by decide), eN4, rd_ne (by decide), eN3, rd_ne (by decide)]; exact hn) ?_
  refine Go.iconst (v := 1) dX1_note_47 (by decide) ?_
  refine Go.iadd dX1_note_48 ?_
  refine Go.eqI (y := nI (n + 1)) (nI_add _ _) ?_
  refine Go.putI dX1_note_49 fpX1_33 (shp hG rfl) rfl rfl rfl ?_
  refine Go.nmM (fun N6 eN6 => ?_)
  refine Go.aload_n dX1_note_52 rfl ?_
  refine Go.getI dX1_note_53 flX1_33 (shp hG rfl) rfl ?_
  refine Go.eqI (y := nI (n + 1)) (by rw [eN6, rd_eq]; simp [upd]) ?_
  refine Go.iconst (v := 1) dX1_note_56 (by decide) ?_
  refine Go.isub dX1_note_57 ?_
  refine Go.eqI (y := nI n) (nI_pred n) ?_
  refine Go.iret dX1_note_58 rfl rfl ?_
  refine ⟨_, rfl, rfl, ?_⟩
  rw [eN6, eN5, eN4, eN3, ncl (by omega)]
  rfl
set_option maxRecDepth 20000 in
theorem s_haveMeal {G : Gt} {d : Nat} {M : Mm} (hG : gS G = SHAPE) {n : Nat} (hn : M.1 1 7 = nI n) (h30 : n < 30) (k : Int32) {x : Nat} (hx : x < 5120) : ExI G (d + 2) mX1_haveMeal [.ref 1, .int k, .int (nI x)] M (fun r M' => r = nI n ∧ M' = mealM M n k x) := by
  refine Ex.of (by decide) (Nat.le_of_ble_eq_true rfl) ?_
  show Go G (d + 2) mX1_haveMeal 0 [some (.ref 1), some (.int k), some (.int (nI x)), none] [] M _
  refine Go.aload_n dX1_haveMeal_0 rfl ?_
  refine Go.iload_n dX1_haveMeal_1 rfl ?_
  refine Go.iload_n dX1_haveMeal_2 rfl ?_
  refine Go.callVI [] dX1_haveMeal_3 lkX1_85 imX1_note seX1_note cbX1_note (s_note1 hG hn (by omega) k (nI x)) (shp hG rfl) rfl rfl rfl (Nat.le_of_ble_eq_true rfl) (fun r1 M2 hr1 => ?_)
  refine Go.istore_n (ls' := [some (.ref 1), some (.int k), some (.int (nI x)), some (.int r1)]) dX1_haveMeal_6 (Nat.le_of_ble_eq_true rfl) rfl rfl ?_
  refine Go.aload_n dX1_haveMeal_7 rfl ?_
  refine Go.getR dX1_haveMeal_8 flX1_9 (shp hG rfl) rfl ?_
  refine Go.iload_n dX1_haveMeal_11 rfl ?_
  refine Go.callSV [] dX1_haveMeal_12 lkX1_88 stX6_takeFrom cbX6_takeFrom (s_takeFrom (k := 2) (x := x) (shp hG rfl) (by omega)) rfl rfl (Nat.le_of_ble_eq_true rfl) (fun M4 hr3 => ?_)
  refine Go.aload_n dX1_haveMeal_15 rfl ?_
  refine Go.dup dX1_haveMeal_16 rfl ?_
  refine Go.getI dX1_haveMeal_17 flX1_40 (shp hG rfl) rfl ?_
  refine Go.eqI (y := M.1 1 9) (by rw [hr3, hr1.2]; simp [tkM, noteM, upi, seti, upd]) ?_
  refine Go.iconst (v := 1) dX1_haveMeal_20 (by decide) ?_
  refine Go.iadd dX1_haveMeal_21 ?_
  refine Go.putI dX1_haveMeal_22 fpX1_40 (shp hG rfl) rfl rfl rfl ?_
  refine Go.nmM (fun N5 eN5 => ?_)
  refine Go.iload_n dX1_haveMeal_25 rfl ?_
  refine Go.iret dX1_haveMeal_26 rfl rfl ?_
  refine ⟨_, rfl, hr1.1, ?_⟩
  rw [eN5, hr3, hr1.2]
  rfl
set_option maxRecDepth 20000 in
theorem s_decree1 {G : Gt} {d : Nat} {M : Mm} (hG : gS G = SHAPE) {ed w : Nat} (he : ed < 4) (hw : w < 2) (hed : M.1 1 8 = nI ed) (v : Bool) : ExI G (d + 1) mX1_decree [.ref 1, .int (nI w), .int (bi v)] M (fun r M' => r = bi (v != ed.testBit w) ∧ M' = decM M 1 ed w v) := by
  refine Ex.of (by decide) (Nat.le_of_ble_eq_true rfl) ?_
  show Go G (d + 1) mX1_decree 0 [some (.ref 1), some (.int (nI w)), some (.int (bi v)), none] [] M _
  refine Go.aload_n dX1_decree_0 rfl ?_
  refine Go.getI dX1_decree_1 flX1_37 (shp hG rfl) rfl ?_
  refine Go.eqI (y := nI ed) (hed) ?_
  refine Go.iload_n dX1_decree_4 rfl ?_
  refine Go.callSI [] dX1_decree_5 lkX1_55 stX6_hasBit cbX6_hasBit (s_hasBit (nI ed) (nI w)) rfl rfl (Nat.le_of_ble_eq_true rfl) (fun r1 M2 hr1 => ?_)
  obtain ⟨er1, emr1⟩ := hr1
  rw [emr1]
  clear emr1 M2
  subst er1
  refine Go.eqI (y := bi (ed.testBit w)) (by rw [bitI_nI (by omega) (by omega)]) ?_
  refine Go.nmI (fun x3 ex3 => ?_)
  refine Go.istore_n (ls' := [some (.ref 1), some (.int (nI w)), some (.int (bi v)), some (.int x3)]) dX1_decree_8 (Nat.le_of_ble_eq_true rfl) rfl rfl ?_
  refine Go.iload_n dX1_decree_9 rfl ?_
  refine Go.iload_n dX1_decree_10 rfl ?_
  refine Go.icmp_eq 26 dX1_decree_11 rfl (fun h11 => ?_) (fun h11 => ?_)
  · refine Go.iload_n dX1_decree_26 rfl ?_
    refine Go.iload_n dX1_decree_27 rfl ?_
    refine Go.icmp_eq 35 dX1_decree_28 rfl (fun h28 => ?_) (fun h28 => ?_)
    · refine Go.iconst (v := 0) dX1_decree_35 (by decide) ?_
      refine Go.iret dX1_decree_36 rfl (by decide) ?_
      subst ex3
      refine ⟨_, rfl, ?_, ?_⟩
      · have h9 := bi_inj.mp h11
        simp [h9, bi]
      · have h9 := bi_inj.mp h11
        rw [decM, if_pos h9]
    · refine Go.iconst (v := 1) dX1_decree_31 (by decide) ?_
      refine Go.goto 36 dX1_decree_32 rfl ?_
      refine Go.iret dX1_decree_36 rfl (by decide) ?_
      subst ex3
      refine ⟨_, rfl, ?_, ?_⟩
      · exact absurd h11 h28
      · exact absurd h11 h28
  · refine Go.aload_n dX1_decree_14 rfl ?_
    refine Go.dup dX1_decree_15 rfl ?_
    refine Go.getI dX1_decree_16 flX1_37 (shp hG rfl) rfl ?_
    refine Go.eqI (y := nI ed) (hed) ?_
    refine Go.iconst (v := 1) dX1_decree_19 (by decide) ?_
    refine Go.iload_n dX1_decree_20 rfl ?_
    refine Go.ishl dX1_decree_21 ?_
    refine Go.ixor dX1_decree_22 ?_
    refine Go.eqI (y := nI (ed ^^^ 2 ^ w)) (xor_ed ed he w hw) ?_
    refine Go.putI dX1_decree_23 fpX1_37 (shp hG rfl) rfl rfl rfl ?_
    refine Go.nmM (fun N4 eN4 => ?_)
    refine Go.iload_n dX1_decree_26 rfl ?_
    refine Go.iload_n dX1_decree_27 rfl ?_
    refine Go.icmp_eq 35 dX1_decree_28 rfl (fun h28 => ?_) (fun h28 => ?_)
    · refine Go.iconst (v := 0) dX1_decree_35 (by decide) ?_
      refine Go.iret dX1_decree_36 rfl (by decide) ?_
      subst ex3
      refine ⟨_, rfl, ?_, ?_⟩
      · exact absurd h28 h11
      · exact absurd h28 h11
    · refine Go.iconst (v := 1) dX1_decree_31 (by decide) ?_
      refine Go.goto 36 dX1_decree_32 rfl ?_
      refine Go.iret dX1_decree_36 rfl (by decide) ?_
      subst ex3
      refine ⟨_, rfl, ?_, ?_⟩
      · have h9 : ¬ v = ed.testBit w := fun q => h11 (by rw [q])
        simp [h9, bi]
      · have h9 : ¬ v = ed.testBit w := fun q => h11 (by rw [q])
        rw [decM, if_neg h9, eN4]
set_option maxRecDepth 20000 in
theorem s_likedOf1 {G : Gt} {d : Nat} {M : Mm} (hG : gS G = SHAPE) {w : Nat} (hw : w < 3) : ExR G (d) mX1_likedOf [.ref 1, .int (nI w)] M (fun r M' => r = 3 + w ∧ M' = M) := by
  refine Ex.of (by decide) (Nat.le_of_ble_eq_true rfl) ?_
  show Go G (d) mX1_likedOf 0 [some (.ref 1), some (.int (nI w))] [] M _
  refine Go.iload_n dX1_likedOf_0 rfl ?_
  refine Go.if_ne 9 dX1_likedOf_1 rfl (fun h1 => ?_) (fun h1 => ?_)
  · have n1 : ¬ w = 0 := fun q => h1 ((nI_inj (a := w) (b := 0) (by omega) (by omega)).mpr q)
    refine Go.iload_n dX1_likedOf_9 rfl ?_
    refine Go.iconst (v := 1) dX1_likedOf_10 (by decide) ?_
    refine Go.icmp_ne 21 dX1_likedOf_11 rfl (fun h11 => ?_) (fun h11 => ?_)
    · have n11 : ¬ w = 1 := fun q => h11 ((nI_inj (a := w) (b := 1) (by omega) (by omega)).mpr q)
      refine Go.aload_n dX1_likedOf_21 rfl ?_
      refine Go.getR dX1_likedOf_22 flX1_21 (shp hG rfl) rfl ?_
      refine Go.aret dX1_likedOf_25 rfl ?_
      exact ⟨_, rfl, by omega, rfl⟩
    · have n11 : w = 1 := (nI_inj (a := w) (b := 1) (by omega) (by omega)).mp h11
      refine Go.aload_n dX1_likedOf_14 rfl ?_
      refine Go.getR dX1_likedOf_15 flX1_18 (shp hG rfl) rfl ?_
      refine Go.goto 25 dX1_likedOf_18 rfl ?_
      refine Go.aret dX1_likedOf_25 rfl ?_
      exact ⟨_, rfl, by omega, rfl⟩
  · have n1 : w = 0 := (nI_inj (a := w) (b := 0) (by omega) (by omega)).mp h1
    refine Go.aload_n dX1_likedOf_4 rfl ?_
    refine Go.getR dX1_likedOf_5 flX1_15 (shp hG rfl) rfl ?_
    refine Go.aret dX1_likedOf_8 rfl ?_
    exact ⟨_, rfl, by omega, rfl⟩
set_option maxRecDepth 20000 in
theorem s_decree17 {G : Gt} {d : Nat} {M : Mm} (hG : gS G = SHAPE) {ed w : Nat} (he : ed < 4) (hw : w < 2) (hed : M.1 17 8 = nI ed) (v : Bool) : ExI G (d + 1) mX1_decree [.ref 17, .int (nI w), .int (bi v)] M (fun r M' => r = bi (v != ed.testBit w) ∧ M' = decM M 17 ed w v) := by
  refine Ex.of (by decide) (Nat.le_of_ble_eq_true rfl) ?_
  show Go G (d + 1) mX1_decree 0 [some (.ref 17), some (.int (nI w)), some (.int (bi v)), none] [] M _
  refine Go.aload_n dX1_decree_0 rfl ?_
  refine Go.getI dX1_decree_1 flX1_37 (shp hG rfl) rfl ?_
  refine Go.eqI (y := nI ed) (hed) ?_
  refine Go.iload_n dX1_decree_4 rfl ?_
  refine Go.callSI [] dX1_decree_5 lkX1_55 stX6_hasBit cbX6_hasBit (s_hasBit (nI ed) (nI w)) rfl rfl (Nat.le_of_ble_eq_true rfl) (fun r1 M2 hr1 => ?_)
  obtain ⟨er1, emr1⟩ := hr1
  rw [emr1]
  clear emr1 M2
  subst er1
  refine Go.eqI (y := bi (ed.testBit w)) (by rw [bitI_nI (by omega) (by omega)]) ?_
  refine Go.nmI (fun x3 ex3 => ?_)
  refine Go.istore_n (ls' := [some (.ref 17), some (.int (nI w)), some (.int (bi v)), some (.int x3)]) dX1_decree_8 (Nat.le_of_ble_eq_true rfl) rfl rfl ?_
  refine Go.iload_n dX1_decree_9 rfl ?_
  refine Go.iload_n dX1_decree_10 rfl ?_
  refine Go.icmp_eq 26 dX1_decree_11 rfl (fun h11 => ?_) (fun h11 => ?_)
  · refine Go.iload_n dX1_decree_26 rfl ?_
    refine Go.iload_n dX1_decree_27 rfl ?_
    refine Go.icmp_eq 35 dX1_decree_28 rfl (fun h28 => ?_) (fun h28 => ?_)
    · refine Go.iconst (v := 0) dX1_decree_35 (by decide) ?_
      refine Go.iret dX1_decree_36 rfl (by decide) ?_
      subst ex3
      refine ⟨_, rfl, ?_, ?_⟩
      · have h9 := bi_inj.mp h11
        simp [h9, bi]
      · have h9 := bi_inj.mp h11
        rw [decM, if_pos h9]
    · refine Go.iconst (v := 1) dX1_decree_31 (by decide) ?_
      refine Go.goto 36 dX1_decree_32 rfl ?_
      refine Go.iret dX1_decree_36 rfl (by decide) ?_
      subst ex3
      refine ⟨_, rfl, ?_, ?_⟩
      · exact absurd h11 h28
      · exact absurd h11 h28
  · refine Go.aload_n dX1_decree_14 rfl ?_
    refine Go.dup dX1_decree_15 rfl ?_
    refine Go.getI dX1_decree_16 flX1_37 (shp hG rfl) rfl ?_
    refine Go.eqI (y := nI ed) (hed) ?_
    refine Go.iconst (v := 1) dX1_decree_19 (by decide) ?_
    refine Go.iload_n dX1_decree_20 rfl ?_
    refine Go.ishl dX1_decree_21 ?_
    refine Go.ixor dX1_decree_22 ?_
    refine Go.eqI (y := nI (ed ^^^ 2 ^ w)) (xor_ed ed he w hw) ?_
    refine Go.putI dX1_decree_23 fpX1_37 (shp hG rfl) rfl rfl rfl ?_
    refine Go.nmM (fun N4 eN4 => ?_)
    refine Go.iload_n dX1_decree_26 rfl ?_
    refine Go.iload_n dX1_decree_27 rfl ?_
    refine Go.icmp_eq 35 dX1_decree_28 rfl (fun h28 => ?_) (fun h28 => ?_)
    · refine Go.iconst (v := 0) dX1_decree_35 (by decide) ?_
      refine Go.iret dX1_decree_36 rfl (by decide) ?_
      subst ex3
      refine ⟨_, rfl, ?_, ?_⟩
      · exact absurd h28 h11
      · exact absurd h28 h11
    · refine Go.iconst (v := 1) dX1_decree_31 (by decide) ?_
      refine Go.goto 36 dX1_decree_32 rfl ?_
      refine Go.iret dX1_decree_36 rfl (by decide) ?_
      subst ex3
      refine ⟨_, rfl, ?_, ?_⟩
      · have h9 : ¬ v = ed.testBit w := fun q => h11 (by rw [q])
        simp [h9, bi]
      · have h9 : ¬ v = ed.testBit w := fun q => h11 (by rw [q])
        rw [decM, if_neg h9, eN4]
set_option maxRecDepth 20000 in
theorem s_likedOf17 {G : Gt} {d : Nat} {M : Mm} (hG : gS G = SHAPE) {w : Nat} (hw : w < 3) : ExR G (d) mX1_likedOf [.ref 17, .int (nI w)] M (fun r M' => r = 19 + w ∧ M' = M) := by
  refine Ex.of (by decide) (Nat.le_of_ble_eq_true rfl) ?_
  show Go G (d) mX1_likedOf 0 [some (.ref 17), some (.int (nI w))] [] M _
  refine Go.iload_n dX1_likedOf_0 rfl ?_
  refine Go.if_ne 9 dX1_likedOf_1 rfl (fun h1 => ?_) (fun h1 => ?_)
  · have n1 : ¬ w = 0 := fun q => h1 ((nI_inj (a := w) (b := 0) (by omega) (by omega)).mpr q)
    refine Go.iload_n dX1_likedOf_9 rfl ?_
    refine Go.iconst (v := 1) dX1_likedOf_10 (by decide) ?_
    refine Go.icmp_ne 21 dX1_likedOf_11 rfl (fun h11 => ?_) (fun h11 => ?_)
    · have n11 : ¬ w = 1 := fun q => h11 ((nI_inj (a := w) (b := 1) (by omega) (by omega)).mpr q)
      refine Go.aload_n dX1_likedOf_21 rfl ?_
      refine Go.getR dX1_likedOf_22 flX1_21 (shp hG rfl) rfl ?_
      refine Go.aret dX1_likedOf_25 rfl ?_
      exact ⟨_, rfl, by omega, rfl⟩
    · have n11 : w = 1 := (nI_inj (a := w) (b := 1) (by omega) (by omega)).mp h11
      refine Go.aload_n dX1_likedOf_14 rfl ?_
      refine Go.getR dX1_likedOf_15 flX1_18 (shp hG rfl) rfl ?_
      refine Go.goto 25 dX1_likedOf_18 rfl ?_
      refine Go.aret dX1_likedOf_25 rfl ?_
      exact ⟨_, rfl, by omega, rfl⟩
  · have n1 : w = 0 := (nI_inj (a := w) (b := 0) (by omega) (by omega)).mp h1
    refine Go.aload_n dX1_likedOf_4 rfl ?_
    refine Go.getR dX1_likedOf_5 flX1_15 (shp hG rfl) rfl ?_
    refine Go.aret dX1_likedOf_8 rfl ?_
    exact ⟨_, rfl, by omega, rfl⟩
set_option maxRecDepth 20000 in
theorem s_canServe {G : Gt} {d : Nat} {M : Mm} (hG : gS G = SHAPE) {n : Nat} {K X : Nat → Nat} {ed : Nat} (hB : Bk M 1 n K X ed) {k x : Nat} (hk : k < 6) (hx : okD x = true) : ExI G (d + 5) mX1_canServe [.ref 1, .int (nI k), .int (nI x)] M (fun r M' => r = bi (canN (M.1 2) (x / 20) && (decide (k = 2) || newN n K X ed x)) ∧ M' = M) := by
  have hn := hB.1
  have hed := hB.2.1
  refine Ex.of (by decide) (Nat.le_of_ble_eq_true rfl) ?_
  show Go G (d + 5) mX1_canServe 0 [some (.ref 1), some (.int (nI k)), some (.int (nI x))] [] M _
  refine Go.aload_n dX1_canServe_0 rfl ?_
  refine Go.iload_n dX1_canServe_1 rfl ?_
  refine Go.callVI [] dX1_canServe_2 lkX1_77 imX1_canBe seX1_canBe cbX1_canBe (s_canBe hG (x := x) hx) (shp hG rfl) rfl rfl rfl (Nat.le_of_ble_eq_true rfl) (fun r1 M2 hr1 => ?_)
  obtain ⟨er1, emr1⟩ := hr1
  rw [emr1]
  clear emr1 M2
  subst er1
  refine Go.if_eq 29 dX1_canServe_5 rfl (fun h5 => ?_) (fun h5 => ?_)
  · refine Go.iconst (v := 0) dX1_canServe_29 (by decide) ?_
    refine Go.iret dX1_canServe_30 rfl (by decide) ?_
    refine ⟨_, rfl, ?_, rfl⟩
    rw [bi_0.mp h5]
    rfl
  · refine Go.iload_n dX1_canServe_8 rfl ?_
    refine Go.iconst (v := 2) dX1_canServe_9 (by decide) ?_
    refine Go.icmp_eq 25 dX1_canServe_10 rfl (fun h10 => ?_) (fun h10 => ?_)
    · have n10 : k = 2 := (nI_inj (a := k) (b := 2) (by omega) (by omega)).mp h10
      refine Go.iconst (v := 1) dX1_canServe_25 (by decide) ?_
      refine Go.goto 30 dX1_canServe_26 rfl ?_
      refine Go.iret dX1_canServe_30 rfl (by decide) ?_
      refine ⟨_, rfl, ?_, rfl⟩
      rw [bi_n0.mp h5]
      simp [n10, bi]
    · have n10 : ¬ k = 2 := fun q => h10 ((nI_inj (a := k) (b := 2) (by omega) (by omega)).mpr q)
      refine Go.aload_n dX1_canServe_13 rfl ?_
      refine Go.iload_n dX1_canServe_14 rfl ?_
      refine Go.aload_n dX1_canServe_15 rfl ?_
      refine Go.getI dX1_canServe_16 flX1_33 (shp hG rfl) rfl ?_
      refine Go.eqI (y := nI n) (hB.2.2.1) ?_
      refine Go.callVI [] dX1_canServe_19 lkX1_73 imX1_firstBarring seX1_firstBarring cbX1_firstBarring (s_firstBarring hG hB (x := x) (a := n) hx (by omega)) (shp hG rfl) rfl rfl rfl (Nat.le_of_ble_eq_true rfl) (fun r3 M4 hr3 => ?_)
      obtain ⟨er3, emr3⟩ := hr3
      rw [emr3]
      clear emr3 M4
      subst er3
      refine Go.if_ge 29 dX1_canServe_22 rfl (fun h22 => ?_) (fun h22 => ?_)
      · refine Go.iconst (v := 0) dX1_canServe_29 (by decide) ?_
        refine Go.iret dX1_canServe_30 rfl (by decide) ?_
        refine ⟨_, rfl, ?_, rfl⟩
        have h9 := optI_neg (fst_lt (p := barB K X ed x) hn)
        rw [bi_n0.mp h5]
        have h8 := h9.2.mp h22
        simp [n10, newN, bi, Option.isNone_iff_eq_none, h8]
      · refine Go.iconst (v := 1) dX1_canServe_25 (by decide) ?_
        refine Go.goto 30 dX1_canServe_26 rfl ?_
        refine Go.iret dX1_canServe_30 rfl (by decide) ?_
        refine ⟨_, rfl, ?_, rfl⟩
        have h9 := optI_neg (fst_lt (p := barB K X ed x) hn)
        rw [bi_n0.mp h5]
        have h8 := h9.1.mp (i_nle h22)
        simp [newN, bi, h8]
