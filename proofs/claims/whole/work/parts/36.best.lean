set_option maxRecDepth 20000 in
theorem m_isGood {G : Gt} {d : Nat} {M : Mm} (hG : gS G = SHAPE) (hS : MdS M) {c : Nat → Nat} (hM : MarkIs M c) {p : Nat} (hp : p < 1840) : ExI G (d + 2) mX7_isGood [.ref 49, .int (nI p)] M (fun r M' => r = bi (goodP (M.1 50) c (dishN p)) ∧ M' = M) := by
  have hd5 := dishN_lt hp
  refine Ex.of (by decide) (Nat.le_of_ble_eq_true rfl) ?_
  show Go G (d + 2) mX7_isGood 0 [some (.ref 49), some (.int (nI p))] [] M _
  refine Go.aload_n dX7_isGood_0 rfl ?_
  refine Go.getR dX7_isGood_1 flX7_37 (shp hG rfl) rfl ?_
  refine Go.iload_n dX7_isGood_4 rfl ?_
  refine Go.zald dX7_isGood_5 (shp hG rfl) (vin (by omega) (by decide)) ?_
  refine Go.eqI (y := bi (decide (1 ≤ c (dishN p)))) (by rw [ncl (by omega)]; exact hM _ (by omega)) ?_
  refine Go.if_ne 25 dX7_isGood_6 rfl (fun h6 => ?_) (fun h6 => ?_)
  · refine Go.iconst (v := 0) dX7_isGood_25 (by decide) ?_
    refine Go.iret dX7_isGood_26 rfl (by decide) ?_
    refine ⟨_, rfl, ?_, rfl⟩
    unfold goodP
    have h9 : 1 ≤ c (dishN p) := by simpa using bi_n0.mp h6
    have h8 : ¬ c (dishN p) = 0 := by omega
    simp [h8, bi]
  · refine Go.aload_n dX7_isGood_9 rfl ?_
    refine Go.aload_n dX7_isGood_10 rfl ?_
    refine Go.iload_n dX7_isGood_11 rfl ?_
    refine Go.callVI [.ref 49] dX7_isGood_12 lkX7_150 imX7_dishAt seX7_dishAt cbX7_dishAt (m_dishAt hG hS (p := p) (by omega)) (shp hG rfl) rfl rfl rfl (Nat.le_of_ble_eq_true rfl) (fun r1 M2 hr1 => ?_)
    obtain ⟨er1, emr1⟩ := hr1
    rw [emr1]
    clear emr1 M2
    subst er1
    refine Go.callVI [] dX7_isGood_15 lkX7_137 imX7_canBe seX7_canBe cbX7_canBe (m_canBe hG (x := dishN p) (by omega)) (shp hG rfl) rfl rfl rfl (Nat.le_of_ble_eq_true rfl) (fun r3 M4 hr3 => ?_)
    obtain ⟨er3, emr3⟩ := hr3
    rw [emr3]
    clear emr3 M4
    subst er3
    refine Go.if_eq 25 dX7_isGood_18 rfl (fun h18 => ?_) (fun h18 => ?_)
    · refine Go.iconst (v := 0) dX7_isGood_25 (by decide) ?_
      refine Go.iret dX7_isGood_26 rfl (by decide) ?_
      refine ⟨_, rfl, ?_, rfl⟩
      unfold goodP
      rw [bi_0.mp h18]
      rfl
    · refine Go.iconst (v := 1) dX7_isGood_21 (by decide) ?_
      refine Go.goto 26 dX7_isGood_22 rfl ?_
      refine Go.iret dX7_isGood_26 rfl (by decide) ?_
      refine ⟨_, rfl, ?_, rfl⟩
      unfold goodP
      have h9 : ¬ 1 ≤ c (dishN p) := by simpa using bi_0.mp h6
      have h8 : c (dishN p) = 0 := by omega
      rw [bi_n0.mp h18]
      simp [h8, bi]
set_option maxRecDepth 20000 in
theorem l_newMany {G : Gt} {d : Nat} {M : Mm} (hG : gS G = SHAPE) (hS : MdS M) {c : Nat → Nat} (hM : MarkIs M c) : ∀ (n i : Nat), i + n = 1840 → Go G (d + 4) mX7_newMany 8 [some (.ref 49), some (.int (nI (cntN (fun p => decide (c (dishN p) = 0)) i))), some (.int (nI i))] [] M (fun v M' => ∃ r, v = some (.int r) ∧ r = nI (cntN (fun p => decide (c (dishN p) = 0)) 1840) ∧ M' = M) := by
  intro n
  induction n with
  | zero =>
    intro i  hin
    refine Go.iload_n dX7_newMany_8 rfl ?_
    refine Go.sipush (v := 1840) dX7_newMany_9 (by decide) ?_
    refine Go.icmp_ge 38 dX7_newMany_12 rfl (fun _ => ?_) (fun h12 => absurd (nI_le (a := 1840) (b := i) (by omega) (by omega)) h12)
    refine Go.iload_n dX7_newMany_38 rfl ?_
    refine Go.iret dX7_newMany_39 rfl rfl ?_
    have e9 : i = 1840 := by omega
    subst e9
    exact ⟨_, rfl, rfl, rfl⟩
  | succ n ih =>
    intro i  hin
    have hi : i < 1840 := by omega
    refine Go.iload_n dX7_newMany_8 rfl ?_
    refine Go.sipush (v := 1840) dX7_newMany_9 (by decide) ?_
    refine Go.icmp_ge 38 dX7_newMany_12 rfl (fun h12 => absurd h12 (nI_ge (a := i) (b := 1840) (by omega) (by omega))) (fun _ => ?_)
    refine Go.iload_n dX7_newMany_15 rfl ?_
    refine Go.aload_n dX7_newMany_16 rfl ?_
    refine Go.getR dX7_newMany_17 flX7_37 (shp hG rfl) rfl ?_
    refine Go.iload_n dX7_newMany_20 rfl ?_
    refine Go.zald dX7_newMany_21 (shp hG rfl) (vin (by omega) (by decide)) ?_
    refine Go.eqI (y := bi (decide (1 ≤ c (dishN i)))) (by rw [ncl (by omega)]; exact hM _ (by omega)) ?_
    refine Go.if_eq 29 dX7_newMany_22 rfl (fun h22 => ?_) (fun h22 => ?_)
    · refine Go.iconst (v := 1) dX7_newMany_29 (by decide) ?_
      refine Go.iadd dX7_newMany_30 ?_
      refine Go.eqI (y := nI (cntN (fun p => decide (c (dishN p) = 0)) i + 1)) (nI_add _ _) ?_
      refine Go.istore_n (ls' := [some (.ref 49), some (.int (nI (cntN (fun p => decide (c (dishN p) = 0)) i + 1))), some (.int (nI i))]) dX7_newMany_31 (Nat.le_of_ble_eq_true rfl) rfl rfl ?_
      refine Go.iinc (v := nI (i + 1)) (ls' := [some (.ref 49), some (.int (nI (cntN (fun p => decide (c (dishN p) = 0)) i + 1))), some (.int (nI (i + 1)))]) dX7_newMany_32 rfl (nI_1 _) rfl rfl ?_
      refine Go.goto 8 dX7_newMany_35 rfl ?_
      have h9 : ¬ 1 ≤ c (dishN i) := by simpa using bi_0.mp h22
      have h8 : decide (c (dishN i) = 0) = true := decide_eq_true (by omega)
      rw [cnt_t (p := fun p => decide (c (dishN p) = 0)) (i := i) h8]
      exact ih (i + 1) (by omega)
    · refine Go.iconst (v := 0) dX7_newMany_25 (by decide) ?_
      refine Go.goto 30 dX7_newMany_26 rfl ?_
      refine Go.iadd dX7_newMany_30 ?_
      refine Go.eqI (y := nI (cntN (fun p => decide (c (dishN p) = 0)) i + 0)) (nI_add _ _) ?_
      refine Go.istore_n (ls' := [some (.ref 49), some (.int (nI (cntN (fun p => decide (c (dishN p) = 0)) i + 0))), some (.int (nI i))]) dX7_newMany_31 (Nat.le_of_ble_eq_true rfl) rfl rfl ?_
      refine Go.iinc (v := nI (i + 1)) (ls' := [some (.ref 49), some (.int (nI (cntN (fun p => decide (c (dishN p) = 0)) i + 0))), some (.int (nI (i + 1)))]) dX7_newMany_32 rfl (nI_1 _) rfl rfl ?_
      refine Go.goto 8 dX7_newMany_35 rfl ?_
      have h9 : 1 ≤ c (dishN i) := by simpa using bi_n0.mp h22
      have h8 : decide (c (dishN i) = 0) = false := decide_eq_false (by omega)
      rw [show nI (cntN (fun p => decide (c (dishN p) = 0)) i + 0) = nI (cntN (fun p => decide (c (dishN p) = 0)) (i + 1)) from cnt_f (p := fun p => decide (c (dishN p) = 0)) h8]
      exact ih (i + 1) (by omega)
set_option maxRecDepth 20000 in
theorem m_newMany {G : Gt} {d : Nat} {M : Mm} (hG : gS G = SHAPE) {n9 : Nat} {K X : Nat → Nat} {ed : Nat} (hB0 : BkM M n9 K X ed) (hS0 : MdS M) : ExI G (d + 4) mX7_newMany [.ref 49] M (fun r M' => r = nI (cntN (fun p => decide (cB n9 K X ed (dishN p) = 0)) 1840) ∧ MarkIs M' (cB n9 K X ed) ∧ Same [59] M M') := by
  refine Ex.of (by decide) (Nat.le_of_ble_eq_true rfl) ?_
  show Go G (d + 4) mX7_newMany 0 [some (.ref 49), none, none] [] M _
  refine Go.aload_n dX7_newMany_0 rfl ?_
  refine Go.callVV [] dX7_newMany_1 lkX7_153 imX7_marks seX7_marks cbX7_marks (m_marks hG hB0 hS0) (shp hG rfl) rfl rfl rfl (Nat.le_of_ble_eq_true rfl) (fun M2 hr1 => ?_)
  refine Go.iconst (v := 0) dX7_newMany_4 (by decide) ?_
  refine Go.istore_n (ls' := [some (.ref 49), some (.int 0), none]) dX7_newMany_5 (Nat.le_of_ble_eq_true rfl) rfl rfl ?_
  refine Go.iconst (v := 0) dX7_newMany_6 (by decide) ?_
  refine Go.istore_n (ls' := [some (.ref 49), some (.int 0), some (.int 0)]) dX7_newMany_7 (Nat.le_of_ble_eq_true rfl) rfl rfl ?_
  have h9 := l_newMany (d := d) hG (hS0.same (hr1.2.1 57 (by decide)) (hr1.2.1 58 (by decide))) hr1.1 1840 0 (by omega)
  exact h9.mono (fun v M5 ⟨r, e1, e2, e3⟩ => ⟨r, e1, e2, by rw [e3]; exact hr1⟩)
