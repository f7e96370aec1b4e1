theorem okS_pop : ∀ s, s < 256 → okS s = (decide (0 < s) && decide (pop8 s ≤ 3)) := by decide +kernel
theorem inI_mid {j L N : Nat} (h1 : L ≤ j) (h2 : j ≤ N) (hN : N < 2 ^ 31) : inI (nI j) (nI L) (nI N) = true := by
  have a1 : nI L ≤ nI j := (nI_leI (by omega) (by omega)).mpr h1
  have a2 : nI j ≤ nI N := (nI_leI (by omega) hN).mpr h2
  simp [inI, a1, a2]
theorem inI_five {k : Int32} : inI k 0 4 = inb k 5 := by
  unfold inI inb
  congr 1
  rw [Bool.eq_iff_iff, decide_eq_true_eq, decide_eq_true_eq, i_le, i_lt]
  have e1 : (4 : Int32).toInt = 4 := by decide
  have e2 : (5 : Int32).toInt = 5 := by decide
  omega
theorem inI_four {k : Int32} : inI k 0 3 = inb k 4 := by
  unfold inI inb
  congr 1
  rw [Bool.eq_iff_iff, decide_eq_true_eq, decide_eq_true_eq, i_le, i_lt]
  have e1 : (3 : Int32).toInt = 3 := by decide
  have e2 : (4 : Int32).toInt = 4 := by decide
  omega
theorem isSet_in {s : Int32} (h : isSetI s = true) : inI s 1 255 = true := by
  obtain ⟨j, h1, h2, h3⟩ := isSetI_ok h
  subst h2
  exact inI_mid (j := j) (L := 1) (N := 255) (by have := okS_lt h3; omega) (by omega) (by decide)
def A_dish (g : Sg) (s w c : Int32) : Int32 × Sg := if isSetI s && (inb w 5 && inb c 4) then (20 * s + 4 * w + c, g) else (-1000000001, fndS g 0)
set_option maxRecDepth 20000 in
theorem c_dish {G : Gt} {d : Nat} {M : Mm} (hG : gS G = SHAPE) {g : Sg} (hC : CompIs M g) (hg : SgOk g) (s0 w0 c0 : Int32) : ExI G (d + 2) mX6_dish [.ref 0, .int s0, .int w0, .int c0] M (fun r M' => r = (A_dish g s0 w0 c0).1 ∧ CompIs M' (A_dish g s0 w0 c0).2 ∧ MSame M M') := by
  refine Ex.of (by decide) (Nat.le_of_ble_eq_true rfl) ?_
  show Go G (d + 2) mX6_dish 0 [some (.ref 0), some (.int s0), some (.int w0), some (.int c0)] [] M _
  by_cases hgd : (isSetI s0 && (inb w0 5 && inb c0 4)) = true
  · rw [Bool.and_eq_true, Bool.and_eq_true] at hgd
    refine Go.iload_n dX6_dish_0 rfl ?_
    refine Go.callSI [] dX6_dish_1 lkX6_78 stX6_isSet cbX6_isSet (s_isSet s0) rfl rfl (Nat.le_of_ble_eq_true rfl) (fun r1 M2 hr1 => ?_)
    obtain ⟨er1, emr1⟩ := hr1
    rw [emr1]
    clear emr1 M2
    subst er1
    refine Go.eqI (y := 1) (by rw [hgd.1]; rfl) ?_
    refine Go.if_eq 23 dX6_dish_4 rfl (fun h4 => absurd h4 (by decide)) (fun _ => ?_)
    refine Go.iload_n dX6_dish_7 rfl ?_
    refine Go.iconst (v := 5) dX6_dish_8 (by decide) ?_
    refine Go.callSI [] dX6_dish_9 lkX6_58 stX6_isBelow cbX6_isBelow (s_isBelow w0 5) rfl rfl (Nat.le_of_ble_eq_true rfl) (fun r3 M4 hr3 => ?_)
    obtain ⟨er3, emr3⟩ := hr3
    rw [emr3]
    clear emr3 M4
    subst er3
    refine Go.eqI (y := 1) (by rw [hgd.2.1]; rfl) ?_
    refine Go.if_eq 23 dX6_dish_12 rfl (fun h12 => absurd h12 (by decide)) (fun _ => ?_)
    refine Go.iload_n dX6_dish_15 rfl ?_
    refine Go.iconst (v := 4) dX6_dish_16 (by decide) ?_
    refine Go.callSI [] dX6_dish_17 lkX6_58 stX6_isBelow cbX6_isBelow (s_isBelow c0 4) rfl rfl (Nat.le_of_ble_eq_true rfl) (fun r5 M6 hr5 => ?_)
    obtain ⟨er5, emr5⟩ := hr5
    rw [emr5]
    clear emr5 M6
    subst er5
    refine Go.eqI (y := 1) (by rw [hgd.2.2]; rfl) ?_
    refine Go.if_ne 30 dX6_dish_20 rfl (fun _ => ?_) (fun h20 => absurd h20 (by decide))
    refine Go.iload_n dX6_dish_30 rfl ?_
    refine Go.iload_n dX6_dish_31 rfl ?_
    refine Go.iload_n dX6_dish_32 rfl ?_
    refine Go.callSI [] dX6_dish_33 lkX6_82 stX6_dishNumber cbX6_dishNumber (s_dishNumber s0 w0 c0) rfl rfl (Nat.le_of_ble_eq_true rfl) (fun r7 M8 hr7 => ?_)
    obtain ⟨er7, emr7⟩ := hr7
    rw [emr7]
    clear emr7 M8
    subst er7
    refine Go.iret dX6_dish_36 rfl rfl ?_
    refine ⟨_, rfl, ?_⟩
    rw [show A_dish g s0 w0 c0 = (20 * s0 + 4 * w0 + c0, g) from if_pos (by rw [hgd.1, hgd.2.1, hgd.2.2]; rfl)]
    exact ⟨rfl, hC, MSame.refl M⟩
  · refine Go.iload_n dX6_dish_0 rfl ?_
    refine Go.callSI [] dX6_dish_1 lkX6_78 stX6_isSet cbX6_isSet (s_isSet s0) rfl rfl (Nat.le_of_ble_eq_true rfl) (fun r1 M2 hr1 => ?_)
    obtain ⟨er1, emr1⟩ := hr1
    rw [emr1]
    clear emr1 M2
    subst er1
    refine Go.if_eq 23 dX6_dish_4 rfl (fun h4 => ?_) (fun h4 => ?_)
    · refine Go.aload_n dX6_dish_23 rfl ?_
      refine Go.ldc dX6_dish_24 kcX6_62 ?_
      refine Go.callVI [] dX6_dish_26 lkX6_63 imX6_finding seX6_finding cbX6_finding (s_finding hG (code := (-1000000001)) (q := 0) (by decide) (by decide)) (shp hG rfl) rfl rfl rfl (Nat.le_of_ble_eq_true rfl) (fun r3 M4 hr3 => ?_)
      refine Go.iret dX6_dish_29 rfl rfl ?_
      refine ⟨_, rfl, ?_⟩
      rw [show A_dish g s0 w0 c0 = ((-1000000001), fndS g 0) from if_neg hgd, hr3.2]
      exact ⟨hr3.1, hC.fnd⟩
    · refine Go.iload_n dX6_dish_7 rfl ?_
      refine Go.iconst (v := 5) dX6_dish_8 (by decide) ?_
      refine Go.callSI [] dX6_dish_9 lkX6_58 stX6_isBelow cbX6_isBelow (s_isBelow w0 5) rfl rfl (Nat.le_of_ble_eq_true rfl) (fun r5 M6 hr5 => ?_)
      obtain ⟨er5, emr5⟩ := hr5
      rw [emr5]
      clear emr5 M6
      subst er5
      refine Go.if_eq 23 dX6_dish_12 rfl (fun h12 => ?_) (fun h12 => ?_)
      · refine Go.aload_n dX6_dish_23 rfl ?_
        refine Go.ldc dX6_dish_24 kcX6_62 ?_
        refine Go.callVI [] dX6_dish_26 lkX6_63 imX6_finding seX6_finding cbX6_finding (s_finding hG (code := (-1000000001)) (q := 0) (by decide) (by decide)) (shp hG rfl) rfl rfl rfl (Nat.le_of_ble_eq_true rfl) (fun r7 M8 hr7 => ?_)
        refine Go.iret dX6_dish_29 rfl rfl ?_
        refine ⟨_, rfl, ?_⟩
        rw [show A_dish g s0 w0 c0 = ((-1000000001), fndS g 0) from if_neg hgd, hr7.2]
        exact ⟨hr7.1, hC.fnd⟩
      · refine Go.iload_n dX6_dish_15 rfl ?_
        refine Go.iconst (v := 4) dX6_dish_16 (by decide) ?_
        refine Go.callSI [] dX6_dish_17 lkX6_58 stX6_isBelow cbX6_isBelow (s_isBelow c0 4) rfl rfl (Nat.le_of_ble_eq_true rfl) (fun r9 M10 hr9 => ?_)
        obtain ⟨er9, emr9⟩ := hr9
        rw [emr9]
        clear emr9 M10
        subst er9
        refine Go.if_ne 30 dX6_dish_20 rfl (fun h20 => ?_) (fun h20 => ?_)
        · exact absurd (by simp [bi_n0.mp h4, bi_n0.mp h12, bi_n0.mp h20]) hgd
        · refine Go.aload_n dX6_dish_23 rfl ?_
          refine Go.ldc dX6_dish_24 kcX6_62 ?_
          refine Go.callVI [] dX6_dish_26 lkX6_63 imX6_finding seX6_finding cbX6_finding (s_finding hG (code := (-1000000001)) (q := 0) (by decide) (by decide)) (shp hG rfl) rfl rfl rfl (Nat.le_of_ble_eq_true rfl) (fun r11 M12 hr11 => ?_)
          refine Go.iret dX6_dish_29 rfl rfl ?_
          refine ⟨_, rfl, ?_⟩
          rw [show A_dish g s0 w0 c0 = ((-1000000001), fndS g 0) from if_neg hgd, hr11.2]
          exact ⟨hr11.1, hC.fnd⟩
set_option maxRecDepth 20000 in
theorem m_dish {G : Gt} {d : Nat} {M : Mm} (hG : gS G = SHAPE) {g : Sg} (hC : ModIs M g) (hg : SgOk g) (s0 w0 c0 : Int32) : ExI G (d + 1) mX7_dish [.ref 49, .int s0, .int w0, .int c0] M (fun r M' => r = (A_dish g s0 w0 c0).1 ∧ ModIs M' (A_dish g s0 w0 c0).2 ∧ CSame M M') := by
  refine Ex.of (by decide) (Nat.le_of_ble_eq_true rfl) ?_
  show Go G (d + 1) mX7_dish 0 [some (.ref 49), some (.int s0), some (.int w0), some (.int c0), none] [] M _
  by_cases hgd : (isSetI s0 && (inb w0 5 && inb c0 4)) = true
  · rw [Bool.and_eq_true, Bool.and_eq_true] at hgd
    obtain ⟨s, hs, es, hso⟩ := isSetI_ok hgd.1
    subst es
    have hp3 : pop8 s ≤ 3 := by
      have h9 := okS_pop s hs
      rw [hso] at h9
      have h8 := h9.symm
      rw [Bool.and_eq_true] at h8
      exact of_decide_eq_true h8.2
    refine Go.iload_n dX7_dish_0 rfl ?_
    refine Go.iconst (v := 1) dX7_dish_1 (by decide) ?_
    refine Go.sipush (v := 255) dX7_dish_2 (by decide) ?_
    refine Go.callSI [] dX7_dish_5 lkX7_86 stX7_in cbX7_in (m_in (nI s) 1 255) rfl rfl (Nat.le_of_ble_eq_true rfl) (fun r1 M2 hr1 => ?_)
    obtain ⟨er1, emr1⟩ := hr1
    rw [emr1]
    clear emr1 M2
    subst er1
    refine Go.eqI (y := 1) (by rw [isSet_in hgd.1]; rfl) ?_
    refine Go.if_eq 33 dX7_dish_8 rfl (fun h8 => absurd h8 (by decide)) (fun _ => ?_)
    refine Go.iload_n dX7_dish_11 rfl ?_
    refine Go.iconst (v := 0) dX7_dish_12 (by decide) ?_
    refine Go.iconst (v := 4) dX7_dish_13 (by decide) ?_
    refine Go.callSI [] dX7_dish_14 lkX7_86 stX7_in cbX7_in (m_in w0 0 4) rfl rfl (Nat.le_of_ble_eq_true rfl) (fun r3 M4 hr3 => ?_)
    obtain ⟨er3, emr3⟩ := hr3
    rw [emr3]
    clear emr3 M4
    subst er3
    refine Go.eqI (y := 1) (by rw [inI_five, hgd.2.1]; rfl) ?_
    refine Go.if_eq 33 dX7_dish_17 rfl (fun h17 => absurd h17 (by decide)) (fun _ => ?_)
    refine Go.iload_n dX7_dish_20 rfl ?_
    refine Go.iconst (v := 0) dX7_dish_21 (by decide) ?_
    refine Go.iconst (v := 3) dX7_dish_22 (by decide) ?_
    refine Go.callSI [] dX7_dish_23 lkX7_86 stX7_in cbX7_in (m_in c0 0 3) rfl rfl (Nat.le_of_ble_eq_true rfl) (fun r5 M6 hr5 => ?_)
    obtain ⟨er5, emr5⟩ := hr5
    rw [emr5]
    clear emr5 M6
    subst er5
    refine Go.eqI (y := 1) (by rw [inI_four, hgd.2.2]; rfl) ?_
    refine Go.if_eq 33 dX7_dish_26 rfl (fun h26 => absurd h26 (by decide)) (fun _ => ?_)
    refine Go.iconst (v := 1) dX7_dish_29 (by decide) ?_
    refine Go.goto 34 dX7_dish_30 rfl ?_
    refine Go.istore (ls' := [some (.ref 49), some (.int (nI s)), some (.int w0), some (.int c0), some (.int 1)]) dX7_dish_34 (Nat.le_of_ble_eq_true rfl) rfl rfl ?_
    refine Go.iload dX7_dish_36 rfl ?_
    refine Go.if_eq 49 dX7_dish_38 rfl (fun h38 => absurd h38 (by decide)) (fun _ => ?_)
    refine Go.iload_n dX7_dish_41 rfl ?_
    refine Go.callSI [] dX7_dish_42 lkX7_81 stX7_ones cbX7_ones (m_ones (s := s) (by omega)) rfl rfl (Nat.le_of_ble_eq_true rfl) (fun r7 M8 hr7 => ?_)
    obtain ⟨er7, emr7⟩ := hr7
    rw [emr7]
    clear emr7 M8
    subst er7
    refine Go.iconst (v := 3) dX7_dish_45 (by decide) ?_
    refine Go.icmp_le 56 dX7_dish_46 rfl (fun _ => ?_) (fun h46 => absurd ((nI_leI (a := pop8 s) (b := 3) (by omega) (by decide)).mpr hp3) h46)
    refine Go.bipush (v := 20) dX7_dish_56 (by decide) ?_
    refine Go.iload_n dX7_dish_58 rfl ?_
    refine Go.imul dX7_dish_59 ?_
    refine Go.eqI (y := nI (20 * s)) (pk_mul _ _) ?_
    refine Go.iconst (v := 4) dX7_dish_60 (by decide) ?_
    refine Go.iload_n dX7_dish_61 rfl ?_
    refine Go.imul dX7_dish_62 ?_
    refine Go.iadd dX7_dish_63 ?_
    refine Go.iload_n dX7_dish_64 rfl ?_
    refine Go.iadd dX7_dish_65 ?_
    refine Go.iret dX7_dish_66 rfl rfl ?_
    refine ⟨_, rfl, ?_⟩
    rw [show A_dish g (nI s) w0 c0 = (20 * (nI s) + 4 * w0 + c0, g) from if_pos (by rw [hgd.1, hgd.2.1, hgd.2.2]; rfl)]
    exact ⟨by rw [show nI (20 * s) = 20 * nI s from (pk_mul 20 s).symm], hC, CSame.refl M⟩
  · refine Go.iload_n dX7_dish_0 rfl ?_
    refine Go.iconst (v := 1) dX7_dish_1 (by decide) ?_
    refine Go.sipush (v := 255) dX7_dish_2 (by decide) ?_
    refine Go.callSI [] dX7_dish_5 lkX7_86 stX7_in cbX7_in (m_in s0 1 255) rfl rfl (Nat.le_of_ble_eq_true rfl) (fun r1 M2 hr1 => ?_)
    obtain ⟨er1, emr1⟩ := hr1
    rw [emr1]
    clear emr1 M2
    subst er1
    refine Go.if_eq 33 dX7_dish_8 rfl (fun h8 => ?_) (fun h8 => ?_)
    · refine Go.iconst (v := 0) dX7_dish_33 (by decide) ?_
      refine Go.istore (ls' := [some (.ref 49), some (.int s0), some (.int w0), some (.int c0), some (.int 0)]) dX7_dish_34 (Nat.le_of_ble_eq_true rfl) rfl rfl ?_
      refine Go.iload dX7_dish_36 rfl ?_
      refine Go.if_eq 49 dX7_dish_38 rfl (fun _ => ?_) (fun h38 => absurd (by decide) h38)
      refine Go.aload_n dX7_dish_49 rfl ?_
      refine Go.ldc dX7_dish_50 kcX7_85 ?_
      refine Go.callVI [] dX7_dish_52 lkX7_104 imX7_finds seX7_finds cbX7_finds (m_finds hG (code := (-1000000001)) (q := 0) (by decide) (by decide)) (shp hG rfl) rfl rfl rfl (Nat.le_of_ble_eq_true rfl) (fun r3 M4 hr3 => ?_)
      refine Go.iret dX7_dish_55 rfl rfl ?_
      refine ⟨_, rfl, ?_⟩
      rw [show A_dish g s0 w0 c0 = (-1000000001, fndS g 0) from if_neg hgd, hr3.2]
      exact ⟨hr3.1, hC.fnd⟩
    · refine Go.iload_n dX7_dish_11 rfl ?_
      refine Go.iconst (v := 0) dX7_dish_12 (by decide) ?_
      refine Go.iconst (v := 4) dX7_dish_13 (by decide) ?_
      refine Go.callSI [] dX7_dish_14 lkX7_86 stX7_in cbX7_in (m_in w0 0 4) rfl rfl (Nat.le_of_ble_eq_true rfl) (fun r5 M6 hr5 => ?_)
      obtain ⟨er5, emr5⟩ := hr5
      rw [emr5]
      clear emr5 M6
      subst er5
      refine Go.if_eq 33 dX7_dish_17 rfl (fun h17 => ?_) (fun h17 => ?_)
      · refine Go.iconst (v := 0) dX7_dish_33 (by decide) ?_
        refine Go.istore (ls' := [some (.ref 49), some (.int s0), some (.int w0), some (.int c0), some (.int 0)]) dX7_dish_34 (Nat.le_of_ble_eq_true rfl) rfl rfl ?_
        refine Go.iload dX7_dish_36 rfl ?_
        refine Go.if_eq 49 dX7_dish_38 rfl (fun _ => ?_) (fun h38 => absurd (by decide) h38)
        refine Go.aload_n dX7_dish_49 rfl ?_
        refine Go.ldc dX7_dish_50 kcX7_85 ?_
        refine Go.callVI [] dX7_dish_52 lkX7_104 imX7_finds seX7_finds cbX7_finds (m_finds hG (code := (-1000000001)) (q := 0) (by decide) (by decide)) (shp hG rfl) rfl rfl rfl (Nat.le_of_ble_eq_true rfl) (fun r7 M8 hr7 => ?_)
        refine Go.iret dX7_dish_55 rfl rfl ?_
        refine ⟨_, rfl, ?_⟩
        rw [show A_dish g s0 w0 c0 = (-1000000001, fndS g 0) from if_neg hgd, hr7.2]
        exact ⟨hr7.1, hC.fnd⟩
      · refine Go.iload_n dX7_dish_20 rfl ?_
        refine Go.iconst (v := 0) dX7_dish_21 (by decide) ?_
        refine Go.iconst (v := 3) dX7_dish_22 (by decide) ?_
        refine Go.callSI [] dX7_dish_23 lkX7_86 stX7_in cbX7_in (m_in c0 0 3) rfl rfl (Nat.le_of_ble_eq_true rfl) (fun r9 M10 hr9 => ?_)
        obtain ⟨er9, emr9⟩ := hr9
        rw [emr9]
        clear emr9 M10
        subst er9
        refine Go.if_eq 33 dX7_dish_26 rfl (fun h26 => ?_) (fun h26 => ?_)
        · refine Go.iconst (v := 0) dX7_dish_33 (by decide) ?_
          refine Go.istore (ls' := [some (.ref 49), some (.int s0), some (.int w0), some (.int c0), some (.int 0)]) dX7_dish_34 (Nat.le_of_ble_eq_true rfl) rfl rfl ?_
          refine Go.iload dX7_dish_36 rfl ?_
          refine Go.if_eq 49 dX7_dish_38 rfl (fun _ => ?_) (fun h38 => absurd (by decide) h38)
          refine Go.aload_n dX7_dish_49 rfl ?_
          refine Go.ldc dX7_dish_50 kcX7_85 ?_
          refine Go.callVI [] dX7_dish_52 lkX7_104 imX7_finds seX7_finds cbX7_finds (m_finds hG (code := (-1000000001)) (q := 0) (by decide) (by decide)) (shp hG rfl) rfl rfl rfl (Nat.le_of_ble_eq_true rfl) (fun r11 M12 hr11 => ?_)
          refine Go.iret dX7_dish_55 rfl rfl ?_
          refine ⟨_, rfl, ?_⟩
          rw [show A_dish g s0 w0 c0 = (-1000000001, fndS g 0) from if_neg hgd, hr11.2]
          exact ⟨hr11.1, hC.fnd⟩
        · refine Go.iconst (v := 1) dX7_dish_29 (by decide) ?_
          refine Go.goto 34 dX7_dish_30 rfl ?_
          refine Go.istore (ls' := [some (.ref 49), some (.int s0), some (.int w0), some (.int c0), some (.int 1)]) dX7_dish_34 (Nat.le_of_ble_eq_true rfl) rfl rfl ?_
          refine Go.iload dX7_dish_36 rfl ?_
          refine Go.if_eq 49 dX7_dish_38 rfl (fun h38 => absurd h38 (by decide)) (fun _ => ?_)
          refine Go.iload_n dX7_dish_41 rfl ?_
          obtain ⟨s, hs1, hs2, es⟩ := inI_nI (a := 1) (b := 255) (by decide) (by decide) (bi_n0.mp h8)
          subst es
          refine Go.callSI [] dX7_dish_42 lkX7_81 stX7_ones cbX7_ones (m_ones (s := s) (by omega)) rfl rfl (Nat.le_of_ble_eq_true rfl) (fun r13 M14 hr13 => ?_)
          obtain ⟨er13, emr13⟩ := hr13
          rw [emr13]
          clear emr13 M14
          subst er13
          refine Go.iconst (v := 3) dX7_dish_45 (by decide) ?_
          refine Go.icmp_le 56 dX7_dish_46 rfl (fun h46 => ?_) (fun h46 => ?_)
          · have hp3 : pop8 s ≤ 3 := (nI_leI (a := pop8 s) (b := 3) (by have := q7 s (by omega); omega) (by decide)).mp h46
            have h9 := okS_pop s (by omega)
            rw [show decide (0 < s) = true from decide_eq_true (by omega), show decide (pop8 s ≤ 3) = true from decide_eq_true hp3] at h9
            exact absurd (by rw [isSetI_nI s (by omega), h9, ← inI_five, ← inI_four, bi_n0.mp h17, bi_n0.mp h26]; rfl) hgd
          · refine Go.aload_n dX7_dish_49 rfl ?_
            refine Go.ldc dX7_dish_50 kcX7_85 ?_
            refine Go.callVI [] dX7_dish_52 lkX7_104 imX7_finds seX7_finds cbX7_finds (m_finds hG (code := (-1000000001)) (q := 0) (by decide) (by decide)) (shp hG rfl) rfl rfl rfl (Nat.le_of_ble_eq_true rfl) (fun r15 M16 hr15 => ?_)
            refine Go.iret dX7_dish_55 rfl rfl ?_
            refine ⟨_, rfl, ?_⟩
            rw [show A_dish g (nI s) w0 c0 = (-1000000001, fndS g 0) from if_neg hgd, hr15.2]
            exact ⟨hr15.1, hC.fnd⟩
theorem likD_congr {a b c a' b' c' : Nat → Int32} (h1 : ∀ t, t < 8 → a t = a' t) (h2 : ∀ t, t < 5 → b t = b' t) (h3 : ∀ t, t < 4 → c t = c' t) (x : Nat) : likD a b c x = likD a' b' c' x := by
  have hf : ∀ (z : Int32) n, n ≤ 8 → likF a z (x / 20) n = likF a' z (x / 20) n := by
    intro z n
    induction n with
    | zero => intro _; rfl
    | succ n ih => intro hn; rw [likF, likF, ih (by omega), h1 n (by omega)]
  unfold likD
  rw [hf _ 8 (by decide), h2 _ (by omega), h3 _ (by omega)]
theorem canN_congr {a a' : Nat → Int32} (h : ∀ t, t < 8 → a t = a' t) (s : Nat) : canN a s = canN a' s := by
  unfold canN
  rw [Bool.eq_iff_iff, allN_iff, allN_iff]
  constructor <;> intro q i hi <;> have := q i hi <;> simp only [posN] at * <;> first | rw [← h i hi]; exact this | rw [h i hi]; exact this
def A_of (g : Sg) (x w : Int32) : Int32 × Sg := if isDishI x then (if w = 0 then (iset x, g) else if w = 1 then (iway x, g) else if w = 2 then (isau x, g) else if w = 3 then (likD (uT (gU g)) (uW (gU g)) (uC (gU g)) (tN x), g) else if w = 4 then (bi (canN (uS (gU g)) (tN x / 20)), g) else if w = 5 then (bi (newN (uN (gU g)) (uK (gU g)) (uX (gU g)) (uE (gU g)) (tN x)), g) else (-1000000001, fndS g 0)) else (-1000000001, fndS g 0)
theorem in5_no {w : Int32} (h : inI w 0 5 = false) : ¬ w = 0 ∧ ¬ w = 1 ∧ ¬ w = 2 ∧ ¬ w = 3 ∧ ¬ w = 4 ∧ ¬ w = 5 := by
  refine ⟨?_, ?_, ?_, ?_, ?_, ?_⟩ <;> (intro e; subst e; exact absurd h (by decide))
theorem in5_5 {w : Int32} (h : inI w 0 5 = true) (h0 : ¬ w = 0) (h1 : ¬ w = 1) (h2 : ¬ w = 2) (h3 : ¬ w = 3) (h4 : ¬ w = 4) : w = 5 := by
  obtain ⟨x, a, b, c⟩ := inI_nI (a := 0) (b := 5) (by decide) (by decide) h
  subst c
  match x, b with
  | 0, _ => exact absurd rfl h0
  | 1, _ => exact absurd rfl h1
  | 2, _ => exact absurd rfl h2
  | 3, _ => exact absurd rfl h3
  | 4, _ => exact absurd rfl h4
  | 5, _ => rfl
  | x + 6, b => omega
set_option maxRecDepth 20000 in
theorem c_of {G : Gt} {d : Nat} {M : Mm} (hG : gS G = SHAPE) {g : Sg} (hC : CompIs M g) (hg : SgOk g) (x0 w : Int32) : ExI G (d + 6) mX6_of [.ref 0, .int x0, .int w] M (fun r M' => r = (A_of g x0 w).1 ∧ CompIs M' (A_of g x0 w).2 ∧ MSame M M') := by
  refine Ex.of (by decide) (Nat.le_of_ble_eq_true rfl) ?_
  have hB := hC.1.bk hg.1
  have hn30 := hg.1.1
  show Go G (d + 6) mX6_of 0 [some (.ref 0), some (.int x0), some (.int w)] [] M _
  by_cases hgd : (isDishI x0) = true
  · obtain ⟨x, hx, ex, hxo⟩ := isDishI_ok hgd
    subst ex
    refine Go.iload_n dX6_of_0 rfl ?_
    refine Go.callSI [] dX6_of_1 lkX6_86 stX6_isDish cbX6_isDish (s_isDish (nI x)) rfl rfl (Nat.le_of_ble_eq_true rfl) (fun r1 M2 hr1 => ?_)
    obtain ⟨er1, emr1⟩ := hr1
    rw [emr1]
    clear emr1 M2
    subst er1
    refine Go.eqI (y := 1) (by rw [isDishI_nI (by omega), hxo]; rfl) ?_
    refine Go.if_ne 14 dX6_of_4 rfl (fun _ => ?_) (fun h4 => absurd h4 (by decide))
    refine Go.iload_n dX6_of_14 rfl ?_
    by_cases w15_0 : w = 0
    · rw [w15_0]
      refine Go.tableIn 52 dX6_of_15 (by decide) (by decide) rfl rfl ?_
      refine Go.iload_n dX6_of_52 rfl ?_
      refine Go.callSI [] dX6_of_53 lkX6_89 stX6_setOf cbX6_setOf (s_setOf (nI x)) rfl rfl (Nat.le_of_ble_eq_true rfl) (fun r3 M4 hr3 => ?_)
      obtain ⟨er3, emr3⟩ := hr3
      rw [emr3]
      clear emr3 M4
      subst er3
      refine Go.iret dX6_of_56 rfl rfl ?_
      refine ⟨_, rfl, ?_⟩
      rw [show A_of g (nI x) 0 = (iset (nI x), g) from by simp [A_of, hgd, tN_nI (show x < 2 ^ 31 by omega)]]
      exact ⟨rfl, hC, MSame.refl M⟩
    · skip
      by_cases w15_1 : w = 1
      · rw [w15_1]
        refine Go.tableIn 57 dX6_of_15 (by decide) (by decide) rfl rfl ?_
        refine Go.iload_n dX6_of_57 rfl ?_
        refine Go.callSI [] dX6_of_58 lkX6_92 stX6_wayOf cbX6_wayOf (s_wayOf (nI x)) rfl rfl (Nat.le_of_ble_eq_true rfl) (fun r5 M6 hr5 => ?_)
        obtain ⟨er5, emr5⟩ := hr5
        rw [emr5]
        clear emr5 M6
        subst er5
        refine Go.iret dX6_of_61 rfl rfl ?_
        refine ⟨_, rfl, ?_⟩
        rw [show A_of g (nI x) 1 = (iway (nI x), g) from by simp [A_of, hgd, tN_nI (show x < 2 ^ 31 by omega)]]
        exact ⟨rfl, hC, MSame.refl M⟩
      · skip
        by_cases w15_2 : w = 2
        · rw [w15_2]
          refine Go.tableIn 62 dX6_of_15 (by decide) (by decide) rfl rfl ?_
          refine Go.iload_n dX6_of_62 rfl ?_
          refine Go.callSI [] dX6_of_63 lkX6_95 stX6_sauceOf cbX6_sauceOf (s_sauceOf (nI x)) rfl rfl (Nat.le_of_ble_eq_true rfl) (fun r7 M8 hr7 => ?_)
          obtain ⟨er7, emr7⟩ := hr7
          rw [emr7]
          clear emr7 M8
          subst er7
          refine Go.iret dX6_of_66 rfl rfl ?_
          refine ⟨_, rfl, ?_⟩
          rw [show A_of g (nI x) 2 = (isau (nI x), g) from by simp [A_of, hgd, tN_nI (show x < 2 ^ 31 by omega)]]
          exact ⟨rfl, hC, MSame.refl M⟩
        · skip
          by_cases w15_3 : w = 3
          · rw [w15_3]
            refine Go.tableIn 67 dX6_of_15 (by decide) (by decide) rfl rfl ?_
            refine Go.aload_n dX6_of_67 rfl ?_
            refine Go.getR dX6_of_68 flX6_12 (shp hG rfl) rfl ?_
            refine Go.iload_n dX6_of_71 rfl ?_
            refine Go.callVI [] dX6_of_72 lkX6_98 imX1_liking seX1_liking cbX1_liking (s_liking hG (x := x) (by omega)) (shp hG rfl) rfl rfl rfl (Nat.le_of_ble_eq_true rfl) (fun r9 M10 hr9 => ?_)
            obtain ⟨er9, emr9⟩ := hr9
            rw [emr9]
            clear emr9 M10
            subst er9
            refine Go.iret dX6_of_75 rfl rfl ?_
            refine ⟨_, rfl, ?_⟩
            rw [show A_of g (nI x) 3 = (likD (uT (gU g)) (uW (gU g)) (uC (gU g)) x, g) from by simp [A_of, hgd, tN_nI (show x < 2 ^ 31 by omega)]]
            exact ⟨likD_congr hC.1.2.1 hC.1.2.2.1 hC.1.2.2.2.1 x, hC, MSame.refl M⟩
          · skip
            by_cases w15_4 : w = 4
            · rw [w15_4]
              refine Go.tableIn 76 dX6_of_15 (by decide) (by decide) rfl rfl ?_
              refine Go.aload_n dX6_of_76 rfl ?_
              refine Go.getR dX6_of_77 flX6_12 (shp hG rfl) rfl ?_
              refine Go.iload_n dX6_of_80 rfl ?_
              refine Go.callVI [] dX6_of_81 lkX6_101 imX1_canBe seX1_canBe cbX1_canBe (s_canBe hG (x := x) hxo) (shp hG rfl) rfl rfl rfl (Nat.le_of_ble_eq_true rfl) (fun r11 M12 hr11 => ?_)
              obtain ⟨er11, emr11⟩ := hr11
              rw [emr11]
              clear emr11 M12
              subst er11
              refine Go.if_eq 91 dX6_of_84 rfl (fun h84 => ?_) (fun h84 => ?_)
              · refine Go.iconst (v := 0) dX6_of_91 (by decide) ?_
                refine Go.iret dX6_of_92 rfl rfl ?_
                refine ⟨_, rfl, ?_⟩
                rw [show A_of g (nI x) 4 = (bi (canN (uS (gU g)) (x / 20)), g) from by simp [A_of, hgd, tN_nI (show x < 2 ^ 31 by omega)]]
                exact ⟨by rw [← canN_congr hC.1.1]; rw [bi_0.mp h84]; rfl, hC, MSame.refl M⟩
              · refine Go.iconst (v := 1) dX6_of_87 (by decide) ?_
                refine Go.goto 92 dX6_of_88 rfl ?_
                refine Go.iret dX6_of_92 rfl rfl ?_
                refine ⟨_, rfl, ?_⟩
                rw [show A_of g (nI x) 4 = (bi (canN (uS (gU g)) (x / 20)), g) from by simp [A_of, hgd, tN_nI (show x < 2 ^ 31 by omega)]]
                exact ⟨by rw [← canN_congr hC.1.1]; rw [bi_n0.mp h84]; rfl, hC, MSame.refl M⟩
            · skip
              by_cases w15_5 : w = 5
              · rw [w15_5]
                refine Go.tableIn 93 dX6_of_15 (by decide) (by decide) rfl rfl ?_
                refine Go.aload_n dX6_of_93 rfl ?_
                refine Go.getR dX6_of_94 flX6_12 (shp hG rfl) rfl ?_
                refine Go.iload_n dX6_of_97 rfl ?_
                refine Go.callVI [] dX6_of_98 lkX6_104 imX1_isNew seX1_isNew cbX1_isNew (s_isNew hG hB (x := x) hxo) (shp hG rfl) rfl rfl rfl (Nat.le_of_ble_eq_true rfl) (fun r13 M14 hr13 => ?_)
                obtain ⟨er13, emr13⟩ := hr13
                rw [emr13]
                clear emr13 M14
                subst er13
                refine Go.if_eq 108 dX6_of_101 rfl (fun h101 => ?_) (fun h101 => ?_)
                · refine Go.iconst (v := 0) dX6_of_108 (by decide) ?_
                  refine Go.iret dX6_of_109 rfl rfl ?_
                  refine ⟨_, rfl, ?_⟩
                  rw [show A_of g (nI x) 5 = (bi (newN (uN (gU g)) (uK (gU g)) (uX (gU g)) (uE (gU g)) x), g) from by simp [A_of, hgd, tN_nI (show x < 2 ^ 31 by omega)]]
                  exact ⟨by rw [bi_0.mp h101]; rfl, hC, MSame.refl M⟩
                · refine Go.iconst (v := 1) dX6_of_104 (by decide) ?_
                  refine Go.goto 109 dX6_of_105 rfl ?_
                  refine Go.iret dX6_of_109 rfl rfl ?_
                  refine ⟨_, rfl, ?_⟩
                  rw [show A_of g (nI x) 5 = (bi (newN (uN (gU g)) (uK (gU g)) (uX (gU g)) (uE (gU g)) x), g) from by simp [A_of, hgd, tN_nI (show x < 2 ^ 31 by omega)]]
                  exact ⟨by rw [bi_n0.mp h101]; rfl, hC, MSame.refl M⟩
              · skip
                refine Go.tableOut 110 dX6_of_15 (sw5 w15_0 w15_1 w15_2 w15_3 w15_4 w15_5) rfl ?_
                refine Go.aload_n dX6_of_110 rfl ?_
                refine Go.ldc dX6_of_111 kcX6_62 ?_
                refine Go.callVI [] dX6_of_113 lkX6_63 imX6_finding seX6_finding cbX6_finding (s_finding hG (code := (-1000000001)) (q := 0) (by decide) (by decide)) (shp hG rfl) rfl rfl rfl (Nat.le_of_ble_eq_true rfl) (fun r15 M16 hr15 => ?_)
                refine Go.iret dX6_of_116 rfl rfl ?_
                refine ⟨_, rfl, ?_⟩
                rw [show A_of g (nI x) w = (-1000000001, fndS g 0) from by simp [A_of, hgd, w15_0, w15_1, w15_2, w15_3, w15_4, w15_5], hr15.2]
                exact ⟨hr15.1, hC.fnd⟩
  · refine Go.iload_n dX6_of_0 rfl ?_
    refine Go.callSI [] dX6_of_1 lkX6_86 stX6_isDish cbX6_isDish (s_isDish x0) rfl rfl (Nat.le_of_ble_eq_true rfl) (fun r1 M2 hr1 => ?_)
    obtain ⟨er1, emr1⟩ := hr1
    rw [emr1]
    clear emr1 M2
    subst er1
    refine Go.if_ne 14 dX6_of_4 rfl (fun h4 => ?_) (fun h4 => ?_)
    · exact absurd (by simp [bi_n0.mp h4]) hgd
    · refine Go.aload_n dX6_of_7 rfl ?_
      refine Go.ldc dX6_of_8 kcX6_62 ?_
      refine Go.callVI [] dX6_of_10 lkX6_63 imX6_finding seX6_finding cbX6_finding (s_finding hG (code := (-1000000001)) (q := 0) (by decide) (by decide)) (shp hG rfl) rfl rfl rfl (Nat.le_of_ble_eq_true rfl) (fun r3 M4 hr3 => ?_)
      refine Go.iret dX6_of_13 rfl rfl ?_
      refine ⟨_, rfl, ?_⟩
      rw [show A_of g x0 w = ((-1000000001), fndS g 0) from if_neg hgd, hr3.2]
      exact ⟨hr3.1, hC.fnd⟩
set_option maxRecDepth 20000 in
theorem m_of {G : Gt} {d : Nat} {M : Mm} (hG : gS G = SHAPE) {g : Sg} (hC : ModIs M g) (hg : SgOk g) (x0 w : Int32) : ExI G (d + 4) mX7_of [.ref 49, .int x0, .int w] M (fun r M' => r = (A_of g x0 w).1 ∧ ModIs M' (A_of g x0 w).2 ∧ CSame M M') := by
  refine Ex.of (by decide) (Nat.le_of_ble_eq_true rfl) ?_
  have hB := hC.1.bk hg.1
  have hn30 := hg.1.1
  show Go G (d + 4) mX7_of 0 [some (.ref 49), some (.int x0), some (.int w)] [] M _
  by_cases hgd : (isDishI x0) = true
  · obtain ⟨x, hx, ex, hxo⟩ := isDishI_ok hgd
    subst ex
    refine Go.aload_n dX7_of_0 rfl ?_
    refine Go.iload_n dX7_of_1 rfl ?_
    refine Go.callVI [] dX7_of_2 lkX7_131 imX7_isDish seX7_isDish cbX7_isDish (m_isDish hG hC.2.2.2.2.2.2.2 (nI x)) (shp hG rfl) rfl rfl rfl (Nat.le_of_ble_eq_true rfl) (fun r1 M2 hr1 => ?_)
    obtain ⟨er1, emr1⟩ := hr1
    rw [emr1]
    clear emr1 M2
    subst er1
    refine Go.eqI (y := 1) (by rw [isDishI_nI (by omega), hxo]; rfl) ?_
    refine Go.if_eq 17 dX7_of_5 rfl (fun h5 => absurd h5 (by decide)) (fun _ => ?_)
    refine Go.iload_n dX7_of_8 rfl ?_
    refine Go.iconst (v := 0) dX7_of_9 (by decide) ?_
    refine Go.iconst (v := 5) dX7_of_10 (by decide) ?_
    refine Go.callSI [] dX7_of_11 lkX7_86 stX7_in cbX7_in (m_in w 0 5) rfl rfl (Nat.le_of_ble_eq_true rfl) (fun r3 M4 hr3 => ?_)
    obtain ⟨er3, emr3⟩ := hr3
    rw [emr3]
    clear emr3 M4
    subst er3
    refine Go.if_ne 24 dX7_of_14 rfl (fun h14 => ?_) (fun h14 => ?_)
    · refine Go.iload_n dX7_of_24 rfl ?_
      by_cases w25_0 : w = 0
      · rw [w25_0]
        refine Go.tableIn 60 dX7_of_25 (by decide) (by decide) rfl rfl ?_
        refine Go.iload_n dX7_of_60 rfl ?_
        refine Go.callSI [] dX7_of_61 lkX7_90 stX7_setOf cbX7_setOf (m_setOf (nI x)) rfl rfl (Nat.le_of_ble_eq_true rfl) (fun r5 M6 hr5 => ?_)
        obtain ⟨er5, emr5⟩ := hr5
        rw [emr5]
        clear emr5 M6
        subst er5
        refine Go.iret dX7_of_64 rfl rfl ?_
        refine ⟨_, rfl, ?_⟩
        rw [show A_of g (nI x) 0 = (iset (nI x), g) from by simp [A_of, hgd, tN_nI (show x < 2 ^ 31 by omega)]]
        exact ⟨rfl, hC, CSame.refl M⟩
      · skip
        by_cases w25_1 : w = 1
        · rw [w25_1]
          refine Go.tableIn 65 dX7_of_25 (by decide) (by decide) rfl rfl ?_
          refine Go.iload_n dX7_of_65 rfl ?_
          refine Go.callSI [] dX7_of_66 lkX7_114 stX7_wayOf cbX7_wayOf (m_wayOf (nI x)) rfl rfl (Nat.le_of_ble_eq_true rfl) (fun r7 M8 hr7 => ?_)
          obtain ⟨er7, emr7⟩ := hr7
          rw [emr7]
          clear emr7 M8
          subst er7
          refine Go.iret dX7_of_69 rfl rfl ?_
          refine ⟨_, rfl, ?_⟩
          rw [show A_of g (nI x) 1 = (iway (nI x), g) from by simp [A_of, hgd, tN_nI (show x < 2 ^ 31 by omega)]]
          exact ⟨rfl, hC, CSame.refl M⟩
        · skip
          by_cases w25_2 : w = 2
          · rw [w25_2]
            refine Go.tableIn 70 dX7_of_25 (by decide) (by decide) rfl rfl ?_
            refine Go.iload_n dX7_of_70 rfl ?_
            refine Go.callSI [] dX7_of_71 lkX7_117 stX7_sauceOf cbX7_sauceOf (m_sauceOf (nI x)) rfl rfl (Nat.le_of_ble_eq_true rfl) (fun r9 M10 hr9 => ?_)
            obtain ⟨er9, emr9⟩ := hr9
            rw [emr9]
            clear emr9 M10
            subst er9
            refine Go.iret dX7_of_74 rfl rfl ?_
            refine ⟨_, rfl, ?_⟩
            rw [show A_of g (nI x) 2 = (isau (nI x), g) from by simp [A_of, hgd, tN_nI (show x < 2 ^ 31 by omega)]]
            exact ⟨rfl, hC, CSame.refl M⟩
          · skip
            by_cases w25_3 : w = 3
            · rw [w25_3]
              refine Go.tableIn 75 dX7_of_25 (by decide) (by decide) rfl rfl ?_
              refine Go.aload_n dX7_of_75 rfl ?_
              refine Go.iload_n dX7_of_76 rfl ?_
              refine Go.callVI [] dX7_of_77 lkX7_134 imX7_likingOf seX7_likingOf cbX7_likingOf (m_likingOf hG (x := x) (by omega)) (shp hG rfl) rfl rfl rfl (Nat.le_of_ble_eq_true rfl) (fun r11 M12 hr11 => ?_)
              obtain ⟨er11, emr11⟩ := hr11
              rw [emr11]
              clear emr11 M12
              subst er11
              refine Go.iret dX7_of_80 rfl rfl ?_
              refine ⟨_, rfl, ?_⟩
              rw [show A_of g (nI x) 3 = (likD (uT (gU g)) (uW (gU g)) (uC (gU g)) x, g) from by simp [A_of, hgd, tN_nI (show x < 2 ^ 31 by omega)]]
              exact ⟨likD_congr hC.1.2.1 hC.1.2.2.1 hC.1.2.2.2.1 x, hC, CSame.refl M⟩
            · skip
              by_cases w25_4 : w = 4
              · rw [w25_4]
                refine Go.tableIn 81 dX7_of_25 (by decide) (by decide) rfl rfl ?_
                refine Go.aload_n dX7_of_81 rfl ?_
                refine Go.iload_n dX7_of_82 rfl ?_
                refine Go.callVI [] dX7_of_83 lkX7_137 imX7_canBe seX7_canBe cbX7_canBe (m_canBe hG (x := x) (by omega)) (shp hG rfl) rfl rfl rfl (Nat.le_of_ble_eq_true rfl) (fun r13 M14 hr13 => ?_)
                obtain ⟨er13, emr13⟩ := hr13
                rw [emr13]
                clear emr13 M14
                subst er13
                refine Go.if_eq 93 dX7_of_86 rfl (fun h86 => ?_) (fun h86 => ?_)
                · refine Go.iconst (v := 0) dX7_of_93 (by decide) ?_
                  refine Go.iret dX7_of_94 rfl rfl ?_
                  refine ⟨_, rfl, ?_⟩
                  rw [show A_of g (nI x) 4 = (bi (canN (uS (gU g)) (x / 20)), g) from by simp [A_of, hgd, tN_nI (show x < 2 ^ 31 by omega)]]
                  exact ⟨by rw [← canN_congr hC.1.1]; rw [bi_0.mp h86]; rfl, hC, CSame.refl M⟩
                · refine Go.iconst (v := 1) dX7_of_89 (by decide) ?_
                  refine Go.goto 94 dX7_of_90 rfl ?_
                  refine Go.iret dX7_of_94 rfl rfl ?_
                  refine ⟨_, rfl, ?_⟩
                  rw [show A_of g (nI x) 4 = (bi (canN (uS (gU g)) (x / 20)), g) from by simp [A_of, hgd, tN_nI (show x < 2 ^ 31 by omega)]]
                  exact ⟨by rw [← canN_congr hC.1.1]; rw [bi_n0.mp h86]; rfl, hC, CSame.refl M⟩
              · skip
                refine Go.tableOut 95 dX7_of_25 (sw4 w25_0 w25_1 w25_2 w25_3 w25_4) rfl ?_
                refine Go.aload_n dX7_of_95 rfl ?_
                refine Go.iload_n dX7_of_96 rfl ?_
                refine Go.callVI [] dX7_of_97 lkX7_140 imX7_isNew seX7_isNew cbX7_isNew (m_isNew hG hB (x := x) hxo) (shp hG rfl) rfl rfl rfl (Nat.le_of_ble_eq_true rfl) (fun r15 M16 hr15 => ?_)
                obtain ⟨er15, emr15⟩ := hr15
                rw [emr15]
                clear emr15 M16
                subst er15
                refine Go.if_eq 107 dX7_of_100 rfl (fun h100 => ?_) (fun h100 => ?_)
                · refine Go.iconst (v := 0) dX7_of_107 (by decide) ?_
                  refine Go.iret dX7_of_108 rfl rfl ?_
                  have e5 := in5_5 (bi_n0.mp h14) w25_0 w25_1 w25_2 w25_3 w25_4
                  subst e5
                  refine ⟨_, rfl, ?_⟩
                  rw [show A_of g (nI x) 5 = (bi (newN (uN (gU g)) (uK (gU g)) (uX (gU g)) (uE (gU g)) x), g) from by simp [A_of, hgd, tN_nI (show x < 2 ^ 31 by omega)]]
                  exact ⟨by rw [bi_0.mp h100]; rfl, hC, CSame.refl M⟩
                · refine Go.iconst (v := 1) dX7_of_103 (by decide) ?_
                  refine Go.goto 108 dX7_of_104 rfl ?_
                  refine Go.iret dX7_of_108 rfl rfl ?_
                  have e5 := in5_5 (bi_n0.mp h14) w25_0 w25_1 w25_2 w25_3 w25_4
                  subst e5
                  refine ⟨_, rfl, ?_⟩
                  rw [show A_of g (nI x) 5 = (bi (newN (uN (gU g)) (uK (gU g)) (uX (gU g)) (uE (gU g)) x), g) from by simp [A_of, hgd, tN_nI (show x < 2 ^ 31 by omega)]]
                  exact ⟨by rw [bi_n0.mp h100]; rfl, hC, CSame.refl M⟩
    · refine Go.aload_n dX7_of_17 rfl ?_
      refine Go.ldc dX7_of_18 kcX7_85 ?_
      refine Go.callVI [] dX7_of_20 lkX7_104 imX7_finds seX7_finds cbX7_finds (m_finds hG (code := (-1000000001)) (q := 0) (by decide) (by decide)) (shp hG rfl) rfl rfl rfl (Nat.le_of_ble_eq_true rfl) (fun r17 M18 hr17 => ?_)
      refine Go.iret dX7_of_23 rfl rfl ?_
      obtain ⟨z0, z1, z2, z3, z4, z5⟩ := in5_no (bi_0.mp h14)
      refine ⟨_, rfl, ?_⟩
      rw [show A_of g (nI x) w = (-1000000001, fndS g 0) from by simp [A_of, hgd, z0, z1, z2, z3, z4, z5], hr17.2]
      exact ⟨hr17.1, hC.fnd⟩
  · refine Go.aload_n dX7_of_0 rfl ?_
    refine Go.iload_n dX7_of_1 rfl ?_
    refine Go.callVI [] dX7_of_2 lkX7_131 imX7_isDish seX7_isDish cbX7_isDish (m_isDish hG hC.2.2.2.2.2.2.2 x0) (shp hG rfl) rfl rfl rfl (Nat.le_of_ble_eq_true rfl) (fun r1 M2 hr1 => ?_)
    obtain ⟨er1, emr1⟩ := hr1
    rw [emr1]
    clear emr1 M2
    subst er1
    refine Go.if_eq 17 dX7_of_5 rfl (fun h5 => ?_) (fun h5 => ?_)
    · refine Go.aload_n dX7_of_17 rfl ?_
      refine Go.ldc dX7_of_18 kcX7_85 ?_
      refine Go.callVI [] dX7_of_20 lkX7_104 imX7_finds seX7_finds cbX7_finds (m_finds hG (code := (-1000000001)) (q := 0) (by decide) (by decide)) (shp hG rfl) rfl rfl rfl (Nat.le_of_ble_eq_true rfl) (fun r3 M4 hr3 => ?_)
      refine Go.iret dX7_of_23 rfl rfl ?_
      refine ⟨_, rfl, ?_⟩
      rw [show A_of g x0 w = ((-1000000001), fndS g 0) from if_neg hgd, hr3.2]
      exact ⟨hr3.1, hC.fnd⟩
    · exact absurd (bi_n0.mp h5) hgd
def A_nearHad (g : Sg) (x n : Int32) : Int32 × Sg := if isDishI x && (decide (0 ≤ n) && decide (n ≤ 8)) then (nI (cntN (nearP (uK (gU g)) (uX (gU g)) (tN x) n) (uN (gU g))), g) else (-1000000001, fndS g 0)
set_option maxRecDepth 20000 in
theorem c_nearHad {G : Gt} {d : Nat} {M : Mm} (hG : gS G = SHAPE) {g : Sg} (hC : CompIs M g) (hg : SgOk g) (x0 n : Int32) : ExI G (d + 3) mX6_nearHad [.ref 0, .int x0, .int n] M (fun r M' => r = (A_nearHad g x0 n).1 ∧ CompIs M' (A_nearHad g x0 n).2 ∧ MSame M M') := by
  refine Ex.of (by decide) (Nat.le_of_ble_eq_true rfl) ?_
  have hB := hC.1.bk hg.1
  have hn30 := hg.1.1
  show Go G (d + 3) mX6_nearHad 0 [some (.ref 0), some (.int x0), some (.int n)] [] M _
  by_cases hgd : (isDishI x0 && (decide (0 ≤ n) && decide (n ≤ 8))) = true
  · rw [Bool.and_eq_true, Bool.and_eq_true] at hgd
    obtain ⟨x, hx, ex, hxo⟩ := isDishI_ok hgd.1
    subst ex
    have hn0 : 0 ≤ n := of_decide_eq_true hgd.2.1
    have hn8 : n ≤ 8 := of_decide_eq_true hgd.2.2
    have hA0 : A_nearHad g (nI x) n = (nI (cntN (nearP (uK (gU g)) (uX (gU g)) x n) (uN (gU g))), g) := by
      rw [show A_nearHad g (nI x) n = (nI (cntN (nearP (uK (gU g)) (uX (gU g)) (tN (nI x)) n) (uN (gU g))), g) from if_pos (by rw [hgd.1, hgd.2.1, hgd.2.2]; rfl), tN_nI (by omega)]
    refine Go.iload_n dX6_nearHad_0 rfl ?_
    refine Go.callSI [] dX6_nearHad_1 lkX6_86 stX6_isDish cbX6_isDish (s_isDish (nI x)) rfl rfl (Nat.le_of_ble_eq_true rfl) (fun r1 M2 hr1 => ?_)
    obtain ⟨er1, emr1⟩ := hr1
    rw [emr1]
    clear emr1 M2
    subst er1
    refine Go.eqI (y := 1) (by rw [isDishI_nI (by omega), hxo]; rfl) ?_
    refine Go.if_eq 17 dX6_nearHad_4 rfl (fun h4 => absurd h4 (by decide)) (fun _ => ?_)
    refine Go.iload_n dX6_nearHad_7 rfl ?_
    refine Go.if_lt 17 dX6_nearHad_8 rfl (fun h8 => absurd h8 (i_le_n hn0)) (fun _ => ?_)
    refine Go.iload_n dX6_nearHad_11 rfl ?_
    refine Go.bipush (v := 8) dX6_nearHad_12 (by decide) ?_
    refine Go.icmp_le 24 dX6_nearHad_14 rfl (fun _ => ?_) (fun h14 => absurd (hn8) h14)
    refine Go.aload_n dX6_nearHad_24 rfl ?_
    refine Go.getR dX6_nearHad_25 flX6_12 (shp hG rfl) rfl ?_
    refine Go.iload_n dX6_nearHad_28 rfl ?_
    refine Go.iload_n dX6_nearHad_29 rfl ?_
    refine Go.callVI [] dX6_nearHad_30 lkX6_111 imX1_hadNear seX1_hadNear cbX1_hadNear (s_hadNear hG hB (x := x) (m := n)) (shp hG rfl) rfl rfl rfl (Nat.le_of_ble_eq_true rfl) (fun r3 M4 hr3 => ?_)
    obtain ⟨er3, emr3⟩ := hr3
    rw [emr3]
    clear emr3 M4
    subst er3
    refine Go.iret dX6_nearHad_33 rfl rfl ?_
    refine ⟨_, rfl, ?_⟩
    rw [hA0]
    exact ⟨rfl, hC, MSame.refl M⟩
  · refine Go.iload_n dX6_nearHad_0 rfl ?_
    refine Go.callSI [] dX6_nearHad_1 lkX6_86 stX6_isDish cbX6_isDish (s_isDish x0) rfl rfl (Nat.le_of_ble_eq_true rfl) (fun r1 M2 hr1 => ?_)
    obtain ⟨er1, emr1⟩ := hr1
    rw [emr1]
    clear emr1 M2
    subst er1
    refine Go.if_eq 17 dX6_nearHad_4 rfl (fun h4 => ?_) (fun h4 => ?_)
    · refine Go.aload_n dX6_nearHad_17 rfl ?_
      refine Go.ldc dX6_nearHad_18 kcX6_62 ?_
      refine Go.callVI [] dX6_nearHad_20 lkX6_63 imX6_finding seX6_finding cbX6_finding (s_finding hG (code := (-1000000001)) (q := 0) (by decide) (by decide)) (shp hG rfl) rfl rfl rfl (Nat.le_of_ble_eq_true rfl) (fun r3 M4 hr3 => ?_)
      refine Go.iret dX6_nearHad_23 rfl rfl ?_
      refine ⟨_, rfl, ?_⟩
      rw [show A_nearHad g x0 n = ((-1000000001), fndS g 0) from if_neg hgd, hr3.2]
      exact ⟨hr3.1, hC.fnd⟩
    · refine Go.iload_n dX6_nearHad_7 rfl ?_
      refine Go.if_lt 17 dX6_nearHad_8 rfl (fun h8 => ?_) (fun h8 => ?_)
      · refine Go.aload_n dX6_nearHad_17 rfl ?_
        refine Go.ldc dX6_nearHad_18 kcX6_62 ?_
        refine Go.callVI [] dX6_nearHad_20 lkX6_63 imX6_finding seX6_finding cbX6_finding (s_finding hG (code := (-1000000001)) (q := 0) (by decide) (by decide)) (shp hG rfl) rfl rfl rfl (Nat.le_of_ble_eq_true rfl) (fun r5 M6 hr5 => ?_)
        refine Go.iret dX6_nearHad_23 rfl rfl ?_
        refine ⟨_, rfl, ?_⟩
        rw [show A_nearHad g x0 n = ((-1000000001), fndS g 0) from if_neg hgd, hr5.2]
        exact ⟨hr5.1, hC.fnd⟩
      · refine Go.iload_n dX6_nearHad_11 rfl ?_
        refine Go.bipush (v := 8) dX6_nearHad_12 (by decide) ?_
        refine Go.icmp_le 24 dX6_nearHad_14 rfl (fun h14 => ?_) (fun h14 => ?_)
        · exact absurd (by simp [bi_n0.mp h4, h8, i_nlt h8, h14, i_le_n h14]) hgd
        · refine Go.aload_n dX6_nearHad_17 rfl ?_
          refine Go.ldc dX6_nearHad_18 kcX6_62 ?_
          refine Go.callVI [] dX6_nearHad_20 lkX6_63 imX6_finding seX6_finding cbX6_finding (s_finding hG (code := (-1000000001)) (q := 0) (by decide) (by decide)) (shp hG rfl) rfl rfl rfl (Nat.le_of_ble_eq_true rfl) (fun r7 M8 hr7 => ?_)
          refine Go.iret dX6_nearHad_23 rfl rfl ?_
          refine ⟨_, rfl, ?_⟩
          rw [show A_nearHad g x0 n = ((-1000000001), fndS g 0) from if_neg hgd, hr7.2]
          exact ⟨hr7.1, hC.fnd⟩
set_option maxRecDepth 20000 in
theorem l_nearHad7 {G : Gt} {d : Nat} {M : Mm} (hG : gS G = SHAPE) {g : Sg} (hC : ModIs M g) (hg : SgOk g) {x : Nat} (hxo : okD x = true) {m : Int32} : ∀ (n i : Nat), i + n = (uN (gU g)) → Go G (d + 2) mX7_nearHad 30 [some (.ref 49), some (.int (nI x)), some (.int m), some (.int (nI (cntN (nearP (uK (gU g)) (uX (gU g)) x m) i))), some (.int (nI i))] [] M (fun v M' => ∃ r, v = some (.int r) ∧ r = nI (cntN (nearP (uK (gU g)) (uX (gU g)) x m) (uN (gU g))) ∧ ModIs M' g ∧ CSame M M') := by
  intro n
  induction n with
  | zero =>
    intro i  hin
    have hB := hC.1.bk hg.1
    have hn30 := hg.1.1
    refine Go.iload dX7_nearHad_30 rfl ?_
    refine Go.aload_n dX7_nearHad_32 rfl ?_
    refine Go.getI dX7_nearHad_33 flX7_93 (shp hG rfl) rfl ?_
    refine Go.eqI (y := nI (uN (gU g))) (hB.2.2.1) ?_
    refine Go.icmp_ge 79 dX7_nearHad_36 rfl (fun _ => ?_) (fun h36 => absurd (nI_le (a := uN (gU g)) (b := i) (by omega) (by omega)) h36)
    refine Go.iload_n dX7_nearHad_79 rfl ?_
    refine Go.iret dX7_nearHad_80 rfl rfl ?_
    have e9 : i = uN (gU g) := by omega
    subst e9
    exact ⟨_, rfl, rfl, hC, CSame.refl M⟩
  | succ n ih =>
    intro i  hin
    have hi : i < (uN (gU g)) := by omega
    have hB := hC.1.bk hg.1
    have hn30 := hg.1.1
    have hk6 := (hB.2.2.2.2.2 i (by omega)).1
    have hX5 := okD_lt (hB.2.2.2.2.2 i (by omega)).2.1
    refine Go.iload dX7_nearHad_30 rfl ?_
    refine Go.aload_n dX7_nearHad_32 rfl ?_
    refine Go.getI dX7_nearHad_33 flX7_93 (shp hG rfl) rfl ?_
    refine Go.eqI (y := nI (uN (gU g))) (hB.2.2.1) ?_
    refine Go.icmp_ge 79 dX7_nearHad_36 rfl (fun h36 => absurd h36 (nI_ge (a := i) (b := uN (gU g)) (by omega) (by omega))) (fun _ => ?_)
    refine Go.iload_n dX7_nearHad_39 rfl ?_
    refine Go.aload_n dX7_nearHad_40 rfl ?_
    refine Go.getR dX7_nearHad_41 flX7_19 (shp hG rfl) rfl ?_
    refine Go.iload dX7_nearHad_44 rfl ?_
    refine Go.iald dX7_nearHad_46 (shp hG rfl) (vin (by omega) (by decide)) ?_
    refine Go.eqI (y := nI ((uK (gU g)) i)) (by rw [ncl (by omega)]; exact (hB.2.2.2.2.2 i (by omega)).2.2.1) ?_
    refine Go.iconst (v := 2) dX7_nearHad_47 (by decide) ?_
    refine Go.icmp_eq 70 dX7_nearHad_48 rfl (fun h48 => ?_) (fun h48 => ?_)
    · have n48 : ((uK (gU g)) i) = 2 := (nI_inj (a := ((uK (gU g)) i)) (b := 2) (by omega) (by omega)).mp h48
      refine Go.iconst (v := 0) dX7_nearHad_70 (by decide) ?_
      refine Go.iadd dX7_nearHad_71 ?_
      refine Go.eqI (y := nI (cntN (nearP (uK (gU g)) (uX (gU g)) x m) i + 0)) (nI_add _ _) ?_
      refine Go.istore_n (ls' := [some (.ref 49), some (.int (nI x)), some (.int m), some (.int (nI (cntN (nearP (uK (gU g)) (uX (gU g)) x m) i + 0))), some (.int (nI i))]) dX7_nearHad_72 (Nat.le_of_ble_eq_true rfl) rfl rfl ?_
      refine Go.iinc (v := nI (i + 1)) (ls' := [some (.ref 49), some (.int (nI x)), some (.int m), some (.int (nI (cntN (nearP (uK (gU g)) (uX (gU g)) x m) i + 0))), some (.int (nI (i + 1)))]) dX7_nearHad_73 rfl (nI_1 _) rfl rfl ?_
      refine Go.goto 30 dX7_nearHad_76 rfl ?_
      rw [show nI (cntN (nearP (uK (gU g)) (uX (gU g)) x m) i + 0) = nI (cntN (nearP (uK (gU g)) (uX (gU g)) x m) (i + 1)) from cnt_f (by simp [nearP, n48])]
      exact ih (i + 1) (by omega)
    · have n48 : ¬ ((uK (gU g)) i) = 2 := fun q => h48 ((nI_inj (a := ((uK (gU g)) i)) (b := 2) (by omega) (by omega)).mpr q)
      refine Go.aload_n dX7_nearHad_51 rfl ?_
      refine Go.getR dX7_nearHad_52 flX7_22 (shp hG rfl) rfl ?_
      refine Go.iload dX7_nearHad_55 rfl ?_
      refine Go.iald dX7_nearHad_57 (shp hG rfl) (vin (by omega) (by decide)) ?_
      refine Go.eqI (y := nI ((uX (gU g)) i)) (by rw [ncl (by omega)]; exact (hB.2.2.2.2.2 i (by omega)).2.2.2) ?_
      refine Go.iload_n dX7_nearHad_58 rfl ?_
      refine Go.callSI [.int (nI (cntN (nearP (uK (gU g)) (uX (gU g)) x m) i))] dX7_nearHad_59 lkX7_143 stX7_nearOf cbX7_nearOf (m_nearOf (a := (uX (gU g)) i) (b := x) (hB.2.2.2.2.2 i (by omega)).2.1 hxo) rfl rfl (Nat.le_of_ble_eq_true rfl) (fun r1 M2 hr1 => ?_)
      obtain ⟨er1, emr1⟩ := hr1
      rw [emr1]
      clear emr1 M2
      subst er1
      refine Go.iload_n dX7_nearHad_62 rfl ?_
      refine Go.icmp_gt 70 dX7_nearHad_63 rfl (fun h63 => ?_) (fun h63 => ?_)
      · refine Go.iconst (v := 0) dX7_nearHad_70 (by decide) ?_
        refine Go.iadd dX7_nearHad_71 ?_
        refine Go.eqI (y := nI (cntN (nearP (uK (gU g)) (uX (gU g)) x m) i + 0)) (nI_add _ _) ?_
        refine Go.istore_n (ls' := [some (.ref 49), some (.int (nI x)), some (.int m), some (.int (nI (cntN (nearP (uK (gU g)) (uX (gU g)) x m) i + 0))), some (.int (nI i))]) dX7_nearHad_72 (Nat.le_of_ble_eq_true rfl) rfl rfl ?_
        refine Go.iinc (v := nI (i + 1)) (ls' := [some (.ref 49), some (.int (nI x)), some (.int m), some (.int (nI (cntN (nearP (uK (gU g)) (uX (gU g)) x m) i + 0))), some (.int (nI (i + 1)))]) dX7_nearHad_73 rfl (nI_1 _) rfl rfl ?_
        refine Go.goto 30 dX7_nearHad_76 rfl ?_
        rw [show nI (cntN (nearP (uK (gU g)) (uX (gU g)) x m) i + 0) = nI (cntN (nearP (uK (gU g)) (uX (gU g)) x m) (i + 1)) from cnt_f (by simp [nearP, i_lt_n h63])]
        exact ih (i + 1) (by omega)
      · refine Go.iconst (v := 1) dX7_nearHad_66 (by decide) ?_
        refine Go.goto 71 dX7_nearHad_67 rfl ?_
        refine Go.iadd dX7_nearHad_71 ?_
        refine Go.eqI (y := nI (cntN (nearP (uK (gU g)) (uX (gU g)) x m) i + 1)) (nI_add _ _) ?_
        refine Go.istore_n (ls' := [some (.ref 49), some (.int (nI x)), some (.int m), some (.int (nI (cntN (nearP (uK (gU g)) (uX (gU g)) x m) i + 1))), some (.int (nI i))]) dX7_nearHad_72 (Nat.le_of_ble_eq_true rfl) rfl rfl ?_
        refine Go.iinc (v := nI (i + 1)) (ls' := [some (.ref 49), some (.int (nI x)), some (.int m), some (.int (nI (cntN (nearP (uK (gU g)) (uX (gU g)) x m) i + 1))), some (.int (nI (i + 1)))]) dX7_nearHad_73 rfl (nI_1 _) rfl rfl ?_
        refine Go.goto 30 dX7_nearHad_76 rfl ?_
        rw [cnt_t (p := nearP (uK (gU g)) (uX (gU g)) x m) (i := i) (by simp [nearP, n48, i_nlt h63])]
        exact ih (i + 1) (by omega)
theorem inI_eight {n : Int32} : inI n 0 8 = (decide (0 ≤ n) && decide (n ≤ 8)) := rfl
set_option maxRecDepth 20000 in
theorem m_nearHad {G : Gt} {d : Nat} {M : Mm} (hG : gS G = SHAPE) {g : Sg} (hC : ModIs M g) (hg : SgOk g) (x0 n : Int32) : ExI G (d + 2) mX7_nearHad [.ref 49, .int x0, .int n] M (fun r M' => r = (A_nearHad g x0 n).1 ∧ ModIs M' (A_nearHad g x0 n).2 ∧ CSame M M') := by
  refine Ex.of (by decide) (Nat.le_of_ble_eq_true rfl) ?_
  have hB := hC.1.bk hg.1
  have hn30 := hg.1.1
  show Go G (d + 2) mX7_nearHad 0 [some (.ref 49), some (.int x0), some (.int n), none, none] [] M _
  by_cases hgd : (isDishI x0 && (decide (0 ≤ n) && decide (n ≤ 8))) = true
  · rw [Bool.and_eq_true, Bool.and_eq_true] at hgd
    obtain ⟨x, hx, ex, hxo⟩ := isDishI_ok hgd.1
    subst ex
    have hn0 : 0 ≤ n := of_decide_eq_true hgd.2.1
    have hn8 : n ≤ 8 := of_decide_eq_true hgd.2.2
    have hA0 : A_nearHad g (nI x) n = (nI (cntN (nearP (uK (gU g)) (uX (gU g)) x n) (uN (gU g))), g) := by
      rw [show A_nearHad g (nI x) n = (nI (cntN (nearP (uK (gU g)) (uX (gU g)) (tN (nI x)) n) (uN (gU g))), g) from if_pos (by rw [hgd.1, hgd.2.1, hgd.2.2]; rfl), tN_nI (by omega)]
    refine Go.aload_n dX7_nearHad_0 rfl ?_
    refine Go.iload_n dX7_nearHad_1 rfl ?_
    refine Go.callVI [] dX7_nearHad_2 lkX7_131 imX7_isDish seX7_isDish cbX7_isDish (m_isDish hG hC.2.2.2.2.2.2.2 (nI x)) (shp hG rfl) rfl rfl rfl (Nat.le_of_ble_eq_true rfl) (fun r1 M2 hr1 => ?_)
    obtain ⟨er1, emr1⟩ := hr1
    rw [emr1]
    clear emr1 M2
    subst er1
    refine Go.eqI (y := 1) (by rw [isDishI_nI (by omega), hxo]; rfl) ?_
    refine Go.if_eq 18 dX7_nearHad_5 rfl (fun h5 => absurd h5 (by decide)) (fun _ => ?_)
    refine Go.iload_n dX7_nearHad_8 rfl ?_
    refine Go.iconst (v := 0) dX7_nearHad_9 (by decide) ?_
    refine Go.bipush (v := 8) dX7_nearHad_10 (by decide) ?_
    refine Go.callSI [] dX7_nearHad_12 lkX7_86 stX7_in cbX7_in (m_in n 0 8) rfl rfl (Nat.le_of_ble_eq_true rfl) (fun r3 M4 hr3 => ?_)
    obtain ⟨er3, emr3⟩ := hr3
    rw [emr3]
    clear emr3 M4
    subst er3
    refine Go.eqI (y := 1) (by rw [inI_eight, hgd.2.1, hgd.2.2]; rfl) ?_
    refine Go.if_ne 25 dX7_nearHad_15 rfl (fun _ => ?_) (fun h15 => absurd h15 (by decide))
    refine Go.iconst (v := 0) dX7_nearHad_25 (by decide) ?_
    refine Go.istore_n (ls' := [some (.ref 49), some (.int (nI x)), some (.int n), some (.int 0), none]) dX7_nearHad_26 (Nat.le_of_ble_eq_true rfl) rfl rfl ?_
    refine Go.iconst (v := 0) dX7_nearHad_27 (by decide) ?_
    refine Go.istore (ls' := [some (.ref 49), some (.int (nI x)), some (.int n), some (.int 0), some (.int 0)]) dX7_nearHad_28 (Nat.le_of_ble_eq_true rfl) rfl rfl ?_
    rw [hA0]
    exact l_nearHad7 hG hC hg hxo (uN (gU g)) 0 (by omega)
  · refine Go.aload_n dX7_nearHad_0 rfl ?_
    refine Go.iload_n dX7_nearHad_1 rfl ?_
    refine Go.callVI [] dX7_nearHad_2 lkX7_131 imX7_isDish seX7_isDish cbX7_isDish (m_isDish hG hC.2.2.2.2.2.2.2 x0) (shp hG rfl) rfl rfl rfl (Nat.le_of_ble_eq_true rfl) (fun r1 M2 hr1 => ?_)
    obtain ⟨er1, emr1⟩ := hr1
    rw [emr1]
    clear emr1 M2
    subst er1
    refine Go.if_eq 18 dX7_nearHad_5 rfl (fun h5 => ?_) (fun h5 => ?_)
    · refine Go.aload_n dX7_nearHad_18 rfl ?_
      refine Go.ldc dX7_nearHad_19 kcX7_85 ?_
      refine Go.callVI [] dX7_nearHad_21 lkX7_104 imX7_finds seX7_finds cbX7_finds (m_finds hG (code := (-1000000001)) (q := 0) (by decide) (by decide)) (shp hG rfl) rfl rfl rfl (Nat.le_of_ble_eq_true rfl) (fun r3 M4 hr3 => ?_)
      refine Go.iret dX7_nearHad_24 rfl rfl ?_
      refine ⟨_, rfl, ?_⟩
      rw [show A_nearHad g x0 n = ((-1000000001), fndS g 0) from if_neg hgd, hr3.2]
      exact ⟨hr3.1, hC.fnd⟩
    · refine Go.iload_n dX7_nearHad_8 rfl ?_
      refine Go.iconst (v := 0) dX7_nearHad_9 (by decide) ?_
      refine Go.bipush (v := 8) dX7_nearHad_10 (by decide) ?_
      refine Go.callSI [] dX7_nearHad_12 lkX7_86 stX7_in cbX7_in (m_in n 0 8) rfl rfl (Nat.le_of_ble_eq_true rfl) (fun r5 M6 hr5 => ?_)
      obtain ⟨er5, emr5⟩ := hr5
      rw [emr5]
      clear emr5 M6
      subst er5
      refine Go.if_ne 25 dX7_nearHad_15 rfl (fun h15 => ?_) (fun h15 => ?_)
      · exact absurd (by rw [bi_n0.mp h5, ← inI_eight, bi_n0.mp h15]; rfl) hgd
      · refine Go.aload_n dX7_nearHad_18 rfl ?_
        refine Go.ldc dX7_nearHad_19 kcX7_85 ?_
        refine Go.callVI [] dX7_nearHad_21 lkX7_104 imX7_finds seX7_finds cbX7_finds (m_finds hG (code := (-1000000001)) (q := 0) (by decide) (by decide)) (shp hG rfl) rfl rfl rfl (Nat.le_of_ble_eq_true rfl) (fun r7 M8 hr7 => ?_)
        refine Go.iret dX7_nearHad_24 rfl rfl ?_
        refine ⟨_, rfl, ?_⟩
        rw [show A_nearHad g x0 n = ((-1000000001), fndS g 0) from if_neg hgd, hr7.2]
        exact ⟨hr7.1, hC.fnd⟩
def A_count (g : Sg) (w : Int32) : Int32 × Sg := if w = 0 then (nI (gTn g), g) else if w = 1 then (nI (popN (uE (gU g))), g) else (-1000000001, fndS g 0)
theorem ed_pop : ∀ e, e < 4 → nI (e % 2) + nI (e / 2) = nI (popN e) := by decide +kernel
theorem lk01 {w : Int32} {a b z : Int} (h0 : ¬ w = 0) (h1 : ¬ w = 1) : Op.lookupswitch.offset [(0, a), (1, b)] z w.toInt = z := by
  have e0 : ((0 : Int32)).toInt = 0 := by decide
  have e1 : ((1 : Int32)).toInt = 1 := by decide
  rw [i_eq] at h0 h1
  rw [Op.lookupswitch.offset_cons, if_neg (by omega), Op.lookupswitch.offset_cons, if_neg (by omega)]
  rfl
set_option maxRecDepth 20000 in
theorem c_count {G : Gt} {d : Nat} {M : Mm} (hG : gS G = SHAPE) {g : Sg} (hC : CompIs M g) (hg : SgOk g) (w : Int32) : ExI G (d + 2) mX6_count [.ref 0, .int w] M (fun r M' => r = (A_count g w).1 ∧ CompIs M' (A_count g w).2 ∧ MSame M M') := by
  refine Ex.of (by decide) (Nat.le_of_ble_eq_true rfl) ?_
  have hB := hC.1.bk hg.1
  have hn30 := hg.1.1
  show Go G (d + 2) mX6_count 0 [some (.ref 0), some (.int w)] [] M _
  refine Go.iload_n dX6_count_0 rfl ?_
  by_cases w1_0 : w = 0
  · rw [w1_0]
    refine Go.lookup (off := 27) 28 dX6_count_1 (by decide) (by decide) rfl ?_
    refine Go.aload_n dX6_count_28 rfl ?_
    refine Go.getR dX6_count_29 flX6_43 (shp hG rfl) rfl ?_
    refine Go.getI dX6_count_32 flX6_234 (shp hG rfl) rfl ?_
    refine Go.iret dX6_count_35 rfl rfl ?_
    refine ⟨_, rfl, ?_⟩
    rw [show A_count g 0 = (nI (gTn g), g) from by simp [A_count]]
    exact ⟨hC.2.2.2.1, hC, MSame.refl M⟩
  · skip
    by_cases w1_1 : w = 1
    · rw [w1_1]
      refine Go.lookup (off := 35) 36 dX6_count_1 (by decide) (by decide) rfl ?_
      refine Go.aload_n dX6_count_36 rfl ?_
      refine Go.getR dX6_count_37 flX6_12 (shp hG rfl) rfl ?_
      refine Go.getI dX6_count_40 flX6_161 (shp hG rfl) rfl ?_
      refine Go.eqI (y := nI (uE (gU g))) (hB.2.2.2.1) ?_
      refine Go.callSI [] dX6_count_43 lkX6_293 stJ6_bitCount_0f7a4 cbJ6_bitCount_0f7a4 (s_bitCount (nI (uE (gU g)))) rfl rfl (Nat.le_of_ble_eq_true rfl) (fun r1 M2 hr1 => ?_)
      obtain ⟨er1, emr1⟩ := hr1
      rw [emr1]
      clear emr1 M2
      subst er1
      refine Go.eqI (y := nI (popN (uE (gU g)))) (pcI_nI (by have := hB.2.1; omega)) ?_
      refine Go.iret dX6_count_46 rfl rfl ?_
      refine ⟨_, rfl, ?_⟩
      rw [show A_count g 1 = (nI (popN (uE (gU g))), g) from by simp [A_count]]
      exact ⟨rfl, hC, MSame.refl M⟩
    · skip
      refine Go.lookup (off := 46) 47 dX6_count_1 (by decide) (lk01 w1_0 w1_1) rfl ?_
      refine Go.aload_n dX6_count_47 rfl ?_
      refine Go.ldc dX6_count_48 kcX6_62 ?_
      refine Go.callVI [] dX6_count_50 lkX6_63 imX6_finding seX6_finding cbX6_finding (s_finding hG (code := (-1000000001)) (q := 0) (by decide) (by decide)) (shp hG rfl) rfl rfl rfl (Nat.le_of_ble_eq_true rfl) (fun r3 M4 hr3 => ?_)
      refine Go.iret dX6_count_53 rfl rfl ?_
      refine ⟨_, rfl, ?_⟩
      rw [show A_count g w = (-1000000001, fndS g 0) from by simp [A_count, w1_0, w1_1], hr3.2]
      exact ⟨hr3.1, hC.fnd⟩
set_option maxRecDepth 20000 in
theorem m_count {G : Gt} {d : Nat} {M : Mm} (hG : gS G = SHAPE) {g : Sg} (hC : ModIs M g) (hg : SgOk g) (w : Int32) : ExI G (d + 1) mX7_count [.ref 49, .int w] M (fun r M' => r = (A_count g w).1 ∧ ModIs M' (A_count g w).2 ∧ CSame M M') := by
  refine Ex.of (by decide) (Nat.le_of_ble_eq_true rfl) ?_
  have hB := hC.1.bk hg.1
  have hn30 := hg.1.1
  show Go G (d + 1) mX7_count 0 [some (.ref 49), some (.int w)] [] M _
  refine Go.iload_n dX7_count_0 rfl ?_
  refine Go.if_ne 11 dX7_count_1 rfl (fun h1 => ?_) (fun h1 => ?_)
  · refine Go.iload_n dX7_count_11 rfl ?_
    refine Go.iconst (v := 1) dX7_count_12 (by decide) ?_
    refine Go.icmp_ne 32 dX7_count_13 rfl (fun h13 => ?_) (fun h13 => ?_)
    · refine Go.aload_n dX7_count_32 rfl ?_
      refine Go.ldc dX7_count_33 kcX7_85 ?_
      refine Go.callVI [] dX7_count_35 lkX7_104 imX7_finds seX7_finds cbX7_finds (m_finds hG (code := (-1000000001)) (q := 0) (by decide) (by decide)) (shp hG rfl) rfl rfl rfl (Nat.le_of_ble_eq_true rfl) (fun r1 M2 hr1 => ?_)
      refine Go.iret dX7_count_38 rfl rfl ?_
      refine ⟨_, rfl, ?_⟩
      rw [show A_count g w = (-1000000001, fndS g 0) from by simp [A_count, h1, h13], hr1.2]
      exact ⟨hr1.1, hC.fnd⟩
    · refine Go.aload_n dX7_count_16 rfl ?_
      refine Go.getR dX7_count_17 flX7_16 (shp hG rfl) rfl ?_
      refine Go.iconst (v := 0) dX7_count_20 (by decide) ?_
      refine Go.iald dX7_count_21 (shp hG rfl) (vin (i := 0) (by decide) (by decide)) ?_
      refine Go.aload_n dX7_count_22 rfl ?_
      refine Go.getR dX7_count_23 flX7_16 (shp hG rfl) rfl ?_
      refine Go.iconst (v := 1) dX7_count_26 (by decide) ?_
      refine Go.iald dX7_count_27 (shp hG rfl) (vin (i := 1) (by decide) (by decide)) ?_
      refine Go.iadd dX7_count_28 ?_
      refine Go.goto 38 dX7_count_29 rfl ?_
      refine Go.iret dX7_count_38 rfl rfl ?_
      refine ⟨_, rfl, ?_⟩
      rw [show A_count g w = (nI (popN (uE (gU g))), g) from by simp [A_count, h13]]
      exact ⟨by rw [← ed_pop _ hg.1.2.1, ← hC.1.2.2.2.2.2.1, ← hC.1.2.2.2.2.2.2.1]; rfl, hC, CSame.refl M⟩
  · refine Go.aload_n dX7_count_4 rfl ?_
    refine Go.getI dX7_count_5 flX7_222 (shp hG rfl) rfl ?_
    refine Go.goto 38 dX7_count_8 rfl ?_
    refine Go.iret dX7_count_38 rfl rfl ?_
    refine ⟨_, rfl, ?_⟩
    rw [show A_count g w = (nI (gTn g), g) from by simp [A_count, h1]]
    exact ⟨hC.2.2.2.1, hC, CSame.refl M⟩
