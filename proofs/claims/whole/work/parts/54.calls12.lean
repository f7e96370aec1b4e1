theorem addInt2 {a b : Int32} (ha : -100000 ≤ a.toInt ∧ a.toInt ≤ 100000) (hb : -100000 ≤ b.toInt ∧ b.toInt ≤ 100000) : (a + b).toInt = a.toInt + b.toInt := by
  rw [Int32.toInt_add]
  exact Int.bmod_eq_of_le (by omega) (by omega)
theorem subInt2 {a b : Int32} (ha : -100000 ≤ a.toInt ∧ a.toInt ≤ 100000) (hb : -100000 ≤ b.toInt ∧ b.toInt ≤ 100000) : (a - b).toInt = a.toInt - b.toInt := by
  rw [Int32.toInt_sub]
  exact Int.bmod_eq_of_le (by omega) (by omega)
def manyP (u : Bu) (w : Nat) (p : Nat) : Bool := if w = 0 then canN (uS u) (dishN p / 20) else if w = 1 then decide (kc u (dishN p) = 0) else if w = 2 then goodP (uS u) (kc u) (dishN p) else (!canN (uS u) (dishN p / 20) && !decide (kc u (dishN p) = 0))
def A_many (g : Sg) (w : Int32) : Int32 × Sg := if inb w 4 then (nI (cntN (manyP (gU g) (tN w)) 1840), g) else (-1000000001, fndS g 0)
theorem inI_kind3 {k : Int32} : inI k 0 3 = inb k 4 := inI_four
theorem many_3 (u : Bu) : (1840 : Int32) - nI (cntN (fun j => canN (uS u) (sN j)) 92 * 20) - nI (1840 - nBar (kc u)) + nI (sumN (fun j => popN (svM (uS u) (kc u) (sN j))) 92) = nI (cntN (manyP u 3) 1840) := by
  rw [← cnt_can, cnt_new (c := kc u) (cB_out _ _ _ _), cnt_good]
  have h := cnt_incl (fun p => canN (uS u) (dishN p / 20)) (fun p => decide (kc u (dishN p) = 0)) 1840
  have h1 := cnt_le (fun p => canN (uS u) (dishN p / 20)) 1840
  have h2 := cnt_le (fun p => decide (kc u (dishN p) = 0)) 1840
  have h3 := cnt_le (fun p => goodP (uS u) (kc u) (dishN p)) 1840
  have e1 : cntN (fun p => goodP (uS u) (kc u) (dishN p)) 1840 = cntN (fun p => canN (uS u) (dishN p / 20) && decide (kc u (dishN p) = 0)) 1840 := rfl
  have e2 : cntN (manyP u 3) 1840 = cntN (fun p => !canN (uS u) (dishN p / 20) && !decide (kc u (dishN p) = 0)) 1840 := rfl
  rw [e1, e2]
  rw [e1] at h3
  generalize cntN (fun p => canN (uS u) (dishN p / 20)) 1840 = a at *
  have h4 := cnt_le (fun p => !canN (uS u) (dishN p / 20) && !decide (kc u (dishN p) = 0)) 1840
  show nI 1840 - nI a - nI _ + nI _ = nI _
  rw [pk_sub (by omega), i_eq]
  have t1 := pk_sub_toInt (a := 1840 - a) (b := cntN (fun p => decide (kc u (dishN p) = 0)) 1840) (by omega) (by omega)
  rw [addInt2 (by rw [t1]; omega) (by rw [nI_toInt (by omega)]; omega), t1, nI_toInt (by omega), nI_toInt (by omega)]
  omega
theorem svM_congr {f f' : Nat → Int32} (h : E8 f f') (c : Nat → Nat) (s : Nat) : svM f c s = svM f' c s := by
  unfold svM
  rw [canN_congr h]
theorem k_possible {G : Gt} {d : Nat} {M : Mm} (hG : gS G = SHAPE) {f : Nat → Int32} {c : Nat → Nat} {g : Nat → Int32} {ed : Nat} (hS : KS M f c g ed) : ExI G (d + 1) mX2_possible [.ref 25] M (fun r M' => r = nI (cntN (fun j => canN f (sN j)) 92 * 20) ∧ M' = M) := by
  obtain ⟨f', lt, lw, ls, ⟨⟨fv, h1⟩, hE, _, _, hf⟩, h2, h3⟩ := hS
  refine (s_possible hG).mono (fun r M' ⟨a, b⟩ => ⟨?_, b⟩)
  rw [a, hf, cnt_congr 92 (fun j _ => canN_congr h2 (sN j))]
theorem k_servable {G : Gt} {d : Nat} {M : Mm} (hG : gS G = SHAPE) {f : Nat → Int32} {c : Nat → Nat} {g : Nat → Int32} {ed : Nat} (hS : KS M f c g ed) : ExI G (d + 1) mX2_servable [.ref 25] M (fun r M' => r = nI (sumN (fun j => popN (svM f c (sN j))) 92) ∧ M' = M) := by
  obtain ⟨f', lt, lw, ls, ⟨⟨fv, h1⟩, hE, _, _, hf⟩, h2, h3⟩ := hS
  refine (s_servable hG h1.1).mono (fun r M' ⟨a, b⟩ => ⟨?_, b⟩)
  rw [a, hf, sumN_congr 92 (fun j _ => by rw [svM_congr h2])]
theorem k_unbarred {G : Gt} {d : Nat} {M : Mm} (hG : gS G = SHAPE) {f : Nat → Int32} {c : Nat → Nat} {g : Nat → Int32} {ed : Nat} (hS : KS M f c g ed) : ExI G (d + 2) mX0_unbarred [.ref 27] M (fun r M' => r = nI (1840 - nBar c) ∧ M' = M) := by
  obtain ⟨f', lt, lw, ls, ⟨⟨fv, h1⟩, hE, _, _, hf⟩, h2, h3⟩ := hS
  exact s_unbarred hG h1.1 h1.2.1
theorem k_firstFrom {G : Gt} {d : Nat} {M : Mm} (hG : gS G = SHAPE) {f : Nat → Int32} {c : Nat → Nat} {g : Nat → Int32} {ed : Nat} (hS : KS M f c g ed) {number : Int32} : ExI G (d + 1) mX2_firstFrom [.ref 25, .int number] M (fun r M' => r = optI (-1) ((fstF (fromP f c number) 0 1840).map dishN) ∧ M' = M) := by
  obtain ⟨f', lt, lw, ls, ⟨⟨fv, h1⟩, hE, _, _, hf⟩, h2, h3⟩ := hS
  refine (s_firstFrom hG h1.1).mono (fun r M' ⟨a, b⟩ => ⟨?_, b⟩)
  rw [a, hf, fstF_congr (q := fromP f c number) 1840 0 (fun k _ _ => by unfold fromP; rw [goodP_congr h2])]
  cases fstF (fromP f c number) 0 1840 <;> rfl
set_option maxRecDepth 20000 in
theorem c_many {G : Gt} {d : Nat} {M : Mm} (hG : gS G = SHAPE) {g : Sg} (hC : CompIs M g) (hg : SgOk g) (w0 : Int32) : ExI G (d + 4) mX6_many [.ref 0, .int w0] M (fun r M' => r = (A_many g w0).1 ∧ CompIs M' (A_many g w0).2 ∧ MSame M M') := by
  refine Ex.of (by decide) (Nat.le_of_ble_eq_true rfl) ?_
  show Go G (d + 4) mX6_many 0 [some (.ref 0), some (.int w0)] [] M _
  by_cases hgd : (inb w0 4) = true
  · obtain ⟨j, hj, ej⟩ := inb_ex (n := 4) hgd (by decide)
    subst ej
    have hA0 : A_many g (nI j) = (nI (cntN (manyP (gU g) j) 1840), g) := by
      rw [show A_many g (nI j) = (nI (cntN (manyP (gU g) (tN (nI j))) 1840), g) from if_pos hgd, tN_nI (by omega)]
    rw [hA0]
    clear hA0
    refine Go.iload_n dX6_many_0 rfl ?_
    refine Go.iconst (v := 4) dX6_many_1 (by decide) ?_
    refine Go.callSI [] dX6_many_2 lkX6_58 stX6_isBelow cbX6_isBelow (s_isBelow (nI j) 4) rfl rfl (Nat.le_of_ble_eq_true rfl) (fun r1 M2 hr1 => ?_)
    obtain ⟨er1, emr1⟩ := hr1
    rw [emr1]
    clear emr1 M2
    subst er1
    refine Go.eqI (y := 1) (by rw [show inb (nI j) 4 = decide (j < 4) from inb_nI (by omega) (by decide), decide_eq_true (by omega)]; rfl) ?_
    refine Go.if_ne 15 dX6_many_5 rfl (fun _ => ?_) (fun h5 => absurd h5 (by decide))
    refine Go.aload_n dX6_many_15 rfl ?_
    refine Go.getR dX6_many_16 flX6_29 (shp hG rfl) rfl ?_
    refine Go.aload_n dX6_many_19 rfl ?_
    refine Go.getR dX6_many_20 flX6_12 (shp hG rfl) rfl ?_
    refine Go.callVV [] dX6_many_23 lkX6_114 imX2_begin seX2_begin cbX2_begin (k_begin hG hC hg) (shp hG rfl) rfl rfl rfl (Nat.le_of_ble_eq_true rfl) (fun M4 hr3 => ?_)
    obtain ⟨hCk, hmk, hkck, hKk⟩ := hr3
    refine Go.iload_n dX6_many_26 rfl ?_
    obtain sw27 | sw27 | sw27 | sw27 : j = 0 ∨ j = 1 ∨ j = 2 ∨ j = 3 := by omega
    · rw [sw27]
      refine Go.tableIn 52 dX6_many_27 (by decide) (by decide) rfl rfl ?_
      refine Go.aload_n dX6_many_52 rfl ?_
      refine Go.getR dX6_many_53 flX6_29 (shp hG rfl) rfl ?_
      refine Go.callVI [] dX6_many_56 lkX6_118 imX2_possible seX2_possible cbX2_possible (k_possible hG hKk) (shp hG rfl) rfl rfl rfl (Nat.le_of_ble_eq_true rfl) (fun r5 M6 hr5 => ?_)
      obtain ⟨er5, emr5⟩ := hr5
      rw [emr5]
      clear emr5 M6
      subst er5
      refine Go.iret dX6_many_59 rfl rfl ?_
      exact ⟨_, rfl, by rw [← cnt_can]; rfl, hCk, hmk⟩
    · rw [sw27]
      refine Go.tableIn 60 dX6_many_27 (by decide) (by decide) rfl rfl ?_
      refine Go.aload_n dX6_many_60 rfl ?_
      refine Go.getR dX6_many_61 flX6_29 (shp hG rfl) rfl ?_
      refine Go.getR dX6_many_64 flX6_122 (shp hG rfl) rfl ?_
      refine Go.callVI [] dX6_many_67 lkX6_126 imX0_unbarred seX0_unbarred cbX0_unbarred (k_unbarred hG hKk) (shp hG rfl) rfl rfl rfl (Nat.le_of_ble_eq_true rfl) (fun r7 M8 hr7 => ?_)
      obtain ⟨er7, emr7⟩ := hr7
      rw [emr7]
      clear emr7 M8
      subst er7
      refine Go.iret dX6_many_70 rfl rfl ?_
      exact ⟨_, rfl, by rw [cnt_new (c := kc (gU g)) (cB_out _ _ _ _)]; rfl, hCk, hmk⟩
    · rw [sw27]
      refine Go.tableIn 71 dX6_many_27 (by decide) (by decide) rfl rfl ?_
      refine Go.aload_n dX6_many_71 rfl ?_
      refine Go.getR dX6_many_72 flX6_29 (shp hG rfl) rfl ?_
      refine Go.callVI [] dX6_many_75 lkX6_131 imX2_servable seX2_servable cbX2_servable (k_servable hG hKk) (shp hG rfl) rfl rfl rfl (Nat.le_of_ble_eq_true rfl) (fun r9 M10 hr9 => ?_)
      obtain ⟨er9, emr9⟩ := hr9
      rw [emr9]
      clear emr9 M10
      subst er9
      refine Go.iret dX6_many_78 rfl rfl ?_
      exact ⟨_, rfl, by rw [cnt_good]; rfl, hCk, hmk⟩
    · rw [sw27]
      refine Go.tableOut 79 dX6_many_27 (by decide) rfl ?_
      refine Go.sipush (v := 1840) dX6_many_79 (by decide) ?_
      refine Go.aload_n dX6_many_82 rfl ?_
      refine Go.getR dX6_many_83 flX6_29 (shp hG rfl) rfl ?_
      refine Go.callVI [.int 1840] dX6_many_86 lkX6_118 imX2_possible seX2_possible cbX2_possible (k_possible hG hKk) (shp hG rfl) rfl rfl rfl (Nat.le_of_ble_eq_true rfl) (fun r11 M12 hr11 => ?_)
      obtain ⟨er11, emr11⟩ := hr11
      rw [emr11]
      clear emr11 M12
      subst er11
      refine Go.isub dX6_many_89 ?_
      refine Go.aload_n dX6_many_90 rfl ?_
      refine Go.getR dX6_many_91 flX6_29 (shp hG rfl) rfl ?_
      refine Go.getR dX6_many_94 flX6_122 (shp hG rfl) rfl ?_
      refine Go.callVI [.int (1840 - (nI (cntN (fun j => canN (uS (gU g)) (sN j)) 92 * 20)))] dX6_many_97 lkX6_126 imX0_unbarred seX0_unbarred cbX0_unbarred (k_unbarred hG hKk) (shp hG rfl) rfl rfl rfl (Nat.le_of_ble_eq_true rfl) (fun r13 M14 hr13 => ?_)
      obtain ⟨er13, emr13⟩ := hr13
      rw [emr13]
      clear emr13 M14
      subst er13
      refine Go.isub dX6_many_100 ?_
      refine Go.aload_n dX6_many_101 rfl ?_
      refine Go.getR dX6_many_102 flX6_29 (shp hG rfl) rfl ?_
      refine Go.callVI [.int ((1840 - (nI (cntN (fun j => canN (uS (gU g)) (sN j)) 92 * 20))) - (nI (1840 - nBar (kc (gU g)))))] dX6_many_105 lkX6_131 imX2_servable seX2_servable cbX2_servable (k_servable hG hKk) (shp hG rfl) rfl rfl rfl (Nat.le_of_ble_eq_true rfl) (fun r15 M16 hr15 => ?_)
      obtain ⟨er15, emr15⟩ := hr15
      rw [emr15]
      clear emr15 M16
      subst er15
      refine Go.iadd dX6_many_108 ?_
      refine Go.iret dX6_many_109 rfl rfl ?_
      exact ⟨_, rfl, many_3 (gU g), hCk, hmk⟩
  · refine Go.iload_n dX6_many_0 rfl ?_
    refine Go.iconst (v := 4) dX6_many_1 (by decide) ?_
    refine Go.callSI [] dX6_many_2 lkX6_58 stX6_isBelow cbX6_isBelow (s_isBelow w0 4) rfl rfl (Nat.le_of_ble_eq_true rfl) (fun r1 M2 hr1 => ?_)
    obtain ⟨er1, emr1⟩ := hr1
    rw [emr1]
    clear emr1 M2
    subst er1
    refine Go.if_ne 15 dX6_many_5 rfl (fun h5 => ?_) (fun h5 => ?_)
    · exact absurd (by simp [bi_n0.mp h5]) hgd
    · refine Go.aload_n dX6_many_8 rfl ?_
      refine Go.ldc dX6_many_9 kcX6_62 ?_
      refine Go.callVI [] dX6_many_11 lkX6_63 imX6_finding seX6_finding cbX6_finding (s_finding hG (code := (-1000000001)) (q := 0) (by decide) (by decide)) (shp hG rfl) rfl rfl rfl (Nat.le_of_ble_eq_true rfl) (fun r3 M4 hr3 => ?_)
      refine Go.iret dX6_many_14 rfl rfl ?_
      refine ⟨_, rfl, ?_⟩
      rw [show A_many g w0 = ((-1000000001), fndS g 0) from if_neg hgd, hr3.2]
      exact ⟨hr3.1, hC.fnd⟩
set_option maxRecDepth 20000 in
theorem l_many0 {G : Gt} {d : Nat} {M0 M : Mm} (hG : gS G = SHAPE) {g : Sg} (hC : ModIs M g) (hM : MarkIs M (kc (gU g))) (hm : CSame M0 M) : ∀ (n i : Nat) (o4 o5 : Option Value), i + n = 1840 → Go G (d + 2) mX7_many 24 [some (.ref 49), some (.int 0), some (.int (nI (cntN (manyP (gU g) 0) i))), some (.int (nI i)), o4, o5] [] M (fun v M' => ∃ r, v = some (.int r) ∧ r = nI (cntN (manyP (gU g) 0) 1840) ∧ ModIs M' g ∧ CSame M0 M') := by
  intro n
  induction n with
  | zero =>
    intro i o4 o5 hin
    refine Go.iload_n dX7_many_24 rfl ?_
    refine Go.sipush (v := 1840) dX7_many_25 (by decide) ?_
    refine Go.icmp_ge 140 dX7_many_28 rfl (fun _ => ?_) (fun h28 => absurd (nI_le (a := 1840) (b := i) (by omega) (by omega)) h28)
    refine Go.iload_n dX7_many_140 rfl ?_
    refine Go.iret dX7_many_141 rfl rfl ?_
    have e9 : i = 1840 := by omega
    subst e9
    exact ⟨_, rfl, rfl, hC, hm⟩
  | succ n ih =>
    intro i o4 o5 hin
    have hi : i < 1840 := by omega
    refine Go.iload_n dX7_many_24 rfl ?_
    refine Go.sipush (v := 1840) dX7_many_25 (by decide) ?_
    refine Go.icmp_ge 140 dX7_many_28 rfl (fun h28 => absurd h28 (nI_ge (a := i) (b := 1840) (by omega) (by omega))) (fun _ => ?_)
    refine Go.aload_n dX7_many_31 rfl ?_
    refine Go.aload_n dX7_many_32 rfl ?_
    refine Go.iload_n dX7_many_33 rfl ?_
    refine Go.callVI [.ref 49] dX7_many_34 lkX7_150 imX7_dishAt seX7_dishAt cbX7_dishAt (m_dishAt hG hC.2.2.2.2.2.2.2 (p := i) (by omega)) (shp hG rfl) rfl rfl rfl (Nat.le_of_ble_eq_true rfl) (fun r1 M2 hr1 => ?_)
    obtain ⟨er1, emr1⟩ := hr1
    rw [emr1]
    clear emr1 M2
    subst er1
    refine Go.callVI [] dX7_many_37 lkX7_137 imX7_canBe seX7_canBe cbX7_canBe (m_canBe hG (x := dishN i) (dishN_lt (by omega))) (shp hG rfl) rfl rfl rfl (Nat.le_of_ble_eq_true rfl) (fun r3 M4 hr3 => ?_)
    obtain ⟨er3, emr3⟩ := hr3
    rw [emr3]
    clear emr3 M4
    subst er3
    refine Go.eqI (y := bi (canN (uS (gU g)) (dishN i / 20))) (by rw [canN_congr hC.1.1]) ?_
    refine Go.istore (ls' := [some (.ref 49), some (.int 0), some (.int (nI (cntN (manyP (gU g) 0) i))), some (.int (nI i)), some (.int (bi (canN (uS (gU g)) (dishN i / 20)))), o5]) dX7_many_40 (Nat.le_of_ble_eq_true rfl) rfl rfl ?_
    refine Go.iload_n dX7_many_42 rfl ?_
    refine Go.if_ne 51 dX7_many_43 rfl (fun h43 => absurd (by decide) h43) (fun _ => ?_)
    refine Go.iload dX7_many_46 rfl ?_
    refine Go.goto 119 dX7_many_48 rfl ?_
    refine Go.istore (ls' := [some (.ref 49), some (.int 0), some (.int (nI (cntN (manyP (gU g) 0) i))), some (.int (nI i)), some (.int (bi (canN (uS (gU g)) (dishN i / 20)))), some (.int (bi (canN (uS (gU g)) (dishN i / 20))))]) dX7_many_119 (Nat.le_of_ble_eq_true rfl) rfl rfl ?_
    refine Go.iload_n dX7_many_121 rfl ?_
    refine Go.iload dX7_many_122 rfl ?_
    refine Go.if_eq 131 dX7_many_124 rfl (fun h124 => ?_) (fun h124 => ?_)
    · refine Go.iconst (v := 0) dX7_many_131 (by decide) ?_
      refine Go.iadd dX7_many_132 ?_
      refine Go.eqI (y := nI (cntN (manyP (gU g) 0) i + 0)) (nI_add _ _) ?_
      refine Go.istore_n (ls' := [some (.ref 49), some (.int 0), some (.int (nI (cntN (manyP (gU g) 0) i + 0))), some (.int (nI i)), some (.int (bi (canN (uS (gU g)) (dishN i / 20)))), some (.int (bi (canN (uS (gU g)) (dishN i / 20))))]) dX7_many_133 (Nat.le_of_ble_eq_true rfl) rfl rfl ?_
      refine Go.iinc (v := nI (i + 1)) (ls' := [some (.ref 49), some (.int 0), some (.int (nI (cntN (manyP (gU g) 0) i + 0))), some (.int (nI (i + 1))), some (.int (bi (canN (uS (gU g)) (dishN i / 20)))), some (.int (bi (canN (uS (gU g)) (dishN i / 20))))]) dX7_many_134 rfl (nI_1 _) rfl rfl ?_
      refine Go.goto 24 dX7_many_137 rfl ?_
      have h9 : manyP (gU g) 0 i = false := by
        have hb0 : decide (kc (gU g) (dishN i) = 0) = !decide (1 ≤ kc (gU g) (dishN i)) := by
          rw [Bool.eq_iff_iff]
          simp
        simp only [manyP, goodP, hb0]
        simp [bi_0.mp h124]
      rw [show nI (cntN (manyP (gU g) 0) i + 0) = nI (cntN (manyP (gU g) 0) (i + 1)) from cnt_f h9]
      exact ih (i + 1) _ _ (by omega)
    · refine Go.iconst (v := 1) dX7_many_127 (by decide) ?_
      refine Go.goto 132 dX7_many_128 rfl ?_
      refine Go.iadd dX7_many_132 ?_
      refine Go.eqI (y := nI (cntN (manyP (gU g) 0) i + 1)) (nI_add _ _) ?_
      refine Go.istore_n (ls' := [some (.ref 49), some (.int 0), some (.int (nI (cntN (manyP (gU g) 0) i + 1))), some (.int (nI i)), some (.int (bi (canN (uS (gU g)) (dishN i / 20)))), some (.int (bi (canN (uS (gU g)) (dishN i / 20))))]) dX7_many_133 (Nat.le_of_ble_eq_true rfl) rfl rfl ?_
      refine Go.iinc (v := nI (i + 1)) (ls' := [some (.ref 49), some (.int 0), some (.int (nI (cntN (manyP (gU g) 0) i + 1))), some (.int (nI (i + 1))), some (.int (bi (canN (uS (gU g)) (dishN i / 20)))), some (.int (bi (canN (uS (gU g)) (dishN i / 20))))]) dX7_many_134 rfl (nI_1 _) rfl rfl ?_
      refine Go.goto 24 dX7_many_137 rfl ?_
      have h9 : manyP (gU g) 0 i = true := by
        have hb0 : decide (kc (gU g) (dishN i) = 0) = !decide (1 ≤ kc (gU g) (dishN i)) := by
          rw [Bool.eq_iff_iff]
          simp
        simp only [manyP, goodP, hb0]
        simp [bi_n0.mp h124]
      rw [cnt_t (p := manyP (gU g) 0) (i := i) h9]
      exact ih (i + 1) _ _ (by omega)
set_option maxRecDepth 20000 in
theorem l_many1 {G : Gt} {d : Nat} {M0 M : Mm} (hG : gS G = SHAPE) {g : Sg} (hC : ModIs M g) (hM : MarkIs M (kc (gU g))) (hm : CSame M0 M) : ∀ (n i : Nat) (o4 o5 : Option Value), i + n = 1840 → Go G (d + 2) mX7_many 24 [some (.ref 49), some (.int 1), some (.int (nI (cntN (manyP (gU g) 1) i))), some (.int (nI i)), o4, o5] [] M (fun v M' => ∃ r, v = some (.int r) ∧ r = nI (cntN (manyP (gU g) 1) 1840) ∧ ModIs M' g ∧ CSame M0 M') := by
  intro n
  induction n with
  | zero =>
    intro i o4 o5 hin
    refine Go.iload_n dX7_many_24 rfl ?_
    refine Go.sipush (v := 1840) dX7_many_25 (by decide) ?_
    refine Go.icmp_ge 140 dX7_many_28 rfl (fun _ => ?_) (fun h28 => absurd (nI_le (a := 1840) (b := i) (by omega) (by omega)) h28)
    refine Go.iload_n dX7_many_140 rfl ?_
    refine Go.iret dX7_many_141 rfl rfl ?_
    have e9 : i = 1840 := by omega
    subst e9
    exact ⟨_, rfl, rfl, hC, hm⟩
  | succ n ih =>
    intro i o4 o5 hin
    have hi : i < 1840 := by omega
    refine Go.iload_n dX7_many_24 rfl ?_
    refine Go.sipush (v := 1840) dX7_many_25 (by decide) ?_
    refine Go.icmp_ge 140 dX7_many_28 rfl (fun h28 => absurd h28 (nI_ge (a := i) (b := 1840) (by omega) (by omega))) (fun _ => ?_)
    refine Go.aload_n dX7_many_31 rfl ?_
    refine Go.aload_n dX7_many_32 rfl ?_
    refine Go.iload_n dX7_many_33 rfl ?_
    refine Go.callVI [.ref 49] dX7_many_34 lkX7_150 imX7_dishAt seX7_dishAt cbX7_dishAt (m_dishAt hG hC.2.2.2.2.2.2.2 (p := i) (by omega)) (shp hG rfl) rfl rfl rfl (Nat.le_of_ble_eq_true rfl) (fun r1 M2 hr1 => ?_)
    obtain ⟨er1, emr1⟩ := hr1
    rw [emr1]
    clear emr1 M2
    subst er1
    refine Go.callVI [] dX7_many_37 lkX7_137 imX7_canBe seX7_canBe cbX7_canBe (m_canBe hG (x := dishN i) (dishN_lt (by omega))) (shp hG rfl) rfl rfl rfl (Nat.le_of_ble_eq_true rfl) (fun r3 M4 hr3 => ?_)
    obtain ⟨er3, emr3⟩ := hr3
    rw [emr3]
    clear emr3 M4
    subst er3
    refine Go.eqI (y := bi (canN (uS (gU g)) (dishN i / 20))) (by rw [canN_congr hC.1.1]) ?_
    refine Go.istore (ls' := [some (.ref 49), some (.int 1), some (.int (nI (cntN (manyP (gU g) 1) i))), some (.int (nI i)), some (.int (bi (canN (uS (gU g)) (dishN i / 20)))), o5]) dX7_many_40 (Nat.le_of_ble_eq_true rfl) rfl rfl ?_
    refine Go.iload_n dX7_many_42 rfl ?_
    refine Go.if_ne 51 dX7_many_43 rfl (fun _ => ?_) (fun h43 => absurd h43 (by decide))
    refine Go.iload_n dX7_many_51 rfl ?_
    refine Go.iconst (v := 1) dX7_many_52 (by decide) ?_
    refine Go.icmp_ne 73 dX7_many_53 rfl (fun h53 => absurd (by decide) h53) (fun _ => ?_)
    refine Go.aload_n dX7_many_56 rfl ?_
    refine Go.getR dX7_many_57 flX7_37 (shp hG rfl) rfl ?_
    refine Go.iload_n dX7_many_60 rfl ?_
    refine Go.zald dX7_many_61 (shp hG rfl) (vin (by omega) (by decide)) ?_
    refine Go.eqI (y := bi (decide (1 ≤ kc (gU g) (dishN i)))) (by rw [ncl (by omega)]; exact hM i (by omega)) ?_
    refine Go.if_ne 69 dX7_many_62 rfl (fun h62 => ?_) (fun h62 => ?_)
    · refine Go.iconst (v := 0) dX7_many_69 (by decide) ?_
      refine Go.goto 119 dX7_many_70 rfl ?_
      refine Go.istore (ls' := [some (.ref 49), some (.int 1), some (.int (nI (cntN (manyP (gU g) 1) i))), some (.int (nI i)), some (.int (bi (canN (uS (gU g)) (dishN i / 20)))), some (.int 0)]) dX7_many_119 (Nat.le_of_ble_eq_true rfl) rfl rfl ?_
      refine Go.iload_n dX7_many_121 rfl ?_
      refine Go.iload dX7_many_122 rfl ?_
      refine Go.if_eq 131 dX7_many_124 rfl (fun _ => ?_) (fun h124 => absurd (by decide) h124)
      refine Go.iconst (v := 0) dX7_many_131 (by decide) ?_
      refine Go.iadd dX7_many_132 ?_
      refine Go.eqI (y := nI (cntN (manyP (gU g) 1) i + 0)) (nI_add _ _) ?_
      refine Go.istore_n (ls' := [some (.ref 49), some (.int 1), some (.int (nI (cntN (manyP (gU g) 1) i + 0))), some (.int (nI i)), some (.int (bi (canN (uS (gU g)) (dishN i / 20)))), some (.int 0)]) dX7_many_133 (Nat.le_of_ble_eq_true rfl) rfl rfl ?_
      refine Go.iinc (v := nI (i + 1)) (ls' := [some (.ref 49), some (.int 1), some (.int (nI (cntN (manyP (gU g) 1) i + 0))), some (.int (nI (i + 1))), some (.int (bi (canN (uS (gU g)) (dishN i / 20)))), some (.int 0)]) dX7_many_134 rfl (nI_1 _) rfl rfl ?_
      refine Go.goto 24 dX7_many_137 rfl ?_
      have h9 : manyP (gU g) 1 i = false := by
        have hb0 : decide (kc (gU g) (dishN i) = 0) = !decide (1 ≤ kc (gU g) (dishN i)) := by
          rw [Bool.eq_iff_iff]
          simp
        simp only [manyP, goodP, hb0]
        simp [bi_n0.mp h62]
      rw [show nI (cntN (manyP (gU g) 1) i + 0) = nI (cntN (manyP (gU g) 1) (i + 1)) from cnt_f h9]
      exact ih (i + 1) _ _ (by omega)
    · refine Go.iconst (v := 1) dX7_many_65 (by decide) ?_
      refine Go.goto 119 dX7_many_66 rfl ?_
      refine Go.istore (ls' := [some (.ref 49), some (.int 1), some (.int (nI (cntN (manyP (gU g) 1) i))), some (.int (nI i)), some (.int (bi (canN (uS (gU g)) (dishN i / 20)))), some (.int 1)]) dX7_many_119 (Nat.le_of_ble_eq_true rfl) rfl rfl ?_
      refine Go.iload_n dX7_many_121 rfl ?_
      refine Go.iload dX7_many_122 rfl ?_
      refine Go.if_eq 131 dX7_many_124 rfl (fun h124 => absurd h124 (by decide)) (fun _ => ?_)
      refine Go.iconst (v := 1) dX7_many_127 (by decide) ?_
      refine Go.goto 132 dX7_many_128 rfl ?_
      refine Go.iadd dX7_many_132 ?_
      refine Go.eqI (y := nI (cntN (manyP (gU g) 1) i + 1)) (nI_add _ _) ?_
      refine Go.istore_n (ls' := [some (.ref 49), some (.int 1), some (.int (nI (cntN (manyP (gU g) 1) i + 1))), some (.int (nI i)), some (.int (bi (canN (uS (gU g)) (dishN i / 20)))), some (.int 1)]) dX7_many_133 (Nat.le_of_ble_eq_true rfl) rfl rfl ?_
      refine Go.iinc (v := nI (i + 1)) (ls' := [some (.ref 49), some (.int 1), some (.int (nI (cntN (manyP (gU g) 1) i + 1))), some (.int (nI (i + 1))), some (.int (bi (canN (uS (gU g)) (dishN i / 20)))), some (.int 1)]) dX7_many_134 rfl (nI_1 _) rfl rfl ?_
      refine Go.goto 24 dX7_many_137 rfl ?_
      have h9 : manyP (gU g) 1 i = true := by
        have hb0 : decide (kc (gU g) (dishN i) = 0) = !decide (1 ≤ kc (gU g) (dishN i)) := by
          rw [Bool.eq_iff_iff]
          simp
        simp only [manyP, goodP, hb0]
        simp [bi_0.mp h62]
      rw [cnt_t (p := manyP (gU g) 1) (i := i) h9]
      exact ih (i + 1) _ _ (by omega)
set_option maxRecDepth 20000 in
theorem l_many2 {G : Gt} {d : Nat} {M0 M : Mm} (hG : gS G = SHAPE) {g : Sg} (hC : ModIs M g) (hM : MarkIs M (kc (gU g))) (hm : CSame M0 M) : ∀ (n i : Nat) (o4 o5 : Option Value), i + n = 1840 → Go G (d + 2) mX7_many 24 [some (.ref 49), some (.int 2), some (.int (nI (cntN (manyP (gU g) 2) i))), some (.int (nI i)), o4, o5] [] M (fun v M' => ∃ r, v = some (.int r) ∧ r = nI (cntN (manyP (gU g) 2) 1840) ∧ ModIs M' g ∧ CSame M0 M') := by
  intro n
  induction n with
  | zero =>
    intro i o4 o5 hin
    refine Go.iload_n dX7_many_24 rfl ?_
    refine Go.sipush (v := 1840) dX7_many_25 (by decide) ?_
    refine Go.icmp_ge 140 dX7_many_28 rfl (fun _ => ?_) (fun h28 => absurd (nI_le (a := 1840) (b := i) (by omega) (by omega)) h28)
    refine Go.iload_n dX7_many_140 rfl ?_
    refine Go.iret dX7_many_141 rfl rfl ?_
    have e9 : i = 1840 := by omega
    subst e9
    exact ⟨_, rfl, rfl, hC, hm⟩
  | succ n ih =>
    intro i o4 o5 hin
    have hi : i < 1840 := by omega
    refine Go.iload_n dX7_many_24 rfl ?_
    refine Go.sipush (v := 1840) dX7_many_25 (by decide) ?_
    refine Go.icmp_ge 140 dX7_many_28 rfl (fun h28 => absurd h28 (nI_ge (a := i) (b := 1840) (by omega) (by omega))) (fun _ => ?_)
    refine Go.aload_n dX7_many_31 rfl ?_
    refine Go.aload_n dX7_many_32 rfl ?_
    refine Go.iload_n dX7_many_33 rfl ?_
    refine Go.callVI [.ref 49] dX7_many_34 lkX7_150 imX7_dishAt seX7_dishAt cbX7_dishAt (m_dishAt hG hC.2.2.2.2.2.2.2 (p := i) (by omega)) (shp hG rfl) rfl rfl rfl (Nat.le_of_ble_eq_true rfl) (fun r1 M2 hr1 => ?_)
    obtain ⟨er1, emr1⟩ := hr1
    rw [emr1]
    clear emr1 M2
    subst er1
    refine Go.callVI [] dX7_many_37 lkX7_137 imX7_canBe seX7_canBe cbX7_canBe (m_canBe hG (x := dishN i) (dishN_lt (by omega))) (shp hG rfl) rfl rfl rfl (Nat.le_of_ble_eq_true rfl) (fun r3 M4 hr3 => ?_)
    obtain ⟨er3, emr3⟩ := hr3
    rw [emr3]
    clear emr3 M4
    subst er3
    refine Go.eqI (y := bi (canN (uS (gU g)) (dishN i / 20))) (by rw [canN_congr hC.1.1]) ?_
    refine Go.istore (ls' := [some (.ref 49), some (.int 2), some (.int (nI (cntN (manyP (gU g) 2) i))), some (.int (nI i)), some (.int (bi (canN (uS (gU g)) (dishN i / 20)))), o5]) dX7_many_40 (Nat.le_of_ble_eq_true rfl) rfl rfl ?_
    refine Go.iload_n dX7_many_42 rfl ?_
    refine Go.if_ne 51 dX7_many_43 rfl (fun _ => ?_) (fun h43 => absurd h43 (by decide))
    refine Go.iload_n dX7_many_51 rfl ?_
    refine Go.iconst (v := 1) dX7_many_52 (by decide) ?_
    refine Go.icmp_ne 73 dX7_many_53 rfl (fun _ => ?_) (fun h53 => absurd h53 (by decide))
    refine Go.iload_n dX7_many_73 rfl ?_
    refine Go.iconst (v := 2) dX7_many_74 (by decide) ?_
    refine Go.icmp_ne 100 dX7_many_75 rfl (fun h75 => absurd (by decide) h75) (fun _ => ?_)
    refine Go.iload dX7_many_78 rfl ?_
    refine Go.if_eq 96 dX7_many_80 rfl (fun h80 => ?_) (fun h80 => ?_)
    · refine Go.iconst (v := 0) dX7_many_96 (by decide) ?_
      refine Go.goto 119 dX7_many_97 rfl ?_
      refine Go.istore (ls' := [some (.ref 49), some (.int 2), some (.int (nI (cntN (manyP (gU g) 2) i))), some (.int (nI i)), some (.int (bi (canN (uS (gU g)) (dishN i / 20)))), some (.int 0)]) dX7_many_119 (Nat.le_of_ble_eq_true rfl) rfl rfl ?_
      refine Go.iload_n dX7_many_121 rfl ?_
      refine Go.iload dX7_many_122 rfl ?_
      refine Go.if_eq 131 dX7_many_124 rfl (fun _ => ?_) (fun h124 => absurd (by decide) h124)
      refine Go.iconst (v := 0) dX7_many_131 (by decide) ?_
      refine Go.iadd dX7_many_132 ?_
      refine Go.eqI (y := nI (cntN (manyP (gU g) 2) i + 0)) (nI_add _ _) ?_
      refine Go.istore_n (ls' := [some (.ref 49), some (.int 2), some (.int (nI (cntN (manyP (gU g) 2) i + 0))), some (.int (nI i)), some (.int (bi (canN (uS (gU g)) (dishN i / 20)))), some (.int 0)]) dX7_many_133 (Nat.le_of_ble_eq_true rfl) rfl rfl ?_
      refine Go.iinc (v := nI (i + 1)) (ls' := [some (.ref 49), some (.int 2), some (.int (nI (cntN (manyP (gU g) 2) i + 0))), some (.int (nI (i + 1))), some (.int (bi (canN (uS (gU g)) (dishN i / 20)))), some (.int 0)]) dX7_many_134 rfl (nI_1 _) rfl rfl ?_
      refine Go.goto 24 dX7_many_137 rfl ?_
      have h9 : manyP (gU g) 2 i = false := by
        have hb0 : decide (kc (gU g) (dishN i) = 0) = !decide (1 ≤ kc (gU g) (dishN i)) := by
          rw [Bool.eq_iff_iff]
          simp
        simp only [manyP, goodP, hb0]
        simp [bi_0.mp h80]
      rw [show nI (cntN (manyP (gU g) 2) i + 0) = nI (cntN (manyP (gU g) 2) (i + 1)) from cnt_f h9]
      exact ih (i + 1) _ _ (by omega)
    · refine Go.aload_n dX7_many_83 rfl ?_
      refine Go.getR dX7_many_84 flX7_37 (shp hG rfl) rfl ?_
      refine Go.iload_n dX7_many_87 rfl ?_
      refine Go.zald dX7_many_88 (shp hG rfl) (vin (by omega) (by decide)) ?_
      refine Go.eqI (y := bi (decide (1 ≤ kc (gU g) (dishN i)))) (by rw [ncl (by omega)]; exact hM i (by omega)) ?_
      refine Go.if_ne 96 dX7_many_89 rfl (fun h89 => ?_) (fun h89 => ?_)
      · refine Go.iconst (v := 0) dX7_many_96 (by decide) ?_
        refine Go.goto 119 dX7_many_97 rfl ?_
        refine Go.istore (ls' := [some (.ref 49), some (.int 2), some (.int (nI (cntN (manyP (gU g) 2) i))), some (.int (nI i)), some (.int (bi (canN (uS (gU g)) (dishN i / 20)))), some (.int 0)]) dX7_many_119 (Nat.le_of_ble_eq_true rfl) rfl rfl ?_
        refine Go.iload_n dX7_many_121 rfl ?_
        refine Go.iload dX7_many_122 rfl ?_
        refine Go.if_eq 131 dX7_many_124 rfl (fun _ => ?_) (fun h124 => absurd (by decide) h124)
        refine Go.iconst (v := 0) dX7_many_131 (by decide) ?_
        refine Go.iadd dX7_many_132 ?_
        refine Go.eqI (y := nI (cntN (manyP (gU g) 2) i + 0)) (nI_add _ _) ?_
        refine Go.istore_n (ls' := [some (.ref 49), some (.int 2), some (.int (nI (cntN (manyP (gU g) 2) i + 0))), some (.int (nI i)), some (.int (bi (canN (uS (gU g)) (dishN i / 20)))), some (.int 0)]) dX7_many_133 (Nat.le_of_ble_eq_true rfl) rfl rfl ?_
        refine Go.iinc (v := nI (i + 1)) (ls' := [some (.ref 49), some (.int 2), some (.int (nI (cntN (manyP (gU g) 2) i + 0))), some (.int (nI (i + 1))), some (.int (bi (canN (uS (gU g)) (dishN i / 20)))), some (.int 0)]) dX7_many_134 rfl (nI_1 _) rfl rfl ?_
        refine Go.goto 24 dX7_many_137 rfl ?_
        have h9 : manyP (gU g) 2 i = false := by
          have hb0 : decide (kc (gU g) (dishN i) = 0) = !decide (1 ≤ kc (gU g) (dishN i)) := by
            rw [Bool.eq_iff_iff]
            simp
          simp only [manyP, goodP, hb0]
          simp [bi_n0.mp h80, bi_n0.mp h89]
        rw [show nI (cntN (manyP (gU g) 2) i + 0) = nI (cntN (manyP (gU g) 2) (i + 1)) from cnt_f h9]
        exact ih (i + 1) _ _ (by omega)
      · refine Go.iconst (v := 1) dX7_many_92 (by decide) ?_
        refine Go.goto 119 dX7_many_93 rfl ?_
        refine Go.istore (ls' := [some (.ref 49), some (.int 2), some (.int (nI (cntN (manyP (gU g) 2) i))), some (.int (nI i)), some (.int (bi (canN (uS (gU g)) (dishN i / 20)))), some (.int 1)]) dX7_many_119 (Nat.le_of_ble_eq_true rfl) rfl rfl ?_
        refine Go.iload_n dX7_many_121 rfl ?_
        refine Go.iload dX7_many_122 rfl ?_
        refine Go.if_eq 131 dX7_many_124 rfl (fun h124 => absurd h124 (by decide)) (fun _ => ?_)
        refine Go.iconst (v := 1) dX7_many_127 (by decide) ?_
        refine Go.goto 132 dX7_many_128 rfl ?_
        refine Go.iadd dX7_many_132 ?_
        refine Go.eqI (y := nI (cntN (manyP (gU g) 2) i + 1)) (nI_add _ _) ?_
        refine Go.istore_n (ls' := [some (.ref 49), some (.int 2), some (.int (nI (cntN (manyP (gU g) 2) i + 1))), some (.int (nI i)), some (.int (bi (canN (uS (gU g)) (dishN i / 20)))), some (.int 1)]) dX7_many_133 (Nat.le_of_ble_eq_true rfl) rfl rfl ?_
        refine Go.iinc (v := nI (i + 1)) (ls' := [some (.ref 49), some (.int 2), some (.int (nI (cntN (manyP (gU g) 2) i + 1))), some (.int (nI (i + 1))), some (.int (bi (canN (uS (gU g)) (dishN i / 20)))), some (.int 1)]) dX7_many_134 rfl (nI_1 _) rfl rfl ?_
        refine Go.goto 24 dX7_many_137 rfl ?_
        have h9 : manyP (gU g) 2 i = true := by
          have hb0 : decide (kc (gU g) (dishN i) = 0) = !decide (1 ≤ kc (gU g) (dishN i)) := by
            rw [Bool.eq_iff_iff]
            simp
          simp only [manyP, goodP, hb0]
          simp [bi_n0.mp h80, bi_0.mp h89]
        rw [cnt_t (p := manyP (gU g) 2) (i := i) h9]
        exact ih (i + 1) _ _ (by omega)
set_option maxRecDepth 20000 in
theorem l_many3 {G : Gt} {d : Nat} {M0 M : Mm} (hG : gS G = SHAPE) {g : Sg} (hC : ModIs M g) (hM : MarkIs M (kc (gU g))) (hm : CSame M0 M) : ∀ (n i : Nat) (o4 o5 : Option Value), i + n = 1840 → Go G (d + 2) mX7_many 24 [some (.ref 49), some (.int 3), some (.int (nI (cntN (manyP (gU g) 3) i))), some (.int (nI i)), o4, o5] [] M (fun v M' => ∃ r, v = some (.int r) ∧ r = nI (cntN (manyP (gU g) 3) 1840) ∧ ModIs M' g ∧ CSame M0 M') := by
  intro n
  induction n with
  | zero =>
    intro i o4 o5 hin
    refine Go.iload_n dX7_many_24 rfl ?_
    refine Go.sipush (v := 1840) dX7_many_25 (by decide) ?_
    refine Go.icmp_ge 140 dX7_many_28 rfl (fun _ => ?_) (fun h28 => absurd (nI_le (a := 1840) (b := i) (by omega) (by omega)) h28)
    refine Go.iload_n dX7_many_140 rfl ?_
    refine Go.iret dX7_many_141 rfl rfl ?_
    have e9 : i = 1840 := by omega
    subst e9
    exact ⟨_, rfl, rfl, hC, hm⟩
  | succ n ih =>
    intro i o4 o5 hin
    have hi : i < 1840 := by omega
    refine Go.iload_n dX7_many_24 rfl ?_
    refine Go.sipush (v := 1840) dX7_many_25 (by decide) ?_
    refine Go.icmp_ge 140 dX7_many_28 rfl (fun h28 => absurd h28 (nI_ge (a := i) (b := 1840) (by omega) (by omega))) (fun _ => ?_)
    refine Go.aload_n dX7_many_31 rfl ?_
    refine Go.aload_n dX7_many_32 rfl ?_
    refine Go.iload_n dX7_many_33 rfl ?_
    refine Go.callVI [.ref 49] dX7_many_34 lkX7_150 imX7_dishAt seX7_dishAt cbX7_dishAt (m_dishAt hG hC.2.2.2.2.2.2.2 (p := i) (by omega)) (shp hG rfl) rfl rfl rfl (Nat.le_of_ble_eq_true rfl) (fun r1 M2 hr1 => ?_)
    obtain ⟨er1, emr1⟩ := hr1
    rw [emr1]
    clear emr1 M2
    subst er1
    refine Go.callVI [] dX7_many_37 lkX7_137 imX7_canBe seX7_canBe cbX7_canBe (m_canBe hG (x := dishN i) (dishN_lt (by omega))) (shp hG rfl) rfl rfl rfl (Nat.le_of_ble_eq_true rfl) (fun r3 M4 hr3 => ?_)
    obtain ⟨er3, emr3⟩ := hr3
    rw [emr3]
    clear emr3 M4
    subst er3
    refine Go.eqI (y := bi (canN (uS (gU g)) (dishN i / 20))) (by rw [canN_congr hC.1.1]) ?_
    refine Go.istore (ls' := [some (.ref 49), some (.int 3), some (.int (nI (cntN (manyP (gU g) 3) i))), some (.int (nI i)), some (.int (bi (canN (uS (gU g)) (dishN i / 20)))), o5]) dX7_many_40 (Nat.le_of_ble_eq_true rfl) rfl rfl ?_
    refine Go.iload_n dX7_many_42 rfl ?_
    refine Go.if_ne 51 dX7_many_43 rfl (fun _ => ?_) (fun h43 => absurd h43 (by decide))
    refine Go.iload_n dX7_many_51 rfl ?_
    refine Go.iconst (v := 1) dX7_many_52 (by decide) ?_
    refine Go.icmp_ne 73 dX7_many_53 rfl (fun _ => ?_) (fun h53 => absurd h53 (by decide))
    refine Go.iload_n dX7_many_73 rfl ?_
    refine Go.iconst (v := 2) dX7_many_74 (by decide) ?_
    refine Go.icmp_ne 100 dX7_many_75 rfl (fun _ => ?_) (fun h75 => absurd h75 (by decide))
    refine Go.iload dX7_many_100 rfl ?_
    refine Go.if_ne 118 dX7_many_102 rfl (fun h102 => ?_) (fun h102 => ?_)
    · refine Go.iconst (v := 0) dX7_many_118 (by decide) ?_
      refine Go.istore (ls' := [some (.ref 49), some (.int 3), some (.int (nI (cntN (manyP (gU g) 3) i))), some (.int (nI i)), some (.int (bi (canN (uS (gU g)) (dishN i / 20)))), some (.int 0)]) dX7_many_119 (Nat.le_of_ble_eq_true rfl) rfl rfl ?_
      refine Go.iload_n dX7_many_121 rfl ?_
      refine Go.iload dX7_many_122 rfl ?_
      refine Go.if_eq 131 dX7_many_124 rfl (fun _ => ?_) (fun h124 => absurd (by decide) h124)
      refine Go.iconst (v := 0) dX7_many_131 (by decide) ?_
      refine Go.iadd dX7_many_132 ?_
      refine Go.eqI (y := nI (cntN (manyP (gU g) 3) i + 0)) (nI_add _ _) ?_
      refine Go.istore_n (ls' := [some (.ref 49), some (.int 3), some (.int (nI (cntN (manyP (gU g) 3) i + 0))), some (.int (nI i)), some (.int (bi (canN (uS (gU g)) (dishN i / 20)))), some (.int 0)]) dX7_many_133 (Nat.le_of_ble_eq_true rfl) rfl rfl ?_
      refine Go.iinc (v := nI (i + 1)) (ls' := [some (.ref 49), some (.int 3), some (.int (nI (cntN (manyP (gU g) 3) i + 0))), some (.int (nI (i + 1))), some (.int (bi (canN (uS (gU g)) (dishN i / 20)))), some (.int 0)]) dX7_many_134 rfl (nI_1 _) rfl rfl ?_
      refine Go.goto 24 dX7_many_137 rfl ?_
      have h9 : manyP (gU g) 3 i = false := by
        have hb0 : decide (kc (gU g) (dishN i) = 0) = !decide (1 ≤ kc (gU g) (dishN i)) := by
          rw [Bool.eq_iff_iff]
          simp
        simp only [manyP, goodP, hb0]
        simp [bi_n0.mp h102]
      rw [show nI (cntN (manyP (gU g) 3) i + 0) = nI (cntN (manyP (gU g) 3) (i + 1)) from cnt_f h9]
      exact ih (i + 1) _ _ (by omega)
    · refine Go.aload_n dX7_many_105 rfl ?_
      refine Go.getR dX7_many_106 flX7_37 (shp hG rfl) rfl ?_
      refine Go.iload_n dX7_many_109 rfl ?_
      refine Go.zald dX7_many_110 (shp hG rfl) (vin (by omega) (by decide)) ?_
      refine Go.eqI (y := bi (decide (1 ≤ kc (gU g) (dishN i)))) (by rw [ncl (by omega)]; exact hM i (by omega)) ?_
      refine Go.if_eq 118 dX7_many_111 rfl (fun h111 => ?_) (fun h111 => ?_)
      · refine Go.iconst (v := 0) dX7_many_118 (by decide) ?_
        refine Go.istore (ls' := [some (.ref 49), some (.int 3), some (.int (nI (cntN (manyP (gU g) 3) i))), some (.int (nI i)), some (.int (bi (canN (uS (gU g)) (dishN i / 20)))), some (.int 0)]) dX7_many_119 (Nat.le_of_ble_eq_true rfl) rfl rfl ?_
        refine Go.iload_n dX7_many_121 rfl ?_
        refine Go.iload dX7_many_122 rfl ?_
        refine Go.if_eq 131 dX7_many_124 rfl (fun _ => ?_) (fun h124 => absurd (by decide) h124)
        refine Go.iconst (v := 0) dX7_many_131 (by decide) ?_
        refine Go.iadd dX7_many_132 ?_
        refine Go.eqI (y := nI (cntN (manyP (gU g) 3) i + 0)) (nI_add _ _) ?_
        refine Go.istore_n (ls' := [some (.ref 49), some (.int 3), some (.int (nI (cntN (manyP (gU g) 3) i + 0))), some (.int (nI i)), some (.int (bi (canN (uS (gU g)) (dishN i / 20)))), some (.int 0)]) dX7_many_133 (Nat.le_of_ble_eq_true rfl) rfl rfl ?_
        refine Go.iinc (v := nI (i + 1)) (ls' := [some (.ref 49), some (.int 3), some (.int (nI (cntN (manyP (gU g) 3) i + 0))), some (.int (nI (i + 1))), some (.int (bi (canN (uS (gU g)) (dishN i / 20)))), some (.int 0)]) dX7_many_134 rfl (nI_1 _) rfl rfl ?_
        refine Go.goto 24 dX7_many_137 rfl ?_
        have h9 : manyP (gU g) 3 i = false := by
          have hb0 : decide (kc (gU g) (dishN i) = 0) = !decide (1 ≤ kc (gU g) (dishN i)) := by
            rw [Bool.eq_iff_iff]
            simp
          simp only [manyP, goodP, hb0]
          simp [bi_0.mp h102, bi_0.mp h111]
        rw [show nI (cntN (manyP (gU g) 3) i + 0) = nI (cntN (manyP (gU g) 3) (i + 1)) from cnt_f h9]
        exact ih (i + 1) _ _ (by omega)
      · refine Go.iconst (v := 1) dX7_many_114 (by decide) ?_
        refine Go.goto 119 dX7_many_115 rfl ?_
        refine Go.istore (ls' := [some (.ref 49), some (.int 3), some (.int (nI (cntN (manyP (gU g) 3) i))), some (.int (nI i)), some (.int (bi (canN (uS (gU g)) (dishN i / 20)))), some (.int 1)]) dX7_many_119 (Nat.le_of_ble_eq_true rfl) rfl rfl ?_
        refine Go.iload_n dX7_many_121 rfl ?_
        refine Go.iload dX7_many_122 rfl ?_
        refine Go.if_eq 131 dX7_many_124 rfl (fun h124 => absurd h124 (by decide)) (fun _ => ?_)
        refine Go.iconst (v := 1) dX7_many_127 (by decide) ?_
        refine Go.goto 132 dX7_many_128 rfl ?_
        refine Go.iadd dX7_many_132 ?_
        refine Go.eqI (y := nI (cntN (manyP (gU g) 3) i + 1)) (nI_add _ _) ?_
        refine Go.istore_n (ls' := [some (.ref 49), some (.int 3), some (.int (nI (cntN (manyP (gU g) 3) i + 1))), some (.int (nI i)), some (.int (bi (canN (uS (gU g)) (dishN i / 20)))), some (.int 1)]) dX7_many_133 (Nat.le_of_ble_eq_true rfl) rfl rfl ?_
        refine Go.iinc (v := nI (i + 1)) (ls' := [some (.ref 49), some (.int 3), some (.int (nI (cntN (manyP (gU g) 3) i + 1))), some (.int (nI (i + 1))), some (.int (bi (canN (uS (gU g)) (dishN i / 20)))), some (.int 1)]) dX7_many_134 rfl (nI_1 _) rfl rfl ?_
        refine Go.goto 24 dX7_many_137 rfl ?_
        have h9 : manyP (gU g) 3 i = true := by
          have hb0 : decide (kc (gU g) (dishN i) = 0) = !decide (1 ≤ kc (gU g) (dishN i)) := by
            rw [Bool.eq_iff_iff]
            simp
          simp only [manyP, goodP, hb0]
          simp [bi_0.mp h102, bi_n0.mp h111]
        rw [cnt_t (p := manyP (gU g) 3) (i := i) h9]
        exact ih (i + 1) _ _ (by omega)
set_option maxRecDepth 20000 in
theorem m_many {G : Gt} {d : Nat} {M : Mm} (hG : gS G = SHAPE) {g : Sg} (hC : ModIs M g) (hg : SgOk g) (w0 : Int32) : ExI G (d + 4) mX7_many [.ref 49, .int w0] M (fun r M' => r = (A_many g w0).1 ∧ ModIs M' (A_many g w0).2 ∧ CSame M M') := by
  refine Ex.of (by decide) (Nat.le_of_ble_eq_true rfl) ?_
  have hB := hC.1.bk hg.1
  have hn30 := hg.1.1
  show Go G (d + 4) mX7_many 0 [some (.ref 49), some (.int w0), none, none, none, none] [] M _
  by_cases hgd : (inb w0 4) = true
  · obtain ⟨j, hj, ej⟩ := inb_ex (n := 4) hgd (by decide)
    subst ej
    have hA0 : A_many g (nI j) = (nI (cntN (manyP (gU g) j) 1840), g) := by
      rw [show A_many g (nI j) = (nI (cntN (manyP (gU g) (tN (nI j))) 1840), g) from if_pos hgd, tN_nI (by omega)]
    rw [hA0]
    clear hA0
    refine Go.iload_n dX7_many_0 rfl ?_
    refine Go.iconst (v := 0) dX7_many_1 (by decide) ?_
    refine Go.iconst (v := 3) dX7_many_2 (by decide) ?_
    refine Go.callSI [] dX7_many_3 lkX7_86 stX7_in cbX7_in (m_in (nI j) 0 3) rfl rfl (Nat.le_of_ble_eq_true rfl) (fun r1 M2 hr1 => ?_)
    obtain ⟨er1, emr1⟩ := hr1
    rw [emr1]
    clear emr1 M2
    subst er1
    refine Go.eqI (y := 1) (by rw [inI_kind3, hgd]; rfl) ?_
    refine Go.if_ne 16 dX7_many_6 rfl (fun _ => ?_) (fun h6 => absurd h6 (by decide))
    refine Go.aload_n dX7_many_16 rfl ?_
    refine Go.callVV [] dX7_many_17 lkX7_153 imX7_marks seX7_marks cbX7_marks (m_marks hG hB hC.2.2.2.2.2.2.2) (shp hG rfl) rfl rfl rfl (Nat.le_of_ble_eq_true rfl) (fun M4 hr3 => ?_)
    refine Go.iconst (v := 0) dX7_many_20 (by decide) ?_
    refine Go.istore_n (ls' := [some (.ref 49), some (.int (nI j)), some (.int 0), none, none, none]) dX7_many_21 (Nat.le_of_ble_eq_true rfl) rfl rfl ?_
    refine Go.iconst (v := 0) dX7_many_22 (by decide) ?_
    refine Go.istore_n (ls' := [some (.ref 49), some (.int (nI j)), some (.int 0), some (.int 0), none, none]) dX7_many_23 (Nat.le_of_ble_eq_true rfl) rfl rfl ?_
    have hqm := hC.qm (QM.mk59 hr3.2)
    obtain hj0 | hj0 | hj0 | hj0 : j = 0 ∨ j = 1 ∨ j = 2 ∨ j = 3 := by omega
    · subst hj0; exact l_many0 hG hqm.1 hr3.1 hqm.2 1840 0 _ _ (by omega)
    · subst hj0; exact l_many1 hG hqm.1 hr3.1 hqm.2 1840 0 _ _ (by omega)
    · subst hj0; exact l_many2 hG hqm.1 hr3.1 hqm.2 1840 0 _ _ (by omega)
    · subst hj0; exact l_many3 hG hqm.1 hr3.1 hqm.2 1840 0 _ _ (by omega)
  · refine Go.iload_n dX7_many_0 rfl ?_
    refine Go.iconst (v := 0) dX7_many_1 (by decide) ?_
    refine Go.iconst (v := 3) dX7_many_2 (by decide) ?_
    refine Go.callSI [] dX7_many_3 lkX7_86 stX7_in cbX7_in (m_in w0 0 3) rfl rfl (Nat.le_of_ble_eq_true rfl) (fun r1 M2 hr1 => ?_)
    obtain ⟨er1, emr1⟩ := hr1
    rw [emr1]
    clear emr1 M2
    subst er1
    refine Go.if_ne 16 dX7_many_6 rfl (fun h6 => ?_) (fun h6 => ?_)
    · exact absurd (by rw [← inI_kind3, bi_n0.mp h6]) hgd
    · refine Go.aload_n dX7_many_9 rfl ?_
      refine Go.ldc dX7_many_10 kcX7_85 ?_
      refine Go.callVI [] dX7_many_12 lkX7_104 imX7_finds seX7_finds cbX7_finds (m_finds hG (code := (-1000000001)) (q := 0) (by decide) (by decide)) (shp hG rfl) rfl rfl rfl (Nat.le_of_ble_eq_true rfl) (fun r3 M4 hr3 => ?_)
      refine Go.iret dX7_many_15 rfl rfl ?_
      refine ⟨_, rfl, ?_⟩
      rw [show A_many g w0 = ((-1000000001), fndS g 0) from if_neg hgd, hr3.2]
      exact ⟨hr3.1, hC.fnd⟩
def A_next (g : Sg) (n : Int32) : Int32 × Sg := if 0 ≤ n then ornS g ((fstF (fromP (uS (gU g)) (kc (gU g)) n) 0 1840).map dishN) else (-1000000001, fndS g 0)
theorem map_lt {o : Option Nat} (h : ∀ p, o = some p → p < 1840) : ∀ i, o.map dishN = some i → i < 2 ^ 31 := by
  intro i hi
  cases o with
  | none => cases hi
  | some p =>
    cases hi
    have := dishN_lt (h p rfl)
    omega
theorem fst1840 {p : Nat → Bool} : ∀ j, fstF p 0 1840 = some j → j < 1840 := fun j h => by have := (fstF_some h).2.1; omega
set_option maxRecDepth 20000 in
theorem c_next {G : Gt} {d : Nat} {M : Mm} (hG : gS G = SHAPE) {g : Sg} (hC : CompIs M g) (hg : SgOk g) (n : Int32) : ExI G (d + 4) mX6_next [.ref 0, .int n] M (fun r M' => r = (A_next g n).1 ∧ CompIs M' (A_next g n).2 ∧ MSame M M') := by
  refine Ex.of (by decide) (Nat.le_of_ble_eq_true rfl) ?_
  show Go G (d + 4) mX6_next 0 [some (.ref 0), some (.int n)] [] M _
  by_cases hgd : (decide (0 ≤ n)) = true
  · have hn0 : 0 ≤ n := of_decide_eq_true hgd
    have hA0 : A_next g n = ornS g ((fstF (fromP (uS (gU g)) (kc (gU g)) n) 0 1840).map dishN) := if_pos hn0
    rw [hA0]
    clear hA0
    refine Go.iload_n dX6_next_0 rfl ?_
    refine Go.if_ge 11 dX6_next_1 rfl (fun _ => ?_) (fun h1 => absurd (hn0) h1)
    refine Go.aload_n dX6_next_11 rfl ?_
    refine Go.getR dX6_next_12 flX6_29 (shp hG rfl) rfl ?_
    refine Go.aload_n dX6_next_15 rfl ?_
    refine Go.getR dX6_next_16 flX6_12 (shp hG rfl) rfl ?_
    refine Go.callVV [] dX6_next_19 lkX6_114 imX2_begin seX2_begin cbX2_begin (k_begin hG hC hg) (shp hG rfl) rfl rfl rfl (Nat.le_of_ble_eq_true rfl) (fun M2 hr1 => ?_)
    obtain ⟨hCk, hmk, hkck, hKk⟩ := hr1
    refine Go.aload_n dX6_next_22 rfl ?_
    refine Go.aload_n dX6_next_23 rfl ?_
    refine Go.getR dX6_next_24 flX6_29 (shp hG rfl) rfl ?_
    refine Go.iload_n dX6_next_27 rfl ?_
    refine Go.callVI [.ref 0] dX6_next_28 lkX6_134 imX2_firstFrom seX2_firstFrom cbX2_firstFrom (k_firstFrom hG hKk (number := n)) (shp hG rfl) rfl rfl rfl (Nat.le_of_ble_eq_true rfl) (fun r3 M4 hr3 => ?_)
    obtain ⟨er3, emr3⟩ := hr3
    rw [emr3]
    clear emr3 M4
    subst er3
    refine Go.callVI [] dX6_next_31 lkX6_137 imX6_orNone seX6_orNone cbX6_orNone (s_orNone hG (optI (-1) ((fstF (fromP (uS (gU g)) (kc (gU g)) n) 0 1840).map dishN))) (shp hG rfl) rfl rfl rfl (Nat.le_of_ble_eq_true rfl) (fun r5 M6 hr5 => ?_)
    refine Go.iret dX6_next_34 rfl rfl ?_
    exact ⟨_, rfl, orn_c hmk hCk rfl (map_lt fst1840) hr5⟩
  · refine Go.iload_n dX6_next_0 rfl ?_
    refine Go.if_ge 11 dX6_next_1 rfl (fun h1 => ?_) (fun h1 => ?_)
    · exact absurd (by simp [h1, i_le_n h1]) hgd
    · refine Go.aload_n dX6_next_4 rfl ?_
      refine Go.ldc dX6_next_5 kcX6_62 ?_
      refine Go.callVI [] dX6_next_7 lkX6_63 imX6_finding seX6_finding cbX6_finding (s_finding hG (code := (-1000000001)) (q := 0) (by decide) (by decide)) (shp hG rfl) rfl rfl rfl (Nat.le_of_ble_eq_true rfl) (fun r1 M2 hr1 => ?_)
      refine Go.iret dX6_next_10 rfl rfl ?_
      refine ⟨_, rfl, ?_⟩
      rw [show A_next g n = (-1000000001, fndS g 0) from if_neg (fun q => hgd (decide_eq_true q)), hr1.2]
      exact ⟨hr1.1, hC.fnd⟩
set_option maxRecDepth 20000 in
theorem l_next7 {G : Gt} {d : Nat} {M0 M : Mm} (hG : gS G = SHAPE) {g : Sg} (hC : ModIs M g) (hM : MarkIs M (kc (gU g))) (hm : CSame M0 M) {n0 : Int32} : ∀ (n i : Nat), i + n = 1840 → fstF (fromP (uS (gU g)) (kc (gU g)) n0) 0 1840 = fstF (fromP (uS (gU g)) (kc (gU g)) n0) i n → Go G (d + 3) mX7_next 17 [some (.ref 49), some (.int n0), some (.int (nI i))] [] M (fun v M' => ∃ r, v = some (.int r) ∧ r = (ornS g ((fstF (fromP (uS (gU g)) (kc (gU g)) n0) 0 1840).map dishN)).1 ∧ ModIs M' (ornS g ((fstF (fromP (uS (gU g)) (kc (gU g)) n0) 0 1840).map dishN)).2 ∧ CSame M0 M') := by
  intro n
  induction n with
  | zero =>
    intro i  hin hf
    refine Go.iload_n dX7_next_17 rfl ?_
    refine Go.sipush (v := 1840) dX7_next_18 (by decide) ?_
    refine Go.icmp_ge 53 dX7_next_21 rfl (fun _ => ?_) (fun h21 => absurd (nI_le (a := 1840) (b := i) (by omega) (by omega)) h21)
    refine Go.aload_n dX7_next_53 rfl ?_
    refine Go.ldc dX7_next_54 kcX7_127 ?_
    refine Go.callVI [] dX7_next_56 lkX7_104 imX7_finds seX7_finds cbX7_finds (m_finds hG (code := (-1000000004)) (q := 3) (by decide) (by decide)) (shp hG rfl) rfl rfl rfl (Nat.le_of_ble_eq_true rfl) (fun r1 M2 hr1 => ?_)
    refine Go.iret dX7_next_59 rfl rfl ?_
    refine ⟨_, rfl, ?_⟩
    rw [hf, hr1.2]
    exact ⟨hr1.1, hC.fnd.1, hm.trans hC.fnd.2⟩
  | succ n ih =>
    intro i  hin hf
    have hi : i < 1840 := by omega
    refine Go.iload_n dX7_next_17 rfl ?_
    refine Go.sipush (v := 1840) dX7_next_18 (by decide) ?_
    refine Go.icmp_ge 53 dX7_next_21 rfl (fun h21 => absurd h21 (nI_ge (a := i) (b := 1840) (by omega) (by omega))) (fun _ => ?_)
    refine Go.aload_n dX7_next_24 rfl ?_
    refine Go.iload_n dX7_next_25 rfl ?_
    refine Go.callVI [] dX7_next_26 lkX7_150 imX7_dishAt seX7_dishAt cbX7_dishAt (m_dishAt hG hC.2.2.2.2.2.2.2 (p := i) (by omega)) (shp hG rfl) rfl rfl rfl (Nat.le_of_ble_eq_true rfl) (fun r1 M2 hr1 => ?_)
    obtain ⟨er1, emr1⟩ := hr1
    rw [emr1]
    clear emr1 M2
    subst er1
    refine Go.iload_n dX7_next_29 rfl ?_
    refine Go.icmp_lt 47 dX7_next_30 rfl (fun h30 => ?_) (fun h30 => ?_)
    · refine Go.iinc (v := nI (i + 1)) (ls' := [some (.ref 49), some (.int n0), some (.int (nI (i + 1)))]) dX7_next_47 rfl (nI_1 _) rfl rfl ?_
      refine Go.goto 17 dX7_next_50 rfl ?_
      exact ih (i + 1) (by omega) (by rw [hf, fstF, if_neg (by rw [show fromP (uS (gU g)) (kc (gU g)) n0 i = false from by simp [fromP, i_lt_n h30]]; decide)])
    · refine Go.aload_n dX7_next_33 rfl ?_
      refine Go.iload_n dX7_next_34 rfl ?_
      refine Go.callVI [] dX7_next_35 lkX7_156 imX7_isGood seX7_isGood cbX7_isGood (m_isGood hG hC.2.2.2.2.2.2.2 hM (p := i) (by omega)) (shp hG rfl) rfl rfl rfl (Nat.le_of_ble_eq_true rfl) (fun r3 M4 hr3 => ?_)
      obtain ⟨er3, emr3⟩ := hr3
      rw [emr3]
      clear emr3 M4
      subst er3
      refine Go.eqI (y := bi (goodP (uS (gU g)) (kc (gU g)) (dishN i))) (by rw [goodP_congr hC.1.1]) ?_
      refine Go.if_eq 47 dX7_next_38 rfl (fun h38 => ?_) (fun h38 => ?_)
      · refine Go.iinc (v := nI (i + 1)) (ls' := [some (.ref 49), some (.int n0), some (.int (nI (i + 1)))]) dX7_next_47 rfl (nI_1 _) rfl rfl ?_
        refine Go.goto 17 dX7_next_50 rfl ?_
        exact ih (i + 1) (by omega) (by rw [hf, fstF, if_neg (by rw [show fromP (uS (gU g)) (kc (gU g)) n0 i = false from by simp [fromP, bi_0.mp h38]]; decide)])
      · refine Go.aload_n dX7_next_41 rfl ?_
        refine Go.iload_n dX7_next_42 rfl ?_
        refine Go.callVI [] dX7_next_43 lkX7_150 imX7_dishAt seX7_dishAt cbX7_dishAt (m_dishAt hG hC.2.2.2.2.2.2.2 (p := i) (by omega)) (shp hG rfl) rfl rfl rfl (Nat.le_of_ble_eq_true rfl) (fun r5 M6 hr5 => ?_)
        obtain ⟨er5, emr5⟩ := hr5
        rw [emr5]
        clear emr5 M6
        subst er5
        refine Go.iret dX7_next_46 rfl rfl ?_
        refine ⟨_, rfl, ?_⟩
        rw [hf, fstF, if_pos (show fromP (uS (gU g)) (kc (gU g)) n0 i = true from by simp [fromP, i_nlt h30, bi_n0.mp h38])]
        exact ⟨rfl, hC, hm⟩
set_option maxRecDepth 20000 in
theorem m_next {G : Gt} {d : Nat} {M : Mm} (hG : gS G = SHAPE) {g : Sg} (hC : ModIs M g) (hg : SgOk g) (n : Int32) : ExI G (d + 4) mX7_next [.ref 49, .int n] M (fun r M' => r = (A_next g n).1 ∧ ModIs M' (A_next g n).2 ∧ CSame M M') := by
  refine Ex.of (by decide) (Nat.le_of_ble_eq_true rfl) ?_
  have hB := hC.1.bk hg.1
  have hn30 := hg.1.1
  show Go G (d + 4) mX7_next 0 [some (.ref 49), some (.int n), none] [] M _
  by_cases hgd : (decide (0 ≤ n)) = true
  · have hn0 : 0 ≤ n := of_decide_eq_true hgd
    have hA0 : A_next g n = ornS g ((fstF (fromP (uS (gU g)) (kc (gU g)) n) 0 1840).map dishN) := if_pos hn0
    rw [hA0]
    clear hA0
    refine Go.iload_n dX7_next_0 rfl ?_
    refine Go.if_ge 11 dX7_next_1 rfl (fun _ => ?_) (fun h1 => absurd (hn0) h1)
    refine Go.aload_n dX7_next_11 rfl ?_
    refine Go.callVV [] dX7_next_12 lkX7_153 imX7_marks seX7_marks cbX7_marks (m_marks hG hB hC.2.2.2.2.2.2.2) (shp hG rfl) rfl rfl rfl (Nat.le_of_ble_eq_true rfl) (fun M2 hr1 => ?_)
    refine Go.iconst (v := 0) dX7_next_15 (by decide) ?_
    refine Go.istore_n (ls' := [some (.ref 49), some (.int n), some (.int 0)]) dX7_next_16 (Nat.le_of_ble_eq_true rfl) rfl rfl ?_
    have hqm := hC.qm (QM.mk59 hr1.2)
    exact l_next7 hG hqm.1 hr1.1 hqm.2 1840 0 (by omega) rfl
  · refine Go.iload_n dX7_next_0 rfl ?_
    refine Go.if_ge 11 dX7_next_1 rfl (fun h1 => ?_) (fun h1 => ?_)
    · exact absurd (decide_eq_true h1) hgd
    · refine Go.aload_n dX7_next_4 rfl ?_
      refine Go.ldc dX7_next_5 kcX7_85 ?_
      refine Go.callVI [] dX7_next_7 lkX7_104 imX7_finds seX7_finds cbX7_finds (m_finds hG (code := (-1000000001)) (q := 0) (by decide) (by decide)) (shp hG rfl) rfl rfl rfl (Nat.le_of_ble_eq_true rfl) (fun r1 M2 hr1 => ?_)
      refine Go.iret dX7_next_10 rfl rfl ?_
      refine ⟨_, rfl, ?_⟩
      rw [show A_next g n = (-1000000001, fndS g 0) from if_neg (fun q => hgd (decide_eq_true q)), hr1.2]
      exact ⟨hr1.1, hC.fnd⟩
noncomputable def A_best (g : Sg) : Int32 × Sg := ornS g (bst (okG (uS (gU g)) (kc (gU g))) (lk (gU g)))
theorem bst_lt {f : Nat → Int32} {c : Nat → Nat} {g : Nat → Int32} : ∀ x, bst (okG f c) g = some x → x < 2 ^ 31 := fun x h => by
  have := okD_lt (bst_spec h).1.1
  omega
set_option maxRecDepth 20000 in
theorem c_best {G : Gt} {d : Nat} {M : Mm} (hG : gS G = SHAPE) {g : Sg} (hC : CompIs M g) (hg : SgOk g)  : ExI G (d + 4) mX6_best [.ref 0] M (fun r M' => r = (A_best g).1 ∧ CompIs M' (A_best g).2 ∧ MSame M M') := by
  refine Ex.of (by decide) (Nat.le_of_ble_eq_true rfl) ?_
  show Go G (d + 4) mX6_best 0 [some (.ref 0)] [] M _
  refine Go.aload_n dX6_best_0 rfl ?_
  refine Go.getR dX6_best_1 flX6_29 (shp hG rfl) rfl ?_
  refine Go.aload_n dX6_best_4 rfl ?_
  refine Go.getR dX6_best_5 flX6_12 (shp hG rfl) rfl ?_
  refine Go.callVV [] dX6_best_8 lkX6_114 imX2_begin seX2_begin cbX2_begin (k_begin hG hC hg) (shp hG rfl) rfl rfl rfl (Nat.le_of_ble_eq_true rfl) (fun M2 hr1 => ?_)
  obtain ⟨hCk, hmk, hkck, hKk⟩ := hr1
  refine Go.aload_n dX6_best_11 rfl ?_
  refine Go.aload_n dX6_best_12 rfl ?_
  refine Go.getR dX6_best_13 flX6_29 (shp hG rfl) rfl ?_
  refine Go.callVI [.ref 0] dX6_best_16 lkX6_188 imX2_favourite seX2_favourite cbX2_favourite (k_favourite hG hKk) (shp hG rfl) rfl rfl rfl (Nat.le_of_ble_eq_true rfl) (fun r3 M4 hr3 => ?_)
  obtain ⟨er3, emr3⟩ := hr3
  rw [emr3]
  clear emr3 M4
  subst er3
  refine Go.callVI [] dX6_best_19 lkX6_137 imX6_orNone seX6_orNone cbX6_orNone (s_orNone hG (optI (-1) (bst (okG (uS (gU g)) (kc (gU g))) (lk (gU g))))) (shp hG rfl) rfl rfl rfl (Nat.le_of_ble_eq_true rfl) (fun r5 M6 hr5 => ?_)
  refine Go.iret dX6_best_22 rfl rfl ?_
  exact ⟨_, rfl, orn_c hmk hCk rfl bst_lt hr5⟩
set_option maxRecDepth 20000 in
theorem j_best0 {G : Gt} {d : Nat} {M0 M : Mm} (hG : gS G = SHAPE) {g : Sg} (hC : ModIs M g) (hm : CSame M0 M) : Go G (d + 1) mX7_best 9 [some (.ref 49), some (.int ((-1)))] [] M (fun v M' => ∃ r, v = some (.int r) ∧ r = (ornS g none).1 ∧ ModIs M' (ornS g none).2 ∧ CSame M0 M') := by
  refine Go.iload_n dX7_best_9 rfl ?_
  refine Go.if_ge 22 dX7_best_10 rfl (fun h10 => absurd h10 (by decide)) (fun _ => ?_)
  refine Go.aload_n dX7_best_13 rfl ?_
  refine Go.ldc dX7_best_14 kcX7_127 ?_
  refine Go.callVI [] dX7_best_16 lkX7_104 imX7_finds seX7_finds cbX7_finds (m_finds hG (code := (-1000000004)) (q := 3) (by decide) (by decide)) (shp hG rfl) rfl rfl rfl (Nat.le_of_ble_eq_true rfl) (fun r1 M2 hr1 => ?_)
  refine Go.goto 27 dX7_best_19 rfl ?_
  refine Go.iret dX7_best_27 rfl rfl ?_
  refine ⟨_, rfl, ?_⟩
  rw [hr1.2]
  exact ⟨hr1.1, hC.fnd.1, hm.trans hC.fnd.2⟩
set_option maxRecDepth 20000 in
theorem j_best1 {G : Gt} {d : Nat} {M0 M : Mm} (hG : gS G = SHAPE) {g : Sg} (hC : ModIs M g) (hm : CSame M0 M) {q : Nat} (hq : q < 1840) : Go G (d + 1) mX7_best 9 [some (.ref 49), some (.int (nI q))] [] M (fun v M' => ∃ r, v = some (.int r) ∧ r = (ornS g (some (dishN q))).1 ∧ ModIs M' (ornS g (some (dishN q))).2 ∧ CSame M0 M') := by
  refine Go.iload_n dX7_best_9 rfl ?_
  refine Go.if_ge 22 dX7_best_10 rfl (fun _ => ?_) (fun h10 => absurd (nI_pos' (by omega)) h10)
  refine Go.aload_n dX7_best_22 rfl ?_
  refine Go.iload_n dX7_best_23 rfl ?_
  refine Go.callVI [] dX7_best_24 lkX7_150 imX7_dishAt seX7_dishAt cbX7_dishAt (m_dishAt hG hC.2.2.2.2.2.2.2 (p := q) (by omega)) (shp hG rfl) rfl rfl rfl (Nat.le_of_ble_eq_true rfl) (fun r1 M2 hr1 => ?_)
  obtain ⟨er1, emr1⟩ := hr1
  rw [emr1]
  clear emr1 M2
  subst er1
  refine Go.iret dX7_best_27 rfl rfl ?_
  exact ⟨_, rfl, rfl, hC, hm⟩
set_option maxRecDepth 20000 in
theorem m_best {G : Gt} {d : Nat} {M : Mm} (hG : gS G = SHAPE) {g : Sg} (hC : ModIs M g) (hg : SgOk g)  : ExI G (d + 4) mX7_best [.ref 49] M (fun r M' => r = (A_best g).1 ∧ ModIs M' (A_best g).2 ∧ CSame M M') := by
  refine Ex.of (by decide) (Nat.le_of_ble_eq_true rfl) ?_
  have hB := hC.1.bk hg.1
  have hn30 := hg.1.1
  show Go G (d + 4) mX7_best 0 [some (.ref 49), none] [] M _
  refine Go.aload_n dX7_best_0 rfl ?_
  refine Go.callVV [] dX7_best_1 lkX7_153 imX7_marks seX7_marks cbX7_marks (m_marks hG hB hC.2.2.2.2.2.2.2) (shp hG rfl) rfl rfl rfl (Nat.le_of_ble_eq_true rfl) (fun M2 hr1 => ?_)
  have hqm := hC.qm (QM.mk59 hr1.2)
  refine Go.aload_n dX7_best_4 rfl ?_
  refine Go.callVI [] dX7_best_5 lkX7_184 imX7_bestPlace seX7_bestPlace cbX7_bestPlace (m_bestPlace hG hqm.1.2.2.2.2.2.2.2 hr1.1) (shp hG rfl) rfl rfl rfl (Nat.le_of_ble_eq_true rfl) (fun r3 M4 hr3 => ?_)
  obtain ⟨hp, hpm⟩ := hr3
  refine Go.istore_n (ls' := [some (.ref 49), some (.int r3)]) dX7_best_8 (Nat.le_of_ble_eq_true rfl) rfl rfl ?_
  rw [hpm]
  have hp2 : PlaceB (uS (gU g)) (kc (gU g)) (lk (gU g)) r3 := by
    unfold PlaceB at hp ⊢
    rw [← bst_congr8 hqm.1.1.1 (ml_lk hqm.1.1)]
    exact hp
  unfold A_best
  rcases hp2 with ⟨e, hb⟩ | ⟨q, hq, e, hb⟩
  · rw [e, hb]
    exact j_best0 hG hqm.1 hqm.2
  · rw [e, hb]
    exact j_best1 hG hqm.1 hqm.2 hq
noncomputable def A_lasts (g : Sg) (k : Int32) : Int32 × Sg := if inb k 6 then (nI (lastN (lk (gU g)) (uE (gU g)) (tN k) 60 (uS (gU g)) (kc (gU g))), g) else (-1000000001, fndS g 0)
set_option maxRecDepth 20000 in
theorem c_lasts {G : Gt} {d : Nat} {M : Mm} (hG : gS G = SHAPE) {g : Sg} (hC : CompIs M g) (hg : SgOk g) (k0 : Int32) : ExI G (d + 6) mX6_lasts [.ref 0, .int k0] M (fun r M' => r = (A_lasts g k0).1 ∧ CompIs M' (A_lasts g k0).2 ∧ MSame M M') := by
  refine Ex.of (by decide) (Nat.le_of_ble_eq_true rfl) ?_
  show Go G (d + 6) mX6_lasts 0 [some (.ref 0), some (.int k0)] [] M _
  by_cases hgd : (inb k0 6) = true
  · obtain ⟨k, hk, ek⟩ := inb_ex (n := 6) hgd (by decide)
    subst ek
    have hA0 : A_lasts g (nI k) = (nI (lastN (lk (gU g)) (uE (gU g)) k 60 (uS (gU g)) (kc (gU g))), g) := by
      rw [show A_lasts g (nI k) = (nI (lastN (lk (gU g)) (uE (gU g)) (tN (nI k)) 60 (uS (gU g)) (kc (gU g))), g) from if_pos hgd, tN_nI (by omega)]
    rw [hA0]
    clear hA0
    refine Go.iload_n dX6_lasts_0 rfl ?_
    refine Go.bipush (v := 6) dX6_lasts_1 (by decide) ?_
    refine Go.callSI [] dX6_lasts_3 lkX6_58 stX6_isBelow cbX6_isBelow (s_isBelow (nI k) 6) rfl rfl (Nat.le_of_ble_eq_true rfl) (fun r1 M2 hr1 => ?_)
    obtain ⟨er1, emr1⟩ := hr1
    rw [emr1]
    clear emr1 M2
    subst er1
    refine Go.eqI (y := 1) (by rw [show inb (nI k) 6 = decide (k < 6) from inb_nI (by omega) (by decide), decide_eq_true (by omega)]; rfl) ?_
    refine Go.if_ne 16 dX6_lasts_6 rfl (fun _ => ?_) (fun h6 => absurd h6 (by decide))
    refine Go.aload_n dX6_lasts_16 rfl ?_
    refine Go.getR dX6_lasts_17 flX6_29 (shp hG rfl) rfl ?_
    refine Go.aload_n dX6_lasts_20 rfl ?_
    refine Go.getR dX6_lasts_21 flX6_12 (shp hG rfl) rfl ?_
    refine Go.callVV [] dX6_lasts_24 lkX6_114 imX2_begin seX2_begin cbX2_begin (k_begin hG hC hg) (shp hG rfl) rfl rfl rfl (Nat.le_of_ble_eq_true rfl) (fun M4 hr3 => ?_)
    obtain ⟨hCk, hmk, hkck, hKk⟩ := hr3
    refine Go.aload_n dX6_lasts_27 rfl ?_
    refine Go.getR dX6_lasts_28 flX6_29 (shp hG rfl) rfl ?_
    refine Go.iload_n dX6_lasts_31 rfl ?_
    refine Go.callVI [] dX6_lasts_32 lkX6_204 imX2_mealsLeft seX2_mealsLeft cbX2_mealsLeft (k_mealsLeft hG hKk hk) (shp hG rfl) rfl rfl rfl (Nat.le_of_ble_eq_true rfl) (fun r5 M6 hr5 => ?_)
    obtain ⟨er5, hsM6⟩ := hr5
    refine Go.iret dX6_lasts_35 rfl rfl ?_
    have h9 := hCk.kc (hsM6.mono (by decide))
    exact ⟨_, rfl, er5, h9.1, hmk.trans h9.2⟩
  · refine Go.iload_n dX6_lasts_0 rfl ?_
    refine Go.bipush (v := 6) dX6_lasts_1 (by decide) ?_
    refine Go.callSI [] dX6_lasts_3 lkX6_58 stX6_isBelow cbX6_isBelow (s_isBelow k0 6) rfl rfl (Nat.le_of_ble_eq_true rfl) (fun r1 M2 hr1 => ?_)
    obtain ⟨er1, emr1⟩ := hr1
    rw [emr1]
    clear emr1 M2
    subst er1
    refine Go.if_ne 16 dX6_lasts_6 rfl (fun h6 => ?_) (fun h6 => ?_)
    · exact absurd (by simp [bi_n0.mp h6]) hgd
    · refine Go.aload_n dX6_lasts_9 rfl ?_
      refine Go.ldc dX6_lasts_10 kcX6_62 ?_
      refine Go.callVI [] dX6_lasts_12 lkX6_63 imX6_finding seX6_finding cbX6_finding (s_finding hG (code := (-1000000001)) (q := 0) (by decide) (by decide)) (shp hG rfl) rfl rfl rfl (Nat.le_of_ble_eq_true rfl) (fun r3 M4 hr3 => ?_)
      refine Go.iret dX6_lasts_15 rfl rfl ?_
      refine ⟨_, rfl, ?_⟩
      rw [show A_lasts g k0 = ((-1000000001), fndS g 0) from if_neg hgd, hr3.2]
      exact ⟨hr3.1, hC.fnd⟩
set_option maxRecDepth 20000 in
theorem m_lasts {G : Gt} {d : Nat} {M : Mm} (hG : gS G = SHAPE) {g : Sg} (hC : ModIs M g) (hg : SgOk g) (k0 : Int32) : ExI G (d + 6) mX7_lasts [.ref 49, .int k0] M (fun r M' => r = (A_lasts g k0).1 ∧ ModIs M' (A_lasts g k0).2 ∧ CSame M M') := by
  refine Ex.of (by decide) (Nat.le_of_ble_eq_true rfl) ?_
  have hB := hC.1.bk hg.1
  have hn30 := hg.1.1
  show Go G (d + 6) mX7_lasts 0 [some (.ref 49), some (.int k0)] [] M _
  by_cases hgd : (inb k0 6) = true
  · obtain ⟨k, hk, ek⟩ := inb_ex (n := 6) hgd (by decide)
    subst ek
    have hA0 : A_lasts g (nI k) = (nI (lastN (lk (gU g)) (uE (gU g)) k 60 (uS (gU g)) (kc (gU g))), g) := by
      rw [show A_lasts g (nI k) = (nI (lastN (lk (gU g)) (uE (gU g)) (tN (nI k)) 60 (uS (gU g)) (kc (gU g))), g) from if_pos hgd, tN_nI (by omega)]
    rw [hA0]
    clear hA0
    refine Go.iload_n dX7_lasts_0 rfl ?_
    refine Go.callSI [] dX7_lasts_1 lkX7_159 stX7_isKind cbX7_isKind (m_isKind (nI k)) rfl rfl (Nat.le_of_ble_eq_true rfl) (fun r1 M2 hr1 => ?_)
    obtain ⟨er1, emr1⟩ := hr1
    rw [emr1]
    clear emr1 M2
    subst er1
    refine Go.eqI (y := 1) (by rw [inI_kind, hgd]; rfl) ?_
    refine Go.if_eq 15 dX7_lasts_4 rfl (fun h4 => absurd h4 (by decide)) (fun _ => ?_)
    refine Go.aload_n dX7_lasts_7 rfl ?_
    refine Go.iload_n dX7_lasts_8 rfl ?_
    refine Go.callVI [] dX7_lasts_9 lkX7_203 imX7_lastsBy seX7_lastsBy cbX7_lastsBy (m_lastsBy hG hB hC.2.2.2.2.2.2.2 hn30 hk) (shp hG rfl) rfl rfl rfl (Nat.le_of_ble_eq_true rfl) (fun r3 M4 hr3 => ?_)
    obtain ⟨er3, hsM4⟩ := hr3
    refine Go.goto 21 dX7_lasts_12 rfl ?_
    refine Go.iret dX7_lasts_21 rfl rfl ?_
    have h9 := hC.qm hsM4
    exact ⟨_, rfl, by rw [er3, lastN_congr (ml_lk hC.1) _ _ 60 _ hC.1.1]; rfl, h9.1, h9.2⟩
  · refine Go.iload_n dX7_lasts_0 rfl ?_
    refine Go.callSI [] dX7_lasts_1 lkX7_159 stX7_isKind cbX7_isKind (m_isKind k0) rfl rfl (Nat.le_of_ble_eq_true rfl) (fun r1 M2 hr1 => ?_)
    obtain ⟨er1, emr1⟩ := hr1
    rw [emr1]
    clear emr1 M2
    subst er1
    refine Go.if_eq 15 dX7_lasts_4 rfl (fun h4 => ?_) (fun h4 => ?_)
    · refine Go.aload_n dX7_lasts_15 rfl ?_
      refine Go.ldc dX7_lasts_16 kcX7_85 ?_
      refine Go.callVI [] dX7_lasts_18 lkX7_104 imX7_finds seX7_finds cbX7_finds (m_finds hG (code := (-1000000001)) (q := 0) (by decide) (by decide)) (shp hG rfl) rfl rfl rfl (Nat.le_of_ble_eq_true rfl) (fun r3 M4 hr3 => ?_)
      refine Go.iret dX7_lasts_21 rfl rfl ?_
      refine ⟨_, rfl, ?_⟩
      rw [show A_lasts g k0 = ((-1000000001), fndS g 0) from if_neg hgd, hr3.2]
      exact ⟨hr3.1, hC.fnd⟩
    · exact absurd (by rw [← inI_kind, bi_n0.mp h4]) hgd
