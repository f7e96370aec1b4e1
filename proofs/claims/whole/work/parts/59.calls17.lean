def brN (u : Bu) (e : Nat) : Nat := cntN (fun p => barB (uK u) (uX u) (uE u) (dishN p) e) 1840
def A_entryOf (g : Sg) (e w : Int32) : Int32 × Sg := if inb e (nI (uN (gU g))) then (if w = 0 then (nI (uK (gU g) (tN e)), g) else if w = 1 then (nI (uX (gU g) (tN e)), g) else if w = 2 then (uD (gU g) (tN e), g) else if w = 3 then (nI (brN (gU g) (tN e)), g) else (-1000000001, fndS g 0)) else (-1000000001, fndS g 0)
theorem cnt_bars (k x ed : Nat) : cntN (fun p => barsN k x (dishN p) ed) 1840 = cntN (fun j => psetN k (x / 20) (sN j)) 92 * popN (mbN k (x % 20) ed) := by
  unfold cntN
  rw [blk, ← sumN_mul]
  refine sumN_congr 92 (fun i hi => ?_)
  have hp : popN (mbN k (x % 20) ed) = sumN (fun m => if askN k (x % 20) m ed then 1 else 0) 20 := pop_mask _
  rw [hp]
  cases h : psetN k (x / 20) (sN i) with
  | false =>
    simp only [h, Bool.false_eq_true, if_false, Nat.mul_zero]
    refine sumN_0 20 (fun m hm => ?_)
    show (if barsN k x (dishN (20 * i + m)) ed = true then 1 else 0) = 0
    rw [dishN_at hm]
    unfold barsN
    rw [show (20 * sN i + m) / 20 = sN i by omega, h]
    rfl
  | true =>
    simp only [h, if_true, Nat.mul_one]
    refine sumN_congr 20 (fun m hm => ?_)
    show (if barsN k x (dishN (20 * i + m)) ed = true then 1 else 0) = _
    rw [dishN_at hm]
    unfold barsN
    rw [show (20 * sN i + m) / 20 = sN i by omega, h, show (20 * sN i + m) % 20 = m by omega]
    rfl
set_option maxRecDepth 20000 in
theorem c_entryOf {G : Gt} {d : Nat} {M : Mm} (hG : gS G = SHAPE) {g : Sg} (hC : CompIs M g) (hg : SgOk g) (e0 w : Int32) : ExI G (d + 3) mX6_entryOf [.ref 0, .int e0, .int w] M (fun r M' => r = (A_entryOf g e0 w).1 ∧ CompIs M' (A_entryOf g e0 w).2 ∧ MSame M M') := by
  refine Ex.of (by decide) (Nat.le_of_ble_eq_true rfl) ?_
  have hB := hC.1.bk hg.1
  have hn30 := hg.1.1
  show Go G (d + 3) mX6_entryOf 0 [some (.ref 0), some (.int e0), some (.int w)] [] M _
  by_cases hgd : (inb e0 (nI (uN (gU g)))) = true
  · obtain ⟨j, hj, ej⟩ := inb_ex hgd (by omega)
    subst ej
    refine Go.iload_n dX6_entryOf_0 rfl ?_
    refine Go.aload_n dX6_entryOf_1 rfl ?_
    refine Go.getR dX6_entryOf_2 flX6_12 (shp hG rfl) rfl ?_
    refine Go.getI dX6_entryOf_5 flX6_148 (shp hG rfl) rfl ?_
    refine Go.eqI (y := nI (uN (gU g))) (hB.2.2.1) ?_
    refine Go.callSI [] dX6_entryOf_8 lkX6_58 stX6_isBelow cbX6_isBelow (s_isBelow (nI j) (nI (uN (gU g)))) rfl rfl (Nat.le_of_ble_eq_true rfl) (fun r1 M2 hr1 => ?_)
    obtain ⟨er1, emr1⟩ := hr1
    rw [emr1]
    clear emr1 M2
    subst er1
    refine Go.eqI (y := 1) (by rw [hgd]; rfl) ?_
    refine Go.if_ne 21 dX6_entryOf_11 rfl (fun _ => ?_) (fun h11 => absurd h11 (by decide))
    refine Go.iload_n dX6_entryOf_21 rfl ?_
    by_cases w22_0 : w = 0
    · rw [w22_0]
      refine Go.tableIn 52 dX6_entryOf_22 (by decide) (by decide) rfl rfl ?_
      refine Go.aload_n dX6_entryOf_52 rfl ?_
      refine Go.getR dX6_entryOf_53 flX6_12 (shp hG rfl) rfl ?_
      refine Go.getR dX6_entryOf_56 flX6_152 (shp hG rfl) rfl ?_
      refine Go.iload_n dX6_entryOf_59 rfl ?_
      refine Go.iald dX6_entryOf_60 (shp hG rfl) (vin (by omega) (by decide)) ?_
      refine Go.eqI (y := nI (uK (gU g) j)) (by rw [ncl (by omega)]; exact (hC.1.2.2.2.2.2.2.2 j hj).1) ?_
      refine Go.iret dX6_entryOf_61 rfl rfl ?_
      refine ⟨_, rfl, ?_⟩
      rw [show A_entryOf g (nI j) 0 = (nI (uK (gU g) j), g) from by simp [A_entryOf, hgd, tN_nI (show j < 2 ^ 31 by omega)]]
      exact ⟨rfl, hC, MSame.refl M⟩
    · skip
      by_cases w22_1 : w = 1
      · rw [w22_1]
        refine Go.tableIn 62 dX6_entryOf_22 (by decide) (by decide) rfl rfl ?_
        refine Go.aload_n dX6_entryOf_62 rfl ?_
        refine Go.getR dX6_entryOf_63 flX6_12 (shp hG rfl) rfl ?_
        refine Go.getR dX6_entryOf_66 flX6_155 (shp hG rfl) rfl ?_
        refine Go.iload_n dX6_entryOf_69 rfl ?_
        refine Go.iald dX6_entryOf_70 (shp hG rfl) (vin (by omega) (by decide)) ?_
        refine Go.eqI (y := nI (uX (gU g) j)) (by rw [ncl (by omega)]; exact (hC.1.2.2.2.2.2.2.2 j hj).2.1) ?_
        refine Go.iret dX6_entryOf_71 rfl rfl ?_
        refine ⟨_, rfl, ?_⟩
        rw [show A_entryOf g (nI j) 1 = (nI (uX (gU g) j), g) from by simp [A_entryOf, hgd, tN_nI (show j < 2 ^ 31 by omega)]]
        exact ⟨rfl, hC, MSame.refl M⟩
      · skip
        by_cases w22_2 : w = 2
        · rw [w22_2]
          refine Go.tableIn 72 dX6_entryOf_22 (by decide) (by decide) rfl rfl ?_
          refine Go.aload_n dX6_entryOf_72 rfl ?_
          refine Go.getR dX6_entryOf_73 flX6_12 (shp hG rfl) rfl ?_
          refine Go.getR dX6_entryOf_76 flX6_158 (shp hG rfl) rfl ?_
          refine Go.iload_n dX6_entryOf_79 rfl ?_
          refine Go.iald dX6_entryOf_80 (shp hG rfl) (vin (by omega) (by decide)) ?_
          refine Go.iret dX6_entryOf_81 rfl rfl ?_
          refine ⟨_, rfl, ?_⟩
          rw [show A_entryOf g (nI j) 2 = (uD (gU g) j, g) from by simp [A_entryOf, hgd, tN_nI (show j < 2 ^ 31 by omega)]]
          exact ⟨by rw [ncl (by omega)]; exact (hC.1.2.2.2.2.2.2.2 j hj).2.2, hC, MSame.refl M⟩
        · skip
          by_cases w22_3 : w = 3
          · rw [w22_3]
            refine Go.tableIn 82 dX6_entryOf_22 (by decide) (by decide) rfl rfl ?_
            refine Go.aload_n dX6_entryOf_82 rfl ?_
            refine Go.getR dX6_entryOf_83 flX6_12 (shp hG rfl) rfl ?_
            refine Go.getR dX6_entryOf_86 flX6_152 (shp hG rfl) rfl ?_
            refine Go.iload_n dX6_entryOf_89 rfl ?_
            refine Go.iald dX6_entryOf_90 (shp hG rfl) (vin (by omega) (by decide)) ?_
            refine Go.eqI (y := nI (uK (gU g) j)) (by rw [ncl (by omega)]; exact (hC.1.2.2.2.2.2.2.2 j hj).1) ?_
            refine Go.aload_n dX6_entryOf_91 rfl ?_
            refine Go.getR dX6_entryOf_92 flX6_12 (shp hG rfl) rfl ?_
            refine Go.getR dX6_entryOf_95 flX6_155 (shp hG rfl) rfl ?_
            refine Go.iload_n dX6_entryOf_98 rfl ?_
            refine Go.iald dX6_entryOf_99 (shp hG rfl) (vin (by omega) (by decide)) ?_
            refine Go.eqI (y := nI (uX (gU g) j)) (by rw [ncl (by omega)]; exact (hC.1.2.2.2.2.2.2.2 j hj).2.1) ?_
            refine Go.aload_n dX6_entryOf_100 rfl ?_
            refine Go.getR dX6_entryOf_101 flX6_12 (shp hG rfl) rfl ?_
            refine Go.getI dX6_entryOf_104 flX6_161 (shp hG rfl) rfl ?_
            refine Go.eqI (y := nI (uE (gU g))) (hB.2.2.2.1) ?_
            refine Go.callSI [] dX6_entryOf_107 lkX6_164 stX6_howManyBars cbX6_howManyBars (s_howManyBars (k := uK (gU g) j) (x := uX (gU g) j) (ed := uE (gU g)) (hg.1.2.2.1 j hj).1 (hg.1.2.2.1 j hj).2 hg.1.2.1) rfl rfl (Nat.le_of_ble_eq_true rfl) (fun r3 M4 hr3 => ?_)
            obtain ⟨er3, emr3⟩ := hr3
            rw [emr3]
            clear emr3 M4
            subst er3
            refine Go.iret dX6_entryOf_110 rfl rfl ?_
            refine ⟨_, rfl, ?_⟩
            rw [show A_entryOf g (nI j) 3 = (nI (brN (gU g) j), g) from by simp [A_entryOf, hgd, tN_nI (show j < 2 ^ 31 by omega)]]
            exact ⟨by unfold brN barB; rw [cnt_bars], hC, MSame.refl M⟩
          · skip
            refine Go.tableOut 111 dX6_entryOf_22 (sw3 w22_0 w22_1 w22_2 w22_3) rfl ?_
            refine Go.aload_n dX6_entryOf_111 rfl ?_
            refine Go.ldc dX6_entryOf_112 kcX6_62 ?_
            refine Go.callVI [] dX6_entryOf_114 lkX6_63 imX6_finding seX6_finding cbX6_finding (s_finding hG (code := (-1000000001)) (q := 0) (by decide) (by decide)) (shp hG rfl) rfl rfl rfl (Nat.le_of_ble_eq_true rfl) (fun r5 M6 hr5 => ?_)
            refine Go.iret dX6_entryOf_117 rfl rfl ?_
            refine ⟨_, rfl, ?_⟩
            rw [show A_entryOf g (nI j) w = (-1000000001, fndS g 0) from by simp [A_entryOf, hgd, w22_0, w22_1, w22_2, w22_3], hr5.2]
            exact ⟨hr5.1, hC.fnd⟩
  · refine Go.iload_n dX6_entryOf_0 rfl ?_
    refine Go.aload_n dX6_entryOf_1 rfl ?_
    refine Go.getR dX6_entryOf_2 flX6_12 (shp hG rfl) rfl ?_
    refine Go.getI dX6_entryOf_5 flX6_148 (shp hG rfl) rfl ?_
    refine Go.eqI (y := nI (uN (gU g))) (hB.2.2.1) ?_
    refine Go.callSI [] dX6_entryOf_8 lkX6_58 stX6_isBelow cbX6_isBelow (s_isBelow e0 (nI (uN (gU g)))) rfl rfl (Nat.le_of_ble_eq_true rfl) (fun r1 M2 hr1 => ?_)
    obtain ⟨er1, emr1⟩ := hr1
    rw [emr1]
    clear emr1 M2
    subst er1
    refine Go.if_ne 21 dX6_entryOf_11 rfl (fun h11 => ?_) (fun h11 => ?_)
    · exact absurd (by simp [bi_n0.mp h11]) hgd
    · refine Go.aload_n dX6_entryOf_14 rfl ?_
      refine Go.ldc dX6_entryOf_15 kcX6_62 ?_
      refine Go.callVI [] dX6_entryOf_17 lkX6_63 imX6_finding seX6_finding cbX6_finding (s_finding hG (code := (-1000000001)) (q := 0) (by decide) (by decide)) (shp hG rfl) rfl rfl rfl (Nat.le_of_ble_eq_true rfl) (fun r3 M4 hr3 => ?_)
      refine Go.iret dX6_entryOf_20 rfl rfl ?_
      refine ⟨_, rfl, ?_⟩
      rw [show A_entryOf g e0 w = ((-1000000001), fndS g 0) from if_neg hgd, hr3.2]
      exact ⟨hr3.1, hC.fnd⟩
set_option maxRecDepth 20000 in
theorem l_barsMany {G : Gt} {d : Nat} {M : Mm} (hG : gS G = SHAPE) {g : Sg} (hC : ModIs M g) (hg : SgOk g) {j : Nat} (hj : j < uN (gU g)) : ∀ (n i : Nat), i + n = 1840 → Go G (d + 2) mX7_barsMany 4 [some (.ref 49), some (.int (nI j)), some (.int (nI (cntN (fun p => barB (uK (gU g)) (uX (gU g)) (uE (gU g)) (dishN p) j) i))), some (.int (nI i))] [] M (fun v M' => ∃ r, v = some (.int r) ∧ r = nI (brN (gU g) j) ∧ M' = M) := by
  intro n
  induction n with
  | zero =>
    intro i  hin
    have hB := hC.1.bk hg.1
    have hn30 := hg.1.1
    refine Go.iload_n dX7_barsMany_4 rfl ?_
    refine Go.sipush (v := 1840) dX7_barsMany_5 (by decide) ?_
    refine Go.icmp_ge 38 dX7_barsMany_8 rfl (fun _ => ?_) (fun h8 => absurd (nI_le (a := 1840) (b := i) (by omega) (by omega)) h8)
    refine Go.iload_n dX7_barsMany_38 rfl ?_
    refine Go.iret dX7_barsMany_39 rfl rfl ?_
    have e9 : i = 1840 := by omega
    subst e9
    exact ⟨_, rfl, rfl, rfl⟩
  | succ n ih =>
    intro i  hin
    have hi : i < 1840 := by omega
    have hB := hC.1.bk hg.1
    have hn30 := hg.1.1
    refine Go.iload_n dX7_barsMany_4 rfl ?_
    refine Go.sipush (v := 1840) dX7_barsMany_5 (by decide) ?_
    refine Go.icmp_ge 38 dX7_barsMany_8 rfl (fun h8 => absurd h8 (nI_ge (a := i) (b := 1840) (by omega) (by omega))) (fun _ => ?_)
    refine Go.iload_n dX7_barsMany_11 rfl ?_
    refine Go.aload_n dX7_barsMany_12 rfl ?_
    refine Go.iload_n dX7_barsMany_13 rfl ?_
    refine Go.aload_n dX7_barsMany_14 rfl ?_
    refine Go.iload_n dX7_barsMany_15 rfl ?_
    refine Go.callVI [.int (nI j), .ref 49, .int (nI (cntN (fun p => barB (uK (gU g)) (uX (gU g)) (uE (gU g)) (dishN p) j) i))] dX7_barsMany_16 lkX7_150 imX7_dishAt seX7_dishAt cbX7_dishAt (m_dishAt hG hC.2.2.2.2.2.2.2 (p := i) (by omega)) (shp hG rfl) rfl rfl rfl (Nat.le_of_ble_eq_true rfl) (fun r1 M2 hr1 => ?_)
    obtain ⟨er1, emr1⟩ := hr1
    rw [emr1]
    clear emr1 M2
    subst er1
    refine Go.callVI [.int (nI (cntN (fun p => barB (uK (gU g)) (uX (gU g)) (uE (gU g)) (dishN p) j) i))] dX7_barsMany_19 lkX7_124 imX7_barsIt seX7_barsIt cbX7_barsIt (m_barsIt hG hB (e := j) (x := dishN i) (by omega) (dishN_ok (by omega))) (shp hG rfl) rfl rfl rfl (Nat.le_of_ble_eq_true rfl) (fun r3 M4 hr3 => ?_)
    obtain ⟨er3, emr3⟩ := hr3
    rw [emr3]
    clear emr3 M4
    subst er3
    refine Go.if_eq 29 dX7_barsMany_22 rfl (fun h22 => ?_) (fun h22 => ?_)
    · refine Go.iconst (v := 0) dX7_barsMany_29 (by decide) ?_
      refine Go.iadd dX7_barsMany_30 ?_
      refine Go.eqI (y := nI (cntN (fun p => barB (uK (gU g)) (uX (gU g)) (uE (gU g)) (dishN p) j) i + 0)) (nI_add _ _) ?_
      refine Go.nmI (fun x5 ex5 => ?_)
      refine Go.istore_n (ls' := [some (.ref 49), some (.int (nI j)), some (.int x5), some (.int (nI i))]) dX7_barsMany_31 (Nat.le_of_ble_eq_true rfl) rfl rfl ?_
      refine Go.iinc (v := nI (i + 1)) (ls' := [some (.ref 49), some (.int (nI j)), some (.int x5), some (.int (nI (i + 1)))]) dX7_barsMany_32 rfl (nI_1 _) rfl rfl ?_
      refine Go.goto 4 dX7_barsMany_35 rfl ?_
      rw [ex5, show nI (cntN (fun p => barB (uK (gU g)) (uX (gU g)) (uE (gU g)) (dishN p) j) i + 0) = nI (cntN (fun p => barB (uK (gU g)) (uX (gU g)) (uE (gU g)) (dishN p) j) (i + 1)) from cnt_f (p := fun p => barB (uK (gU g)) (uX (gU g)) (uE (gU g)) (dishN p) j) (i := i) (bi_0.mp h22)]
      exact ih (i + 1) (by omega)
    · refine Go.iconst (v := 1) dX7_barsMany_25 (by decide) ?_
      refine Go.goto 30 dX7_barsMany_26 rfl ?_
      refine Go.iadd dX7_barsMany_30 ?_
      refine Go.eqI (y := nI (cntN (fun p => barB (uK (gU g)) (uX (gU g)) (uE (gU g)) (dishN p) j) i + 1)) (nI_add _ _) ?_
      refine Go.nmI (fun x6 ex6 => ?_)
      refine Go.istore_n (ls' := [some (.ref 49), some (.int (nI j)), some (.int x6), some (.int (nI i))]) dX7_barsMany_31 (Nat.le_of_ble_eq_true rfl) rfl rfl ?_
      refine Go.iinc (v := nI (i + 1)) (ls' := [some (.ref 49), some (.int (nI j)), some (.int x6), some (.int (nI (i + 1)))]) dX7_barsMany_32 rfl (nI_1 _) rfl rfl ?_
      refine Go.goto 4 dX7_barsMany_35 rfl ?_
      rw [ex6, show nI (cntN (fun p => barB (uK (gU g)) (uX (gU g)) (uE (gU g)) (dishN p) j) i + 1) = _ from cnt_t (p := fun p => barB (uK (gU g)) (uX (gU g)) (uE (gU g)) (dishN p) j) (i := i) (bi_n0.mp h22)]
      exact ih (i + 1) (by omega)
set_option maxRecDepth 20000 in
theorem m_barsMany {G : Gt} {d : Nat} {M : Mm} (hG : gS G = SHAPE) {g : Sg} (hC : ModIs M g) (hg : SgOk g) {j : Nat} (hj : j < uN (gU g)) : ExI G (d + 2) mX7_barsMany [.ref 49, .int (nI j)] M (fun r M' => r = nI (brN (gU g) j) ∧ M' = M) := by
  refine Ex.of (by decide) (Nat.le_of_ble_eq_true rfl) ?_
  show Go G (d + 2) mX7_barsMany 0 [some (.ref 49), some (.int (nI j)), none, none] [] M _
  refine Go.iconst (v := 0) dX7_barsMany_0 (by decide) ?_
  refine Go.istore_n (ls' := [some (.ref 49), some (.int (nI j)), some (.int 0), none]) dX7_barsMany_1 (Nat.le_of_ble_eq_true rfl) rfl rfl ?_
  refine Go.iconst (v := 0) dX7_barsMany_2 (by decide) ?_
  refine Go.istore_n (ls' := [some (.ref 49), some (.int (nI j)), some (.int 0), some (.int 0)]) dX7_barsMany_3 (Nat.le_of_ble_eq_true rfl) rfl rfl ?_
  exact l_barsMany hG hC hg hj 1840 0 (by omega)
theorem in3_no {w : Int32} (h : inI w 0 3 = false) : ¬ w = 0 ∧ ¬ w = 1 ∧ ¬ w = 2 ∧ ¬ w = 3 := by
  refine ⟨?_, ?_, ?_, ?_⟩ <;> (intro e; subst e; exact absurd h (by decide))
theorem in3_3 {w : Int32} (h : inI w 0 3 = true) (h0 : ¬ w = 0) (h1 : ¬ w = 1) (h2 : ¬ w = 2) : w = 3 := by
  obtain ⟨x, a, b, c⟩ := inI_nI (a := 0) (b := 3) (by decide) (by decide) h
  subst c
  match x, b with
  | 0, _ => exact absurd rfl h0
  | 1, _ => exact absurd rfl h1
  | 2, _ => exact absurd rfl h2
  | 3, _ => rfl
  | x + 4, b => omega
set_option maxRecDepth 20000 in
theorem m_entryOf {G : Gt} {d : Nat} {M : Mm} (hG : gS G = SHAPE) {g : Sg} (hC : ModIs M g) (hg : SgOk g) (e0 w : Int32) : ExI G (d + 3) mX7_entryOf [.ref 49, .int e0, .int w] M (fun r M' => r = (A_entryOf g e0 w).1 ∧ ModIs M' (A_entryOf g e0 w).2 ∧ CSame M M') := by
  refine Ex.of (by decide) (Nat.le_of_ble_eq_true rfl) ?_
  have hB := hC.1.bk hg.1
  have hn30 := hg.1.1
  show Go G (d + 3) mX7_entryOf 0 [some (.ref 49), some (.int e0), some (.int w)] [] M _
  by_cases hgd : (inb e0 (nI (uN (gU g)))) = true
  · obtain ⟨j, hj, ej⟩ := inb_ex hgd (by omega)
    subst ej
    refine Go.aload_n dX7_entryOf_0 rfl ?_
    refine Go.iload_n dX7_entryOf_1 rfl ?_
    refine Go.callVI [] dX7_entryOf_2 lkX7_170 imX7_isEntry seX7_isEntry cbX7_isEntry (m_isEntry hG (n := uN (gU g)) hB.2.2.1 (by omega) (nI j)) (shp hG rfl) rfl rfl rfl (Nat.le_of_ble_eq_true rfl) (fun r1 M2 hr1 => ?_)
    obtain ⟨er1, emr1⟩ := hr1
    rw [emr1]
    clear emr1 M2
    subst er1
    refine Go.eqI (y := 1) (by rw [hgd]; rfl) ?_
    refine Go.if_eq 17 dX7_entryOf_5 rfl (fun h5 => absurd h5 (by decide)) (fun _ => ?_)
    refine Go.iload_n dX7_entryOf_8 rfl ?_
    refine Go.iconst (v := 0) dX7_entryOf_9 (by decide) ?_
    refine Go.iconst (v := 3) dX7_entryOf_10 (by decide) ?_
    refine Go.callSI [] dX7_entryOf_11 lkX7_86 stX7_in cbX7_in (m_in w 0 3) rfl rfl (Nat.le_of_ble_eq_true rfl) (fun r3 M4 hr3 => ?_)
    obtain ⟨er3, emr3⟩ := hr3
    rw [emr3]
    clear emr3 M4
    subst er3
    refine Go.if_ne 24 dX7_entryOf_14 rfl (fun h14 => ?_) (fun h14 => ?_)
    · refine Go.iload_n dX7_entryOf_24 rfl ?_
      refine Go.if_ne 37 dX7_entryOf_25 rfl (fun h25 => ?_) (fun h25 => ?_)
      · refine Go.iload_n dX7_entryOf_37 rfl ?_
        refine Go.iconst (v := 1) dX7_entryOf_38 (by decide) ?_
        refine Go.icmp_ne 51 dX7_entryOf_39 rfl (fun h39 => ?_) (fun h39 => ?_)
        · refine Go.iload_n dX7_entryOf_51 rfl ?_
          refine Go.iconst (v := 2) dX7_entryOf_52 (by decide) ?_
          refine Go.icmp_ne 65 dX7_entryOf_53 rfl (fun h53 => ?_) (fun h53 => ?_)
          · refine Go.aload_n dX7_entryOf_65 rfl ?_
            refine Go.iload_n dX7_entryOf_66 rfl ?_
            refine Go.callVI [] dX7_entryOf_67 lkX7_173 imX7_barsMany seX7_barsMany cbX7_barsMany (m_barsMany hG hC hg hj) (shp hG rfl) rfl rfl rfl (Nat.le_of_ble_eq_true rfl) (fun r5 M6 hr5 => ?_)
            obtain ⟨er5, emr5⟩ := hr5
            rw [emr5]
            clear emr5 M6
            subst er5
            refine Go.iret dX7_entryOf_70 rfl rfl ?_
            have e3 := in3_3 (bi_n0.mp h14) h25 h39 h53
            refine ⟨_, rfl, ?_⟩
            rw [show A_entryOf g (nI j) w = (nI (brN (gU g) j), g) from by rw [e3]; simp [A_entryOf, hgd, tN_nI (show j < 2 ^ 31 by omega)]]
            exact ⟨rfl, hC, CSame.refl M⟩
          · refine Go.aload_n dX7_entryOf_56 rfl ?_
            refine Go.getR dX7_entryOf_57 flX7_25 (shp hG rfl) rfl ?_
            refine Go.iload_n dX7_entryOf_60 rfl ?_
            refine Go.iald dX7_entryOf_61 (shp hG rfl) (vin (by omega) (by decide)) ?_
            refine Go.goto 70 dX7_entryOf_62 rfl ?_
            refine Go.iret dX7_entryOf_70 rfl rfl ?_
            refine ⟨_, rfl, ?_⟩
            rw [show A_entryOf g (nI j) w = (uD (gU g) j, g) from by rw [h53]; simp [A_entryOf, hgd, tN_nI (show j < 2 ^ 31 by omega)]]
            exact ⟨by rw [ncl (by omega)]; exact (hC.1.2.2.2.2.2.2.2.2 j hj).2.2, hC, CSame.refl M⟩
        · refine Go.aload_n dX7_entryOf_42 rfl ?_
          refine Go.getR dX7_entryOf_43 flX7_22 (shp hG rfl) rfl ?_
          refine Go.iload_n dX7_entryOf_46 rfl ?_
          refine Go.iald dX7_entryOf_47 (shp hG rfl) (vin (by omega) (by decide)) ?_
          refine Go.eqI (y := nI (uX (gU g) j)) (by rw [ncl (by omega)]; exact (hC.1.2.2.2.2.2.2.2.2 j hj).2.1) ?_
          refine Go.goto 70 dX7_entryOf_48 rfl ?_
          refine Go.iret dX7_entryOf_70 rfl rfl ?_
          refine ⟨_, rfl, ?_⟩
          rw [show A_entryOf g (nI j) w = (nI (uX (gU g) j), g) from by rw [h39]; simp [A_entryOf, hgd, tN_nI (show j < 2 ^ 31 by omega)]]
          exact ⟨rfl, hC, CSame.refl M⟩
      · refine Go.aload_n dX7_entryOf_28 rfl ?_
        refine Go.getR dX7_entryOf_29 flX7_19 (shp hG rfl) rfl ?_
        refine Go.iload_n dX7_entryOf_32 rfl ?_
        refine Go.iald dX7_entryOf_33 (shp hG rfl) (vin (by omega) (by decide)) ?_
        refine Go.eqI (y := nI (uK (gU g) j)) (by rw [ncl (by omega)]; exact (hC.1.2.2.2.2.2.2.2.2 j hj).1) ?_
        refine Go.goto 70 dX7_entryOf_34 rfl ?_
        refine Go.iret dX7_entryOf_70 rfl rfl ?_
        refine ⟨_, rfl, ?_⟩
        rw [show A_entryOf g (nI j) w = (nI (uK (gU g) j), g) from by rw [h25]; simp [A_entryOf, hgd, tN_nI (show j < 2 ^ 31 by omega)]]
        exact ⟨rfl, hC, CSame.refl M⟩
    · refine Go.aload_n dX7_entryOf_17 rfl ?_
      refine Go.ldc dX7_entryOf_18 kcX7_85 ?_
      refine Go.callVI [] dX7_entryOf_20 lkX7_104 imX7_finds seX7_finds cbX7_finds (m_finds hG (code := (-1000000001)) (q := 0) (by decide) (by decide)) (shp hG rfl) rfl rfl rfl (Nat.le_of_ble_eq_true rfl) (fun r7 M8 hr7 => ?_)
      refine Go.iret dX7_entryOf_23 rfl rfl ?_
      obtain ⟨z0, z1, z2, z3⟩ := in3_no (bi_0.mp h14)
      refine ⟨_, rfl, ?_⟩
      rw [show A_entryOf g (nI j) w = (-1000000001, fndS g 0) from by simp [A_entryOf, hgd, z0, z1, z2, z3], hr7.2]
      exact ⟨hr7.1, hC.fnd⟩
  · refine Go.aload_n dX7_entryOf_0 rfl ?_
    refine Go.iload_n dX7_entryOf_1 rfl ?_
    refine Go.callVI [] dX7_entryOf_2 lkX7_170 imX7_isEntry seX7_isEntry cbX7_isEntry (m_isEntry hG (n := uN (gU g)) hB.2.2.1 (by omega) e0) (shp hG rfl) rfl rfl rfl (Nat.le_of_ble_eq_true rfl) (fun r1 M2 hr1 => ?_)
    obtain ⟨er1, emr1⟩ := hr1
    rw [emr1]
    clear emr1 M2
    subst er1
    refine Go.if_eq 17 dX7_entryOf_5 rfl (fun h5 => ?_) (fun h5 => ?_)
    · refine Go.aload_n dX7_entryOf_17 rfl ?_
      refine Go.ldc dX7_entryOf_18 kcX7_85 ?_
      refine Go.callVI [] dX7_entryOf_20 lkX7_104 imX7_finds seX7_finds cbX7_finds (m_finds hG (code := (-1000000001)) (q := 0) (by decide) (by decide)) (shp hG rfl) rfl rfl rfl (Nat.le_of_ble_eq_true rfl) (fun r3 M4 hr3 => ?_)
      refine Go.iret dX7_entryOf_23 rfl rfl ?_
      refine ⟨_, rfl, ?_⟩
      rw [show A_entryOf g e0 w = ((-1000000001), fndS g 0) from if_neg hgd, hr3.2]
      exact ⟨hr3.1, hC.fnd⟩
    · exact absurd (bi_n0.mp h5) hgd
def nwN (u : Bu) (ed : Nat) : Nat := cntN (fun p => decide (cB (uN u) (uK u) (uX u) ed (dishN p) = 0)) 1840
def A_wouldBe (g : Sg) (w : Int32) : Int32 × Sg := if inb w 2 then (nI (nwN (gU g) (uE (gU g) ^^^ 2 ^ tN w)) - nI (nwN (gU g) (uE (gU g))), g) else (-1000000001, fndS g 0)
theorem xor_lt4 : ∀ ed, ed < 4 → ∀ w, w < 2 → ed ^^^ 2 ^ w < 4 := by decide +kernel
theorem k_unb {G : Gt} {d : Nat} {M : Mm} (hG : gS G = SHAPE) {u : Bu} {ed : Nat} (hO : OnceIs M (cB (uN u) (uK u) (uX u) ed)) : ExI G (d + 2) mX0_unbarred [.ref 27] M (fun r M' => r = nI (nwN u ed) ∧ M' = M) := by
  refine (s_unbarred hG hO (cB_out _ _ _ _)).mono (fun r M' ⟨a, b⟩ => ⟨?_, b⟩)
  rw [a, cnt_new (cB_out _ _ _ _)]
  rfl
set_option maxRecDepth 20000 in
theorem c_wouldBe {G : Gt} {d : Nat} {M : Mm} (hG : gS G = SHAPE) {g : Sg} (hC : CompIs M g) (hg : SgOk g) (w0 : Int32) : ExI G (d + 4) mX6_wouldBe [.ref 0, .int w0] M (fun r M' => r = (A_wouldBe g w0).1 ∧ CompIs M' (A_wouldBe g w0).2 ∧ MSame M M') := by
  refine Ex.of (by decide) (Nat.le_of_ble_eq_true rfl) ?_
  have hB := hC.1.bk hg.1
  have hn30 := hg.1.1
  show Go G (d + 4) mX6_wouldBe 0 [some (.ref 0), some (.int w0), none] [] M _
  by_cases hgd : (inb w0 2) = true
  · obtain ⟨w, hw, ew⟩ := inb_ex (n := 2) hgd (by decide)
    subst ew
    have hA0 : A_wouldBe g (nI w) = (nI (nwN (gU g) (uE (gU g) ^^^ 2 ^ w)) - nI (nwN (gU g) (uE (gU g))), g) := by
      rw [show A_wouldBe g (nI w) = (nI (nwN (gU g) (uE (gU g) ^^^ 2 ^ tN (nI w))) - nI (nwN (gU g) (uE (gU g))), g) from if_pos hgd, tN_nI (by omega)]
    rw [hA0]
    clear hA0
    refine Go.iload_n dX6_wouldBe_0 rfl ?_
    refine Go.iconst (v := 2) dX6_wouldBe_1 (by decide) ?_
    refine Go.callSI [] dX6_wouldBe_2 lkX6_58 stX6_isBelow cbX6_isBelow (s_isBelow (nI w) 2) rfl rfl (Nat.le_of_ble_eq_true rfl) (fun r1 M2 hr1 => ?_)
    obtain ⟨er1, emr1⟩ := hr1
    rw [emr1]
    clear emr1 M2
    subst er1
    refine Go.eqI (y := 1) (by rw [show inb (nI w) 2 = decide (w < 2) from inb_nI (by omega) (by decide), decide_eq_true (by omega)]; rfl) ?_
    refine Go.if_ne 15 dX6_wouldBe_5 rfl (fun _ => ?_) (fun h5 => absurd h5 (by decide))
    refine Go.aload_n dX6_wouldBe_15 rfl ?_
    refine Go.getR dX6_wouldBe_16 flX6_29 (shp hG rfl) rfl ?_
    refine Go.getR dX6_wouldBe_19 flX6_122 (shp hG rfl) rfl ?_
    refine Go.aload_n dX6_wouldBe_22 rfl ?_
    refine Go.getR dX6_wouldBe_23 flX6_12 (shp hG rfl) rfl ?_
    refine Go.aload_n dX6_wouldBe_26 rfl ?_
    refine Go.getR dX6_wouldBe_27 flX6_12 (shp hG rfl) rfl ?_
    refine Go.getI dX6_wouldBe_30 flX6_161 (shp hG rfl) rfl ?_
    refine Go.eqI (y := nI (uE (gU g))) (hB.2.2.2.1) ?_
    refine Go.callVV [] dX6_wouldBe_33 lkX6_184 imX0_barAll seX0_barAll cbX0_barAll (s_barAll hG hB (ee := uE (gU g)) hB.2.1) (shp hG rfl) rfl rfl rfl (Nat.le_of_ble_eq_true rfl) (fun M4 hr3 => ?_)
    obtain ⟨hO1, hs1⟩ := hr3
    refine Go.aload_n dX6_wouldBe_36 rfl ?_
    refine Go.getR dX6_wouldBe_37 flX6_29 (shp hG rfl) rfl ?_
    refine Go.getR dX6_wouldBe_40 flX6_122 (shp hG rfl) rfl ?_
    refine Go.callVI [] dX6_wouldBe_43 lkX6_126 imX0_unbarred seX0_unbarred cbX0_unbarred (k_unb hG (u := gU g) hO1) (shp hG rfl) rfl rfl rfl (Nat.le_of_ble_eq_true rfl) (fun r5 M6 hr5 => ?_)
    obtain ⟨er5, emr5⟩ := hr5
    rw [emr5]
    clear emr5 M6
    subst er5
    have hB1 := hB.sm hs1 (by decide)
    refine Go.istore_n (ls' := [some (.ref 0), some (.int (nI w)), some (.int (nI (nwN (gU g) (uE (gU g)))))]) dX6_wouldBe_46 (Nat.le_of_ble_eq_true rfl) rfl rfl ?_
    refine Go.aload_n dX6_wouldBe_47 rfl ?_
    refine Go.getR dX6_wouldBe_48 flX6_29 (shp hG rfl) rfl ?_
    refine Go.getR dX6_wouldBe_51 flX6_122 (shp hG rfl) rfl ?_
    refine Go.aload_n dX6_wouldBe_54 rfl ?_
    refine Go.getR dX6_wouldBe_55 flX6_12 (shp hG rfl) rfl ?_
    refine Go.aload_n dX6_wouldBe_58 rfl ?_
    refine Go.getR dX6_wouldBe_59 flX6_12 (shp hG rfl) rfl ?_
    refine Go.getI dX6_wouldBe_62 flX6_161 (shp hG rfl) rfl ?_
    refine Go.eqI (y := nI (uE (gU g))) (hB1.2.2.2.1) ?_
    refine Go.iconst (v := 1) dX6_wouldBe_65 (by decide) ?_
    refine Go.iload_n dX6_wouldBe_66 rfl ?_
    refine Go.ishl dX6_wouldBe_67 ?_
    refine Go.ixor dX6_wouldBe_68 ?_
    refine Go.eqI (y := nI (uE (gU g) ^^^ 2 ^ w)) (xor_ed _ hB.2.1 w hw) ?_
    refine Go.callVV [] dX6_wouldBe_69 lkX6_184 imX0_barAll seX0_barAll cbX0_barAll (s_barAll hG hB1 (ee := uE (gU g) ^^^ 2 ^ w) (xor_lt4 _ hB.2.1 w hw)) (shp hG rfl) rfl rfl rfl (Nat.le_of_ble_eq_true rfl) (fun M8 hr7 => ?_)
    obtain ⟨hO2, hs2⟩ := hr7
    refine Go.aload_n dX6_wouldBe_72 rfl ?_
    refine Go.getR dX6_wouldBe_73 flX6_29 (shp hG rfl) rfl ?_
    refine Go.getR dX6_wouldBe_76 flX6_122 (shp hG rfl) rfl ?_
    refine Go.callVI [] dX6_wouldBe_79 lkX6_126 imX0_unbarred seX0_unbarred cbX0_unbarred (k_unb hG (u := gU g) hO2) (shp hG rfl) rfl rfl rfl (Nat.le_of_ble_eq_true rfl) (fun r9 M10 hr9 => ?_)
    obtain ⟨er9, emr9⟩ := hr9
    rw [emr9]
    clear emr9 M10
    subst er9
    refine Go.iload_n dX6_wouldBe_82 rfl ?_
    refine Go.isub dX6_wouldBe_83 ?_
    refine Go.iret dX6_wouldBe_84 rfl rfl ?_
    have hk9 := hC.kc ((hs1.trans hs2).mono (by decide))
    exact ⟨_, rfl, rfl, hk9⟩
  · refine Go.iload_n dX6_wouldBe_0 rfl ?_
    refine Go.iconst (v := 2) dX6_wouldBe_1 (by decide) ?_
    refine Go.callSI [] dX6_wouldBe_2 lkX6_58 stX6_isBelow cbX6_isBelow (s_isBelow w0 2) rfl rfl (Nat.le_of_ble_eq_true rfl) (fun r1 M2 hr1 => ?_)
    obtain ⟨er1, emr1⟩ := hr1
    rw [emr1]
    clear emr1 M2
    subst er1
    refine Go.if_ne 15 dX6_wouldBe_5 rfl (fun h5 => ?_) (fun h5 => ?_)
    · exact absurd (by simp [bi_n0.mp h5]) hgd
    · refine Go.aload_n dX6_wouldBe_8 rfl ?_
      refine Go.ldc dX6_wouldBe_9 kcX6_62 ?_
      refine Go.callVI [] dX6_wouldBe_11 lkX6_63 imX6_finding seX6_finding cbX6_finding (s_finding hG (code := (-1000000001)) (q := 0) (by decide) (by decide)) (shp hG rfl) rfl rfl rfl (Nat.le_of_ble_eq_true rfl) (fun r3 M4 hr3 => ?_)
      refine Go.iret dX6_wouldBe_14 rfl rfl ?_
      refine ⟨_, rfl, ?_⟩
      rw [show A_wouldBe g w0 = ((-1000000001), fndS g 0) from if_neg hgd, hr3.2]
      exact ⟨hr3.1, hC.fnd⟩
theorem one_sub_bi (b : Bool) : (1 : Int32) - bi b = bi (!b) := by cases b <;> decide
theorem edN_flip (ed w : Nat) : edN ed w (!ed.testBit w) = ed ^^^ 2 ^ w := by
  unfold edN
  rw [if_neg (by cases ed.testBit w <;> decide)]
theorem upd_back {f : Nat → Int32} {w : Nat} {x y : Int32} (h : y = f w) : upd (upd f w x) w y = f := by
  funext j
  unfold upd
  by_cases q : j = w
  · rw [if_pos q, h, q]
  · rw [if_neg q, if_neg q]
set_option maxRecDepth 20000 in
theorem m_wouldBe {G : Gt} {d : Nat} {M : Mm} (hG : gS G = SHAPE) {g : Sg} (hC : ModIs M g) (hg : SgOk g) (w0 : Int32) : ExI G (d + 5) mX7_wouldBe [.ref 49, .int w0] M (fun r M' => r = (A_wouldBe g w0).1 ∧ ModIs M' (A_wouldBe g w0).2 ∧ CSame M M') := by
  refine Ex.of (by decide) (Nat.le_of_ble_eq_true rfl) ?_
  have hB := hC.1.bk hg.1
  have hn30 := hg.1.1
  show Go G (d + 5) mX7_wouldBe 0 [some (.ref 49), some (.int w0), none, none] [] M _
  by_cases hgd : (inb w0 2) = true
  · obtain ⟨w, hw, ew⟩ := inb_ex (n := 2) hgd (by decide)
    subst ew
    have hA0 : A_wouldBe g (nI w) = (nI (nwN (gU g) (uE (gU g) ^^^ 2 ^ w)) - nI (nwN (gU g) (uE (gU g))), g) := by
      rw [show A_wouldBe g (nI w) = (nI (nwN (gU g) (uE (gU g) ^^^ 2 ^ tN (nI w))) - nI (nwN (gU g) (uE (gU g))), g) from if_pos hgd, tN_nI (by omega)]
    rw [hA0]
    clear hA0
    refine Go.iload_n dX7_wouldBe_0 rfl ?_
    refine Go.iconst (v := 0) dX7_wouldBe_1 (by decide) ?_
    refine Go.iconst (v := 1) dX7_wouldBe_2 (by decide) ?_
    refine Go.callSI [] dX7_wouldBe_3 lkX7_86 stX7_in cbX7_in (m_in (nI w) 0 1) rfl rfl (Nat.le_of_ble_eq_true rfl) (fun r1 M2 hr1 => ?_)
    obtain ⟨er1, emr1⟩ := hr1
    rw [emr1]
    clear emr1 M2
    subst er1
    refine Go.eqI (y := 1) (by rw [inI_two, hgd]; rfl) ?_
    refine Go.if_ne 16 dX7_wouldBe_6 rfl (fun _ => ?_) (fun h6 => absurd h6 (by decide))
    refine Go.aload_n dX7_wouldBe_16 rfl ?_
    refine Go.callVI [] dX7_wouldBe_17 lkX7_180 imX7_newMany seX7_newMany cbX7_newMany (m_newMany hG hB hC.2.2.2.2.2.2.2) (shp hG rfl) rfl rfl rfl (Nat.le_of_ble_eq_true rfl) (fun r3 M4 hr3 => ?_)
    obtain ⟨er3, hM1, hs1⟩ := hr3
    refine Go.istore_n (ls' := [some (.ref 49), some (.int (nI w)), some (.int r3), none]) dX7_wouldBe_20 (Nat.le_of_ble_eq_true rfl) rfl rfl ?_
    refine Go.aload_n dX7_wouldBe_21 rfl ?_
    refine Go.getR dX7_wouldBe_22 flX7_16 (shp hG rfl) rfl ?_
    refine Go.iload_n dX7_wouldBe_25 rfl ?_
    refine Go.iconst (v := 1) dX7_wouldBe_26 (by decide) ?_
    refine Go.aload_n dX7_wouldBe_27 rfl ?_
    refine Go.getR dX7_wouldBe_28 flX7_16 (shp hG rfl) rfl ?_
    refine Go.iload_n dX7_wouldBe_31 rfl ?_
    refine Go.iald dX7_wouldBe_32 (shp hG rfl) (vin (by omega) (by decide)) ?_
    refine Go.eqI (y := bi ((uE (gU g)).testBit w)) (by rw [ncl (by omega), hs1.1 52 (by decide)]; exact ed_at hC.1 hg.1.2.1 hw) ?_
    refine Go.isub dX7_wouldBe_33 ?_
    refine Go.eqI (y := bi (!(uE (gU g)).testBit w)) (one_sub_bi _) ?_
    refine Go.iast dX7_wouldBe_34 (shp hG rfl) (vin (by omega) (by decide)) ?_
    refine Go.nmM (fun N5 eN5 => ?_)
    have eEd : N5 = upi M4 52 w (bi (!(uE (gU g)).testBit w)) := by rw [eN5, ncl (by omega)]
    have hBu : BuM N5 (edU (gU g) w (!(uE (gU g)).testBit w)) := by
      rw [eEd]
      exact (hC.mk59 hs1).1.1.ed hg.1.2.1 hw _
    have hB2 := hBu.bk (edU_ok hg.1 hw)
    have hS2 : MdS N5 := by rw [eEd]; exact (hC.mk59 hs1).1.2.2.2.2.2.2.2.same (rd_ne (by decide)) (rd_ne (by decide))
    refine Go.aload_n dX7_wouldBe_35 rfl ?_
    refine Go.callVI [] dX7_wouldBe_36 lkX7_180 imX7_newMany seX7_newMany cbX7_newMany (m_newMany hG hB2 hS2) (shp hG rfl) rfl rfl rfl (Nat.le_of_ble_eq_true rfl) (fun r6 M7 hr6 => ?_)
    obtain ⟨er6, hM2, hs2⟩ := hr6
    refine Go.istore_n (ls' := [some (.ref 49), some (.int (nI w)), some (.int r3), some (.int r6)]) dX7_wouldBe_39 (Nat.le_of_ble_eq_true rfl) rfl rfl ?_
    refine Go.aload_n dX7_wouldBe_40 rfl ?_
    refine Go.getR dX7_wouldBe_41 flX7_16 (shp hG rfl) rfl ?_
    refine Go.iload_n dX7_wouldBe_44 rfl ?_
    refine Go.iconst (v := 1) dX7_wouldBe_45 (by decide) ?_
    refine Go.aload_n dX7_wouldBe_46 rfl ?_
    refine Go.getR dX7_wouldBe_47 flX7_16 (shp hG rfl) rfl ?_
    refine Go.iload_n dX7_wouldBe_50 rfl ?_
    refine Go.iald dX7_wouldBe_51 (shp hG rfl) (vin (by omega) (by decide)) ?_
    refine Go.eqI (y := bi (!(uE (gU g)).testBit w)) (by rw [ncl (by omega), hs2.1 52 (by decide), eEd, rd_eq]; simp [upd]) ?_
    refine Go.isub dX7_wouldBe_52 ?_
    refine Go.eqI (y := bi (!!(uE (gU g)).testBit w)) (one_sub_bi _) ?_
    refine Go.iast dX7_wouldBe_53 (shp hG rfl) (vin (by omega) (by decide)) ?_
    refine Go.nmM (fun N8 eN8 => ?_)
    refine Go.iload_n dX7_wouldBe_54 rfl ?_
    refine Go.iload_n dX7_wouldBe_55 rfl ?_
    refine Go.isub dX7_wouldBe_56 ?_
    refine Go.iret dX7_wouldBe_57 rfl rfl ?_
    have hfin : Same [59] M N8 := by
      refine ⟨fun a ha => ?_, by rw [eN8, rd_l, hs2.2, eEd, rd_l, hs1.2]⟩
      rw [eN8, ncl (by omega)]
      by_cases q : a = 52
      · subst q
        rw [rd_eq, hs2.1 52 (by decide), eEd, rd_eq, upd_back (by rw [hs1.1 52 (by decide), ed_at hC.1 hg.1.2.1 hw, Bool.not_not]), hs1.1 52 (by decide)]
      · rw [rd_ne q, hs2.1 a ha, eEd, rd_ne q, hs1.1 a ha]
    have h9 := hC.mk59 hfin
    refine ⟨_, rfl, ?_, h9⟩
    have ee : uE (edU (gU g) w (!(uE (gU g)).testBit w)) = uE (gU g) ^^^ 2 ^ w := edN_flip _ _
    rw [er3, er6, ee]
    rfl
  · refine Go.iload_n dX7_wouldBe_0 rfl ?_
    refine Go.iconst (v := 0) dX7_wouldBe_1 (by decide) ?_
    refine Go.iconst (v := 1) dX7_wouldBe_2 (by decide) ?_
    refine Go.callSI [] dX7_wouldBe_3 lkX7_86 stX7_in cbX7_in (m_in w0 0 1) rfl rfl (Nat.le_of_ble_eq_true rfl) (fun r1 M2 hr1 => ?_)
    obtain ⟨er1, emr1⟩ := hr1
    rw [emr1]
    clear emr1 M2
    subst er1
    refine Go.if_ne 16 dX7_wouldBe_6 rfl (fun h6 => ?_) (fun h6 => ?_)
    · exact absurd (by rw [← inI_two, bi_n0.mp h6]) hgd
    · refine Go.aload_n dX7_wouldBe_9 rfl ?_
      refine Go.ldc dX7_wouldBe_10 kcX7_85 ?_
      refine Go.callVI [] dX7_wouldBe_12 lkX7_104 imX7_finds seX7_finds cbX7_finds (m_finds hG (code := (-1000000001)) (q := 0) (by decide) (by decide)) (shp hG rfl) rfl rfl rfl (Nat.le_of_ble_eq_true rfl) (fun r3 M4 hr3 => ?_)
      refine Go.iret dX7_wouldBe_15 rfl rfl ?_
      refine ⟨_, rfl, ?_⟩
      rw [show A_wouldBe g w0 = ((-1000000001), fndS g 0) from if_neg hgd, hr3.2]
      exact ⟨hr3.1, hC.fnd⟩
