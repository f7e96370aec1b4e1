set_option maxRecDepth 20000 in
theorem c_storeOf {G : Gt} {d : Nat} {M : Mm} (hG : gS G = SHAPE) {g : Sg} (hC : CompIs M g) (hg : SgOk g) (t : Int32) : ExI G (d + 2) mX6_storeOf [.ref 0, .int t] M (fun r M' => r = (A_storeOf g t).1 ∧ CompIs M' (A_storeOf g t).2 ∧ MSame M M') := by
  refine Ex.of (by decide) (Nat.le_of_ble_eq_true rfl) ?_
  show Go G (d + 2) mX6_storeOf 0 [some (.ref 0), some (.int t)] [] M _
  by_cases hgd : (inb t 8) = true
  · obtain ⟨j, hj, ej⟩ := inb_ex (n := 8) hgd (by decide)
    subst ej
    refine Go.iload_n dX6_storeOf_0 rfl ?_
    refine Go.bipush (v := 8) dX6_storeOf_1 (by decide) ?_
    refine Go.callSI [] dX6_storeOf_3 lkX6_58 stX6_isBelow cbX6_isBelow (s_isBelow (nI j) 8) rfl rfl (Nat.le_of_ble_eq_true rfl) (fun r1 M2 hr1 => ?_)
    obtain ⟨er1, emr1⟩ := hr1
    rw [emr1]
    clear emr1 M2
    subst er1
    refine Go.eqI (y := 1) (by rw [show inb (nI j) 8 = decide (j < 8) from inb_nI (by omega) (by decide), decide_eq_true (by omega)]; rfl) ?_
    refine Go.if_eq 21 dX6_storeOf_6 rfl (fun h6 => absurd h6 (by decide)) (fun _ => ?_)
    refine Go.aload_n dX6_storeOf_9 rfl ?_
    refine Go.getR dX6_storeOf_10 flX6_12 (shp hG rfl) rfl ?_
    refine Go.getR dX6_storeOf_13 flX6_67 (shp hG rfl) rfl ?_
    refine Go.iload_n dX6_storeOf_16 rfl ?_
    refine Go.iald dX6_storeOf_17 (shp hG rfl) (vin (by omega) (by decide)) ?_
    refine Go.goto 27 dX6_storeOf_18 rfl ?_
    refine Go.iret dX6_storeOf_27 rfl rfl ?_
    refine ⟨_, rfl, ?_⟩
    rw [show A_storeOf g (nI j) = (uS (gU g) (nI j).toNatClampNeg, g) from if_pos hgd, ncl (by omega)]
    exact ⟨hC.1.1 j hj, hC, MSame.refl M⟩
  · refine Go.iload_n dX6_storeOf_0 rfl ?_
    refine Go.bipush (v := 8) dX6_storeOf_1 (by decide) ?_
    refine Go.callSI [] dX6_storeOf_3 lkX6_58 stX6_isBelow cbX6_isBelow (s_isBelow t 8) rfl rfl (Nat.le_of_ble_eq_true rfl) (fun r1 M2 hr1 => ?_)
    obtain ⟨er1, emr1⟩ := hr1
    rw [emr1]
    clear emr1 M2
    subst er1
    refine Go.if_eq 21 dX6_storeOf_6 rfl (fun h6 => ?_) (fun h6 => ?_)
    · refine Go.aload_n dX6_storeOf_21 rfl ?_
      refine Go.ldc dX6_storeOf_22 kcX6_62 ?_
      refine Go.callVI [] dX6_storeOf_24 lkX6_63 imX6_finding seX6_finding cbX6_finding (s_finding hG (code := (-1000000001)) (q := 0) (by decide) (by decide)) (shp hG rfl) rfl rfl rfl (Nat.le_of_ble_eq_true rfl) (fun r3 M4 hr3 => ?_)
      refine Go.iret dX6_storeOf_27 rfl rfl ?_
      refine ⟨_, rfl, ?_⟩
      rw [show A_storeOf g t = ((-1000000001), fndS g 0) from if_neg hgd, hr3.2]
      exact ⟨hr3.1, hC.fnd⟩
    · exact absurd (by simp [bi_n0.mp h6]) hgd
set_option maxRecDepth 20000 in
theorem m_storeOf {G : Gt} {d : Nat} {M : Mm} (hG : gS G = SHAPE) {g : Sg} (hC : ModIs M g) (hg : SgOk g) (t : Int32) : ExI G (d + 2) mX7_storeOf [.ref 49, .int t] M (fun r M' => r = (A_storeOf g t).1 ∧ ModIs M' (A_storeOf g t).2 ∧ CSame M M') := by
  refine Ex.of (by decide) (Nat.le_of_ble_eq_true rfl) ?_
  show Go G (d + 2) mX7_storeOf 0 [some (.ref 49), some (.int t)] [] M _
  by_cases hgd : (inb t 8) = true
  · obtain ⟨j, hj, ej⟩ := inb_ex (n := 8) hgd (by decide)
    subst ej
    refine Go.iload_n dX7_storeOf_0 rfl ?_
    refine Go.callSI [] dX7_storeOf_1 lkX7_97 stX7_isThing cbX7_isThing (m_isThing (nI j)) rfl rfl (Nat.le_of_ble_eq_true rfl) (fun r1 M2 hr1 => ?_)
    obtain ⟨er1, emr1⟩ := hr1
    rw [emr1]
    clear emr1 M2
    subst er1
    refine Go.eqI (y := 1) (by rw [show inI (nI j) 0 7 = true from inI_lo (N := 7) (by omega) (by decide)]; rfl) ?_
    refine Go.if_eq 16 dX7_storeOf_4 rfl (fun h4 => absurd h4 (by decide)) (fun _ => ?_)
    refine Go.aload_n dX7_storeOf_7 rfl ?_
    refine Go.getR dX7_storeOf_8 flX7_7 (shp hG rfl) rfl ?_
    refine Go.iload_n dX7_storeOf_11 rfl ?_
    refine Go.iald dX7_storeOf_12 (shp hG rfl) (vin (by omega) (by decide)) ?_
    refine Go.goto 22 dX7_storeOf_13 rfl ?_
    refine Go.iret dX7_storeOf_22 rfl rfl ?_
    refine ⟨_, rfl, ?_⟩
    rw [show A_storeOf g (nI j) = (uS (gU g) (nI j).toNatClampNeg, g) from if_pos hgd, ncl (by omega)]
    exact ⟨hC.1.1 j hj, hC, CSame.refl M⟩
  · refine Go.iload_n dX7_storeOf_0 rfl ?_
    refine Go.callSI [] dX7_storeOf_1 lkX7_97 stX7_isThing cbX7_isThing (m_isThing t) rfl rfl (Nat.le_of_ble_eq_true rfl) (fun r1 M2 hr1 => ?_)
    obtain ⟨er1, emr1⟩ := hr1
    rw [emr1]
    clear emr1 M2
    subst er1
    refine Go.if_eq 16 dX7_storeOf_4 rfl (fun h4 => ?_) (fun h4 => ?_)
    · refine Go.aload_n dX7_storeOf_16 rfl ?_
      refine Go.ldc dX7_storeOf_17 kcX7_85 ?_
      refine Go.callVI [] dX7_storeOf_19 lkX7_104 imX7_finds seX7_finds cbX7_finds (m_finds hG (code := (-1000000001)) (q := 0) (by decide) (by decide)) (shp hG rfl) rfl rfl rfl (Nat.le_of_ble_eq_true rfl) (fun r3 M4 hr3 => ?_)
      refine Go.iret dX7_storeOf_22 rfl rfl ?_
      refine ⟨_, rfl, ?_⟩
      rw [show A_storeOf g t = ((-1000000001), fndS g 0) from if_neg hgd, hr3.2]
      exact ⟨hr3.1, hC.fnd⟩
    · exact absurd (by simp [← inI_inb, bi_n0.mp h4]) hgd
/-- a number as a plain one -/
def tN (x : Int32) : Nat := x.toNatClampNeg
theorem tN_nI {x : Nat} (h : x < 2 ^ 31) : tN (nI x) = x := ncl h
def A_bars (g : Sg) (e x : Int32) : Int32 × Sg := if inb e (nI (uN (gU g))) && isDishI x then (bi (barB (uK (gU g)) (uX (gU g)) (uE (gU g)) (tN x) (tN e)), g) else (-1000000001, fndS g 0)
def A_by (g : Sg) (x : Int32) : Int32 × Sg := if isDishI x then (match fstF (barB (uK (gU g)) (uX (gU g)) (uE (gU g)) (tN x)) 0 (uN (gU g)) with
  | some e => (nI e, g)
  | none => (-1000000004, fndS g 3)) else (-1000000001, fndS g 0)
theorem inI_ent {e : Int32} {n : Nat} (hn : n ≤ 90) : inI e 0 (nI n - 1) = inb e (nI n) := by
  unfold inI inb
  congr 1
  rw [Bool.eq_iff_iff, decide_eq_true_eq, decide_eq_true_eq, i_le, i_lt, nI_toInt (by omega)]
  have : (nI n - 1).toInt = (n : Int) - 1 := pk_sub_toInt (a := n) (b := 1) (by omega) (by decide)
  rw [this]
  omega
set_option maxRecDepth 20000 in
theorem c_bars {G : Gt} {d : Nat} {M : Mm} (hG : gS G = SHAPE) {g : Sg} (hC : CompIs M g) (hg : SgOk g) (e x : Int32) : ExI G (d + 4) mX6_bars [.ref 0, .int e, .int x] M (fun r M' => r = (A_bars g e x).1 ∧ CompIs M' (A_bars g e x).2 ∧ MSame M M') := by
  refine Ex.of (by decide) (Nat.le_of_ble_eq_true rfl) ?_
  have hB := hC.1.bk hg.1
  have hn30 := hg.1.1
  show Go G (d + 4) mX6_bars 0 [some (.ref 0), some (.int e), some (.int x)] [] M _
  by_cases hgd : (inb e (nI (uN (gU g))) && isDishI x) = true
  · rw [Bool.and_eq_true] at hgd
    obtain ⟨j, hj, ej⟩ := inb_ex hgd.1 (by omega)
    obtain ⟨x, hx, ex, hxo⟩ := isDishI_ok hgd.2
    subst ej
    subst ex
    refine Go.iload_n dX6_bars_0 rfl ?_
    refine Go.aload_n dX6_bars_1 rfl ?_
    refine Go.getR dX6_bars_2 flX6_12 (shp hG rfl) rfl ?_
    refine Go.getI dX6_bars_5 flX6_148 (shp hG rfl) rfl ?_
    refine Go.eqI (y := nI (uN (gU g))) (hB.2.2.1) ?_
    refine Go.callSI [] dX6_bars_8 lkX6_58 stX6_isBelow cbX6_isBelow (s_isBelow (nI j) (nI (uN (gU g)))) rfl rfl (Nat.le_of_ble_eq_true rfl) (fun r1 M2 hr1 => ?_)
    obtain ⟨er1, emr1⟩ := hr1
    rw [emr1]
    clear emr1 M2
    subst er1
    refine Go.eqI (y := 1) (by rw [hgd.1]; rfl) ?_
    refine Go.if_eq 21 dX6_bars_11 rfl (fun h11 => absurd h11 (by decide)) (fun _ => ?_)
    refine Go.iload_n dX6_bars_14 rfl ?_
    refine Go.callSI [] dX6_bars_15 lkX6_86 stX6_isDish cbX6_isDish (s_isDish (nI x)) rfl rfl (Nat.le_of_ble_eq_true rfl) (fun r3 M4 hr3 => ?_)
    obtain ⟨er3, emr3⟩ := hr3
    rw [emr3]
    clear emr3 M4
    subst er3
    refine Go.eqI (y := 1) (by rw [isDishI_nI (by omega), hxo]; rfl) ?_
    refine Go.if_ne 28 dX6_bars_18 rfl (fun _ => ?_) (fun h18 => absurd h18 (by decide))
    refine Go.aload_n dX6_bars_28 rfl ?_
    refine Go.getR dX6_bars_29 flX6_12 (shp hG rfl) rfl ?_
    refine Go.iload_n dX6_bars_32 rfl ?_
    refine Go.iload_n dX6_bars_33 rfl ?_
    refine Go.callVI [] dX6_bars_34 lkX6_172 imX1_isBarredBy seX1_isBarredBy cbX1_isBarredBy (s_isBarredBy hG hB (e := j) (x := x) (by omega) hxo) (shp hG rfl) rfl rfl rfl (Nat.le_of_ble_eq_true rfl) (fun r5 M6 hr5 => ?_)
    obtain ⟨er5, emr5⟩ := hr5
    rw [emr5]
    clear emr5 M6
    subst er5
    refine Go.if_eq 44 dX6_bars_37 rfl (fun h37 => ?_) (fun h37 => ?_)
    · refine Go.iconst (v := 0) dX6_bars_44 (by decide) ?_
      refine Go.iret dX6_bars_45 rfl rfl ?_
      refine ⟨_, rfl, ?_⟩
      rw [show A_bars g (nI j) (nI x) = (bi (barB (uK (gU g)) (uX (gU g)) (uE (gU g)) (tN (nI x)) (tN (nI j))), g) from if_pos (by rw [hgd.1, hgd.2]; rfl), tN_nI (by omega), tN_nI (by omega)]
      exact ⟨by rw [bi_0.mp h37]; rfl, hC, MSame.refl M⟩
    · refine Go.iconst (v := 1) dX6_bars_40 (by decide) ?_
      refine Go.goto 45 dX6_bars_41 rfl ?_
      refine Go.iret dX6_bars_45 rfl rfl ?_
      refine ⟨_, rfl, ?_⟩
      rw [show A_bars g (nI j) (nI x) = (bi (barB (uK (gU g)) (uX (gU g)) (uE (gU g)) (tN (nI x)) (tN (nI j))), g) from if_pos (by rw [hgd.1, hgd.2]; rfl), tN_nI (by omega), tN_nI (by omega)]
      exact ⟨by rw [bi_n0.mp h37]; rfl, hC, MSame.refl M⟩
  · refine Go.iload_n dX6_bars_0 rfl ?_
    refine Go.aload_n dX6_bars_1 rfl ?_
    refine Go.getR dX6_bars_2 flX6_12 (shp hG rfl) rfl ?_
    refine Go.getI dX6_bars_5 flX6_148 (shp hG rfl) rfl ?_
    refine Go.eqI (y := nI (uN (gU g))) (hB.2.2.1) ?_
    refine Go.callSI [] dX6_bars_8 lkX6_58 stX6_isBelow cbX6_isBelow (s_isBelow e (nI (uN (gU g)))) rfl rfl (Nat.le_of_ble_eq_true rfl) (fun r1 M2 hr1 => ?_)
    obtain ⟨er1, emr1⟩ := hr1
    rw [emr1]
    clear emr1 M2
    subst er1
    refine Go.if_eq 21 dX6_bars_11 rfl (fun h11 => ?_) (fun h11 => ?_)
    · refine Go.aload_n dX6_bars_21 rfl ?_
      refine Go.ldc dX6_bars_22 kcX6_62 ?_
      refine Go.callVI [] dX6_bars_24 lkX6_63 imX6_finding seX6_finding cbX6_finding (s_finding hG (code := (-1000000001)) (q := 0) (by decide) (by decide)) (shp hG rfl) rfl rfl rfl (Nat.le_of_ble_eq_true rfl) (fun r3 M4 hr3 => ?_)
      refine Go.iret dX6_bars_27 rfl rfl ?_
      refine ⟨_, rfl, ?_⟩
      rw [show A_bars g e x = ((-1000000001), fndS g 0) from if_neg hgd, hr3.2]
      exact ⟨hr3.1, hC.fnd⟩
    · refine Go.iload_n dX6_bars_14 rfl ?_
      refine Go.callSI [] dX6_bars_15 lkX6_86 stX6_isDish cbX6_isDish (s_isDish x) rfl rfl (Nat.le_of_ble_eq_true rfl) (fun r5 M6 hr5 => ?_)
      obtain ⟨er5, emr5⟩ := hr5
      rw [emr5]
      clear emr5 M6
      subst er5
      refine Go.if_ne 28 dX6_bars_18 rfl (fun h18 => ?_) (fun h18 => ?_)
      · exact absurd (by simp [bi_n0.mp h11, bi_n0.mp h18]) hgd
      · refine Go.aload_n dX6_bars_21 rfl ?_
        refine Go.ldc dX6_bars_22 kcX6_62 ?_
        refine Go.callVI [] dX6_bars_24 lkX6_63 imX6_finding seX6_finding cbX6_finding (s_finding hG (code := (-1000000001)) (q := 0) (by decide) (by decide)) (shp hG rfl) rfl rfl rfl (Nat.le_of_ble_eq_true rfl) (fun r7 M8 hr7 => ?_)
        refine Go.iret dX6_bars_27 rfl rfl ?_
        refine ⟨_, rfl, ?_⟩
        rw [show A_bars g e x = ((-1000000001), fndS g 0) from if_neg hgd, hr7.2]
        exact ⟨hr7.1, hC.fnd⟩
set_option maxRecDepth 20000 in
theorem m_isEntry {G : Gt} {d : Nat} {M : Mm} (hG : gS G = SHAPE) {n : Nat} (hn : M.1 49 4 = nI n) (h90 : n ≤ 90) (e : Int32) : ExI G (d + 1) mX7_isEntry [.ref 49, .int e] M (fun r M' => r = bi (inb e (nI n)) ∧ M' = M) := by
  refine Ex.of (by decide) (Nat.le_of_ble_eq_true rfl) ?_
  show Go G (d + 1) mX7_isEntry 0 [some (.ref 49), some (.int e)] [] M _
  refine Go.iload_n dX7_isEntry_0 rfl ?_
  refine Go.iconst (v := 0) dX7_isEntry_1 (by decide) ?_
  refine Go.aload_n dX7_isEntry_2 rfl ?_
  refine Go.getI dX7_isEntry_3 flX7_93 (shp hG rfl) rfl ?_
  refine Go.eqI (y := nI n) (hn) ?_
  refine Go.iconst (v := 1) dX7_isEntry_6 (by decide) ?_
  refine Go.isub dX7_isEntry_7 ?_
  refine Go.callSI [] dX7_isEntry_8 lkX7_86 stX7_in cbX7_in (m_in e 0 ((nI n) - 1)) rfl rfl (Nat.le_of_ble_eq_true rfl) (fun r1 M2 hr1 => ?_)
  obtain ⟨er1, emr1⟩ := hr1
  rw [emr1]
  clear emr1 M2
  subst er1
  refine Go.iret dX7_isEntry_11 rfl (bi_nar _) ?_
  refine ⟨_, rfl, ?_, rfl⟩
  rw [inI_ent h90]
set_option maxRecDepth 20000 in
theorem m_bars {G : Gt} {d : Nat} {M : Mm} (hG : gS G = SHAPE) {g : Sg} (hC : ModIs M g) (hg : SgOk g) (e x : Int32) : ExI G (d + 3) mX7_bars [.ref 49, .int e, .int x] M (fun r M' => r = (A_bars g e x).1 ∧ ModIs M' (A_bars g e x).2 ∧ CSame M M') := by
  refine Ex.of (by decide) (Nat.le_of_ble_eq_true rfl) ?_
  have hB := hC.1.bk hg.1
  have hn30 := hg.1.1
  show Go G (d + 3) mX7_bars 0 [some (.ref 49), some (.int e), some (.int x)] [] M _
  by_cases hgd : (inb e (nI (uN (gU g))) && isDishI x) = true
  · rw [Bool.and_eq_true] at hgd
    obtain ⟨j, hj, ej⟩ := inb_ex hgd.1 (by omega)
    obtain ⟨x, hx, ex, hxo⟩ := isDishI_ok hgd.2
    subst ej
    subst ex
    refine Go.aload_n dX7_bars_0 rfl ?_
    refine Go.iload_n dX7_bars_1 rfl ?_
    refine Go.callVI [] dX7_bars_2 lkX7_170 imX7_isEntry seX7_isEntry cbX7_isEntry (m_isEntry hG (n := uN (gU g)) hB.2.2.1 (by omega) (nI j)) (shp hG rfl) rfl rfl rfl (Nat.le_of_ble_eq_true rfl) (fun r1 M2 hr1 => ?_)
    obtain ⟨er1, emr1⟩ := hr1
    rw [emr1]
    clear emr1 M2
    subst er1
    refine Go.eqI (y := 1) (by rw [hgd.1]; rfl) ?_
    refine Go.if_eq 16 dX7_bars_5 rfl (fun h5 => absurd h5 (by decide)) (fun _ => ?_)
    refine Go.aload_n dX7_bars_8 rfl ?_
    refine Go.iload_n dX7_bars_9 rfl ?_
    refine Go.callVI [] dX7_bars_10 lkX7_131 imX7_isDish seX7_isDish cbX7_isDish (m_isDish hG hC.2.2.2.2.2.2.2 (nI x)) (shp hG rfl) rfl rfl rfl (Nat.le_of_ble_eq_true rfl) (fun r3 M4 hr3 => ?_)
    obtain ⟨er3, emr3⟩ := hr3
    rw [emr3]
    clear emr3 M4
    subst er3
    refine Go.eqI (y := 1) (by rw [isDishI_nI (by omega), hxo]; rfl) ?_
    refine Go.if_ne 23 dX7_bars_13 rfl (fun _ => ?_) (fun h13 => absurd h13 (by decide))
    refine Go.aload_n dX7_bars_23 rfl ?_
    refine Go.iload_n dX7_bars_24 rfl ?_
    refine Go.iload_n dX7_bars_25 rfl ?_
    refine Go.callVI [] dX7_bars_26 lkX7_124 imX7_barsIt seX7_barsIt cbX7_barsIt (m_barsIt hG hB (e := j) (x := x) (by omega) hxo) (shp hG rfl) rfl rfl rfl (Nat.le_of_ble_eq_true rfl) (fun r5 M6 hr5 => ?_)
    obtain ⟨er5, emr5⟩ := hr5
    rw [emr5]
    clear emr5 M6
    subst er5
    refine Go.if_eq 36 dX7_bars_29 rfl (fun h29 => ?_) (fun h29 => ?_)
    · refine Go.iconst (v := 0) dX7_bars_36 (by decide) ?_
      refine Go.iret dX7_bars_37 rfl rfl ?_
      refine ⟨_, rfl, ?_⟩
      rw [show A_bars g (nI j) (nI x) = (bi (barB (uK (gU g)) (uX (gU g)) (uE (gU g)) (tN (nI x)) (tN (nI j))), g) from if_pos (by rw [hgd.1, hgd.2]; rfl), tN_nI (by omega), tN_nI (by omega)]
      exact ⟨by rw [bi_0.mp h29]; rfl, hC, CSame.refl M⟩
    · refine Go.iconst (v := 1) dX7_bars_32 (by decide) ?_
      refine Go.goto 37 dX7_bars_33 rfl ?_
      refine Go.iret dX7_bars_37 rfl rfl ?_
      refine ⟨_, rfl, ?_⟩
      rw [show A_bars g (nI j) (nI x) = (bi (barB (uK (gU g)) (uX (gU g)) (uE (gU g)) (tN (nI x)) (tN (nI j))), g) from if_pos (by rw [hgd.1, hgd.2]; rfl), tN_nI (by omega), tN_nI (by omega)]
      exact ⟨by rw [bi_n0.mp h29]; rfl, hC, CSame.refl M⟩
  · refine Go.aload_n dX7_bars_0 rfl ?_
    refine Go.iload_n dX7_bars_1 rfl ?_
    refine Go.callVI [] dX7_bars_2 lkX7_170 imX7_isEntry seX7_isEntry cbX7_isEntry (m_isEntry hG (n := uN (gU g)) hB.2.2.1 (by omega) e) (shp hG rfl) rfl rfl rfl (Nat.le_of_ble_eq_true rfl) (fun r1 M2 hr1 => ?_)
    obtain ⟨er1, emr1⟩ := hr1
    rw [emr1]
    clear emr1 M2
    subst er1
    refine Go.if_eq 16 dX7_bars_5 rfl (fun h5 => ?_) (fun h5 => ?_)
    · refine Go.aload_n dX7_bars_16 rfl ?_
      refine Go.ldc dX7_bars_17 kcX7_85 ?_
      refine Go.callVI [] dX7_bars_19 lkX7_104 imX7_finds seX7_finds cbX7_finds (m_finds hG (code := (-1000000001)) (q := 0) (by decide) (by decide)) (shp hG rfl) rfl rfl rfl (Nat.le_of_ble_eq_true rfl) (fun r3 M4 hr3 => ?_)
      refine Go.iret dX7_bars_22 rfl rfl ?_
      refine ⟨_, rfl, ?_⟩
      rw [show A_bars g e x = ((-1000000001), fndS g 0) from if_neg hgd, hr3.2]
      exact ⟨hr3.1, hC.fnd⟩
    · refine Go.aload_n dX7_bars_8 rfl ?_
      refine Go.iload_n dX7_bars_9 rfl ?_
      refine Go.callVI [] dX7_bars_10 lkX7_131 imX7_isDish seX7_isDish cbX7_isDish (m_isDish hG hC.2.2.2.2.2.2.2 x) (shp hG rfl) rfl rfl rfl (Nat.le_of_ble_eq_true rfl) (fun r5 M6 hr5 => ?_)
      obtain ⟨er5, emr5⟩ := hr5
      rw [emr5]
      clear emr5 M6
      subst er5
      refine Go.if_ne 23 dX7_bars_13 rfl (fun h13 => ?_) (fun h13 => ?_)
      · exact absurd (by simp [bi_n0.mp h5, bi_n0.mp h13]) hgd
      · refine Go.aload_n dX7_bars_16 rfl ?_
        refine Go.ldc dX7_bars_17 kcX7_85 ?_
        refine Go.callVI [] dX7_bars_19 lkX7_104 imX7_finds seX7_finds cbX7_finds (m_finds hG (code := (-1000000001)) (q := 0) (by decide) (by decide)) (shp hG rfl) rfl rfl rfl (Nat.le_of_ble_eq_true rfl) (fun r7 M8 hr7 => ?_)
        refine Go.iret dX7_bars_22 rfl rfl ?_
        refine ⟨_, rfl, ?_⟩
        rw [show A_bars g e x = ((-1000000001), fndS g 0) from if_neg hgd, hr7.2]
        exact ⟨hr7.1, hC.fnd⟩
set_option maxRecDepth 20000 in
theorem c_by {G : Gt} {d : Nat} {M : Mm} (hG : gS G = SHAPE) {g : Sg} (hC : CompIs M g) (hg : SgOk g) (x0 : Int32) : ExI G (d + 5) mX6_by [.ref 0, .int x0] M (fun r M' => r = (A_by g x0).1 ∧ CompIs M' (A_by g x0).2 ∧ MSame M M') := by
  refine Ex.of (by decide) (Nat.le_of_ble_eq_true rfl) ?_
  have hB := hC.1.bk hg.1
  have hn30 := hg.1.1
  show Go G (d + 5) mX6_by 0 [some (.ref 0), some (.int x0)] [] M _
  by_cases hgd : (isDishI x0) = true
  · obtain ⟨x, hx, ex, hxo⟩ := isDishI_ok hgd
    subst ex
    refine Go.iload_n dX6_by_0 rfl ?_
    refine Go.callSI [] dX6_by_1 lkX6_86 stX6_isDish cbX6_isDish (s_isDish (nI x)) rfl rfl (Nat.le_of_ble_eq_true rfl) (fun r1 M2 hr1 => ?_)
    obtain ⟨er1, emr1⟩ := hr1
    rw [emr1]
    clear emr1 M2
    subst er1
    refine Go.eqI (y := 1) (by rw [isDishI_nI (by omega), hxo]; rfl) ?_
    refine Go.if_ne 14 dX6_by_4 rfl (fun _ => ?_) (fun h4 => absurd h4 (by decide))
    refine Go.aload_n dX6_by_14 rfl ?_
    refine Go.aload_n dX6_by_15 rfl ?_
    refine Go.getR dX6_by_16 flX6_12 (shp hG rfl) rfl ?_
    refine Go.iload_n dX6_by_19 rfl ?_
    refine Go.aload_n dX6_by_20 rfl ?_
    refine Go.getR dX6_by_21 flX6_12 (shp hG rfl) rfl ?_
    refine Go.getI dX6_by_24 flX6_148 (shp hG rfl) rfl ?_
    refine Go.eqI (y := nI (uN (gU g))) (hB.2.2.1) ?_
    refine Go.callVI [.ref 0] dX6_by_27 lkX6_175 imX1_firstBarring seX1_firstBarring cbX1_firstBarring (s_firstBarring hG hB (x := x) (a := uN (gU g)) hxo (by omega)) (shp hG rfl) rfl rfl rfl (Nat.le_of_ble_eq_true rfl) (fun r3 M4 hr3 => ?_)
    obtain ⟨er3, emr3⟩ := hr3
    rw [emr3]
    clear emr3 M4
    subst er3
    refine Go.callVI [] dX6_by_30 lkX6_137 imX6_orNone seX6_orNone cbX6_orNone (s_orNone hG (optI (-1) (fstF (barB (uK (gU g)) (uX (gU g)) (uE (gU g)) x) 0 (uN (gU g))))) (shp hG rfl) rfl rfl rfl (Nat.le_of_ble_eq_true rfl) (fun r5 M6 hr5 => ?_)
    refine Go.iret dX6_by_33 rfl rfl ?_
    refine ⟨_, rfl, ?_⟩
    have hA : A_by g (nI x) = (match fstF (barB (uK (gU g)) (uX (gU g)) (uE (gU g)) x) 0 (uN (gU g)) with
      | some e => (nI e, g)
      | none => (-1000000004, fndS g 3)) := by
      rw [show A_by g (nI x) = (match fstF (barB (uK (gU g)) (uX (gU g)) (uE (gU g)) (tN (nI x))) 0 (uN (gU g)) with
        | some e => (nI e, g)
        | none => (-1000000004, fndS g 3)) from if_pos hgd, tN_nI (by omega)]
    rw [hA]
    have hlt := fst_lt (p := barB (uK (gU g)) (uX (gU g)) (uE (gU g)) x) hn30
    have hng := optI_neg hlt
    have hr9 := hr5
    cases hf : fstF (barB (uK (gU g)) (uX (gU g)) (uE (gU g)) x) 0 (uN (gU g)) with
    | none =>
      rw [hf] at hr9 hng
      rcases hr9 with ⟨h1, -, -⟩ | ⟨h1, h2, h3⟩
      · exact absurd rfl (hng.2.mp h1)
      · rw [h3]; exact ⟨h2, hC.fnd⟩
    | some e =>
      rw [hf] at hr9 hng
      rcases hr9 with ⟨h1, h2, h3⟩ | ⟨h1, -, -⟩
      · rw [h3]; exact ⟨h2, hC, MSame.refl M⟩
      · exact absurd (hng.1.mp h1) (by simp)
  · refine Go.iload_n dX6_by_0 rfl ?_
    refine Go.callSI [] dX6_by_1 lkX6_86 stX6_isDish cbX6_isDish (s_isDish x0) rfl rfl (Nat.le_of_ble_eq_true rfl) (fun r1 M2 hr1 => ?_)
    obtain ⟨er1, emr1⟩ := hr1
    rw [emr1]
    clear emr1 M2
    subst er1
    refine Go.if_ne 14 dX6_by_4 rfl (fun h4 => ?_) (fun h4 => ?_)
    · exact absurd (by simp [bi_n0.mp h4]) hgd
    · refine Go.aload_n dX6_by_7 rfl ?_
      refine Go.ldc dX6_by_8 kcX6_62 ?_
      refine Go.callVI [] dX6_by_10 lkX6_63 imX6_finding seX6_finding cbX6_finding (s_finding hG (code := (-1000000001)) (q := 0) (by decide) (by decide)) (shp hG rfl) rfl rfl rfl (Nat.le_of_ble_eq_true rfl) (fun r3 M4 hr3 => ?_)
      refine Go.iret dX6_by_13 rfl rfl ?_
      refine ⟨_, rfl, ?_⟩
      rw [show A_by g x0 = ((-1000000001), fndS g 0) from if_neg hgd, hr3.2]
      exact ⟨hr3.1, hC.fnd⟩
