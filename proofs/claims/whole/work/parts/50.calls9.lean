def A_status (g : Sg) (w : Int32) : Int32 × Sg := if inI w (-1) 6 then ((if w < 0 then addN (gF g) 7 else gF g (tN w)), g) else (-1000000001, fndS g 0)
theorem lt7 {w : Int32} : w < 7 ↔ w ≤ 6 := by
  rw [i_lt, i_le]
  have e1 : (7 : Int32).toInt = 7 := by decide
  have e2 : (6 : Int32).toInt = 6 := by decide
  omega
theorem st_in {w : Int32} (h0 : ¬ w < 0) (h : w ≤ 6) : ∃ j, j < 7 ∧ w = nI j := by
  obtain ⟨j, h1, h2⟩ := nI_of2 (M := 6) (n := 6) (by decide) h0 h
  exact ⟨j, by omega, h2⟩
set_option maxRecDepth 20000 in
theorem l_statC {G : Gt} {d : Nat} {M : Mm} (hG : gS G = SHAPE) {g : Sg} (hC : CompIs M g) {w : Int32} : ∀ (n i : Nat), i + n = 7 → Go G (d) mX6_status 33 [some (.ref 0), some (.int w), some (.int (addN (gF g) i)), some (.int (nI i))] [] M (fun v M' => ∃ r, v = some (.int r) ∧ r = addN (gF g) 7 ∧ CompIs M' g ∧ MSame M M') := by
  intro n
  induction n with
  | zero =>
    intro i  hin
    refine Go.iload_n dX6_status_33 rfl ?_
    refine Go.bipush (v := 7) dX6_status_34 (by decide) ?_
    refine Go.icmp_ge 54 dX6_status_36 rfl (fun _ => ?_) (fun h36 => absurd (nI_le (a := 7) (b := i) (by omega) (by omega)) h36)
    refine Go.iload_n dX6_status_54 rfl ?_
    refine Go.iret dX6_status_55 rfl rfl ?_
    have e9 : i = 7 := by omega
    subst e9
    exact ⟨_, rfl, rfl, hC, MSame.refl M⟩
  | succ n ih =>
    intro i  hin
    have hi : i < 7 := by omega
    refine Go.iload_n dX6_status_33 rfl ?_
    refine Go.bipush (v := 7) dX6_status_34 (by decide) ?_
    refine Go.icmp_ge 54 dX6_status_36 rfl (fun h36 => absurd h36 (nI_ge (a := i) (b := 7) (by omega) (by omega))) (fun _ => ?_)
    refine Go.iload_n dX6_status_39 rfl ?_
    refine Go.aload_n dX6_status_40 rfl ?_
    refine Go.getR dX6_status_41 flX6_53 (shp hG rfl) rfl ?_
    refine Go.iload_n dX6_status_44 rfl ?_
    refine Go.iald dX6_status_45 (shp hG rfl) (vin (by omega) (by decide)) ?_
    refine Go.iadd dX6_status_46 ?_
    refine Go.nmI (fun x1 ex1 => ?_)
    refine Go.istore_n (ls' := [some (.ref 0), some (.int w), some (.int x1), some (.int (nI i))]) dX6_status_47 (Nat.le_of_ble_eq_true rfl) rfl rfl ?_
    refine Go.iinc (v := nI (i + 1)) (ls' := [some (.ref 0), some (.int w), some (.int x1), some (.int (nI (i + 1)))]) dX6_status_48 rfl (nI_1 _) rfl rfl ?_
    refine Go.goto 33 dX6_status_51 rfl ?_
    rw [show x1 = addN (gF g) (i + 1) from by rw [ex1, ncl (by omega), hC.2.2.2.2.2.2.1 i (by omega)]; rfl]
    exact ih (i + 1) (by omega)
set_option maxRecDepth 20000 in
theorem c_status {G : Gt} {d : Nat} {M : Mm} (hG : gS G = SHAPE) {g : Sg} (hC : CompIs M g) (hg : SgOk g) (w : Int32) : ExI G (d + 2) mX6_status [.ref 0, .int w] M (fun r M' => r = (A_status g w).1 ∧ CompIs M' (A_status g w).2 ∧ MSame M M') := by
  refine Ex.of (by decide) (Nat.le_of_ble_eq_true rfl) ?_
  show Go G (d + 2) mX6_status 0 [some (.ref 0), some (.int w), none, none] [] M _
  by_cases hgd : (inI w (-1) 6) = true
  · have hg1 : (-1 : Int32) ≤ w ∧ w ≤ 6 := by simpa [inI] using hgd
    have hA0 : A_status g w = ((if w < 0 then addN (gF g) 7 else gF g (tN w)), g) := if_pos hgd
    refine Go.iload_n dX6_status_0 rfl ?_
    refine Go.iconst (v := -1) dX6_status_1 (by decide) ?_
    refine Go.icmp_lt 11 dX6_status_2 rfl (fun h2 => absurd h2 (i_le_n hg1.1)) (fun _ => ?_)
    refine Go.iload_n dX6_status_5 rfl ?_
    refine Go.bipush (v := 7) dX6_status_6 (by decide) ?_
    refine Go.icmp_lt 18 dX6_status_8 rfl (fun _ => ?_) (fun h8 => absurd (lt7.mpr hg1.2) h8)
    refine Go.iload_n dX6_status_18 rfl ?_
    refine Go.if_lt 29 dX6_status_19 rfl (fun h19 => ?_) (fun h19 => ?_)
    · refine Go.iconst (v := 0) dX6_status_29 (by decide) ?_
      refine Go.istore_n (ls' := [some (.ref 0), some (.int w), some (.int 0), none]) dX6_status_30 (Nat.le_of_ble_eq_true rfl) rfl rfl ?_
      refine Go.iconst (v := 0) dX6_status_31 (by decide) ?_
      refine Go.istore_n (ls' := [some (.ref 0), some (.int w), some (.int 0), some (.int 0)]) dX6_status_32 (Nat.le_of_ble_eq_true rfl) rfl rfl ?_
      rw [hA0, if_pos h19]
      exact l_statC hG hC 7 0 (by omega)
    · refine Go.aload_n dX6_status_22 rfl ?_
      refine Go.getR dX6_status_23 flX6_53 (shp hG rfl) rfl ?_
      refine Go.iload_n dX6_status_26 rfl ?_
      refine Go.iald dX6_status_27 (shp hG rfl) (by obtain ⟨j, hj, ej⟩ := st_in h19 hg1.2; rw [ej]; exact vin hj (by decide)) ?_
      refine Go.iret dX6_status_28 rfl rfl ?_
      obtain ⟨j, hj, ej⟩ := st_in h19 hg1.2
      refine ⟨_, rfl, ?_⟩
      rw [hA0, if_neg h19]
      subst ej
      rw [tN_nI (by omega), ncl (by omega)]
      exact ⟨hC.2.2.2.2.2.2.1 j hj, hC, MSame.refl M⟩
  · refine Go.iload_n dX6_status_0 rfl ?_
    refine Go.iconst (v := -1) dX6_status_1 (by decide) ?_
    refine Go.icmp_lt 11 dX6_status_2 rfl (fun h2 => ?_) (fun h2 => ?_)
    · refine Go.aload_n dX6_status_11 rfl ?_
      refine Go.ldc dX6_status_12 kcX6_62 ?_
      refine Go.callVI [] dX6_status_14 lkX6_63 imX6_finding seX6_finding cbX6_finding (s_finding hG (code := (-1000000001)) (q := 0) (by decide) (by decide)) (shp hG rfl) rfl rfl rfl (Nat.le_of_ble_eq_true rfl) (fun r1 M2 hr1 => ?_)
      refine Go.iret dX6_status_17 rfl rfl ?_
      refine ⟨_, rfl, ?_⟩
      rw [show A_status g w = ((-1000000001), fndS g 0) from if_neg hgd, hr1.2]
      exact ⟨hr1.1, hC.fnd⟩
    · refine Go.iload_n dX6_status_5 rfl ?_
      refine Go.bipush (v := 7) dX6_status_6 (by decide) ?_
      refine Go.icmp_lt 18 dX6_status_8 rfl (fun h8 => ?_) (fun h8 => ?_)
      · exact absurd (by simp [inI, ← lt7, h2, i_nlt h2, h8, i_lt_n h8]) hgd
      · refine Go.aload_n dX6_status_11 rfl ?_
        refine Go.ldc dX6_status_12 kcX6_62 ?_
        refine Go.callVI [] dX6_status_14 lkX6_63 imX6_finding seX6_finding cbX6_finding (s_finding hG (code := (-1000000001)) (q := 0) (by decide) (by decide)) (shp hG rfl) rfl rfl rfl (Nat.le_of_ble_eq_true rfl) (fun r3 M4 hr3 => ?_)
        refine Go.iret dX6_status_17 rfl rfl ?_
        refine ⟨_, rfl, ?_⟩
        rw [show A_status g w = ((-1000000001), fndS g 0) from if_neg hgd, hr3.2]
        exact ⟨hr3.1, hC.fnd⟩
set_option maxRecDepth 20000 in
theorem l_statM {G : Gt} {d : Nat} {M : Mm} (hG : gS G = SHAPE) {g : Sg} (hC : ModIs M g) {w : Int32} (hw : (-1 : Int32) ≤ w ∧ w ≤ 6) : ∀ (n i : Nat), i + n = 7 → Go G (d) mX7_status 21 [some (.ref 49), some (.int w), some (.int (addN (gF g) i)), some (.int (nI i))] [] M (fun v M' => ∃ r, v = some (.int r) ∧ r = (if w < 0 then addN (gF g) 7 else gF g (tN w)) ∧ ModIs M' g ∧ CSame M M') := by
  intro n
  induction n with
  | zero =>
    intro i  hin
    refine Go.iload_n dX7_status_21 rfl ?_
    refine Go.bipush (v := 7) dX7_status_22 (by decide) ?_
    refine Go.icmp_ge 42 dX7_status_24 rfl (fun _ => ?_) (fun h24 => absurd (nI_le (a := 7) (b := i) (by omega) (by omega)) h24)
    refine Go.iload_n dX7_status_42 rfl ?_
    refine Go.if_ge 50 dX7_status_43 rfl (fun h43 => ?_) (fun h43 => ?_)
    · refine Go.aload_n dX7_status_50 rfl ?_
      refine Go.getR dX7_status_51 flX7_28 (shp hG rfl) rfl ?_
      refine Go.iload_n dX7_status_54 rfl ?_
      refine Go.if_ge 62 dX7_status_55 rfl (fun _ => ?_) (fun h55 => absurd (h43) h55)
      refine Go.iload_n dX7_status_62 rfl ?_
      refine Go.iald dX7_status_63 (shp hG rfl) (by obtain ⟨j, hj, ej⟩ := st_in (i_le_n h43) hw.2; rw [ej]; exact vin hj (by decide)) ?_
      refine Go.iret dX7_status_64 rfl rfl ?_
      obtain ⟨j, hj, ej⟩ := st_in (i_le_n h43) hw.2
      refine ⟨_, rfl, ?_⟩
      rw [if_neg (i_le_n h43)]
      subst ej
      rw [tN_nI (by omega), ncl (by omega)]
      exact ⟨hC.2.2.2.2.2.2.1 j hj, hC, CSame.refl M⟩
    · refine Go.iload_n dX7_status_46 rfl ?_
      refine Go.goto 64 dX7_status_47 rfl ?_
      refine Go.iret dX7_status_64 rfl rfl ?_
      have e9 : i = 7 := by omega
      subst e9
      exact ⟨_, rfl, by rw [if_pos (i_nle h43)], hC, CSame.refl M⟩
  | succ n ih =>
    intro i  hin
    have hi : i < 7 := by omega
    refine Go.iload_n dX7_status_21 rfl ?_
    refine Go.bipush (v := 7) dX7_status_22 (by decide) ?_
    refine Go.icmp_ge 42 dX7_status_24 rfl (fun h24 => absurd h24 (nI_ge (a := i) (b := 7) (by omega) (by omega))) (fun _ => ?_)
    refine Go.iload_n dX7_status_27 rfl ?_
    refine Go.aload_n dX7_status_28 rfl ?_
    refine Go.getR dX7_status_29 flX7_28 (shp hG rfl) rfl ?_
    refine Go.iload_n dX7_status_32 rfl ?_
    refine Go.iald dX7_status_33 (shp hG rfl) (vin (by omega) (by decide)) ?_
    refine Go.iadd dX7_status_34 ?_
    refine Go.nmI (fun x1 ex1 => ?_)
    refine Go.istore_n (ls' := [some (.ref 49), some (.int w), some (.int x1), some (.int (nI i))]) dX7_status_35 (Nat.le_of_ble_eq_true rfl) rfl rfl ?_
    refine Go.iinc (v := nI (i + 1)) (ls' := [some (.ref 49), some (.int w), some (.int x1), some (.int (nI (i + 1)))]) dX7_status_36 rfl (nI_1 _) rfl rfl ?_
    refine Go.goto 21 dX7_status_39 rfl ?_
    rw [show x1 = addN (gF g) (i + 1) from by rw [ex1, ncl (by omega), hC.2.2.2.2.2.2.1 i (by omega)]; rfl]
    exact ih (i + 1) (by omega)
set_option maxRecDepth 20000 in
theorem m_status {G : Gt} {d : Nat} {M : Mm} (hG : gS G = SHAPE) {g : Sg} (hC : ModIs M g) (hg : SgOk g) (w : Int32) : ExI G (d + 1) mX7_status [.ref 49, .int w] M (fun r M' => r = (A_status g w).1 ∧ ModIs M' (A_status g w).2 ∧ CSame M M') := by
  refine Ex.of (by decide) (Nat.le_of_ble_eq_true rfl) ?_
  show Go G (d + 1) mX7_status 0 [some (.ref 49), some (.int w), none, none] [] M _
  by_cases hgd : (inI w (-1) 6) = true
  · have hg1 : (-1 : Int32) ≤ w ∧ w ≤ 6 := by simpa [inI] using hgd
    have hA0 : A_status g w = ((if w < 0 then addN (gF g) 7 else gF g (tN w)), g) := if_pos hgd
    refine Go.iload_n dX7_status_0 rfl ?_
    refine Go.iconst (v := -1) dX7_status_1 (by decide) ?_
    refine Go.bipush (v := 6) dX7_status_2 (by decide) ?_
    refine Go.callSI [] dX7_status_4 lkX7_86 stX7_in cbX7_in (m_in w ((-1)) 6) rfl rfl (Nat.le_of_ble_eq_true rfl) (fun r1 M2 hr1 => ?_)
    obtain ⟨er1, emr1⟩ := hr1
    rw [emr1]
    clear emr1 M2
    subst er1
    refine Go.eqI (y := 1) (by rw [hgd]; rfl) ?_
    refine Go.if_ne 17 dX7_status_7 rfl (fun _ => ?_) (fun h7 => absurd h7 (by decide))
    refine Go.iconst (v := 0) dX7_status_17 (by decide) ?_
    refine Go.istore_n (ls' := [some (.ref 49), some (.int w), some (.int 0), none]) dX7_status_18 (Nat.le_of_ble_eq_true rfl) rfl rfl ?_
    refine Go.iconst (v := 0) dX7_status_19 (by decide) ?_
    refine Go.istore_n (ls' := [some (.ref 49), some (.int w), some (.int 0), some (.int 0)]) dX7_status_20 (Nat.le_of_ble_eq_true rfl) rfl rfl ?_
    rw [hA0]
    exact l_statM hG hC hg1 7 0 (by omega)
  · refine Go.iload_n dX7_status_0 rfl ?_
    refine Go.iconst (v := -1) dX7_status_1 (by decide) ?_
    refine Go.bipush (v := 6) dX7_status_2 (by decide) ?_
    refine Go.callSI [] dX7_status_4 lkX7_86 stX7_in cbX7_in (m_in w ((-1)) 6) rfl rfl (Nat.le_of_ble_eq_true rfl) (fun r1 M2 hr1 => ?_)
    obtain ⟨er1, emr1⟩ := hr1
    rw [emr1]
    clear emr1 M2
    subst er1
    refine Go.if_ne 17 dX7_status_7 rfl (fun h7 => ?_) (fun h7 => ?_)
    · exact absurd (by simp [bi_n0.mp h7]) hgd
    · refine Go.aload_n dX7_status_10 rfl ?_
      refine Go.ldc dX7_status_11 kcX7_85 ?_
      refine Go.callVI [] dX7_status_13 lkX7_104 imX7_finds seX7_finds cbX7_finds (m_finds hG (code := (-1000000001)) (q := 0) (by decide) (by decide)) (shp hG rfl) rfl rfl rfl (Nat.le_of_ble_eq_true rfl) (fun r3 M4 hr3 => ?_)
      refine Go.iret dX7_status_16 rfl rfl ?_
      refine ⟨_, rfl, ?_⟩
      rw [show A_status g w = ((-1000000001), fndS g 0) from if_neg hgd, hr3.2]
      exact ⟨hr3.1, hC.fnd⟩
