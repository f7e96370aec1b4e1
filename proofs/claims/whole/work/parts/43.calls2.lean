theorem inI_lo {j N : Nat} (hj : j ≤ N) (hN : N < 2 ^ 31) : inI (nI j) 0 (nI N) = true := by
  have h1 : (0 : Int32) ≤ nI j := nI_pos' (by omega)
  have h2 : nI j ≤ nI N := (nI_leI (by omega) hN).mpr hj
  simp [inI, h1, h2]
def A_near (g : Sg) (a b : Int32) : Int32 × Sg := if isDishI a && isDishI b then (nearI a b, g) else (-1000000001, fndS g 0)
set_option maxRecDepth 20000 in
theorem c_near {G : Gt} {d : Nat} {M : Mm} (hG : gS G = SHAPE) {g : Sg} (hC : CompIs M g) (hg : SgOk g) (a b : Int32) : ExI G (d + 3) mX6_near [.ref 0, .int a, .int b] M (fun r M' => r = (A_near g a b).1 ∧ CompIs M' (A_near g a b).2 ∧ MSame M M') := by
  refine Ex.of (by decide) (Nat.le_of_ble_eq_true rfl) ?_
  show Go G (d + 3) mX6_near 0 [some (.ref 0), some (.int a), some (.int b)] [] M _
  by_cases hgd : (isDishI a && isDishI b) = true
  · rw [Bool.and_eq_true] at hgd
    obtain ⟨x, hx, ea, hxo⟩ := isDishI_ok hgd.1
    obtain ⟨y, hy, eb, hyo⟩ := isDishI_ok hgd.2
    subst ea
    subst eb
    refine Go.iload_n dX6_near_0 rfl ?_
    refine Go.callSI [] dX6_near_1 lkX6_86 stX6_isDish cbX6_isDish (s_isDish (nI x)) rfl rfl (Nat.le_of_ble_eq_true rfl) (fun r1 M2 hr1 => ?_)
    obtain ⟨er1, emr1⟩ := hr1
    rw [emr1]
    clear emr1 M2
    subst er1
    refine Go.eqI (y := 1) (by rw [isDishI_nI (by omega), hxo]; rfl) ?_
    refine Go.if_eq 14 dX6_near_4 rfl (fun h4 => absurd h4 (by decide)) (fun _ => ?_)
    refine Go.iload_n dX6_near_7 rfl ?_
    refine Go.callSI [] dX6_near_8 lkX6_86 stX6_isDish cbX6_isDish (s_isDish (nI y)) rfl rfl (Nat.le_of_ble_eq_true rfl) (fun r3 M4 hr3 => ?_)
    obtain ⟨er3, emr3⟩ := hr3
    rw [emr3]
    clear emr3 M4
    subst er3
    refine Go.eqI (y := 1) (by rw [isDishI_nI (by omega), hyo]; rfl) ?_
    refine Go.if_ne 21 dX6_near_11 rfl (fun _ => ?_) (fun h11 => absurd h11 (by decide))
    refine Go.iload_n dX6_near_21 rfl ?_
    refine Go.iload_n dX6_near_22 rfl ?_
    refine Go.callSI [] dX6_near_23 lkX6_107 stX6_nearness cbX6_nearness (s_nearness (nI x) (nI y)) rfl rfl (Nat.le_of_ble_eq_true rfl) (fun r5 M6 hr5 => ?_)
    obtain ⟨er5, emr5⟩ := hr5
    rw [emr5]
    clear emr5 M6
    subst er5
    refine Go.iret dX6_near_26 rfl rfl ?_
    refine ⟨_, rfl, ?_⟩
    rw [show A_near g (nI x) (nI y) = (nearI (nI x) (nI y), g) from if_pos (by rw [hgd.1, hgd.2]; rfl)]
    exact ⟨rfl, hC, MSame.refl M⟩
  · refine Go.iload_n dX6_near_0 rfl ?_
    refine Go.callSI [] dX6_near_1 lkX6_86 stX6_isDish cbX6_isDish (s_isDish a) rfl rfl (Nat.le_of_ble_eq_true rfl) (fun r1 M2 hr1 => ?_)
    obtain ⟨er1, emr1⟩ := hr1
    rw [emr1]
    clear emr1 M2
    subst er1
    refine Go.if_eq 14 dX6_near_4 rfl (fun h4 => ?_) (fun h4 => ?_)
    · refine Go.aload_n dX6_near_14 rfl ?_
      refine Go.ldc dX6_near_15 kcX6_62 ?_
      refine Go.callVI [] dX6_near_17 lkX6_63 imX6_finding seX6_finding cbX6_finding (s_finding hG (code := (-1000000001)) (q := 0) (by decide) (by decide)) (shp hG rfl) rfl rfl rfl (Nat.le_of_ble_eq_true rfl) (fun r3 M4 hr3 => ?_)
      refine Go.iret dX6_near_20 rfl rfl ?_
      refine ⟨_, rfl, ?_⟩
      rw [show A_near g a b = ((-1000000001), fndS g 0) from if_neg hgd, hr3.2]
      exact ⟨hr3.1, hC.fnd⟩
    · refine Go.iload_n dX6_near_7 rfl ?_
      refine Go.callSI [] dX6_near_8 lkX6_86 stX6_isDish cbX6_isDish (s_isDish b) rfl rfl (Nat.le_of_ble_eq_true rfl) (fun r5 M6 hr5 => ?_)
      obtain ⟨er5, emr5⟩ := hr5
      rw [emr5]
      clear emr5 M6
      subst er5
      refine Go.if_ne 21 dX6_near_11 rfl (fun h11 => ?_) (fun h11 => ?_)
      · exact absurd (by simp [bi_n0.mp h4, bi_n0.mp h11]) hgd
      · refine Go.aload_n dX6_near_14 rfl ?_
        refine Go.ldc dX6_near_15 kcX6_62 ?_
        refine Go.callVI [] dX6_near_17 lkX6_63 imX6_finding seX6_finding cbX6_finding (s_finding hG (code := (-1000000001)) (q := 0) (by decide) (by decide)) (shp hG rfl) rfl rfl rfl (Nat.le_of_ble_eq_true rfl) (fun r7 M8 hr7 => ?_)
        refine Go.iret dX6_near_20 rfl rfl ?_
        refine ⟨_, rfl, ?_⟩
        rw [show A_near g a b = ((-1000000001), fndS g 0) from if_neg hgd, hr7.2]
        exact ⟨hr7.1, hC.fnd⟩
set_option maxRecDepth 20000 in
theorem m_near {G : Gt} {d : Nat} {M : Mm} (hG : gS G = SHAPE) {g : Sg} (hC : ModIs M g) (hg : SgOk g) (a b : Int32) : ExI G (d + 2) mX7_near [.ref 49, .int a, .int b] M (fun r M' => r = (A_near g a b).1 ∧ ModIs M' (A_near g a b).2 ∧ CSame M M') := by
  refine Ex.of (by decide) (Nat.le_of_ble_eq_true rfl) ?_
  show Go G (d + 2) mX7_near 0 [some (.ref 49), some (.int a), some (.int b)] [] M _
  by_cases hgd : (isDishI a && isDishI b) = true
  · rw [Bool.and_eq_true] at hgd
    obtain ⟨x, hx, ea, hxo⟩ := isDishI_ok hgd.1
    obtain ⟨y, hy, eb, hyo⟩ := isDishI_ok hgd.2
    subst ea
    subst eb
    refine Go.aload_n dX7_near_0 rfl ?_
    refine Go.iload_n dX7_near_1 rfl ?_
    refine Go.callVI [] dX7_near_2 lkX7_131 imX7_isDish seX7_isDish cbX7_isDish (m_isDish hG hC.2.2.2.2.2.2.2 (nI x)) (shp hG rfl) rfl rfl rfl (Nat.le_of_ble_eq_true rfl) (fun r1 M2 hr1 => ?_)
    obtain ⟨er1, emr1⟩ := hr1
    rw [emr1]
    clear emr1 M2
    subst er1
    refine Go.eqI (y := 1) (by rw [isDishI_nI (by omega), hxo]; rfl) ?_
    refine Go.if_eq 24 dX7_near_5 rfl (fun h5 => absurd h5 (by decide)) (fun _ => ?_)
    refine Go.aload_n dX7_near_8 rfl ?_
    refine Go.iload_n dX7_near_9 rfl ?_
    refine Go.callVI [] dX7_near_10 lkX7_131 imX7_isDish seX7_isDish cbX7_isDish (m_isDish hG hC.2.2.2.2.2.2.2 (nI y)) (shp hG rfl) rfl rfl rfl (Nat.le_of_ble_eq_true rfl) (fun r3 M4 hr3 => ?_)
    obtain ⟨er3, emr3⟩ := hr3
    rw [emr3]
    clear emr3 M4
    subst er3
    refine Go.eqI (y := 1) (by rw [isDishI_nI (by omega), hyo]; rfl) ?_
    refine Go.if_eq 24 dX7_near_13 rfl (fun h13 => absurd h13 (by decide)) (fun _ => ?_)
    refine Go.iload_n dX7_near_16 rfl ?_
    refine Go.iload_n dX7_near_17 rfl ?_
    refine Go.callSI [] dX7_near_18 lkX7_143 stX7_nearOf cbX7_nearOf (m_nearOf (a := x) (b := y) hxo hyo) rfl rfl (Nat.le_of_ble_eq_true rfl) (fun r5 M6 hr5 => ?_)
    obtain ⟨er5, emr5⟩ := hr5
    rw [emr5]
    clear emr5 M6
    subst er5
    refine Go.goto 30 dX7_near_21 rfl ?_
    refine Go.iret dX7_near_30 rfl rfl ?_
    refine ⟨_, rfl, ?_⟩
    rw [show A_near g (nI x) (nI y) = (nearI (nI x) (nI y), g) from if_pos (by rw [hgd.1, hgd.2]; rfl)]
    exact ⟨rfl, hC, CSame.refl M⟩
  · refine Go.aload_n dX7_near_0 rfl ?_
    refine Go.iload_n dX7_near_1 rfl ?_
    refine Go.callVI [] dX7_near_2 lkX7_131 imX7_isDish seX7_isDish cbX7_isDish (m_isDish hG hC.2.2.2.2.2.2.2 a) (shp hG rfl) rfl rfl rfl (Nat.le_of_ble_eq_true rfl) (fun r1 M2 hr1 => ?_)
    obtain ⟨er1, emr1⟩ := hr1
    rw [emr1]
    clear emr1 M2
    subst er1
    refine Go.if_eq 24 dX7_near_5 rfl (fun h5 => ?_) (fun h5 => ?_)
    · refine Go.aload_n dX7_near_24 rfl ?_
      refine Go.ldc dX7_near_25 kcX7_85 ?_
      refine Go.callVI [] dX7_near_27 lkX7_104 imX7_finds seX7_finds cbX7_finds (m_finds hG (code := (-1000000001)) (q := 0) (by decide) (by decide)) (shp hG rfl) rfl rfl rfl (Nat.le_of_ble_eq_true rfl) (fun r3 M4 hr3 => ?_)
      refine Go.iret dX7_near_30 rfl rfl ?_
      refine ⟨_, rfl, ?_⟩
      rw [show A_near g a b = ((-1000000001), fndS g 0) from if_neg hgd, hr3.2]
      exact ⟨hr3.1, hC.fnd⟩
    · refine Go.aload_n dX7_near_8 rfl ?_
      refine Go.iload_n dX7_near_9 rfl ?_
      refine Go.callVI [] dX7_near_10 lkX7_131 imX7_isDish seX7_isDish cbX7_isDish (m_isDish hG hC.2.2.2.2.2.2.2 b) (shp hG rfl) rfl rfl rfl (Nat.le_of_ble_eq_true rfl) (fun r5 M6 hr5 => ?_)
      obtain ⟨er5, emr5⟩ := hr5
      rw [emr5]
      clear emr5 M6
      subst er5
      refine Go.if_eq 24 dX7_near_13 rfl (fun h13 => ?_) (fun h13 => ?_)
      · refine Go.aload_n dX7_near_24 rfl ?_
        refine Go.ldc dX7_near_25 kcX7_85 ?_
        refine Go.callVI [] dX7_near_27 lkX7_104 imX7_finds seX7_finds cbX7_finds (m_finds hG (code := (-1000000001)) (q := 0) (by decide) (by decide)) (shp hG rfl) rfl rfl rfl (Nat.le_of_ble_eq_true rfl) (fun r7 M8 hr7 => ?_)
        refine Go.iret dX7_near_30 rfl rfl ?_
        refine ⟨_, rfl, ?_⟩
        rw [show A_near g a b = ((-1000000001), fndS g 0) from if_neg hgd, hr7.2]
        exact ⟨hr7.1, hC.fnd⟩
      · exact absurd (by simp [bi_n0.mp h5, bi_n0.mp h13]) hgd
