def ixN (s : Nat) : Nat := setsN.idxOf s
theorem ixN_sN : ∀ k, k < 92 → ixN (sN k) = k := by decide +kernel
theorem sN_ixN : ∀ s, s < 256 → okS s = true → (ixN s < 92 ∧ sN (ixN s) = s) := by decide +kernel
/-- the reference's rows of sets -/
def MdS (M : Mm) : Prop := (∀ k, k < 92 → M.1 57 k = nI (sN k)) ∧ ∀ s, s < 256 → M.1 58 s = if okS s then nI (ixN s) else -1
def plN (x : Nat) : Nat := 20 * ixN (x / 20) + x % 20
theorem plN_lt {x : Nat} (h : okD x = true) : plN x < 1840 ∧ dishN (plN x) = x := by
  have h1 := sN_ixN (x / 20) (okS_lt h).1 h
  unfold plN
  refine ⟨by omega, ?_⟩
  rw [dishN_at (by omega), h1.2]
  omega
theorem plN_dishN {p : Nat} (h : p < 1840) : plN (dishN p) = p := by
  have e : dishN p = 20 * sN (p / 20) + p % 20 := rfl
  unfold plN
  rw [e, show (20 * sN (p / 20) + p % 20) / 20 = sN (p / 20) by omega, ixN_sN _ (by omega)]
  omega
theorem dishN_lt {p : Nat} (h : p < 1840) : dishN p < 5120 := (okD_lt (dishN_ok h)).1
theorem sN_lt {k : Nat} (h : k < 92) : sN k < 256 := (okS_lt (setsN_ok k h)).1
theorem dishN_mono : ∀ p q, p < q → q < 1840 → dishN p < dishN q := by
  intro p q h hq
  have e1 : dishN p = 20 * sN (p / 20) + p % 20 := rfl
  have e2 : dishN q = 20 * sN (q / 20) + q % 20 := rfl
  by_cases e : p / 20 = q / 20
  · rw [e1, e2, e]; omega
  · have := sN_mono (q / 20) (by omega) (p / 20) (by omega)
    omega
theorem inI_nI {v : Int32} {a b : Nat} (ha : a < 2 ^ 31) (hb : b < 2 ^ 31) (h : inI v (nI a) (nI b) = true) : ∃ x, a ≤ x ∧ x ≤ b ∧ v = nI x := by
  simp only [inI, Bool.and_eq_true, decide_eq_true_eq] at h
  have h1 := h.1
  have h2 := h.2
  obtain ⟨x, hx, e⟩ := nI_of (x := v) (by rw [i_le, nI_toInt ha] at h1; rw [i_lt]; simp; omega)
  subst e
  exact ⟨x, (nI_leI ha hx).mp h1, (nI_leI hx hb).mp h2, rfl⟩
theorem isDish_no {a : Int32} (h : inI a 0 5119 = false) : isDishI a = false := by
  cases e : isDishI a with
  | false => rfl
  | true =>
    obtain ⟨x, hx, e1, e2⟩ := isDishI_ok e
    subst e1
    have h1 : (0 : Int32) ≤ nI x := nI_pos' (by omega)
    have h2 : nI x ≤ 5119 := (nI_leI (a := x) (b := 5119) (by omega) (by decide)).mpr (by omega)
    simp [inI, h1, h2] at h
theorem neg1 : (-1 : Int32) < 0 := by decide
set_option maxRecDepth 20000 in
theorem m_isDish {G : Gt} {d : Nat} {M : Mm} (hG : gS G = SHAPE) (hS : MdS M) (a : Int32) : ExI G (d + 1) mX7_isDish [.ref 49, .int a] M (fun r M' => r = bi (isDishI a) ∧ M' = M) := by
  refine Ex.of (by decide) (Nat.le_of_ble_eq_true rfl) ?_
  show Go G (d + 1) mX7_isDish 0 [some (.ref 49), some (.int a)] [] M _
  cases hin : inI a 0 5119 with
  | false =>
    refine Go.iload_n dX7_isDish_0 rfl ?_
    refine Go.iconst (v := 0) dX7_isDish_1 (by decide) ?_
    refine Go.sipush (v := 5119) dX7_isDish_2 (by decide) ?_
    refine Go.callSI [] dX7_isDish_5 lkX7_86 stX7_in cbX7_in (m_in a 0 5119) rfl rfl (Nat.le_of_ble_eq_true rfl) (fun r1 M2 hr1 => ?_)
    obtain ⟨er1, emr1⟩ := hr1
    rw [emr1]
    clear emr1 M2
    subst er1
    refine Go.if_eq 42 dX7_isDish_8 rfl (fun _ => ?_) (fun h8 => absurd (by rw [hin]; rfl) h8)
    refine Go.iconst (v := 0) dX7_isDish_42 (by decide) ?_
    refine Go.iret dX7_isDish_43 rfl (by decide) ?_
    exact ⟨_, rfl, by rw [isDish_no hin]; rfl, rfl⟩
  | true =>
    obtain ⟨x, -, hx, e⟩ := inI_nI (a := 0) (b := 5119) (by decide) (by decide) hin
    subst e
    refine Go.iload_n dX7_isDish_0 rfl ?_
    refine Go.iconst (v := 0) dX7_isDish_1 (by decide) ?_
    refine Go.sipush (v := 5119) dX7_isDish_2 (by decide) ?_
    refine Go.callSI [] dX7_isDish_5 lkX7_86 stX7_in cbX7_in (m_in (nI x) 0 5119) rfl rfl (Nat.le_of_ble_eq_true rfl) (fun r1 M2 hr1 => ?_)
    obtain ⟨er1, emr1⟩ := hr1
    rw [emr1]
    clear emr1 M2
    subst er1
    refine Go.eqI (y := 1) (by rw [hin]; rfl) ?_
    refine Go.if_eq 42 dX7_isDish_8 rfl (fun h8 => absurd h8 (by decide)) (fun _ => ?_)
    refine Go.aload_n dX7_isDish_11 rfl ?_
    refine Go.getR dX7_isDish_12 flX7_34 (shp hG rfl) rfl ?_
    refine Go.iload_n dX7_isDish_15 rfl ?_
    refine Go.iconst (v := 0) dX7_isDish_16 (by decide) ?_
    refine Go.sipush (v := 5119) dX7_isDish_17 (by decide) ?_
    refine Go.callSI [.ref 58] dX7_isDish_20 lkX7_86 stX7_in cbX7_in (m_in (nI x) 0 5119) rfl rfl (Nat.le_of_ble_eq_true rfl) (fun r3 M4 hr3 => ?_)
    obtain ⟨er3, emr3⟩ := hr3
    rw [emr3]
    clear emr3 M4
    subst er3
    refine Go.eqI (y := 1) (by rw [hin]; rfl) ?_
    refine Go.if_eq 33 dX7_isDish_23 rfl (fun h23 => absurd h23 (by decide)) (fun _ => ?_)
    refine Go.iload_n dX7_isDish_26 rfl ?_
    refine Go.bipush (v := 20) dX7_isDish_27 (by decide) ?_
    refine Go.idiv dX7_isDish_29 (by decide) ?_
    refine Go.eqI (y := nI (x / 20)) (iset_nI (by omega)) ?_
    refine Go.goto 34 dX7_isDish_30 rfl ?_
    refine Go.iald dX7_isDish_34 (shp hG rfl) (vin (by omega) (by decide)) ?_
    refine Go.eqI (y := if okS (x / 20) then nI (ixN (x / 20)) else -1) (by rw [ncl (by omega)]; exact hS.2 _ (by omega)) ?_
    refine Go.if_lt 42 dX7_isDish_35 rfl (fun h35 => ?_) (fun h35 => ?_)
    · refine Go.iconst (v := 0) dX7_isDish_42 (by decide) ?_
      refine Go.iret dX7_isDish_43 rfl (by decide) ?_
      refine ⟨_, rfl, ?_, rfl⟩
      rw [isDishI_nI (by omega)]
      show _ = bi (okS (x / 20))
      cases hk : okS (x / 20) with
      | false => rfl
      | true => rw [hk] at h35; exact absurd h35 (nI_pos (by have := sN_ixN (x / 20) (by omega) hk; omega))
    · refine Go.iconst (v := 1) dX7_isDish_38 (by decide) ?_
      refine Go.goto 43 dX7_isDish_39 rfl ?_
      refine Go.iret dX7_isDish_43 rfl (by decide) ?_
      refine ⟨_, rfl, ?_, rfl⟩
      rw [isDishI_nI (by omega)]
      show _ = bi (okS (x / 20))
      cases hk : okS (x / 20) with
      | false => rw [hk] at h35; exact absurd neg1 h35
      | true => rfl
set_option maxRecDepth 20000 in
theorem m_dishAt {G : Gt} {d : Nat} {M : Mm} (hG : gS G = SHAPE) (hS : MdS M) {p : Nat} (hp : p < 1840) : ExI G (d) mX7_dishAt [.ref 49, .int (nI p)] M (fun r M' => r = nI (dishN p) ∧ M' = M) := by
  refine Ex.of (by decide) (Nat.le_of_ble_eq_true rfl) ?_
  show Go G (d) mX7_dishAt 0 [some (.ref 49), some (.int (nI p))] [] M _
  refine Go.bipush (v := 20) dX7_dishAt_0 (by decide) ?_
  refine Go.aload_n dX7_dishAt_2 rfl ?_
  refine Go.getR dX7_dishAt_3 flX7_31 (shp hG rfl) rfl ?_
  refine Go.iload_n dX7_dishAt_6 rfl ?_
  refine Go.bipush (v := 20) dX7_dishAt_7 (by decide) ?_
  refine Go.idiv dX7_dishAt_9 (by decide) ?_
  refine Go.eqI (y := nI (p / 20)) (iset_nI (by omega)) ?_
  refine Go.iald dX7_dishAt_10 (shp hG rfl) (vin (by omega) (by decide)) ?_
  refine Go.eqI (y := nI (sN (p / 20))) (by rw [ncl (by omega)]; exact hS.1 _ (by omega)) ?_
  refine Go.imul dX7_dishAt_11 ?_
  refine Go.eqI (y := nI (20 * sN (p / 20))) (pk_mul _ _) ?_
  refine Go.iload_n dX7_dishAt_12 rfl ?_
  refine Go.bipush (v := 20) dX7_dishAt_13 (by decide) ?_
  refine Go.irem dX7_dishAt_15 (by decide) ?_
  refine Go.eqI (y := nI (p % 20)) (iman_nI (by omega)) ?_
  refine Go.iadd dX7_dishAt_16 ?_
  refine Go.eqI (y := nI (20 * sN (p / 20) + p % 20)) (nI_add _ _) ?_
  refine Go.iret dX7_dishAt_17 rfl rfl ?_
  exact ⟨_, rfl, rfl, rfl⟩
set_option maxRecDepth 20000 in
theorem m_placeOf {G : Gt} {d : Nat} {M : Mm} (hG : gS G = SHAPE) (hS : MdS M) {x : Nat} (hx : okD x = true) : ExI G (d + 1) mX7_placeOf [.ref 49, .int (nI x)] M (fun r M' => r = nI (plN x) ∧ M' = M) := by
  have hx5 := okD_lt hx
  refine Ex.of (by decide) (Nat.le_of_ble_eq_true rfl) ?_
  show Go G (d + 1) mX7_placeOf 0 [some (.ref 49), some (.int (nI x))] [] M _
  refine Go.bipush (v := 20) dX7_placeOf_0 (by decide) ?_
  refine Go.aload_n dX7_placeOf_2 rfl ?_
  refine Go.getR dX7_placeOf_3 flX7_34 (shp hG rfl) rfl ?_
  refine Go.iload_n dX7_placeOf_6 rfl ?_
  refine Go.callSI [.ref 58, .int 20] dX7_placeOf_7 lkX7_90 stX7_setOf cbX7_setOf (m_setOf (nI x)) rfl rfl (Nat.le_of_ble_eq_true rfl) (fun r1 M2 hr1 => ?_)
  obtain ⟨er1, emr1⟩ := hr1
  rw [emr1]
  clear emr1 M2
  subst er1
  refine Go.eqI (y := nI (x / 20)) (iset_nI (by omega)) ?_
  refine Go.iald dX7_placeOf_10 (shp hG rfl) (vin (by omega) (by decide)) ?_
  refine Go.eqI (y := nI (ixN (x / 20))) (by rw [ncl (by omega), hS.2 _ (by omega), if_pos (show okS (x / 20) = true from hx)]) ?_
  refine Go.imul dX7_placeOf_11 ?_
  refine Go.eqI (y := nI (20 * ixN (x / 20))) (pk_mul _ _) ?_
  refine Go.iload_n dX7_placeOf_12 rfl ?_
  refine Go.bipush (v := 20) dX7_placeOf_13 (by decide) ?_
  refine Go.irem dX7_placeOf_15 (by decide) ?_
  refine Go.eqI (y := nI (x % 20)) (iman_nI (by omega)) ?_
  refine Go.iadd dX7_placeOf_16 ?_
  refine Go.eqI (y := nI (20 * ixN (x / 20) + x % 20)) (nI_add _ _) ?_
  refine Go.iret dX7_placeOf_17 rfl rfl ?_
  exact ⟨_, rfl, rfl, rfl⟩
def ml8 (M : Mm) (w : Nat) : Int32 := M.1 51 (8 + w)
def ml13 (M : Mm) (w : Nat) : Int32 := M.1 51 (13 + w)
set_option maxRecDepth 20000 in
theorem l_likingOf {G : Gt} {d : Nat} {M : Mm} (hG : gS G = SHAPE) {x : Nat} (hx5 : x < 5120) : ∀ (n i : Nat), i + n = 8 → Go G (d + 1) mX7_likingOf 28 [some (.ref 49), some (.int (nI x)), some (.int (likF (M.1 51) (M.1 51 (8 + x % 20 / 4) + M.1 51 (13 + x % 4)) (x / 20) i)), some (.int (nI i))] [] M (fun v M' => ∃ r, v = some (.int r) ∧ r = likD (M.1 51) (ml8 M) (ml13 M) x ∧ M' = M) := by
  intro n
  induction n with
  | zero =>
    intro i  hin
    refine Go.iload_n dX7_likingOf_28 rfl ?_
    refine Go.bipush (v := 8) dX7_likingOf_29 (by decide) ?_
    refine Go.icmp_ge 64 dX7_likingOf_31 rfl (fun _ => ?_) (fun h31 => absurd (nI_le (a := 8) (b := i) (by omega) (by omega)) h31)
    refine Go.iload_n dX7_likingOf_64 rfl ?_
    refine Go.iret dX7_likingOf_65 rfl rfl ?_
    have e9 : i = 8 := by omega
    subst e9
    exact ⟨_, rfl, rfl, rfl⟩
  | succ n ih =>
    intro i  hin
    have hi : i < 8 := by omega
    refine Go.iload_n dX7_likingOf_28 rfl ?_
    refine Go.bipush (v := 8) dX7_likingOf_29 (by decide) ?_
    refine Go.icmp_ge 64 dX7_likingOf_31 rfl (fun h31 => absurd h31 (nI_ge (a := i) (b := 8) (by omega) (by omega))) (fun _ => ?_)
    refine Go.iload_n dX7_likingOf_34 rfl ?_
    refine Go.iload_n dX7_likingOf_35 rfl ?_
    refine Go.callSI [.int (likF (M.1 51) (M.1 51 (8 + x % 20 / 4) + M.1 51 (13 + x % 4)) (x / 20) i)] dX7_likingOf_36 lkX7_90 stX7_setOf cbX7_setOf (m_setOf (nI x)) rfl rfl (Nat.le_of_ble_eq_true rfl) (fun r1 M2 hr1 => ?_)
    obtain ⟨er1, emr1⟩ := hr1
    rw [emr1]
    clear emr1 M2
    subst er1
    refine Go.iload_n dX7_likingOf_39 rfl ?_
    refine Go.callSI [.int (likF (M.1 51) (M.1 51 (8 + x % 20 / 4) + M.1 51 (13 + x % 4)) (x / 20) i)] dX7_likingOf_40 lkX7_120 stX7_has cbX7_has (m_has (iset (nI x)) (nI i)) rfl rfl (Nat.le_of_ble_eq_true rfl) (fun r3 M4 hr3 => ?_)
    obtain ⟨er3, emr3⟩ := hr3
    rw [emr3]
    clear emr3 M4
    subst er3
    refine Go.eqI (y := bi ((x / 20).testBit i)) (by rw [iset_nI (by omega), hasI_nI (by omega) (by omega)]) ?_
    refine Go.if_eq 55 dX7_likingOf_43 rfl (fun h43 => ?_) (fun h43 => ?_)
    · refine Go.iconst (v := 0) dX7_likingOf_55 (by decide) ?_
      refine Go.iadd dX7_likingOf_56 ?_
      refine Go.nmI (fun x5 ex5 => ?_)
      refine Go.istore_n (ls' := [some (.ref 49), some (.int (nI x)), some (.int x5), some (.int (nI i))]) dX7_likingOf_57 (Nat.le_of_ble_eq_true rfl) rfl rfl ?_
      refine Go.iinc (v := nI (i + 1)) (ls' := [some (.ref 49), some (.int (nI x)), some (.int x5), some (.int (nI (i + 1)))]) dX7_likingOf_58 rfl (nI_1 _) rfl rfl ?_
      refine Go.goto 28 dX7_likingOf_61 rfl ?_
      rw [show x5 = likF (M.1 51) (M.1 51 (8 + x % 20 / 4) + M.1 51 (13 + x % 4)) (x / 20) (i + 1) from by rw [ex5, likF, if_neg (by rw [bi_0.mp h43]; decide)]]
      exact ih (i + 1) (by omega)
    · refine Go.aload_n dX7_likingOf_46 rfl ?_
      refine Go.getR dX7_likingOf_47 flX7_13 (shp hG rfl) rfl ?_
      refine Go.iload_n dX7_likingOf_50 rfl ?_
      refine Go.iald dX7_likingOf_51 (shp hG rfl) (vin (by omega) (by decide)) ?_
      refine Go.goto 56 dX7_likingOf_52 rfl ?_
      refine Go.iadd dX7_likingOf_56 ?_
      refine Go.nmI (fun x6 ex6 => ?_)
      refine Go.istore_n (ls' := [some (.ref 49), some (.int (nI x)), some (.int x6), some (.int (nI i))]) dX7_likingOf_57 (Nat.le_of_ble_eq_true rfl) rfl rfl ?_
      refine Go.iinc (v := nI (i + 1)) (ls' := [some (.ref 49), some (.int (nI x)), some (.int x6), some (.int (nI (i + 1)))]) dX7_likingOf_58 rfl (nI_1 _) rfl rfl ?_
      refine Go.goto 28 dX7_likingOf_61 rfl ?_
      rw [show x6 = likF (M.1 51) (M.1 51 (8 + x % 20 / 4) + M.1 51 (13 + x % 4)) (x / 20) (i + 1) from by rw [ex6, ncl (by omega), likF, if_pos (bi_n0.mp h43)]]
      exact ih (i + 1) (by omega)
set_option maxRecDepth 20000 in
theorem m_likingOf {G : Gt} {d : Nat} {M : Mm} (hG : gS G = SHAPE) {x : Nat} (hx5 : x < 5120) : ExI G (d + 1) mX7_likingOf [.ref 49, .int (nI x)] M (fun r M' => r = likD (M.1 51) (ml8 M) (ml13 M) x ∧ M' = M) := by
  refine Ex.of (by decide) (Nat.le_of_ble_eq_true rfl) ?_
  show Go G (d + 1) mX7_likingOf 0 [some (.ref 49), some (.int (nI x)), none, none] [] M _
  refine Go.aload_n dX7_likingOf_0 rfl ?_
  refine Go.getR dX7_likingOf_1 flX7_13 (shp hG rfl) rfl ?_
  refine Go.bipush (v := 8) dX7_likingOf_4 (by decide) ?_
  refine Go.iload_n dX7_likingOf_6 rfl ?_
  refine Go.callSI [.int 8, .ref 51] dX7_likingOf_7 lkX7_114 stX7_wayOf cbX7_wayOf (m_wayOf (nI x)) rfl rfl (Nat.le_of_ble_eq_true rfl) (fun r1 M2 hr1 => ?_)
  obtain ⟨er1, emr1⟩ := hr1
  rw [emr1]
  clear emr1 M2
  subst er1
  refine Go.eqI (y := nI (x % 20 / 4)) (iway_nI (by omega)) ?_
  refine Go.iadd dX7_likingOf_10 ?_
  refine Go.eqI (y := nI (8 + x % 20 / 4)) (nI_add _ _) ?_
  refine Go.iald dX7_likingOf_11 (shp hG rfl) (vin (by omega) (by decide)) ?_
  refine Go.aload_n dX7_likingOf_12 rfl ?_
  refine Go.getR dX7_likingOf_13 flX7_13 (shp hG rfl) rfl ?_
  refine Go.bipush (v := 13) dX7_likingOf_16 (by decide) ?_
  refine Go.iload_n dX7_likingOf_18 rfl ?_
  refine Go.callSI [.int 13, .ref 51, .int (M.1 51 (Int32.toNatClampNeg (nI (8 + x % 20 / 4))))] dX7_likingOf_19 lkX7_117 stX7_sauceOf cbX7_sauceOf (m_sauceOf (nI x)) rfl rfl (Nat.le_of_ble_eq_true rfl) (fun r3 M4 hr3 => ?_)
  obtain ⟨er3, emr3⟩ := hr3
  rw [emr3]
  clear emr3 M4
  subst er3
  refine Go.eqI (y := nI (x % 4)) (isau_nI (by omega)) ?_
  refine Go.iadd dX7_likingOf_22 ?_
  refine Go.eqI (y := nI (13 + x % 4)) (nI_add _ _) ?_
  refine Go.iald dX7_likingOf_23 (shp hG rfl) (vin (by omega) (by decide)) ?_
  refine Go.iadd dX7_likingOf_24 ?_
  refine Go.nmI (fun x5 ex5 => ?_)
  refine Go.istore_n (ls' := [some (.ref 49), some (.int (nI x)), some (.int x5), none]) dX7_likingOf_25 (Nat.le_of_ble_eq_true rfl) rfl rfl ?_
  refine Go.iconst (v := 0) dX7_likingOf_26 (by decide) ?_
  refine Go.istore_n (ls' := [some (.ref 49), some (.int (nI x)), some (.int x5), some (.int 0)]) dX7_likingOf_27 (Nat.le_of_ble_eq_true rfl) rfl rfl ?_
  rw [show x5 = likF (M.1 51) (M.1 51 (8 + x % 20 / 4) + M.1 51 (13 + x % 4)) (x / 20) 0 from by rw [ex5, ncl (by omega), ncl (by omega)]; rfl]
  exact l_likingOf hG hx5 8 0 (by omega)
set_option maxRecDepth 20000 in
theorem l_canBe7 {G : Gt} {d : Nat} {M : Mm} (hG : gS G = SHAPE) {x : Nat} (hx5 : x < 5120) : ∀ (n i : Nat), i + n = 8 → Go G (d + 1) mX7_canBe 4 [some (.ref 49), some (.int (nI x)), some (.int (bi (allN (fun t => !(x / 20).testBit t || posN (M.1 50) t) i))), some (.int (nI i))] [] M (fun v M' => ∃ r, v = some (.int r) ∧ r = bi (canN (M.1 50) (x / 20)) ∧ M' = M) := by
  intro n
  induction n with
  | zero =>
    intro i  hin
    refine Go.iload_n dX7_canBe_4 rfl ?_
    refine Go.bipush (v := 8) dX7_canBe_5 (by decide) ?_
    refine Go.icmp_ge 46 dX7_canBe_7 rfl (fun _ => ?_) (fun h7 => absurd (nI_le (a := 8) (b := i) (by omega) (by omega)) h7)
    refine Go.iload_n dX7_canBe_46 rfl ?_
    refine Go.iret dX7_canBe_47 rfl (bi_nar _) ?_
    have e9 : i = 8 := by omega
    subst e9
    exact ⟨_, rfl, rfl, rfl⟩
  | succ n ih =>
    intro i  hin
    have hi : i < 8 := by omega
    refine Go.iload_n dX7_canBe_4 rfl ?_
    refine Go.bipush (v := 8) dX7_canBe_5 (by decide) ?_
    refine Go.icmp_ge 46 dX7_canBe_7 rfl (fun h7 => absurd h7 (nI_ge (a := i) (b := 8) (by omega) (by omega))) (fun _ => ?_)
    refine Go.iload_n dX7_canBe_10 rfl ?_
    refine Go.if_eq 38 dX7_canBe_11 rfl (fun h11 => ?_) (fun h11 => ?_)
    · refine Go.iconst (v := 0) dX7_canBe_38 (by decide) ?_
      refine Go.istore_n (ls' := [some (.ref 49), some (.int (nI x)), some (.int 0), some (.int (nI i))]) dX7_canBe_39 (Nat.le_of_ble_eq_true rfl) rfl rfl ?_
      refine Go.iinc (v := nI (i + 1)) (ls' := [some (.ref 49), some (.int (nI x)), some (.int 0), some (.int (nI (i + 1)))]) dX7_canBe_40 rfl (nI_1 _) rfl rfl ?_
      refine Go.goto 4 dX7_canBe_43 rfl ?_
      rw [show (0 : Int32) = bi (allN (fun t => !(x / 20).testBit t || posN (M.1 50) t) (i + 1)) from by rw [allN, bi_0.mp h11]; rfl]
      exact ih (i + 1) (by omega)
    · refine Go.iload_n dX7_canBe_14 rfl ?_
      refine Go.callSI [] dX7_canBe_15 lkX7_90 stX7_setOf cbX7_setOf (m_setOf (nI x)) rfl rfl (Nat.le_of_ble_eq_true rfl) (fun r1 M2 hr1 => ?_)
      obtain ⟨er1, emr1⟩ := hr1
      rw [emr1]
      clear emr1 M2
      subst er1
      refine Go.iload_n dX7_canBe_18 rfl ?_
      refine Go.callSI [] dX7_canBe_19 lkX7_120 stX7_has cbX7_has (m_has (iset (nI x)) (nI i)) rfl rfl (Nat.le_of_ble_eq_true rfl) (fun r3 M4 hr3 => ?_)
      obtain ⟨er3, emr3⟩ := hr3
      rw [emr3]
      clear emr3 M4
      subst er3
      refine Go.eqI (y := bi ((x / 20).testBit i)) (by rw [iset_nI (by omega), hasI_nI (by omega) (by omega)]) ?_
      refine Go.if_eq 34 dX7_canBe_22 rfl (fun h22 => ?_) (fun h22 => ?_)
      · refine Go.iconst (v := 1) dX7_canBe_34 (by decide) ?_
        refine Go.goto 39 dX7_canBe_35 rfl ?_
        refine Go.istore_n (ls' := [some (.ref 49), some (.int (nI x)), some (.int 1), some (.int (nI i))]) dX7_canBe_39 (Nat.le_of_ble_eq_true rfl) rfl rfl ?_
        refine Go.iinc (v := nI (i + 1)) (ls' := [some (.ref 49), some (.int (nI x)), some (.int 1), some (.int (nI (i + 1)))]) dX7_canBe_40 rfl (nI_1 _) rfl rfl ?_
        refine Go.goto 4 dX7_canBe_43 rfl ?_
        rw [show (1 : Int32) = bi (allN (fun t => !(x / 20).testBit t || posN (M.1 50) t) (i + 1)) from by rw [allN, bi_n0.mp h11, bi_0.mp h22]; rfl]
        exact ih (i + 1) (by omega)
      · refine Go.aload_n dX7_canBe_25 rfl ?_
        refine Go.getR dX7_canBe_26 flX7_7 (shp hG rfl) rfl ?_
        refine Go.iload_n dX7_canBe_29 rfl ?_
        refine Go.iald dX7_canBe_30 (shp hG rfl) (vin (by omega) (by decide)) ?_
        refine Go.if_le 38 dX7_canBe_31 rfl (fun h31 => ?_) (fun h31 => ?_)
        · refine Go.iconst (v := 0) dX7_canBe_38 (by decide) ?_
          refine Go.istore_n (ls' := [some (.ref 49), some (.int (nI x)), some (.int 0), some (.int (nI i))]) dX7_canBe_39 (Nat.le_of_ble_eq_true rfl) rfl rfl ?_
          refine Go.iinc (v := nI (i + 1)) (ls' := [some (.ref 49), some (.int (nI x)), some (.int 0), some (.int (nI (i + 1)))]) dX7_canBe_40 rfl (nI_1 _) rfl rfl ?_
          refine Go.goto 4 dX7_canBe_43 rfl ?_
          rw [show (0 : Int32) = bi (allN (fun t => !(x / 20).testBit t || posN (M.1 50) t) (i + 1)) from by rw [allN, bi_n0.mp h22]; have h9 : posN (M.1 50) i = false := (by rw [ncl (by omega)] at h31; simpa [posN] using i_le_n h31); simp [h9, bi]]
          exact ih (i + 1) (by omega)
        · refine Go.iconst (v := 1) dX7_canBe_34 (by decide) ?_
          refine Go.goto 39 dX7_canBe_35 rfl ?_
          refine Go.istore_n (ls' := [some (.ref 49), some (.int (nI x)), some (.int 1), some (.int (nI i))]) dX7_canBe_39 (Nat.le_of_ble_eq_true rfl) rfl rfl ?_
          refine Go.iinc (v := nI (i + 1)) (ls' := [some (.ref 49), some (.int (nI x)), some (.int 1), some (.int (nI (i + 1)))]) dX7_canBe_40 rfl (nI_1 _) rfl rfl ?_
          refine Go.goto 4 dX7_canBe_43 rfl ?_
          rw [show (1 : Int32) = bi (allN (fun t => !(x / 20).testBit t || posN (M.1 50) t) (i + 1)) from by rw [allN, bi_n0.mp h11]; have h9 : posN (M.1 50) i = true := (by rw [ncl (by omega)] at h31; simpa [posN] using i_nle h31); simp [h9, bi]]
          exact ih (i + 1) (by omega)
set_option maxRecDepth 20000 in
theorem m_canBe {G : Gt} {d : Nat} {M : Mm} (hG : gS G = SHAPE) {x : Nat} (hx5 : x < 5120) : ExI G (d + 1) mX7_canBe [.ref 49, .int (nI x)] M (fun r M' => r = bi (canN (M.1 50) (x / 20)) ∧ M' = M) := by
  refine Ex.of (by decide) (Nat.le_of_ble_eq_true rfl) ?_
  show Go G (d + 1) mX7_canBe 0 [some (.ref 49), some (.int (nI x)), none, none] [] M _
  refine Go.iconst (v := 1) dX7_canBe_0 (by decide) ?_
  refine Go.istore_n (ls' := [some (.ref 49), some (.int (nI x)), some (.int 1), none]) dX7_canBe_1 (Nat.le_of_ble_eq_true rfl) rfl rfl ?_
  refine Go.iconst (v := 0) dX7_canBe_2 (by decide) ?_
  refine Go.istore_n (ls' := [some (.ref 49), some (.int (nI x)), some (.int 1), some (.int 0)]) dX7_canBe_3 (Nat.le_of_ble_eq_true rfl) rfl rfl ?_
  exact l_canBe7 hG hx5 8 0 (by omega)
