theorem sw3 {w : Int32} (h0 : ¬ w = 0) (h1 : ¬ w = 1) (h2 : ¬ w = 2) (h3 : ¬ w = 3) : w.toInt < 0 ∨ 3 < w.toInt := by
  have e0 : ((0 : Int32)).toInt = 0 := by decide
  have e1 : ((1 : Int32)).toInt = 1 := by decide
  have e2 : ((2 : Int32)).toInt = 2 := by decide
  have e3 : ((3 : Int32)).toInt = 3 := by decide
  rw [i_eq] at h0 h1 h2 h3
  omega
theorem sw5 {w : Int32} (h0 : ¬ w = 0) (h1 : ¬ w = 1) (h2 : ¬ w = 2) (h3 : ¬ w = 3) (h4 : ¬ w = 4) (h5 : ¬ w = 5) : w.toInt < 0 ∨ 5 < w.toInt := by
  have e0 : ((0 : Int32)).toInt = 0 := by decide
  have e1 : ((1 : Int32)).toInt = 1 := by decide
  have e2 : ((2 : Int32)).toInt = 2 := by decide
  have e3 : ((3 : Int32)).toInt = 3 := by decide
  have e4 : ((4 : Int32)).toInt = 4 := by decide
  have e5 : ((5 : Int32)).toInt = 5 := by decide
  rw [i_eq] at h0 h1 h2 h3 h4 h5
  omega
theorem sw4 {w : Int32} (h0 : ¬ w = 0) (h1 : ¬ w = 1) (h2 : ¬ w = 2) (h3 : ¬ w = 3) (h4 : ¬ w = 4) : w.toInt < 0 ∨ 4 < w.toInt := by
  have e0 : ((0 : Int32)).toInt = 0 := by decide
  have e1 : ((1 : Int32)).toInt = 1 := by decide
  have e2 : ((2 : Int32)).toInt = 2 := by decide
  have e3 : ((3 : Int32)).toInt = 3 := by decide
  have e4 : ((4 : Int32)).toInt = 4 := by decide
  rw [i_eq] at h0 h1 h2 h3 h4
  omega
theorem addN_congr {f g : Nat → Int32} : ∀ n, (∀ i, i < n → f i = g i) → addN f n = addN g n
  | 0, _ => rfl
  | n + 1, h => by rw [addN, addN, addN_congr n (fun i hi => h i (by omega)), h n (by omega)]
def A_now (g : Sg) (w : Int32) : Int32 × Sg := if w = 0 then (uY (gU g), g) else if w = 1 then (nI (uN (gU g)), g) else if w = 2 then (nI (cntN (guestP (uK (gU g))) (uN (gU g))), g) else if w = 3 then (addN (uS (gU g)) 8, g) else (-1000000001, fndS g 0)
set_option maxRecDepth 20000 in
theorem c_now {G : Gt} {d : Nat} {M : Mm} (hG : gS G = SHAPE) {g : Sg} (hC : CompIs M g) (hg : SgOk g) (w : Int32) : ExI G (d + 2) mX6_now [.ref 0, .int w] M (fun r M' => r = (A_now g w).1 ∧ CompIs M' (A_now g w).2 ∧ MSame M M') := by
  refine Ex.of (by decide) (Nat.le_of_ble_eq_true rfl) ?_
  have hB := hC.1.bk hg.1
  have hn30 := hg.1.1
  show Go G (d + 2) mX6_now 0 [some (.ref 0), some (.int w)] [] M _
  refine Go.iload_n dX6_now_0 rfl ?_
  by_cases w1_0 : w = 0
  · rw [w1_0]
    refine Go.tableIn 32 dX6_now_1 (by decide) (by decide) rfl rfl ?_
    refine Go.aload_n dX6_now_32 rfl ?_
    refine Go.getR dX6_now_33 flX6_12 (shp hG rfl) rfl ?_
    refine Go.getI dX6_now_36 flX6_194 (shp hG rfl) rfl ?_
    refine Go.iret dX6_now_39 rfl rfl ?_
    refine ⟨_, rfl, ?_⟩
    rw [show A_now g 0 = (uY (gU g), g) from by simp [A_now]]
    exact ⟨hC.1.2.2.2.2.2.2.1, hC, MSame.refl M⟩
  · skip
    by_cases w1_1 : w = 1
    · rw [w1_1]
      refine Go.tableIn 40 dX6_now_1 (by decide) (by decide) rfl rfl ?_
      refine Go.aload_n dX6_now_40 rfl ?_
      refine Go.getR dX6_now_41 flX6_12 (shp hG rfl) rfl ?_
      refine Go.getI dX6_now_44 flX6_148 (shp hG rfl) rfl ?_
      refine Go.iret dX6_now_47 rfl rfl ?_
      refine ⟨_, rfl, ?_⟩
      rw [show A_now g 1 = (nI (uN (gU g)), g) from by simp [A_now]]
      exact ⟨hC.1.2.2.2.2.1, hC, MSame.refl M⟩
    · skip
      by_cases w1_2 : w = 2
      · rw [w1_2]
        refine Go.tableIn 48 dX6_now_1 (by decide) (by decide) rfl rfl ?_
        refine Go.aload_n dX6_now_48 rfl ?_
        refine Go.getR dX6_now_49 flX6_12 (shp hG rfl) rfl ?_
        refine Go.callVI [] dX6_now_52 lkX6_228 imX1_guests seX1_guests cbX1_guests (s_guests hG hB) (shp hG rfl) rfl rfl rfl (Nat.le_of_ble_eq_true rfl) (fun r1 M2 hr1 => ?_)
        obtain ⟨er1, emr1⟩ := hr1
        rw [emr1]
        clear emr1 M2
        subst er1
        refine Go.iret dX6_now_55 rfl rfl ?_
        refine ⟨_, rfl, ?_⟩
        rw [show A_now g 2 = (nI (cntN (guestP (uK (gU g))) (uN (gU g))), g) from by simp [A_now]]
        exact ⟨rfl, hC, MSame.refl M⟩
      · skip
        by_cases w1_3 : w = 3
        · rw [w1_3]
          refine Go.tableIn 56 dX6_now_1 (by decide) (by decide) rfl rfl ?_
          refine Go.aload_n dX6_now_56 rfl ?_
          refine Go.getR dX6_now_57 flX6_12 (shp hG rfl) rfl ?_
          refine Go.callVI [] dX6_now_60 lkX6_231 imX1_allStores seX1_allStores cbX1_allStores (s_allStores hG) (shp hG rfl) rfl rfl rfl (Nat.le_of_ble_eq_true rfl) (fun r3 M4 hr3 => ?_)
          obtain ⟨er3, emr3⟩ := hr3
          rw [emr3]
          clear emr3 M4
          subst er3
          refine Go.iret dX6_now_63 rfl rfl ?_
          refine ⟨_, rfl, ?_⟩
          rw [show A_now g 3 = (addN (uS (gU g)) 8, g) from by simp [A_now]]
          exact ⟨addN_congr 8 (fun i hi => hC.1.1 i hi), hC, MSame.refl M⟩
        · skip
          refine Go.tableOut 64 dX6_now_1 (sw3 w1_0 w1_1 w1_2 w1_3) rfl ?_
          refine Go.aload_n dX6_now_64 rfl ?_
          refine Go.ldc dX6_now_65 kcX6_62 ?_
          refine Go.callVI [] dX6_now_67 lkX6_63 imX6_finding seX6_finding cbX6_finding (s_finding hG (code := (-1000000001)) (q := 0) (by decide) (by decide)) (shp hG rfl) rfl rfl rfl (Nat.le_of_ble_eq_true rfl) (fun r5 M6 hr5 => ?_)
          refine Go.iret dX6_now_70 rfl rfl ?_
          refine ⟨_, rfl, ?_⟩
          rw [show A_now g w = (-1000000001, fndS g 0) from by simp [A_now, w1_0, w1_1, w1_2, w1_3], hr5.2]
          exact ⟨hr5.1, hC.fnd⟩
set_option maxRecDepth 20000 in
theorem l_now2 {G : Gt} {d : Nat} {M : Mm} (hG : gS G = SHAPE) {g : Sg} (hC : ModIs M g) (hg : SgOk g) {w : Int32} : ∀ (n i : Nat), i + n = (uN (gU g)) → Go G (d + 1) mX7_now 44 [some (.ref 49), some (.int w), some (.int (nI (cntN (guestP (uK (gU g))) i))), some (.int (nI i))] [] M (fun v M' => ∃ r, v = some (.int r) ∧ r = nI (cntN (guestP (uK (gU g))) (uN (gU g))) ∧ ModIs M' g ∧ CSame M M') := by
  intro n
  induction n with
  | zero =>
    intro i  hin
    have hB := hC.1.bk hg.1
    have hn30 := hg.1.1
    refine Go.iload_n dX7_now_44 rfl ?_
    refine Go.aload_n dX7_now_45 rfl ?_
    refine Go.getI dX7_now_46 flX7_93 (shp hG rfl) rfl ?_
    refine Go.eqI (y := nI (uN (gU g))) (hB.2.2.1) ?_
    refine Go.icmp_ge 76 dX7_now_49 rfl (fun _ => ?_) (fun h49 => absurd (nI_le (a := uN (gU g)) (b := i) (by omega) (by omega)) h49)
    refine Go.iload_n dX7_now_76 rfl ?_
    refine Go.iret dX7_now_77 rfl rfl ?_
    have e9 : i = uN (gU g) := by omega
    subst e9
    exact ⟨_, rfl, rfl, hC, CSame.refl M⟩
  | succ n ih =>
    intro i  hin
    have hi : i < (uN (gU g)) := by omega
    have hB := hC.1.bk hg.1
    have hn30 := hg.1.1
    have hk6 := (hB.2.2.2.2.2 i (by omega)).1
    refine Go.iload_n dX7_now_44 rfl ?_
    refine Go.aload_n dX7_now_45 rfl ?_
    refine Go.getI dX7_now_46 flX7_93 (shp hG rfl) rfl ?_
    refine Go.eqI (y := nI (uN (gU g))) (hB.2.2.1) ?_
    refine Go.icmp_ge 76 dX7_now_49 rfl (fun h49 => absurd h49 (nI_ge (a := i) (b := uN (gU g)) (by omega) (by omega))) (fun _ => ?_)
    refine Go.iload_n dX7_now_52 rfl ?_
    refine Go.aload_n dX7_now_53 rfl ?_
    refine Go.getR dX7_now_54 flX7_19 (shp hG rfl) rfl ?_
    refine Go.iload_n dX7_now_57 rfl ?_
    refine Go.iald dX7_now_58 (shp hG rfl) (vin (by omega) (by decide)) ?_
    refine Go.eqI (y := nI ((uK (gU g)) i)) (by rw [ncl (by omega)]; exact (hB.2.2.2.2.2 i (by omega)).2.2.1) ?_
    refine Go.iconst (v := 2) dX7_now_59 (by decide) ?_
    refine Go.icmp_ne 67 dX7_now_60 rfl (fun h60 => ?_) (fun h60 => ?_)
    · have n60 : ¬ ((uK (gU g)) i) = 2 := fun q => h60 ((nI_inj (a := ((uK (gU g)) i)) (b := 2) (by omega) (by omega)).mpr q)
      refine Go.iconst (v := 0) dX7_now_67 (by decide) ?_
      refine Go.iadd dX7_now_68 ?_
      refine Go.eqI (y := nI (cntN (guestP (uK (gU g))) i + 0)) (nI_add _ _) ?_
      refine Go.istore_n (ls' := [some (.ref 49), some (.int w), some (.int (nI (cntN (guestP (uK (gU g))) i + 0))), some (.int (nI i))]) dX7_now_69 (Nat.le_of_ble_eq_true rfl) rfl rfl ?_
      refine Go.iinc (v := nI (i + 1)) (ls' := [some (.ref 49), some (.int w), some (.int (nI (cntN (guestP (uK (gU g))) i + 0))), some (.int (nI (i + 1)))]) dX7_now_70 rfl (nI_1 _) rfl rfl ?_
      refine Go.goto 44 dX7_now_73 rfl ?_
      rw [show nI (cntN (guestP (uK (gU g))) i + 0) = nI (cntN (guestP (uK (gU g))) (i + 1)) from cnt_f (by simpa [guestP] using n60)]
      exact ih (i + 1) (by omega)
    · have n60 : ((uK (gU g)) i) = 2 := (nI_inj (a := ((uK (gU g)) i)) (b := 2) (by omega) (by omega)).mp h60
      refine Go.iconst (v := 1) dX7_now_63 (by decide) ?_
      refine Go.goto 68 dX7_now_64 rfl ?_
      refine Go.iadd dX7_now_68 ?_
      refine Go.eqI (y := nI (cntN (guestP (uK (gU g))) i + 1)) (nI_add _ _) ?_
      refine Go.istore_n (ls' := [some (.ref 49), some (.int w), some (.int (nI (cntN (guestP (uK (gU g))) i + 1))), some (.int (nI i))]) dX7_now_69 (Nat.le_of_ble_eq_true rfl) rfl rfl ?_
      refine Go.iinc (v := nI (i + 1)) (ls' := [some (.ref 49), some (.int w), some (.int (nI (cntN (guestP (uK (gU g))) i + 1))), some (.int (nI (i + 1)))]) dX7_now_70 rfl (nI_1 _) rfl rfl ?_
      refine Go.goto 44 dX7_now_73 rfl ?_
      rw [cnt_t (p := guestP (uK (gU g))) (i := i) (by simpa [guestP] using n60)]
      exact ih (i + 1) (by omega)
set_option maxRecDepth 20000 in
theorem l_now3 {G : Gt} {d : Nat} {M : Mm} (hG : gS G = SHAPE) {g : Sg} (hC : ModIs M g) {w : Int32} : ∀ (n i : Nat), i + n = 8 → Go G (d + 1) mX7_now 80 [some (.ref 49), some (.int w), some (.int (addN (M.1 50) i)), some (.int (nI i))] [] M (fun v M' => ∃ r, v = some (.int r) ∧ r = addN (M.1 50) 8 ∧ ModIs M' g ∧ CSame M M') := by
  intro n
  induction n with
  | zero =>
    intro i  hin
    refine Go.iload_n dX7_now_80 rfl ?_
    refine Go.bipush (v := 8) dX7_now_81 (by decide) ?_
    refine Go.icmp_ge 101 dX7_now_83 rfl (fun _ => ?_) (fun h83 => absurd (nI_le (a := 8) (b := i) (by omega) (by omega)) h83)
    refine Go.iload_n dX7_now_101 rfl ?_
    refine Go.iret dX7_now_102 rfl rfl ?_
    have e9 : i = 8 := by omega
    subst e9
    exact ⟨_, rfl, rfl, hC, CSame.refl M⟩
  | succ n ih =>
    intro i  hin
    have hi : i < 8 := by omega
    refine Go.iload_n dX7_now_80 rfl ?_
    refine Go.bipush (v := 8) dX7_now_81 (by decide) ?_
    refine Go.icmp_ge 101 dX7_now_83 rfl (fun h83 => absurd h83 (nI_ge (a := i) (b := 8) (by omega) (by omega))) (fun _ => ?_)
    refine Go.iload_n dX7_now_86 rfl ?_
    refine Go.aload_n dX7_now_87 rfl ?_
    refine Go.getR dX7_now_88 flX7_7 (shp hG rfl) rfl ?_
    refine Go.iload_n dX7_now_91 rfl ?_
    refine Go.iald dX7_now_92 (shp hG rfl) (vin (by omega) (by decide)) ?_
    refine Go.iadd dX7_now_93 ?_
    refine Go.nmI (fun x1 ex1 => ?_)
    refine Go.istore_n (ls' := [some (.ref 49), some (.int w), some (.int x1), some (.int (nI i))]) dX7_now_94 (Nat.le_of_ble_eq_true rfl) rfl rfl ?_
    refine Go.iinc (v := nI (i + 1)) (ls' := [some (.ref 49), some (.int w), some (.int x1), some (.int (nI (i + 1)))]) dX7_now_95 rfl (nI_1 _) rfl rfl ?_
    refine Go.goto 80 dX7_now_98 rfl ?_
    rw [show x1 = addN (M.1 50) (i + 1) from by rw [ex1, ncl (by omega)]; rfl]
    exact ih (i + 1) (by omega)
set_option maxRecDepth 20000 in
theorem m_now {G : Gt} {d : Nat} {M : Mm} (hG : gS G = SHAPE) {g : Sg} (hC : ModIs M g) (hg : SgOk g) (w : Int32) : ExI G (d + 1) mX7_now [.ref 49, .int w] M (fun r M' => r = (A_now g w).1 ∧ ModIs M' (A_now g w).2 ∧ CSame M M') := by
  refine Ex.of (by decide) (Nat.le_of_ble_eq_true rfl) ?_
  have hB := hC.1.bk hg.1
  have hn30 := hg.1.1
  show Go G (d + 1) mX7_now 0 [some (.ref 49), some (.int w), none, none] [] M _
  refine Go.iconst (v := 0) dX7_now_0 (by decide) ?_
  refine Go.istore_n (ls' := [some (.ref 49), some (.int w), some (.int 0), none]) dX7_now_1 (Nat.le_of_ble_eq_true rfl) rfl rfl ?_
  refine Go.iload_n dX7_now_2 rfl ?_
  by_cases w3_0 : w = 0
  · rw [w3_0]
    refine Go.tableIn 32 dX7_now_3 (by decide) (by decide) rfl rfl ?_
    refine Go.aload_n dX7_now_32 rfl ?_
    refine Go.getI dX7_now_33 flX7_163 (shp hG rfl) rfl ?_
    refine Go.iret dX7_now_36 rfl rfl ?_
    refine ⟨_, rfl, ?_⟩
    rw [show A_now g 0 = (uY (gU g), g) from by simp [A_now]]
    exact ⟨hC.1.2.2.2.2.2.2.2.1, hC, CSame.refl M⟩
  · skip
    by_cases w3_1 : w = 1
    · rw [w3_1]
      refine Go.tableIn 37 dX7_now_3 (by decide) (by decide) rfl rfl ?_
      refine Go.aload_n dX7_now_37 rfl ?_
      refine Go.getI dX7_now_38 flX7_93 (shp hG rfl) rfl ?_
      refine Go.iret dX7_now_41 rfl rfl ?_
      refine ⟨_, rfl, ?_⟩
      rw [show A_now g 1 = (nI (uN (gU g)), g) from by simp [A_now]]
      exact ⟨hC.1.2.2.2.2.1, hC, CSame.refl M⟩
    · skip
      by_cases w3_2 : w = 2
      · rw [w3_2]
        refine Go.tableIn 42 dX7_now_3 (by decide) (by decide) rfl rfl ?_
        refine Go.iconst (v := 0) dX7_now_42 (by decide) ?_
        refine Go.istore_n (ls' := [some (.ref 49), some (.int 2), some (.int 0), some (.int 0)]) dX7_now_43 (Nat.le_of_ble_eq_true rfl) rfl rfl ?_
        rw [show A_now g 2 = (nI (cntN (guestP (uK (gU g))) (uN (gU g))), g) from by simp [A_now]]
        exact l_now2 hG hC hg (uN (gU g)) 0 (by omega)
      · skip
        by_cases w3_3 : w = 3
        · rw [w3_3]
          refine Go.tableIn 78 dX7_now_3 (by decide) (by decide) rfl rfl ?_
          refine Go.iconst (v := 0) dX7_now_78 (by decide) ?_
          refine Go.istore_n (ls' := [some (.ref 49), some (.int 3), some (.int 0), some (.int 0)]) dX7_now_79 (Nat.le_of_ble_eq_true rfl) rfl rfl ?_
          rw [show A_now g 3 = (addN (uS (gU g)) 8, g) from by simp [A_now], show addN (uS (gU g)) 8 = addN (M.1 50) 8 from (addN_congr 8 (fun i hi => hC.1.1 i hi)).symm]
          exact l_now3 hG hC 8 0 (by omega)
        · skip
          refine Go.tableOut 103 dX7_now_3 (sw3 w3_0 w3_1 w3_2 w3_3) rfl ?_
          refine Go.aload_n dX7_now_103 rfl ?_
          refine Go.ldc dX7_now_104 kcX7_85 ?_
          refine Go.callVI [] dX7_now_106 lkX7_104 imX7_finds seX7_finds cbX7_finds (m_finds hG (code := (-1000000001)) (q := 0) (by decide) (by decide)) (shp hG rfl) rfl rfl rfl (Nat.le_of_ble_eq_true rfl) (fun r1 M2 hr1 => ?_)
          refine Go.iret dX7_now_109 rfl rfl ?_
          refine ⟨_, rfl, ?_⟩
          rw [show A_now g w = (-1000000001, fndS g 0) from by simp [A_now, w3_0, w3_1, w3_2, w3_3], hr1.2]
          exact ⟨hr1.1, hC.fnd⟩
