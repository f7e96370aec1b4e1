theorem sw3 {w : Int32} (h0 : ¬ w = 0) (h1 : ¬ w = 1) (h2 : ¬ w = 2) (h3 : ¬ w = 3) : w.toInt < 0 ∨ 3 < w.toInt := by
  have e0 : ((0 : Int32)).toInt = 0 := by decide
  have e1 : ((1 : Int32)).toInt = 1 := by decide
  have e2 : ((2 : Int32)).toInt = 2 := by decide
  have e3 : ((3 : Int32)).toInt = 3 := by decide
  rw [i_eq] at h0 h1 h2 h3
  omega
theorem sw5 {w : Int32} (h0 : ¬ w = 0) (h1 : ¬ w = 1) (h2 : ¬ w = 2) (h3 : ¬ w = 3) (h4 : ¬ w = 4) (h5 : ¬ w = 5) : w.toInt < 0 ∨ 5 < w.toInt := by
  have e0 : ((0 : Int32)).toInt = 0 := by decide
  have e1 : ((1 : Int32)).toInt = 1 := by decide
  have e2 : ((2 : Int32)).toInt = 2 := by decide
  have e3 : ((3 : Int32)).toInt = 3 := by decide
  have e4 : ((4 : Int32)).toInt = 4 := by decide
  have e5 : ((5 : Int32)).toInt = 5 := by decide
  rw [i_eq] at h0 h1 h2 h3 h4 h5
  omega
theorem sw4 {w : Int32} (h0 : ¬ w = 0) (h1 : ¬ w = 1) (h2 : ¬ w = 2) (h3 : ¬ w = 3) (h4 : ¬ w = 4) : w.toInt < 0 ∨ 4 < w.toInt := by
  have e0 : ((0 : Int32)).toInt = 0 := by decide
  have e1 : ((1 : Int32)).toInt = 1 := by decide
  have e2 : ((2 : Int32)).toInt = 2 := by decide
  have e3 : ((3 : Int32)).toInt = 3 := by decide
  have e4 : ((4 : Int32)).toInt = 4 := by decide
  rw [i_eq] at h0 h1 h2 h3 h4
  omega
theorem addN_congr {f g : Nat → Int32} : ∀ n, (∀ i, i < n → f i = g i) → addN f n = addN g n
  | 0, _ => rfl
  | n + 1, h => by rw [addN, addN, addN_congr n (fun i hi => h i (by omega)), h n (by omega)]
def A_now (g : Sg) (w : Int32) : Int32 × Sg := if w = 0 then (uY (gU g), g) else if w = 1 then (nI (uN (gU g)), g) else if w = 2 then (nI (cntN (guestP (uK (gU g))) (uN (gU g))), g) else if w = 3 then (addN (uS (gU g)) 8, g) else (-1000000001, fndS g 0)
set_option maxRecDepth 20000 in
theorem c_now {G : Gt} {d : Nat} {M : Mm} (hG : gS G = SHAPE) {g : Sg} (hC : CompIs M g) (hg : SgOk g) (w : Int32) : ExI G (d + 2) mX6_now [.ref 0, .int w] M (fun r M' => r = (A_now g w).1 ∧ CompIs M' (A_now g w).2 ∧ MSame M M') := by
  refine Ex.of (by decide) (Nat.le_of_ble_eq_true rfl) ?_
  have hB := hC.1.bk hg.1
  have hn30 := hg.1.1
  show Go G (d + 2) mX6_now 0 [some (.ref 0), some (.int w)] [] M _
  refine Go.iload_n dX6_now_0 rfl ?_
  by_cases w1_0 : w = 0
  · rw [w1_0]
    refine Go.tableIn 32 dX6_now_1 (by decide) (by decide) rfl rfl ?_
    refine Go.aload_n dX6_now_32 rfl ?_
    refine Go.getR dX6_now_33 flX6_12 (shp hG rfl) rfl ?_
    refine Go.getI dX6_now_36 flX6_194 (shp hG rfl) rfl ?_
    refine Go.iret dX6_now_39 rfl rfl ?_
    refine ⟨_, rfl, ?_⟩
    rw [show A_now g 0 = (uY (gU g), g) from by simp [A_now]]
    exact ⟨hC.1.2.2.2.2.2.2.1, hC, MSame.refl M⟩
  · skip
    by_cases w1_1 : w = 1
    · rw [w1_1]
      refine Go.tableIn 40 dX6_now_1 (by decide) (by decide) rfl rfl ?_
      refine Go.aload_n dX6_now_40 rfl ?_
      refine Go.getR dX6_now_41 flX6_12 (shp hG rfl) rfl ?_
      refine Go.getI dX6_now_44 flX6_148 (shp hG rfl) rfl ?_
      refine Go.iret dX6_now_47 rfl rfl ?_
      refine ⟨_, rfl, ?_⟩
      rw [show A_now g 1 = (nI (uN (gU g)), g) from by simp [A_now]]
      exact ⟨hC.1.2.2.2.2.1, hC, MSame.refl M⟩
    · skip
      by_cases w1_2 : w = 2
      · rw [w1_2]
        refine Go.tableIn 48 dX6_now_1 (by decide) (by decide) rfl rfl ?_
        refine Go.aload_n dX6_now_48 rfl ?_
        refine Go.getR dX6_now_49 flX6_12 (shp hG rfl) rfl ?_
        refine Go.callVI [] dX6_now_52 lkX6_228 imX1_guests seX1_guests cbX1_guests (s_guests hG hB) (shp hG rfl) rfl rfl rfl (Nat.le_of_ble_eq_true rfl) (fun r1 M2 hr1 => ?_)
        obtain ⟨er1, emr1⟩ := hr1
        rw [emr1]
        clear emr1 M2
        subst er1
        refine Go.iret dX6_now_55 rfl rfl ?_
        refine ⟨_, rfl, ?_⟩
        rw [show A_now g 2 = (nI (cntN (guestP (uK (gU g))) (uN (gU g))), g) from by simp [A_now]]
        exact ⟨rfl, hC, MSame.refl M⟩
      · skip
        by_cases w1_3 : w = 3
        · rw [w1_3]
          refine Go.tableIn 56 dX6_now_1 (by decide) (by decide) rfl rfl ?_
          refine Go.aload_n dX6_now_56 rfl ?_
          refine Go.getR dX6_now_57 flX6_12 (shp hG rfl) rfl ?_
          refine Go.callVI [] dX6_now_60 lkX6_231 imX1_allStores seX1_allStores cbX1_allStores (s_allStores hG) (shp hG rfl) rfl rfl rfl (Nat.le_of_ble_eq_true rfl) (fun r3 M4 hr3 => ?_)
          obtain ⟨er3, emr3⟩ := hr3
          rw [emr3]
          clear emr3 M4
          subst er3
          refine Go.iret dX6_now_63 rfl rfl ?_
          refine ⟨_, rfl, ?_⟩
          rw [show A_now g 3 = (addN (uS (gU g)) 8, g) from by simp [A_now]]
          exact ⟨addN_congr 8 (fun i hi => hC.1.1 i hi), hC, MSame.refl M⟩
        · skip
          refine Go.tableOut 64 dX6_now_1 (sw3 w1_0 w1_1 w1_2 w1_3) rfl ?_
          refine Go.aload_n dX6_now_64 rfl ?_
          refine Go.ldc dX6_now_65 kcX6_62 ?_
          refine Go.callVI [] dX6_now_67 lkX6_63 imX6_finding seX6_finding cbX6_finding (s_finding hG (code := (-1000000001)) (q := 0) (by decide) (by decide)) (shp hG rfl) rfl rfl rfl (Nat.le_of_ble_eq_true rfl) (fun r5 M6 hr5 => ?_)
          refine Go.iret dX6_now_70 rfl rfl ?_
          refine ⟨_, rfl, ?_⟩
          rw [show A_now g w = (-1000000001, fndS g 0) from by simp [A_now, w1_0, w1_1, w1_2, w1_3], hr5.2]
          exact ⟨hr5.1, hC.fnd⟩
