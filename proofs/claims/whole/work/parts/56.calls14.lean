def mealU (u : Bu) (k x : Nat) : Bu := (takeF (uS u) (x / 20) 8, uT u, uW u, uC u, uN u + 1, fun e => if e = uN u then k else uK u e, fun e => if e = uN u then x else uX u e, fun e => if e = uN u then uY u else uD u e, uE u, uY u + 1)
theorem BuC.tk {M : Mm} {u : Bu} (h : BuC M 1 u) (s : Nat) : BuC (tkM M 2 s 8) 1 (takeF (uS u) s 8, u.2) := by
  have r : ∀ a, a ≠ 2 → (tkM M 2 s 8).1 a = M.1 a := fun a ha => (tk_same M 2 s 8 (S := [2]) (by decide)).1 a (by simp [ha])
  obtain ⟨h1, h2, h3, h4, h5, h6, h7, h8⟩ := h
  refine ⟨fun t ht => ?_, fun t ht => by rw [r _ (by omega)]; exact h2 t ht, fun t ht => by rw [r _ (by omega)]; exact h3 t ht, fun t ht => by rw [r _ (by omega)]; exact h4 t ht, by rw [r _ (by omega)]; exact h5, by rw [r _ (by omega)]; exact h6, by rw [r _ (by omega)]; exact h7, fun e he => by rw [r _ (by omega), r _ (by omega), r _ (by omega)]; exact h8 e he⟩
  show (tkM M 2 s 8).1 2 t = takeF (uS u) s 8 t
  have e2 : (tkM M 2 s 8).1 2 = takeF (M.1 2) s 8 := by simp [tkM, seti]
  rw [e2]
  exact takeF_congr h1 s t ht
theorem BuC.day {M : Mm} {b : Nat} {u : Bu} (h : BuC M b u) (y : Int32) : BuC (upi M b 9 y) b (uS u, uT u, uW u, uC u, uN u, uK u, uX u, uD u, uE u, y) := by
  obtain ⟨h1, h2, h3, h4, h5, h6, h7, h8⟩ := h
  have r : ∀ a, a ≠ b → (upi M b 9 y).1 a = M.1 a := fun a q => rd_ne q
  have rb : ∀ j, j ≠ 9 → (upi M b 9 y).1 b j = M.1 b j := fun j hj => by rw [rd_eq]; simp [upd, hj]
  exact ⟨fun t ht => by rw [r _ (by omega)]; exact h1 t ht, fun t ht => by rw [r _ (by omega)]; exact h2 t ht, fun t ht => by rw [r _ (by omega)]; exact h3 t ht, fun t ht => by rw [r _ (by omega)]; exact h4 t ht, by rw [rb 7 (by decide)]; exact h5, by rw [rb 8 (by decide)]; exact h6, by rw [rd_eq]; simp [upd]; rfl, fun e he => by rw [r _ (by omega), r _ (by omega), r _ (by omega)]; exact h8 e he⟩
theorem BuC.meal {M : Mm} {u : Bu} (h : BuC M 1 u) (k x : Nat) : BuC (mealM M (uN u) (nI k) x) 1 (mealU u k x) := by
  have h1 := ((h.ent k x).tk (x / 20)).day (uY u + 1)
  have e : M.1 1 9 = uY u := h.2.2.2.2.2.2.1
  unfold mealM
  rw [e]
  exact h1
theorem meal_same (M : Mm) (n : Nat) (k : Int32) (x : Nat) : Same [1, 2, 6, 7, 8] M (mealM M n k x) := ((note_same 1 M n k (nI x) (by decide)).trans (tk_same _ 2 _ 8 (by decide))).trans (Same.upi _ 1 9 _ (by decide))
theorem BuM.tk {M : Mm} {u : Bu} (h : BuM M u) (s : Nat) : BuM (tkM M 50 s 8) (takeF (uS u) s 8, u.2) := by
  have r : ∀ a, a ≠ 50 → (tkM M 50 s 8).1 a = M.1 a := fun a ha => (tk_same M 50 s 8 (S := [50]) (by decide)).1 a (by simp [ha])
  obtain ⟨h1, h2⟩ := h
  refine ⟨fun t ht => ?_, ?_⟩
  · show (tkM M 50 s 8).1 50 t = takeF (uS u) s 8 t
    have e2 : (tkM M 50 s 8).1 50 = takeF (M.1 50) s 8 := by simp [tkM, seti]
    rw [e2]
    exact takeF_congr h1 s t ht
  · rw [r 51 (by decide), r 49 (by decide), r 52 (by decide), r 53 (by decide), r 54 (by decide), r 55 (by decide)]
    exact h2
theorem BuM.day {M : Mm} {u : Bu} (h : BuM M u) (y : Int32) : BuM (upi M 49 3 y) (uS u, uT u, uW u, uC u, uN u, uK u, uX u, uD u, uE u, y) := by
  obtain ⟨h1, h2, h3, h4, h5, h6, h7, h8, h9⟩ := h
  have r : ∀ a, a ≠ 49 → (upi M 49 3 y).1 a = M.1 a := fun a q => rd_ne q
  have rb : ∀ j, j ≠ 3 → (upi M 49 3 y).1 49 j = M.1 49 j := fun j hj => by rw [rd_eq]; simp [upd, hj]
  exact ⟨fun t ht => by rw [r 50 (by decide)]; exact h1 t ht, fun t ht => by rw [r 51 (by decide)]; exact h2 t ht, fun t ht => by rw [r 51 (by decide)]; exact h3 t ht, fun t ht => by rw [r 51 (by decide)]; exact h4 t ht, by rw [rb 4 (by decide)]; exact h5, by rw [r 52 (by decide)]; exact h6, by rw [r 52 (by decide)]; exact h7, by rw [rd_eq]; simp [upd]; rfl, fun e he => by rw [r 53 (by decide), r 54 (by decide), r 55 (by decide)]; exact h9 e he⟩
def mealN (M : Mm) (n : Nat) (k : Int32) (x : Nat) (y : Int32) : Mm := upi (tkM (addM M n k (nI x) y) 50 (x / 20) 8) 49 3 (y + 1)
theorem BuM.meal {M : Mm} {u : Bu} (h : BuM M u) (k x : Nat) : BuM (mealN M (uN u) (nI k) x (uY u)) (mealU u k x) := ((h.ent k x).tk (x / 20)).day (uY u + 1)
theorem mealN_same (M : Mm) (n : Nat) (k : Int32) (x : Nat) (y : Int32) : Same [49, 50, 53, 54, 55] M (mealN M n k x y) := ((add_same M n k (nI x) y (by decide)).trans (tk_same _ 50 _ 8 (by decide))).trans (Same.upi _ 49 3 _ (by decide))
theorem mealN_49 (M : Mm) (n : Nat) (k : Int32) (x : Nat) (y : Int32) {j : Nat} (h3 : j ≠ 3) (h4 : j ≠ 4) : (mealN M n k x y).1 49 j = M.1 49 j := by
  unfold mealN
  rw [rd_eq]
  unfold upd
  rw [if_neg h3, (tk_same _ 50 _ 8 (S := [50]) (by decide)).1 49 (by decide)]
  simp [addM, upi, seti, upd, h4]
theorem mealU_ok {u : Bu} {k x : Nat} (h : BuOk u) (hn : uN u < 30) (hk : k < 6) (hx : okD x = true) (hy : (uY u).toInt < 9999) : BuOk (mealU u k x) := by
  obtain ⟨h1, h2, h3, h4, h5, h6, h7, h8⟩ := h
  have e1 : ((1 : Int32)).toInt = 1 := by decide
  have e : (uY u + 1).toInt = (uY u).toInt + 1 := by rw [addInt2 (by omega) (by omega), e1]
  refine ⟨by show uN u + 1 ≤ 30; omega, h2, fun e he => ?_, h4, h5, h6, ?_, ?_⟩
  · have he' : e < uN u + 1 := he
    show (if e = uN u then k else uK u e) < 6 ∧ okD (if e = uN u then x else uX u e) = true
    by_cases q : e = uN u
    · simp only [if_pos q]; exact ⟨hk, hx⟩
    · simp only [if_neg q]; exact h3 e (by omega)
  · show 0 ≤ (uY u + 1).toInt
    omega
  · show (uY u + 1).toInt ≤ 9999
    omega
theorem kc_meal (u : Bu) (k x : Nat) : kc (mealU u k x) = addC (kc u) k x (uE u) := by
  funext y
  have h1 : kc (mealU u k x) y = cB (uN u + 1) (fun e => if e = uN u then k else uK u e) (fun e => if e = uN u then x else uX u e) (uE u) y := rfl
  rw [h1, cB_succ]
  have h2 : cB (uN u) (fun e => if e = uN u then k else uK u e) (fun e => if e = uN u then x else uX u e) (uE u) y = kc u y := by
    unfold kc cB
    split
    · refine cnt_congr _ (fun e he => ?_)
      have q : ¬ e = uN u := by omega
      simp only [barB, q, if_false]
    · rfl
  unfold addC
  rw [h2]
  simp
def A_serve (g : Sg) (k x : Int32) : Int32 × Sg := if inb k 6 && isDishI x then (if (canN (uS (gU g)) (tN x / 20) && (decide (tN k = 2) || newN (uN (gU g)) (uK (gU g)) (uX (gU g)) (uE (gU g)) (tN x))) && decide (uY (gU g) < 9999) then (if uN (gU g) = 30 then (-1000000002, fndS g 1) else (nI (uN (gU g)), setU g (mealU (gU g) (tN k) (tN x)))) else (-1000000005, fndS g 4)) else (-1000000001, fndS g 0)
set_option maxRecDepth 20000 in
theorem c_serve {G : Gt} {d : Nat} {M : Mm} (hG : gS G = SHAPE) {g : Sg} (hC : CompIs M g) (hg : SgOk g) (k0 x0 : Int32) : ExI G (d + 6) mX6_serve [.ref 0, .int k0, .int x0] M (fun r M' => r = (A_serve g k0 x0).1 ∧ CompIs M' (A_serve g k0 x0).2 ∧ MSame M M') := by
  refine Ex.of (by decide) (Nat.le_of_ble_eq_true rfl) ?_
  have hB := hC.1.bk hg.1
  have hn30 := hg.1.1
  show Go G (d + 6) mX6_serve 0 [some (.ref 0), some (.int k0), some (.int x0)] [] M _
  by_cases hgd : (inb k0 6 && isDishI x0) = true
  · rw [Bool.and_eq_true] at hgd
    obtain ⟨k, hk, ek⟩ := inb_ex (n := 6) hgd.1 (by decide)
    obtain ⟨x, hx, ex, hxo⟩ := isDishI_ok hgd.2
    subst ek
    subst ex
    have hA0 : A_serve g (nI k) (nI x) = (if (canN (uS (gU g)) (x / 20) && (decide (k = 2) || newN (uN (gU g)) (uK (gU g)) (uX (gU g)) (uE (gU g)) x)) && decide (uY (gU g) < 9999) then (if uN (gU g) = 30 then (-1000000002, fndS g 1) else (nI (uN (gU g)), setU g (mealU (gU g) k x))) else (-1000000005, fndS g 4)) := by
      have h9 : A_serve g (nI k) (nI x) = _ := if_pos (by rw [hgd.1, hgd.2]; rfl)
      rw [tN_nI (by omega), tN_nI (by omega)] at h9
      exact h9
    rw [hA0]
    clear hA0
    refine Go.iload_n dX6_serve_0 rfl ?_
    refine Go.bipush (v := 6) dX6_serve_1 (by decide) ?_
    refine Go.callSI [] dX6_serve_3 lkX6_58 stX6_isBelow cbX6_isBelow (s_isBelow (nI k) 6) rfl rfl (Nat.le_of_ble_eq_true rfl) (fun r1 M2 hr1 => ?_)
    obtain ⟨er1, emr1⟩ := hr1
    rw [emr1]
    clear emr1 M2
    subst er1
    refine Go.eqI (y := 1) (by rw [show inb (nI k) 6 = decide (k < 6) from inb_nI (by omega) (by decide), decide_eq_true (by omega)]; rfl) ?_
    refine Go.if_eq 16 dX6_serve_6 rfl (fun h6 => absurd h6 (by decide)) (fun _ => ?_)
    refine Go.iload_n dX6_serve_9 rfl ?_
    refine Go.callSI [] dX6_serve_10 lkX6_86 stX6_isDish cbX6_isDish (s_isDish (nI x)) rfl rfl (Nat.le_of_ble_eq_true rfl) (fun r3 M4 hr3 => ?_)
    obtain ⟨er3, emr3⟩ := hr3
    rw [emr3]
    clear emr3 M4
    subst er3
    refine Go.eqI (y := 1) (by rw [isDishI_nI (by omega), hxo]; rfl) ?_
    refine Go.if_ne 23 dX6_serve_13 rfl (fun _ => ?_) (fun h13 => absurd h13 (by decide))
    refine Go.aload_n dX6_serve_23 rfl ?_
    refine Go.getR dX6_serve_24 flX6_12 (shp hG rfl) rfl ?_
    refine Go.iload_n dX6_serve_27 rfl ?_
    refine Go.iload_n dX6_serve_28 rfl ?_
    refine Go.callVI [] dX6_serve_29 lkX6_191 imX1_canServe seX1_canServe cbX1_canServe (s_canServe hG hB hk hxo) (shp hG rfl) rfl rfl rfl (Nat.le_of_ble_eq_true rfl) (fun r5 M6 hr5 => ?_)
    obtain ⟨er5, emr5⟩ := hr5
    rw [emr5]
    clear emr5 M6
    subst er5
    refine Go.eqI (y := bi (canN (uS (gU g)) (x / 20) && (decide (k = 2) || newN (uN (gU g)) (uK (gU g)) (uX (gU g)) (uE (gU g)) x))) (by rw [canN_congr hC.1.1]) ?_
    refine Go.if_eq 48 dX6_serve_32 rfl (fun h32 => ?_) (fun h32 => ?_)
    · refine Go.aload_n dX6_serve_48 rfl ?_
      refine Go.ldc dX6_serve_49 kcX6_197 ?_
      refine Go.callVI [] dX6_serve_51 lkX6_63 imX6_finding seX6_finding cbX6_finding (s_finding hG (code := (-1000000005)) (q := 4) (by decide) (by decide)) (shp hG rfl) rfl rfl rfl (Nat.le_of_ble_eq_true rfl) (fun r7 M8 hr7 => ?_)
      refine Go.iret dX6_serve_54 rfl rfl ?_
      refine ⟨_, rfl, ?_⟩
      rw [if_neg (by rw [bi_0.mp h32]; simp), hr7.2]
      exact ⟨hr7.1, hC.fnd⟩
    · refine Go.aload_n dX6_serve_35 rfl ?_
      refine Go.getR dX6_serve_36 flX6_12 (shp hG rfl) rfl ?_
      refine Go.getI dX6_serve_39 flX6_194 (shp hG rfl) rfl ?_
      refine Go.eqI (y := uY (gU g)) (hC.1.2.2.2.2.2.2.1) ?_
      refine Go.sipush (v := 9999) dX6_serve_42 (by decide) ?_
      refine Go.icmp_lt 55 dX6_serve_45 rfl (fun h45 => ?_) (fun h45 => ?_)
      · refine Go.aload_n dX6_serve_55 rfl ?_
        refine Go.getR dX6_serve_56 flX6_12 (shp hG rfl) rfl ?_
        refine Go.callVI [] dX6_serve_59 lkX6_140 imX1_isFull seX1_isFull cbX1_isFull (s_isFull1 hG (n := uN (gU g)) hB.2.2.1 (by omega)) (shp hG rfl) rfl rfl rfl (Nat.le_of_ble_eq_true rfl) (fun r9 M10 hr9 => ?_)
        obtain ⟨er9, emr9⟩ := hr9
        rw [emr9]
        clear emr9 M10
        subst er9
        refine Go.if_eq 72 dX6_serve_62 rfl (fun h62 => ?_) (fun h62 => ?_)
        · refine Go.aload_n dX6_serve_72 rfl ?_
          refine Go.getR dX6_serve_73 flX6_12 (shp hG rfl) rfl ?_
          refine Go.iload_n dX6_serve_76 rfl ?_
          refine Go.iload_n dX6_serve_77 rfl ?_
          refine Go.callVI [] dX6_serve_78 lkX6_198 imX1_haveMeal seX1_haveMeal cbX1_haveMeal (s_haveMeal hG (n := uN (gU g)) hB.2.2.1 (by have := bi_0.mp h62; simp at this; omega) (nI k) (x := x) (by omega)) (shp hG rfl) rfl rfl rfl (Nat.le_of_ble_eq_true rfl) (fun r11 M12 hr11 => ?_)
          refine Go.iret dX6_serve_81 rfl rfl ?_
          refine ⟨_, rfl, ?_⟩
          have h9 : ¬ uN (gU g) = 30 := by simpa using bi_0.mp h62
          rw [if_pos (by rw [bi_n0.mp h32, decide_eq_true h45]; rfl), if_neg h9, hr11.2]
          exact ⟨hr11.1, hC.setU (hC.1.meal k x) ((meal_same M _ _ _).mono (by decide))⟩
        · refine Go.aload_n dX6_serve_65 rfl ?_
          refine Go.ldc dX6_serve_66 kcX6_144 ?_
          refine Go.callVI [] dX6_serve_68 lkX6_63 imX6_finding seX6_finding cbX6_finding (s_finding hG (code := (-1000000002)) (q := 1) (by decide) (by decide)) (shp hG rfl) rfl rfl rfl (Nat.le_of_ble_eq_true rfl) (fun r13 M14 hr13 => ?_)
          refine Go.iret dX6_serve_71 rfl rfl ?_
          refine ⟨_, rfl, ?_⟩
          have h9 : uN (gU g) = 30 := by simpa using bi_n0.mp h62
          rw [if_pos (by rw [bi_n0.mp h32, decide_eq_true h45]; rfl), if_pos h9, hr13.2]
          exact ⟨hr13.1, hC.fnd⟩
      · refine Go.aload_n dX6_serve_48 rfl ?_
        refine Go.ldc dX6_serve_49 kcX6_197 ?_
        refine Go.callVI [] dX6_serve_51 lkX6_63 imX6_finding seX6_finding cbX6_finding (s_finding hG (code := (-1000000005)) (q := 4) (by decide) (by decide)) (shp hG rfl) rfl rfl rfl (Nat.le_of_ble_eq_true rfl) (fun r15 M16 hr15 => ?_)
        refine Go.iret dX6_serve_54 rfl rfl ?_
        refine ⟨_, rfl, ?_⟩
        rw [if_neg (by rw [decide_eq_false h45]; simp), hr15.2]
        exact ⟨hr15.1, hC.fnd⟩
  · refine Go.iload_n dX6_serve_0 rfl ?_
    refine Go.bipush (v := 6) dX6_serve_1 (by decide) ?_
    refine Go.callSI [] dX6_serve_3 lkX6_58 stX6_isBelow cbX6_isBelow (s_isBelow k0 6) rfl rfl (Nat.le_of_ble_eq_true rfl) (fun r1 M2 hr1 => ?_)
    obtain ⟨er1, emr1⟩ := hr1
    rw [emr1]
    clear emr1 M2
    subst er1
    refine Go.if_eq 16 dX6_serve_6 rfl (fun h6 => ?_) (fun h6 => ?_)
    · refine Go.aload_n dX6_serve_16 rfl ?_
      refine Go.ldc dX6_serve_17 kcX6_62 ?_
      refine Go.callVI [] dX6_serve_19 lkX6_63 imX6_finding seX6_finding cbX6_finding (s_finding hG (code := (-1000000001)) (q := 0) (by decide) (by decide)) (shp hG rfl) rfl rfl rfl (Nat.le_of_ble_eq_true rfl) (fun r3 M4 hr3 => ?_)
      refine Go.iret dX6_serve_22 rfl rfl ?_
      refine ⟨_, rfl, ?_⟩
      rw [show A_serve g k0 x0 = ((-1000000001), fndS g 0) from if_neg hgd, hr3.2]
      exact ⟨hr3.1, hC.fnd⟩
    · refine Go.iload_n dX6_serve_9 rfl ?_
      refine Go.callSI [] dX6_serve_10 lkX6_86 stX6_isDish cbX6_isDish (s_isDish x0) rfl rfl (Nat.le_of_ble_eq_true rfl) (fun r5 M6 hr5 => ?_)
      obtain ⟨er5, emr5⟩ := hr5
      rw [emr5]
      clear emr5 M6
      subst er5
      refine Go.if_ne 23 dX6_serve_13 rfl (fun h13 => ?_) (fun h13 => ?_)
      · exact absurd (by simp [bi_n0.mp h6, bi_n0.mp h13]) hgd
      · refine Go.aload_n dX6_serve_16 rfl ?_
        refine Go.ldc dX6_serve_17 kcX6_62 ?_
        refine Go.callVI [] dX6_serve_19 lkX6_63 imX6_finding seX6_finding cbX6_finding (s_finding hG (code := (-1000000001)) (q := 0) (by decide) (by decide)) (shp hG rfl) rfl rfl rfl (Nat.le_of_ble_eq_true rfl) (fun r7 M8 hr7 => ?_)
        refine Go.iret dX6_serve_22 rfl rfl ?_
        refine ⟨_, rfl, ?_⟩
        rw [show A_serve g k0 x0 = ((-1000000001), fndS g 0) from if_neg hgd, hr7.2]
        exact ⟨hr7.1, hC.fnd⟩
theorem day_ne {u : Bu} (h : BuOk u) : uY u < 9999 ↔ ¬ uY u = 9999 := by
  obtain ⟨h1, h2, h3, h4, h5, h6, h7, h8⟩ := h
  rw [i_lt, i_eq]
  have e : ((9999 : Int32)).toInt = 9999 := by decide
  omega
set_option maxRecDepth 20000 in
theorem m_serve {G : Gt} {d : Nat} {M : Mm} (hG : gS G = SHAPE) {g : Sg} (hC : ModIs M g) (hg : SgOk g) (k0 x0 : Int32) : ExI G (d + 4) mX7_serve [.ref 49, .int k0, .int x0] M (fun r M' => r = (A_serve g k0 x0).1 ∧ ModIs M' (A_serve g k0 x0).2 ∧ CSame M M') := by
  refine Ex.of (by decide) (Nat.le_of_ble_eq_true rfl) ?_
  have hB := hC.1.bk hg.1
  have hn30 := hg.1.1
  show Go G (d + 4) mX7_serve 0 [some (.ref 49), some (.int k0), some (.int x0)] [] M _
  by_cases hgd : (inb k0 6 && isDishI x0) = true
  · rw [Bool.and_eq_true] at hgd
    obtain ⟨k, hk, ek⟩ := inb_ex (n := 6) hgd.1 (by decide)
    obtain ⟨x, hx, ex, hxo⟩ := isDishI_ok hgd.2
    subst ek
    subst ex
    have hA0 : A_serve g (nI k) (nI x) = (if (canN (uS (gU g)) (x / 20) && (decide (k = 2) || newN (uN (gU g)) (uK (gU g)) (uX (gU g)) (uE (gU g)) x)) && decide (uY (gU g) < 9999) then (if uN (gU g) = 30 then (-1000000002, fndS g 1) else (nI (uN (gU g)), setU g (mealU (gU g) k x))) else (-1000000005, fndS g 4)) := by
      have h9 : A_serve g (nI k) (nI x) = _ := if_pos (by rw [hgd.1, hgd.2]; rfl)
      rw [tN_nI (by omega), tN_nI (by omega)] at h9
      exact h9
    rw [hA0]
    clear hA0
    refine Go.iload_n dX7_serve_0 rfl ?_
    refine Go.callSI [] dX7_serve_1 lkX7_159 stX7_isKind cbX7_isKind (m_isKind (nI k)) rfl rfl (Nat.le_of_ble_eq_true rfl) (fun r1 M2 hr1 => ?_)
    obtain ⟨er1, emr1⟩ := hr1
    rw [emr1]
    clear emr1 M2
    subst er1
    refine Go.eqI (y := 1) (by rw [inI_kind, hgd.1]; rfl) ?_
    refine Go.if_eq 15 dX7_serve_4 rfl (fun h4 => absurd h4 (by decide)) (fun _ => ?_)
    refine Go.aload_n dX7_serve_7 rfl ?_
    refine Go.iload_n dX7_serve_8 rfl ?_
    refine Go.callVI [] dX7_serve_9 lkX7_131 imX7_isDish seX7_isDish cbX7_isDish (m_isDish hG hC.2.2.2.2.2.2.2 (nI x)) (shp hG rfl) rfl rfl rfl (Nat.le_of_ble_eq_true rfl) (fun r3 M4 hr3 => ?_)
    obtain ⟨er3, emr3⟩ := hr3
    rw [emr3]
    clear emr3 M4
    subst er3
    refine Go.eqI (y := 1) (by rw [isDishI_nI (by omega), hxo]; rfl) ?_
    refine Go.if_ne 22 dX7_serve_12 rfl (fun _ => ?_) (fun h12 => absurd h12 (by decide))
    refine Go.aload_n dX7_serve_22 rfl ?_
    refine Go.iload_n dX7_serve_23 rfl ?_
    refine Go.callVI [] dX7_serve_24 lkX7_137 imX7_canBe seX7_canBe cbX7_canBe (m_canBe hG (x := x) (by omega)) (shp hG rfl) rfl rfl rfl (Nat.le_of_ble_eq_true rfl) (fun r5 M6 hr5 => ?_)
    obtain ⟨er5, emr5⟩ := hr5
    rw [emr5]
    clear emr5 M6
    subst er5
    refine Go.eqI (y := bi (canN (uS (gU g)) (x / 20))) (by rw [canN_congr hC.1.1]) ?_
    refine Go.if_eq 53 dX7_serve_27 rfl (fun h27 => ?_) (fun h27 => ?_)
    · refine Go.aload_n dX7_serve_53 rfl ?_
      refine Go.ldc dX7_serve_54 kcX7_187 ?_
      refine Go.callVI [] dX7_serve_56 lkX7_104 imX7_finds seX7_finds cbX7_finds (m_finds hG (code := (-1000000005)) (q := 4) (by decide) (by decide)) (shp hG rfl) rfl rfl rfl (Nat.le_of_ble_eq_true rfl) (fun r7 M8 hr7 => ?_)
      refine Go.iret dX7_serve_59 rfl rfl ?_
      refine ⟨_, rfl, ?_⟩
      rw [if_neg (by simp [bi_0.mp h27]), hr7.2]
      exact ⟨hr7.1, hC.fnd⟩
    · refine Go.iload_n dX7_serve_30 rfl ?_
      refine Go.iconst (v := 2) dX7_serve_31 (by decide) ?_
      refine Go.icmp_eq 43 dX7_serve_32 rfl (fun h32 => ?_) (fun h32 => ?_)
      · have n32 : k = 2 := (nI_inj (a := k) (b := 2) (by omega) (by omega)).mp h32
        refine Go.aload_n dX7_serve_43 rfl ?_
        refine Go.getI dX7_serve_44 flX7_163 (shp hG rfl) rfl ?_
        refine Go.eqI (y := uY (gU g)) (hC.1.2.2.2.2.2.2.2.1) ?_
        refine Go.sipush (v := 9999) dX7_serve_47 (by decide) ?_
        refine Go.icmp_ne 60 dX7_serve_50 rfl (fun h50 => ?_) (fun h50 => ?_)
        · refine Go.aload_n dX7_serve_60 rfl ?_
          refine Go.getI dX7_serve_61 flX7_93 (shp hG rfl) rfl ?_
          refine Go.eqI (y := nI (uN (gU g))) (hB.2.2.1) ?_
          refine Go.bipush (v := 30) dX7_serve_64 (by decide) ?_
          refine Go.icmp_ne 76 dX7_serve_66 rfl (fun h66 => ?_) (fun h66 => ?_)
          · have n66 : ¬ (uN (gU g)) = 30 := fun q => h66 ((nI_inj (a := (uN (gU g))) (b := 30) (by omega) (by omega)).mpr q)
            refine Go.aload_n dX7_serve_76 rfl ?_
            refine Go.iload_n dX7_serve_77 rfl ?_
            refine Go.iload_n dX7_serve_78 rfl ?_
            refine Go.aload_n dX7_serve_79 rfl ?_
            refine Go.getI dX7_serve_80 flX7_163 (shp hG rfl) rfl ?_
            refine Go.eqI (y := uY (gU g)) (hC.1.2.2.2.2.2.2.2.1) ?_
            refine Go.callVV [] dX7_serve_83 lkX7_188 imX7_eats seX7_eats cbX7_eats (m_eats hG (n := uN (gU g)) hB.2.2.1 (by omega) (nI k) (x := x) (by omega) (uY (gU g))) (shp hG rfl) rfl rfl rfl (Nat.le_of_ble_eq_true rfl) (fun M10 hr9 => ?_)
            refine Go.aload_n dX7_serve_86 rfl ?_
            refine Go.dup dX7_serve_87 rfl ?_
            refine Go.getI dX7_serve_88 flX7_163 (shp hG rfl) rfl ?_
            refine Go.eqI (y := uY (gU g)) (by rw [hr9, (tk_same _ 50 _ 8 (S := [50]) (by decide)).1 49 (by decide)]; simp [addM, upi, seti, upd]; exact hC.1.2.2.2.2.2.2.2.1) ?_
            refine Go.iconst (v := 1) dX7_serve_91 (by decide) ?_
            refine Go.iadd dX7_serve_92 ?_
            refine Go.putI dX7_serve_93 fpX7_163 (shp hG rfl) rfl rfl rfl ?_
            refine Go.nmM (fun N11 eN11 => ?_)
            refine Go.aload_n dX7_serve_96 rfl ?_
            refine Go.getI dX7_serve_97 flX7_93 (shp hG rfl) rfl ?_
            refine Go.eqI (y := nI (uN (gU g) + 1)) (by rw [eN11, hr9, rd_eq]; show upd _ 3 _ 4 = _; rw [show ∀ (f : Nat → Int32) (v : Int32), upd f 3 v 4 = f 4 from fun f v => by simp [upd], (tk_same _ 50 _ 8 (S := [50]) (by decide)).1 49 (by decide)]; simp [addM, upi, seti, upd]) ?_
            refine Go.iconst (v := 1) dX7_serve_100 (by decide) ?_
            refine Go.isub dX7_serve_101 ?_
            refine Go.eqI (y := nI (uN (gU g))) (nI_pred _) ?_
            refine Go.iret dX7_serve_102 rfl rfl ?_
            refine ⟨_, rfl, ?_⟩
            rw [if_pos (by rw [show (canN (uS (gU g)) (x / 20) && (decide (k = 2) || newN (uN (gU g)) (uK (gU g)) (uX (gU g)) (uE (gU g)) x)) = true from by simp [bi_n0.mp h27, n32], decide_eq_true ((day_ne hg.1).mpr h50)]; rfl), if_neg n66, eN11, hr9]
            exact ⟨rfl, hC.setU (hC.1.meal k x) ((mealN_same M _ _ _ _).mono (by decide)) (mealN_49 M _ _ _ _ (by decide) (by decide)) (mealN_49 M _ _ _ _ (by decide) (by decide))⟩
          · have n66 : (uN (gU g)) = 30 := (nI_inj (a := (uN (gU g))) (b := 30) (by omega) (by omega)).mp h66
            refine Go.aload_n dX7_serve_69 rfl ?_
            refine Go.ldc dX7_serve_70 kcX7_162 ?_
            refine Go.callVI [] dX7_serve_72 lkX7_104 imX7_finds seX7_finds cbX7_finds (m_finds hG (code := (-1000000002)) (q := 1) (by decide) (by decide)) (shp hG rfl) rfl rfl rfl (Nat.le_of_ble_eq_true rfl) (fun r12 M13 hr12 => ?_)
            refine Go.iret dX7_serve_75 rfl rfl ?_
            refine ⟨_, rfl, ?_⟩
            rw [if_pos (by rw [show (canN (uS (gU g)) (x / 20) && (decide (k = 2) || newN (uN (gU g)) (uK (gU g)) (uX (gU g)) (uE (gU g)) x)) = true from by simp [bi_n0.mp h27, n32], decide_eq_true ((day_ne hg.1).mpr h50)]; rfl), if_pos n66, hr12.2]
            exact ⟨hr12.1, hC.fnd⟩
        · refine Go.aload_n dX7_serve_53 rfl ?_
          refine Go.ldc dX7_serve_54 kcX7_187 ?_
          refine Go.callVI [] dX7_serve_56 lkX7_104 imX7_finds seX7_finds cbX7_finds (m_finds hG (code := (-1000000005)) (q := 4) (by decide) (by decide)) (shp hG rfl) rfl rfl rfl (Nat.le_of_ble_eq_true rfl) (fun r14 M15 hr14 => ?_)
          refine Go.iret dX7_serve_59 rfl rfl ?_
          refine ⟨_, rfl, ?_⟩
          rw [if_neg (by rw [decide_eq_false (fun q => (day_ne hg.1).mp q h50)]; simp), hr14.2]
          exact ⟨hr14.1, hC.fnd⟩
      · have n32 : ¬ k = 2 := fun q => h32 ((nI_inj (a := k) (b := 2) (by omega) (by omega)).mpr q)
        refine Go.aload_n dX7_serve_35 rfl ?_
        refine Go.iload_n dX7_serve_36 rfl ?_
        refine Go.callVI [] dX7_serve_37 lkX7_140 imX7_isNew seX7_isNew cbX7_isNew (m_isNew hG hB (x := x) hxo) (shp hG rfl) rfl rfl rfl (Nat.le_of_ble_eq_true rfl) (fun r16 M17 hr16 => ?_)
        obtain ⟨er16, emr16⟩ := hr16
        rw [emr16]
        clear emr16 M17
        subst er16
        refine Go.if_eq 53 dX7_serve_40 rfl (fun h40 => ?_) (fun h40 => ?_)
        · refine Go.aload_n dX7_serve_53 rfl ?_
          refine Go.ldc dX7_serve_54 kcX7_187 ?_
          refine Go.callVI [] dX7_serve_56 lkX7_104 imX7_finds seX7_finds cbX7_finds (m_finds hG (code := (-1000000005)) (q := 4) (by decide) (by decide)) (shp hG rfl) rfl rfl rfl (Nat.le_of_ble_eq_true rfl) (fun r18 M19 hr18 => ?_)
          refine Go.iret dX7_serve_59 rfl rfl ?_
          refine ⟨_, rfl, ?_⟩
          rw [if_neg (by simp [bi_0.mp h40, n32]), hr18.2]
          exact ⟨hr18.1, hC.fnd⟩
        · refine Go.aload_n dX7_serve_43 rfl ?_
          refine Go.getI dX7_serve_44 flX7_163 (shp hG rfl) rfl ?_
          refine Go.eqI (y := uY (gU g)) (hC.1.2.2.2.2.2.2.2.1) ?_
          refine Go.sipush (v := 9999) dX7_serve_47 (by decide) ?_
          refine Go.icmp_ne 60 dX7_serve_50 rfl (fun h50 => ?_) (fun h50 => ?_)
          · refine Go.aload_n dX7_serve_60 rfl ?_
            refine Go.getI dX7_serve_61 flX7_93 (shp hG rfl) rfl ?_
            refine Go.eqI (y := nI (uN (gU g))) (hB.2.2.1) ?_
            refine Go.bipush (v := 30) dX7_serve_64 (by decide) ?_
            refine Go.icmp_ne 76 dX7_serve_66 rfl (fun h66 => ?_) (fun h66 => ?_)
            · have n66 : ¬ (uN (gU g)) = 30 := fun q => h66 ((nI_inj (a := (uN (gU g))) (b := 30) (by omega) (by omega)).mpr q)
              refine Go.aload_n dX7_serve_76 rfl ?_
              refine Go.iload_n dX7_serve_77 rfl ?_
              refine Go.iload_n dX7_serve_78 rfl ?_
              refine Go.aload_n dX7_serve_79 rfl ?_
              refine Go.getI dX7_serve_80 flX7_163 (shp hG rfl) rfl ?_
              refine Go.eqI (y := uY (gU g)) (hC.1.2.2.2.2.2.2.2.1) ?_
              refine Go.callVV [] dX7_serve_83 lkX7_188 imX7_eats seX7_eats cbX7_eats (m_eats hG (n := uN (gU g)) hB.2.2.1 (by omega) (nI k) (x := x) (by omega) (uY (gU g))) (shp hG rfl) rfl rfl rfl (Nat.le_of_ble_eq_true rfl) (fun M21 hr20 => ?_)
              refine Go.aload_n dX7_serve_86 rfl ?_
              refine Go.dup dX7_serve_87 rfl ?_
              refine Go.getI dX7_serve_88 flX7_163 (shp hG rfl) rfl ?_
              refine Go.eqI (y := uY (gU g)) (by rw [hr20, (tk_same _ 50 _ 8 (S := [50]) (by decide)).1 49 (by decide)]; simp [addM, upi, seti, upd]; exact hC.1.2.2.2.2.2.2.2.1) ?_
              refine Go.iconst (v := 1) dX7_serve_91 (by decide) ?_
              refine Go.iadd dX7_serve_92 ?_
              refine Go.putI dX7_serve_93 fpX7_163 (shp hG rfl) rfl rfl rfl ?_
              refine Go.nmM (fun N22 eN22 => ?_)
              refine Go.aload_n dX7_serve_96 rfl ?_
              refine Go.getI dX7_serve_97 flX7_93 (shp hG rfl) rfl ?_
              refine Go.eqI (y := nI (uN (gU g) + 1)) (by rw [eN22, hr20, rd_eq]; show upd _ 3 _ 4 = _; rw [show ∀ (f : Nat → Int32) (v : Int32), upd f 3 v 4 = f 4 from fun f v => by simp [upd], (tk_same _ 50 _ 8 (S := [50]) (by decide)).1 49 (by decide)]; simp [addM, upi, seti, upd]) ?_
              refine Go.iconst (v := 1) dX7_serve_100 (by decide) ?_
              refine Go.isub dX7_serve_101 ?_
              refine Go.eqI (y := nI (uN (gU g))) (nI_pred _) ?_
              refine Go.iret dX7_serve_102 rfl rfl ?_
              refine ⟨_, rfl, ?_⟩
              rw [if_pos (by rw [show (canN (uS (gU g)) (x / 20) && (decide (k = 2) || newN (uN (gU g)) (uK (gU g)) (uX (gU g)) (uE (gU g)) x)) = true from by simp [bi_n0.mp h27, bi_n0.mp h40], decide_eq_true ((day_ne hg.1).mpr h50)]; rfl), if_neg n66, eN22, hr20]
              exact ⟨rfl, hC.setU (hC.1.meal k x) ((mealN_same M _ _ _ _).mono (by decide)) (mealN_49 M _ _ _ _ (by decide) (by decide)) (mealN_49 M _ _ _ _ (by decide) (by decide))⟩
            · have n66 : (uN (gU g)) = 30 := (nI_inj (a := (uN (gU g))) (b := 30) (by omega) (by omega)).mp h66
              refine Go.aload_n dX7_serve_69 rfl ?_
              refine Go.ldc dX7_serve_70 kcX7_162 ?_
              refine Go.callVI [] dX7_serve_72 lkX7_104 imX7_finds seX7_finds cbX7_finds (m_finds hG (code := (-1000000002)) (q := 1) (by decide) (by decide)) (shp hG rfl) rfl rfl rfl (Nat.le_of_ble_eq_true rfl) (fun r23 M24 hr23 => ?_)
              refine Go.iret dX7_serve_75 rfl rfl ?_
              refine ⟨_, rfl, ?_⟩
              rw [if_pos (by rw [show (canN (uS (gU g)) (x / 20) && (decide (k = 2) || newN (uN (gU g)) (uK (gU g)) (uX (gU g)) (uE (gU g)) x)) = true from by simp [bi_n0.mp h27, bi_n0.mp h40], decide_eq_true ((day_ne hg.1).mpr h50)]; rfl), if_pos n66, hr23.2]
              exact ⟨hr23.1, hC.fnd⟩
          · refine Go.aload_n dX7_serve_53 rfl ?_
            refine Go.ldc dX7_serve_54 kcX7_187 ?_
            refine Go.callVI [] dX7_serve_56 lkX7_104 imX7_finds seX7_finds cbX7_finds (m_finds hG (code := (-1000000005)) (q := 4) (by decide) (by decide)) (shp hG rfl) rfl rfl rfl (Nat.le_of_ble_eq_true rfl) (fun r25 M26 hr25 => ?_)
            refine Go.iret dX7_serve_59 rfl rfl ?_
            refine ⟨_, rfl, ?_⟩
            rw [if_neg (by rw [decide_eq_false (fun q => (day_ne hg.1).mp q h50)]; simp), hr25.2]
            exact ⟨hr25.1, hC.fnd⟩
  · refine Go.iload_n dX7_serve_0 rfl ?_
    refine Go.callSI [] dX7_serve_1 lkX7_159 stX7_isKind cbX7_isKind (m_isKind k0) rfl rfl (Nat.le_of_ble_eq_true rfl) (fun r1 M2 hr1 => ?_)
    obtain ⟨er1, emr1⟩ := hr1
    rw [emr1]
    clear emr1 M2
    subst er1
    refine Go.if_eq 15 dX7_serve_4 rfl (fun h4 => ?_) (fun h4 => ?_)
    · refine Go.aload_n dX7_serve_15 rfl ?_
      refine Go.ldc dX7_serve_16 kcX7_85 ?_
      refine Go.callVI [] dX7_serve_18 lkX7_104 imX7_finds seX7_finds cbX7_finds (m_finds hG (code := (-1000000001)) (q := 0) (by decide) (by decide)) (shp hG rfl) rfl rfl rfl (Nat.le_of_ble_eq_true rfl) (fun r3 M4 hr3 => ?_)
      refine Go.iret dX7_serve_21 rfl rfl ?_
      refine ⟨_, rfl, ?_⟩
      rw [show A_serve g k0 x0 = ((-1000000001), fndS g 0) from if_neg hgd, hr3.2]
      exact ⟨hr3.1, hC.fnd⟩
    · refine Go.aload_n dX7_serve_7 rfl ?_
      refine Go.iload_n dX7_serve_8 rfl ?_
      refine Go.callVI [] dX7_serve_9 lkX7_131 imX7_isDish seX7_isDish cbX7_isDish (m_isDish hG hC.2.2.2.2.2.2.2 x0) (shp hG rfl) rfl rfl rfl (Nat.le_of_ble_eq_true rfl) (fun r5 M6 hr5 => ?_)
      obtain ⟨er5, emr5⟩ := hr5
      rw [emr5]
      clear emr5 M6
      subst er5
      refine Go.if_ne 22 dX7_serve_12 rfl (fun h12 => ?_) (fun h12 => ?_)
      · exact absurd (by rw [← inI_kind, bi_n0.mp h4, bi_n0.mp h12]; rfl) hgd
      · refine Go.aload_n dX7_serve_15 rfl ?_
        refine Go.ldc dX7_serve_16 kcX7_85 ?_
        refine Go.callVI [] dX7_serve_18 lkX7_104 imX7_finds seX7_finds cbX7_finds (m_finds hG (code := (-1000000001)) (q := 0) (by decide) (by decide)) (shp hG rfl) rfl rfl rfl (Nat.le_of_ble_eq_true rfl) (fun r7 M8 hr7 => ?_)
        refine Go.iret dX7_serve_21 rfl rfl ?_
        refine ⟨_, rfl, ?_⟩
        rw [show A_serve g k0 x0 = ((-1000000001), fndS g 0) from if_neg hgd, hr7.2]
        exact ⟨hr7.1, hC.fnd⟩
