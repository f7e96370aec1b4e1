noncomputable def mealsN (k : Nat) : Nat → Bu → Nat × Bu
  | 0, u => (0, u)
  | n + 1, u => if uN u = 30 then (0, u) else match bst (okG (uS u) (kc u)) (lk u) with
    | none => (0, u)
    | some x => ((mealsN k n (mealU u k x)).1 + 1, (mealsN k n (mealU u k x)).2)
theorem mealsN_full {k n : Nat} {u : Bu} (h : uN u = 30) : mealsN k n u = (0, u) := by
  cases n with
  | zero => rfl
  | succ n => rw [mealsN, if_pos h]
theorem mealsN_none {k n : Nat} {u : Bu} (h : bst (okG (uS u) (kc u)) (lk u) = none) : mealsN k n u = (0, u) := by
  cases n with
  | zero => rfl
  | succ n =>
    rw [mealsN, h]
    split <;> rfl
theorem mealsN_some {k n x : Nat} {u : Bu} (h30 : ¬ uN u = 30) (h : bst (okG (uS u) (kc u)) (lk u) = some x) : mealsN k (n + 1) u = ((mealsN k n (mealU u k x)).1 + 1, (mealsN k n (mealU u k x)).2) := by
  rw [mealsN, if_neg h30, h]
theorem mealsN_le (k : Nat) : ∀ n u, (mealsN k n u).1 ≤ n
  | 0, _ => Nat.le_refl _
  | n + 1, u => by
    rw [mealsN]
    split
    · exact Nat.zero_le _
    · cases bst (okG (uS u) (kc u)) (lk u) with
      | none => exact Nat.zero_le _
      | some x =>
        have := mealsN_le k n (mealU u k x)
        show (mealsN k n (mealU u k x)).1 + 1 ≤ n + 1
        omega
noncomputable def A_meals (g : Sg) (k n : Int32) : Int32 × Sg := if inb k 6 && inI n 1 30 then (if uY (gU g) + n ≤ 9999 then (nI (mealsN (tN k) (tN n) (gU g)).1, setU g (mealsN (tN k) (tN n) (gU g)).2) else (-1000000005, fndS g 4)) else (-1000000001, fndS g 0)
theorem setU_setU (g : Sg) (u v : Bu) : setU (setU g u) v = setU g v := rfl
theorem setU_self (g : Sg) : setU g (gU g) = g := rfl
theorem day_sum {u : Bu} (h : BuOk u) {m : Nat} (hm : m ≤ 30) : (uY u + nI m).toInt = (uY u).toInt + m := by
  obtain ⟨h1, h2, h3, h4, h5, h6, h7, h8⟩ := h
  rw [addInt2 (by omega) (by rw [nI_toInt (by omega)]; omega), nI_toInt (by omega)]
theorem SgOk.setU {g : Sg} {u : Bu} (h : SgOk g) (hu : BuOk u) : SgOk (setU g u) := ⟨hu, h.2⟩
theorem Kst.keep {M M' : Mm} {f : Nat → Int32} {c : Nat → Nat} {lt lw ls : Nat → Int32} {ed : Nat} (h : Kst M f c lt lw ls ed) (h2 : Same [1, 2, 6, 7, 8] M M') : Kst M' f c lt lw ls ed := by
  obtain ⟨⟨fv, a1, a2, a3, a4, a5, a6⟩, b, e1, e2, e3⟩ := h
  have g31 := h2.1 31 (by decide)
  exact ⟨⟨fv, a1.same (h2.1 28 (by decide)) (h2.1 29 (by decide)), a2, fun j hj => by rw [h2.1 30 (by decide)]; exact a3 j hj, fun m hm => by rw [g31]; exact a4 m hm, ⟨by rw [g31]; exact a5.1, fun i hi => by rw [h2.1 32 (by decide)]; exact a5.2 i hi⟩, a6⟩, fun s hs => by rw [h2.1 33 (by decide)]; exact b s hs, by rw [h2.1 25 (by decide)]; exact e1, e2, by rw [h2.1 26 (by decide)]; exact e3⟩
set_option maxRecDepth 20000 in
theorem l_mealsC {G : Gt} {d : Nat} {M0 : Mm} (hG : gS G = SHAPE) {g : Sg} {k m : Nat} (hk : k < 6) (hm30 : m ≤ 30) {T : Nat × Bu} : ∀ (n i : Nat) (N : Mm) (u : Bu) (o4 : Option Value), i + n = m → CompIs N (setU g u) → MSame M0 N → BuOk u → KS N (uS u) (kc u) (lk (gU g)) (uE (gU g)) → uE u = uE (gU g) → lk u = lk (gU g) → (uY u).toInt + n ≤ 9999 → T = (i + (mealsN k n u).1, (mealsN k n u).2) → Go G (d + 5) mX6_meals 62 [some (.ref 0), some (.int (nI k)), some (.int (nI m)), some (.int (nI i)), o4] [] N (fun v M' => ∃ r, v = some (.int r) ∧ r = nI T.1 ∧ CompIs M' (setU g T.2) ∧ MSame M0 M') := by
  intro n
  induction n with
  | zero =>
    intro i N u o4 hin hC hmm hu hK he hl hy hT
    have hn30 := hu.1
    refine Go.iload_n dX6_meals_62 rfl ?_
    refine Go.iload_n dX6_meals_63 rfl ?_
    refine Go.icmp_ge 115 dX6_meals_64 rfl (fun _ => ?_) (fun h64 => absurd (nI_le (a := m) (b := i) (by omega) (by omega)) h64)
    refine Go.iload_n dX6_meals_115 rfl ?_
    refine Go.iret dX6_meals_116 rfl rfl ?_
    have e9 : i = m := by omega
    subst e9
    exact ⟨_, rfl, by rw [hT]; rfl, by rw [hT]; exact hC, hmm⟩
  | succ n ih =>
    intro i N u o4 hin hC hmm hu hK he hl hy hT
    have hi : i < m := by omega
    have hn30 := hu.1
    have hB := hC.1.bk hu
    rw [← he, ← hl] at hK
    refine Go.iload_n dX6_meals_62 rfl ?_
    refine Go.iload_n dX6_meals_63 rfl ?_
    refine Go.icmp_ge 115 dX6_meals_64 rfl (fun h64 => absurd h64 (nI_ge (a := i) (b := m) (by omega) (by omega))) (fun _ => ?_)
    refine Go.aload_n dX6_meals_67 rfl ?_
    refine Go.getR dX6_meals_68 flX6_12 (shp hG rfl) rfl ?_
    refine Go.callVI [] dX6_meals_71 lkX6_140 imX1_isFull seX1_isFull cbX1_isFull (s_isFull1 hG (n := uN u) hB.2.2.1 (by omega)) (shp hG rfl) rfl rfl rfl (Nat.le_of_ble_eq_true rfl) (fun r1 M2 hr1 => ?_)
    obtain ⟨er1, emr1⟩ := hr1
    rw [emr1]
    clear emr1 M2
    subst er1
    refine Go.if_eq 81 dX6_meals_74 rfl (fun h74 => ?_) (fun h74 => ?_)
    · refine Go.aload_n dX6_meals_81 rfl ?_
      refine Go.getR dX6_meals_82 flX6_29 (shp hG rfl) rfl ?_
      refine Go.iload_n dX6_meals_85 rfl ?_
      refine Go.callVI [] dX6_meals_86 lkX6_201 imX2_cookFavourite seX2_cookFavourite cbX2_cookFavourite (k_cookFav hG hK hk) (shp hG rfl) rfl rfl rfl (Nat.le_of_ble_eq_true rfl) (fun r3 M4 hr3 => ?_)
      rcases hr3 with ⟨ex9, hb, eM9⟩ | ⟨x, ex9, hx5, hxo, hb, hK2, hs2⟩
      · rw [ex9, eM9]
        refine Go.istore (ls' := [some (.ref 0), some (.int (nI k)), some (.int (nI m)), some (.int (nI i)), some (.int ((-1)))]) dX6_meals_89 (Nat.le_of_ble_eq_true rfl) rfl rfl ?_
        refine Go.iload dX6_meals_91 rfl ?_
        refine Go.if_ge 98 dX6_meals_93 rfl (fun h93 => absurd h93 (by decide)) (fun _ => ?_)
        refine Go.iload_n dX6_meals_96 rfl ?_
        refine Go.iret dX6_meals_97 rfl rfl ?_
        refine ⟨_, rfl, ?_⟩
        rw [hT, mealsN_none hb]
        exact ⟨rfl, hC, hmm⟩
      · rw [ex9]
        have hk2 := hC.kc (hs2.mono (by decide))
        have hn29 : uN u < 30 := by have := bi_0.mp h74; simp at this; omega
        refine Go.istore (ls' := [some (.ref 0), some (.int (nI k)), some (.int (nI m)), some (.int (nI i)), some (.int (nI x))]) dX6_meals_89 (Nat.le_of_ble_eq_true rfl) rfl rfl ?_
        refine Go.iload dX6_meals_91 rfl ?_
        refine Go.if_ge 98 dX6_meals_93 rfl (fun _ => ?_) (fun h93 => absurd (nI_pos' (by omega)) h93)
        refine Go.aload_n dX6_meals_98 rfl ?_
        refine Go.getR dX6_meals_99 flX6_12 (shp hG rfl) rfl ?_
        refine Go.iload_n dX6_meals_102 rfl ?_
        refine Go.iload dX6_meals_103 rfl ?_
        refine Go.callVI [] dX6_meals_105 lkX6_198 imX1_haveMeal seX1_haveMeal cbX1_haveMeal (s_haveMeal hG (n := uN u) hk2.1.1.2.2.2.2.1 hn29 (nI k) (x := x) hx5) (shp hG rfl) rfl rfl rfl (Nat.le_of_ble_eq_true rfl) (fun r5 M6 hr5 => ?_)
        obtain ⟨emr5, eqM6⟩ := hr5
        refine Go.pop dX6_meals_108 rfl ?_
        refine Go.iinc (v := nI (i + 1)) (ls' := [some (.ref 0), some (.int (nI k)), some (.int (nI m)), some (.int (nI (i + 1))), some (.int (nI x))]) dX6_meals_109 rfl (nI_1 _) rfl rfl ?_
        refine Go.goto 62 dX6_meals_112 rfl ?_
        have hn2 : ¬ uN u = 30 := by omega
        have hmc := hk2.1.setU (hk2.1.1.meal k x) ((meal_same _ _ _ _).mono (by decide))
        rw [setU_setU] at hmc
        rw [eqM6]
        rw [he, hl] at hK2
        refine ih (i + 1) _ (mealU u k x) _ (by omega) hmc.1 ((hmm.trans hk2.2).trans hmc.2) (mealU_ok hu hn29 hk hxo (by omega)) ?_ he hl ?_ ?_
        · rw [kc_meal, he]
          obtain ⟨f9, lt, lw, ls, a1, a2, a3⟩ := hK2
          refine ⟨f9, lt, lw, ls, a1.keep (meal_same _ _ _ _), a2, a3⟩
        · show (uY u + 1).toInt + _ ≤ 9999
          have e1 : ((1 : Int32)).toInt = 1 := by decide
          rw [addInt2 (by have := hu.2.2.2.2.2.2; omega) (by omega), e1]
          omega
        · rw [hT, mealsN_some hn2 hb, show i + 1 + (mealsN k n (mealU u k x)).1 = i + ((mealsN k n (mealU u k x)).1 + 1) by omega]
    · refine Go.iconst (v := -1) dX6_meals_77 (by decide) ?_
      refine Go.goto 89 dX6_meals_78 rfl ?_
      refine Go.istore (ls' := [some (.ref 0), some (.int (nI k)), some (.int (nI m)), some (.int (nI i)), some (.int ((-1)))]) dX6_meals_89 (Nat.le_of_ble_eq_true rfl) rfl rfl ?_
      refine Go.iload dX6_meals_91 rfl ?_
      refine Go.if_ge 98 dX6_meals_93 rfl (fun h93 => absurd h93 (by decide)) (fun _ => ?_)
      refine Go.iload_n dX6_meals_96 rfl ?_
      refine Go.iret dX6_meals_97 rfl rfl ?_
      refine ⟨_, rfl, ?_⟩
      rw [hT, mealsN_full (by simpa using bi_n0.mp h74)]
      exact ⟨rfl, hC, hmm⟩
set_option maxRecDepth 20000 in
theorem c_meals {G : Gt} {d : Nat} {M : Mm} (hG : gS G = SHAPE) {g : Sg} (hC : CompIs M g) (hg : SgOk g) (k0 n0 : Int32) : ExI G (d + 5) mX6_meals [.ref 0, .int k0, .int n0] M (fun r M' => r = (A_meals g k0 n0).1 ∧ CompIs M' (A_meals g k0 n0).2 ∧ MSame M M') := by
  refine Ex.of (by decide) (Nat.le_of_ble_eq_true rfl) ?_
  show Go G (d + 5) mX6_meals 0 [some (.ref 0), some (.int k0), some (.int n0), none, none] [] M _
  by_cases hgd : (inb k0 6 && inI n0 1 30) = true
  · rw [Bool.and_eq_true] at hgd
    obtain ⟨k, hk, ek⟩ := inb_ex (n := 6) hgd.1 (by decide)
    obtain ⟨m, hm1, hm30, em⟩ := in30 hgd.2
    subst ek
    subst em
    have hA0 : A_meals g (nI k) (nI m) = (if uY (gU g) + nI m ≤ 9999 then (nI (mealsN k m (gU g)).1, setU g (mealsN k m (gU g)).2) else (-1000000005, fndS g 4)) := by
      have h9 : A_meals g (nI k) (nI m) = _ := if_pos (by rw [hgd.1, hgd.2]; rfl)
      rw [tN_nI (by omega), tN_nI (by omega)] at h9
      exact h9
    rw [hA0]
    clear hA0
    refine Go.iload_n dX6_meals_0 rfl ?_
    refine Go.bipush (v := 6) dX6_meals_1 (by decide) ?_
    refine Go.callSI [] dX6_meals_3 lkX6_58 stX6_isBelow cbX6_isBelow (s_isBelow (nI k) 6) rfl rfl (Nat.le_of_ble_eq_true rfl) (fun r1 M2 hr1 => ?_)
    obtain ⟨er1, emr1⟩ := hr1
    rw [emr1]
    clear emr1 M2
    subst er1
    refine Go.eqI (y := 1) (by rw [show inb (nI k) 6 = decide (k < 6) from inb_nI (by omega) (by decide), decide_eq_true (by omega)]; rfl) ?_
    refine Go.if_eq 20 dX6_meals_6 rfl (fun h6 => absurd h6 (by decide)) (fun _ => ?_)
    refine Go.iload_n dX6_meals_9 rfl ?_
    refine Go.iconst (v := 1) dX6_meals_10 (by decide) ?_
    refine Go.icmp_lt 20 dX6_meals_11 rfl (fun h11 => absurd h11 (i_le_n ((nI_leI (a := 1) (b := m) (by decide) (by omega)).mpr hm1))) (fun _ => ?_)
    refine Go.iload_n dX6_meals_14 rfl ?_
    refine Go.bipush (v := 30) dX6_meals_15 (by decide) ?_
    refine Go.icmp_le 27 dX6_meals_17 rfl (fun _ => ?_) (fun h17 => absurd ((nI_leI (a := m) (b := 30) (by omega) (by decide)).mpr hm30) h17)
    refine Go.aload_n dX6_meals_27 rfl ?_
    refine Go.getR dX6_meals_28 flX6_12 (shp hG rfl) rfl ?_
    refine Go.getI dX6_meals_31 flX6_194 (shp hG rfl) rfl ?_
    refine Go.eqI (y := uY (gU g)) (hC.1.2.2.2.2.2.2.1) ?_
    refine Go.iload_n dX6_meals_34 rfl ?_
    refine Go.iadd dX6_meals_35 ?_
    refine Go.sipush (v := 9999) dX6_meals_36 (by decide) ?_
    refine Go.icmp_le 49 dX6_meals_39 rfl (fun h39 => ?_) (fun h39 => ?_)
    · rw [if_pos h39]
      refine Go.aload_n dX6_meals_49 rfl ?_
      refine Go.getR dX6_meals_50 flX6_29 (shp hG rfl) rfl ?_
      refine Go.aload_n dX6_meals_53 rfl ?_
      refine Go.getR dX6_meals_54 flX6_12 (shp hG rfl) rfl ?_
      refine Go.callVV [] dX6_meals_57 lkX6_114 imX2_begin seX2_begin cbX2_begin (k_begin hG hC hg) (shp hG rfl) rfl rfl rfl (Nat.le_of_ble_eq_true rfl) (fun M4 hr3 => ?_)
      obtain ⟨hCk, hmk, hkck, hKk⟩ := hr3
      refine Go.iconst (v := 0) dX6_meals_60 (by decide) ?_
      refine Go.istore_n (ls' := [some (.ref 0), some (.int (nI k)), some (.int (nI m)), some (.int 0), none]) dX6_meals_61 (Nat.le_of_ble_eq_true rfl) rfl rfl ?_
      exact l_mealsC hG hk hm30 m 0 _ (gU g) _ (by omega) hCk hmk hg.1 hKk rfl rfl (by have := day_sum hg.1 hm30; rw [i_le] at h39; rw [this] at h39; exact h39) (by simp)
    · refine Go.aload_n dX6_meals_42 rfl ?_
      refine Go.ldc dX6_meals_43 kcX6_197 ?_
      refine Go.callVI [] dX6_meals_45 lkX6_63 imX6_finding seX6_finding cbX6_finding (s_finding hG (code := (-1000000005)) (q := 4) (by decide) (by decide)) (shp hG rfl) rfl rfl rfl (Nat.le_of_ble_eq_true rfl) (fun r5 M6 hr5 => ?_)
      refine Go.iret dX6_meals_48 rfl rfl ?_
      refine ⟨_, rfl, ?_⟩
      rw [if_neg h39, hr5.2]
      exact ⟨hr5.1, hC.fnd⟩
  · refine Go.iload_n dX6_meals_0 rfl ?_
    refine Go.bipush (v := 6) dX6_meals_1 (by decide) ?_
    refine Go.callSI [] dX6_meals_3 lkX6_58 stX6_isBelow cbX6_isBelow (s_isBelow k0 6) rfl rfl (Nat.le_of_ble_eq_true rfl) (fun r1 M2 hr1 => ?_)
    obtain ⟨er1, emr1⟩ := hr1
    rw [emr1]
    clear emr1 M2
    subst er1
    refine Go.if_eq 20 dX6_meals_6 rfl (fun h6 => ?_) (fun h6 => ?_)
    · refine Go.aload_n dX6_meals_20 rfl ?_
      refine Go.ldc dX6_meals_21 kcX6_62 ?_
      refine Go.callVI [] dX6_meals_23 lkX6_63 imX6_finding seX6_finding cbX6_finding (s_finding hG (code := (-1000000001)) (q := 0) (by decide) (by decide)) (shp hG rfl) rfl rfl rfl (Nat.le_of_ble_eq_true rfl) (fun r3 M4 hr3 => ?_)
      refine Go.iret dX6_meals_26 rfl rfl ?_
      refine ⟨_, rfl, ?_⟩
      rw [show A_meals g k0 n0 = ((-1000000001), fndS g 0) from if_neg hgd, hr3.2]
      exact ⟨hr3.1, hC.fnd⟩
    · refine Go.iload_n dX6_meals_9 rfl ?_
      refine Go.iconst (v := 1) dX6_meals_10 (by decide) ?_
      refine Go.icmp_lt 20 dX6_meals_11 rfl (fun h11 => ?_) (fun h11 => ?_)
      · refine Go.aload_n dX6_meals_20 rfl ?_
        refine Go.ldc dX6_meals_21 kcX6_62 ?_
        refine Go.callVI [] dX6_meals_23 lkX6_63 imX6_finding seX6_finding cbX6_finding (s_finding hG (code := (-1000000001)) (q := 0) (by decide) (by decide)) (shp hG rfl) rfl rfl rfl (Nat.le_of_ble_eq_true rfl) (fun r5 M6 hr5 => ?_)
        refine Go.iret dX6_meals_26 rfl rfl ?_
        refine ⟨_, rfl, ?_⟩
        rw [show A_meals g k0 n0 = ((-1000000001), fndS g 0) from if_neg hgd, hr5.2]
        exact ⟨hr5.1, hC.fnd⟩
      · refine Go.iload_n dX6_meals_14 rfl ?_
        refine Go.bipush (v := 30) dX6_meals_15 (by decide) ?_
        refine Go.icmp_le 27 dX6_meals_17 rfl (fun h17 => ?_) (fun h17 => ?_)
        · exact absurd (by rw [bi_n0.mp h6, in30_no h11 h17]; rfl) hgd
        · refine Go.aload_n dX6_meals_20 rfl ?_
          refine Go.ldc dX6_meals_21 kcX6_62 ?_
          refine Go.callVI [] dX6_meals_23 lkX6_63 imX6_finding seX6_finding cbX6_finding (s_finding hG (code := (-1000000001)) (q := 0) (by decide) (by decide)) (shp hG rfl) rfl rfl rfl (Nat.le_of_ble_eq_true rfl) (fun r7 M8 hr7 => ?_)
          refine Go.iret dX6_meals_26 rfl rfl ?_
          refine ⟨_, rfl, ?_⟩
          rw [show A_meals g k0 n0 = ((-1000000001), fndS g 0) from if_neg hgd, hr7.2]
          exact ⟨hr7.1, hC.fnd⟩
theorem ModIs.mk59 {M M' : Mm} {g : Sg} (h : ModIs M g) (hs : Same [59] M M') : ModIs M' g ∧ CSame M M' := h.qm (QM.mk59 hs)
theorem PlaceB.conv {M : Mm} {u : Bu} {c : Nat → Nat} {r : Int32} (h : BuM M u) (hp : PlaceB (M.1 50) c (likD (M.1 51) (ml8 M) (ml13 M)) r) : PlaceB (uS u) c (lk u) r := by
  unfold PlaceB at hp ⊢
  rw [← bst_congr8 h.1 (ml_lk h)]
  exact hp
theorem mealN_take (M : Mm) (n : Nat) (k : Int32) (x : Nat) (y : Int32) : Same [49] (tkM (addM M n k (nI x) y) 50 (x / 20) 8) (mealN M n k x y) := Same.upi _ 49 3 _ (by decide)
theorem BuM.conv9 {M : Mm} {u : Bu} {c : Nat → Nat} {r : Int32} (h : BuM M u) (hp : PlaceB (M.1 50) c (likD (M.1 51) (ml8 M) (ml13 M)) r) : PlaceB (uS u) c (lk u) r := PlaceB.conv h hp
set_option maxRecDepth 20000 in
theorem l_mealsM {G : Gt} {d : Nat} {M0 : Mm} (hG : gS G = SHAPE) {g : Sg} {k m : Nat} (hk : k < 6) (hm30 : m ≤ 30) {T : Nat × Bu} : ∀ (n i : Nat) (N : Mm) (u : Bu) (r4 : Int32), i + n = m → ModIs N (setU g u) → CSame M0 N → BuOk u → MarkIs N (kc u) → PlaceB (uS u) (kc u) (lk u) r4 → (uY u).toInt + n ≤ 9999 → T = (i + (mealsN k n u).1, (mealsN k n u).2) → Go G (d + 3) mX7_meals 55 [some (.ref 49), some (.int (nI k)), some (.int (nI m)), some (.int (nI i)), some (.int r4)] [] N (fun v M' => ∃ r, v = some (.int r) ∧ r = nI T.1 ∧ ModIs M' (setU g T.2) ∧ CSame M0 M') := by
  intro n
  induction n with
  | zero =>
    intro i N u r4 hin hC hmm hu hM hP hy hT
    have hn30 := hu.1
    refine Go.iload_n dX7_meals_55 rfl ?_
    refine Go.iload_n dX7_meals_56 rfl ?_
    refine Go.icmp_ge 121 dX7_meals_57 rfl (fun _ => ?_) (fun h57 => absurd (nI_le (a := m) (b := i) (by omega) (by omega)) h57)
    refine Go.iload_n dX7_meals_121 rfl ?_
    refine Go.iret dX7_meals_122 rfl rfl ?_
    have e9 : i = m := by omega
    subst e9
    exact ⟨_, rfl, by rw [hT]; rfl, by rw [hT]; exact hC, hmm⟩
  | succ n ih =>
    intro i N u r4 hin hC hmm hu hM hP hy hT
    have hi : i < m := by omega
    have hn30 := hu.1
    refine Go.iload_n dX7_meals_55 rfl ?_
    refine Go.iload_n dX7_meals_56 rfl ?_
    refine Go.icmp_ge 121 dX7_meals_57 rfl (fun h57 => absurd h57 (nI_ge (a := i) (b := m) (by omega) (by omega))) (fun _ => ?_)
    rcases hP with ⟨er4, hb⟩ | ⟨q, hq, er4, hb⟩
    · rw [er4]
      refine Go.iload dX7_meals_60 rfl ?_
      refine Go.if_lt 121 dX7_meals_62 rfl (fun _ => ?_) (fun h62 => absurd (by decide) h62)
      refine Go.iload_n dX7_meals_121 rfl ?_
      refine Go.iret dX7_meals_122 rfl rfl ?_
      refine ⟨_, rfl, ?_⟩
      rw [hT, mealsN_none hb]
      exact ⟨rfl, hC, hmm⟩
    · rw [er4]
      have hq5 := dishN_lt hq
      refine Go.iload dX7_meals_60 rfl ?_
      refine Go.if_lt 121 dX7_meals_62 rfl (fun h62 => absurd h62 (nI_pos (by omega))) (fun _ => ?_)
      refine Go.aload_n dX7_meals_65 rfl ?_
      refine Go.getI dX7_meals_66 flX7_93 (shp hG rfl) rfl ?_
      refine Go.eqI (y := nI (uN u)) (hC.1.2.2.2.2.1) ?_
      refine Go.bipush (v := 30) dX7_meals_69 (by decide) ?_
      refine Go.icmp_ge 121 dX7_meals_71 rfl (fun h71 => ?_) (fun h71 => ?_)
      · have n71 : 30 ≤ (uN u) := (nI_leI (a := 30) (b := (uN u)) (by omega) (by omega)).mp h71
        refine Go.iload_n dX7_meals_121 rfl ?_
        refine Go.iret dX7_meals_122 rfl rfl ?_
        refine ⟨_, rfl, ?_⟩
        rw [hT, mealsN_full (by omega)]
        exact ⟨rfl, hC, hmm⟩
      · have n71 : ¬ 30 ≤ (uN u) := fun q => h71 ((nI_leI (a := 30) (b := (uN u)) (by omega) (by omega)).mpr q)
        refine Go.aload_n dX7_meals_74 rfl ?_
        refine Go.iload_n dX7_meals_75 rfl ?_
        refine Go.aload_n dX7_meals_76 rfl ?_
        refine Go.iload dX7_meals_77 rfl ?_
        refine Go.callVI [.int (nI k), .ref 49] dX7_meals_79 lkX7_150 imX7_dishAt seX7_dishAt cbX7_dishAt (m_dishAt hG hC.2.2.2.2.2.2.2 (p := q) (by omega)) (shp hG rfl) rfl rfl rfl (Nat.le_of_ble_eq_true rfl) (fun r1 M2 hr1 => ?_)
        obtain ⟨er1, emr1⟩ := hr1
        rw [emr1]
        clear emr1 M2
        subst er1
        refine Go.aload_n dX7_meals_82 rfl ?_
        refine Go.getI dX7_meals_83 flX7_163 (shp hG rfl) rfl ?_
        refine Go.eqI (y := uY u) (hC.1.2.2.2.2.2.2.2.1) ?_
        refine Go.callVV [] dX7_meals_86 lkX7_188 imX7_eats seX7_eats cbX7_eats (m_eats hG (n := uN u) hC.1.2.2.2.2.1 (by omega) (nI k) (x := dishN q) (dishN_lt (by omega)) (uY u)) (shp hG rfl) rfl rfl rfl (Nat.le_of_ble_eq_true rfl) (fun M4 hr3 => ?_)
        have eE := hr3
        have hq9 := dishN_ok (p := q) hq
        have hn29 : uN u < 30 := by omega
        have hB2 : BkM M4 (uN u + 1) (fun e => if e = uN u then k else uK u e) (fun e => if e = uN u then dishN q else uX u e) (uE u) := by
          rw [eE]
          exact eat_Bk (hC.1.bk hu) (by omega) hk hq9
        have hS2 : MdS M4 := hC.2.2.2.2.2.2.2.same (by rw [eE]; exact (eat_MS N (uN u) (nI k) (uY u) (dishN q) (dishN q / 20)).1.1 57 (by decide)) (by rw [eE]; exact (eat_MS N (uN u) (nI k) (uY u) (dishN q) (dishN q / 20)).1.1 58 (by decide))
        have hM2 : MarkIs M4 (kc u) := hM.same (by rw [eE]; unfold tkM addM; simp [seti, upi])
        refine Go.aload_n dX7_meals_89 rfl ?_
        refine Go.aload_n dX7_meals_90 rfl ?_
        refine Go.getI dX7_meals_91 flX7_93 (shp hG rfl) rfl ?_
        refine Go.eqI (y := nI (uN u + 1)) (by rw [eE, (tk_same _ 50 _ 8 (S := [50]) (by decide)).1 49 (by decide)]; simp [addM, upi, seti, upd]) ?_
        refine Go.iconst (v := 1) dX7_meals_94 (by decide) ?_
        refine Go.isub dX7_meals_95 ?_
        refine Go.eqI (y := nI (uN u)) (nI_pred _) ?_
        refine Go.callVV [] dX7_meals_96 lkX7_146 imX7_marksBy seX7_marksBy cbX7_marksBy (m_marksBy hG hB2 hS2 (c := kc u) (e := uN u) (by omega) hM2) (shp hG rfl) rfl rfl rfl (Nat.le_of_ble_eq_true rfl) (fun M6 hr5 => ?_)
        obtain ⟨hMb, hsb⟩ := hr5
        refine Go.aload_n dX7_meals_99 rfl ?_
        refine Go.dup dX7_meals_100 rfl ?_
        refine Go.getI dX7_meals_101 flX7_163 (shp hG rfl) rfl ?_
        refine Go.eqI (y := uY u) (by rw [hsb.1 49 (by decide), eE, (tk_same _ 50 _ 8 (S := [50]) (by decide)).1 49 (by decide)]; simp [addM, upi, seti, upd]; exact hC.1.2.2.2.2.2.2.2.1) ?_
        refine Go.iconst (v := 1) dX7_meals_104 (by decide) ?_
        refine Go.iadd dX7_meals_105 ?_
        refine Go.putI dX7_meals_106 fpX7_163 (shp hG rfl) rfl rfl rfl ?_
        refine Go.nmM (fun N7 eN7 => ?_)
        refine Go.iinc (v := nI (i + 1)) (ls' := [some (.ref 49), some (.int (nI k)), some (.int (nI m)), some (.int (nI (i + 1))), some (.int (nI q))]) dX7_meals_109 rfl (nI_1 _) rfl rfl ?_
        have hsM : Same [59] (mealN N (uN u) (nI k) (dishN q) (uY u)) N7 := by
          have z := hsb
          rw [eE] at z
          rw [eN7]
          refine ⟨fun a ha => ?_, ?_⟩
          · by_cases h49 : a = 49
            · subst h49
              rw [rd_eq, z.1 49 (by decide)]
              unfold mealN
              rw [rd_eq]
            · rw [rd_ne h49, z.1 a ha]
              unfold mealN
              rw [rd_ne h49]
          · show _ = _
            rw [rd_l, z.2]
            rfl
        have hC2 := hC.setU (hC.1.meal k (dishN q)) ((mealN_same N _ _ _ _).mono (by decide)) (mealN_49 N _ _ _ _ (by decide) (by decide)) (mealN_49 N _ _ _ _ (by decide) (by decide))
        rw [setU_setU] at hC2
        have hC3 := hC2.1.mk59 hsM
        have hM3 : MarkIs N7 (kc (mealU u k (dishN q))) := by
          rw [kc_meal]
          rw [if_pos rfl, if_pos rfl] at hMb
          exact hMb.same (by rw [eN7, rd_ne (by decide)])
        refine Go.aload_n dX7_meals_112 rfl ?_
        refine Go.callVI [] dX7_meals_113 lkX7_184 imX7_bestPlace seX7_bestPlace cbX7_bestPlace (m_bestPlace hG hC3.1.2.2.2.2.2.2.2 hM3) (shp hG rfl) rfl rfl rfl (Nat.le_of_ble_eq_true rfl) (fun r8 M9 hr8 => ?_)
        obtain ⟨hpl, hple⟩ := hr8
        refine Go.istore (ls' := [some (.ref 49), some (.int (nI k)), some (.int (nI m)), some (.int (nI (i + 1))), some (.int r8)]) dX7_meals_116 (Nat.le_of_ble_eq_true rfl) rfl rfl ?_
        refine Go.goto 55 dX7_meals_118 rfl ?_
        rw [hple]
        refine ih (i + 1) _ (mealU u k (dishN q)) _ (by omega) hC3.1 ((hmm.trans hC2.2).trans hC3.2) (mealU_ok hu hn29 hk hq9 (by omega)) hM3 (hC3.1.1.conv9 hpl) ?_ ?_
        · show (uY u + 1).toInt + _ ≤ 9999
          have e1 : ((1 : Int32)).toInt = 1 := by decide
          rw [addInt2 (by have := hu.2.2.2.2.2.2; omega) (by omega), e1]
          omega
        · rw [hT, mealsN_some (by omega) hb, show i + 1 + (mealsN k n (mealU u k (dishN q))).1 = i + ((mealsN k n (mealU u k (dishN q))).1 + 1) by omega]
set_option maxRecDepth 20000 in
theorem m_meals {G : Gt} {d : Nat} {M : Mm} (hG : gS G = SHAPE) {g : Sg} (hC : ModIs M g) (hg : SgOk g) (k0 n0 : Int32) : ExI G (d + 4) mX7_meals [.ref 49, .int k0, .int n0] M (fun r M' => r = (A_meals g k0 n0).1 ∧ ModIs M' (A_meals g k0 n0).2 ∧ CSame M M') := by
  refine Ex.of (by decide) (Nat.le_of_ble_eq_true rfl) ?_
  have hB := hC.1.bk hg.1
  have hn30 := hg.1.1
  show Go G (d + 4) mX7_meals 0 [some (.ref 49), some (.int k0), some (.int n0), none, none] [] M _
  by_cases hgd : (inb k0 6 && inI n0 1 30) = true
  · rw [Bool.and_eq_true] at hgd
    obtain ⟨k, hk, ek⟩ := inb_ex (n := 6) hgd.1 (by decide)
    obtain ⟨m, hm1, hm30, em⟩ := in30 hgd.2
    subst ek
    subst em
    have hA0 : A_meals g (nI k) (nI m) = (if uY (gU g) + nI m ≤ 9999 then (nI (mealsN k m (gU g)).1, setU g (mealsN k m (gU g)).2) else (-1000000005, fndS g 4)) := by
      have h9 : A_meals g (nI k) (nI m) = _ := if_pos (by rw [hgd.1, hgd.2]; rfl)
      rw [tN_nI (by omega), tN_nI (by omega)] at h9
      exact h9
    rw [hA0]
    clear hA0
    refine Go.iload_n dX7_meals_0 rfl ?_
    refine Go.callSI [] dX7_meals_1 lkX7_159 stX7_isKind cbX7_isKind (m_isKind (nI k)) rfl rfl (Nat.le_of_ble_eq_true rfl) (fun r1 M2 hr1 => ?_)
    obtain ⟨er1, emr1⟩ := hr1
    rw [emr1]
    clear emr1 M2
    subst er1
    refine Go.eqI (y := 1) (by rw [inI_kind, hgd.1]; rfl) ?_
    refine Go.if_eq 17 dX7_meals_4 rfl (fun h4 => absurd h4 (by decide)) (fun _ => ?_)
    refine Go.iload_n dX7_meals_7 rfl ?_
    refine Go.iconst (v := 1) dX7_meals_8 (by decide) ?_
    refine Go.bipush (v := 30) dX7_meals_9 (by decide) ?_
    refine Go.callSI [] dX7_meals_11 lkX7_86 stX7_in cbX7_in (m_in (nI m) 1 30) rfl rfl (Nat.le_of_ble_eq_true rfl) (fun r3 M4 hr3 => ?_)
    obtain ⟨er3, emr3⟩ := hr3
    rw [emr3]
    clear emr3 M4
    subst er3
    refine Go.eqI (y := 1) (by rw [hgd.2]; rfl) ?_
    refine Go.if_ne 24 dX7_meals_14 rfl (fun _ => ?_) (fun h14 => absurd h14 (by decide))
    refine Go.aload_n dX7_meals_24 rfl ?_
    refine Go.getI dX7_meals_25 flX7_163 (shp hG rfl) rfl ?_
    refine Go.eqI (y := uY (gU g)) (hC.1.2.2.2.2.2.2.2.1) ?_
    refine Go.iload_n dX7_meals_28 rfl ?_
    refine Go.iadd dX7_meals_29 ?_
    refine Go.sipush (v := 9999) dX7_meals_30 (by decide) ?_
    refine Go.icmp_le 43 dX7_meals_33 rfl (fun h33 => ?_) (fun h33 => ?_)
    · rw [if_pos h33]
      refine Go.aload_n dX7_meals_43 rfl ?_
      refine Go.callVV [] dX7_meals_44 lkX7_153 imX7_marks seX7_marks cbX7_marks (m_marks hG hB hC.2.2.2.2.2.2.2) (shp hG rfl) rfl rfl rfl (Nat.le_of_ble_eq_true rfl) (fun M6 hr5 => ?_)
      have hqm := hC.qm (QM.mk59 hr5.2)
      refine Go.iconst (v := 0) dX7_meals_47 (by decide) ?_
      refine Go.istore_n (ls' := [some (.ref 49), some (.int (nI k)), some (.int (nI m)), some (.int 0), none]) dX7_meals_48 (Nat.le_of_ble_eq_true rfl) rfl rfl ?_
      refine Go.aload_n dX7_meals_49 rfl ?_
      refine Go.callVI [] dX7_meals_50 lkX7_184 imX7_bestPlace seX7_bestPlace cbX7_bestPlace (m_bestPlace hG hqm.1.2.2.2.2.2.2.2 hr5.1) (shp hG rfl) rfl rfl rfl (Nat.le_of_ble_eq_true rfl) (fun r7 M8 hr7 => ?_)
      obtain ⟨hpl, hple⟩ := hr7
      refine Go.istore (ls' := [some (.ref 49), some (.int (nI k)), some (.int (nI m)), some (.int 0), some (.int r7)]) dX7_meals_53 (Nat.le_of_ble_eq_true rfl) rfl rfl ?_
      rw [hple]
      exact l_mealsM hG hk hm30 m 0 _ (gU g) _ (by omega) hqm.1 hqm.2 hg.1 hr5.1 (hqm.1.1.conv9 hpl) (by have := day_sum hg.1 hm30; rw [i_le] at h33; rw [this] at h33; exact h33) (by simp)
    · refine Go.aload_n dX7_meals_36 rfl ?_
      refine Go.ldc dX7_meals_37 kcX7_187 ?_
      refine Go.callVI [] dX7_meals_39 lkX7_104 imX7_finds seX7_finds cbX7_finds (m_finds hG (code := (-1000000005)) (q := 4) (by decide) (by decide)) (shp hG rfl) rfl rfl rfl (Nat.le_of_ble_eq_true rfl) (fun r9 M10 hr9 => ?_)
      refine Go.iret dX7_meals_42 rfl rfl ?_
      refine ⟨_, rfl, ?_⟩
      rw [if_neg h33, hr9.2]
      exact ⟨hr9.1, hC.fnd⟩
  · refine Go.iload_n dX7_meals_0 rfl ?_
    refine Go.callSI [] dX7_meals_1 lkX7_159 stX7_isKind cbX7_isKind (m_isKind k0) rfl rfl (Nat.le_of_ble_eq_true rfl) (fun r1 M2 hr1 => ?_)
    obtain ⟨er1, emr1⟩ := hr1
    rw [emr1]
    clear emr1 M2
    subst er1
    refine Go.if_eq 17 dX7_meals_4 rfl (fun h4 => ?_) (fun h4 => ?_)
    · refine Go.aload_n dX7_meals_17 rfl ?_
      refine Go.ldc dX7_meals_18 kcX7_85 ?_
      refine Go.callVI [] dX7_meals_20 lkX7_104 imX7_finds seX7_finds cbX7_finds (m_finds hG (code := (-1000000001)) (q := 0) (by decide) (by decide)) (shp hG rfl) rfl rfl rfl (Nat.le_of_ble_eq_true rfl) (fun r3 M4 hr3 => ?_)
      refine Go.iret dX7_meals_23 rfl rfl ?_
      refine ⟨_, rfl, ?_⟩
      rw [show A_meals g k0 n0 = ((-1000000001), fndS g 0) from if_neg hgd, hr3.2]
      exact ⟨hr3.1, hC.fnd⟩
    · refine Go.iload_n dX7_meals_7 rfl ?_
      refine Go.iconst (v := 1) dX7_meals_8 (by decide) ?_
      refine Go.bipush (v := 30) dX7_meals_9 (by decide) ?_
      refine Go.callSI [] dX7_meals_11 lkX7_86 stX7_in cbX7_in (m_in n0 1 30) rfl rfl (Nat.le_of_ble_eq_true rfl) (fun r5 M6 hr5 => ?_)
      obtain ⟨er5, emr5⟩ := hr5
      rw [emr5]
      clear emr5 M6
      subst er5
      refine Go.if_ne 24 dX7_meals_14 rfl (fun h14 => ?_) (fun h14 => ?_)
      · exact absurd (by rw [← inI_kind, bi_n0.mp h4, bi_n0.mp h14]; rfl) hgd
      · refine Go.aload_n dX7_meals_17 rfl ?_
        refine Go.ldc dX7_meals_18 kcX7_85 ?_
        refine Go.callVI [] dX7_meals_20 lkX7_104 imX7_finds seX7_finds cbX7_finds (m_finds hG (code := (-1000000001)) (q := 0) (by decide) (by decide)) (shp hG rfl) rfl rfl rfl (Nat.le_of_ble_eq_true rfl) (fun r7 M8 hr7 => ?_)
        refine Go.iret dX7_meals_23 rfl rfl ?_
        refine ⟨_, rfl, ?_⟩
        rw [show A_meals g k0 n0 = ((-1000000001), fndS g 0) from if_neg hgd, hr7.2]
        exact ⟨hr7.1, hC.fnd⟩
