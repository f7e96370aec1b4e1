def S0 (x : Nat) : Bf := (fun z => if z = plN x then some 0 else none, fun _ => plN x, 1)
theorem S0_wf {x : Nat} (hx : okD x = true) : Wf (S0 x) := by
  have hp := (plN_lt hx).1
  have d0 : bD (S0 x) (plN x) = some 0 := if_pos rfl
  refine ⟨(by decide : (1 : Nat) ≤ 1840), fun j hj => ⟨hp, 0, d0, Nat.zero_le _⟩, fun p hp2 e he => ⟨0, (by decide : (0 : Nat) < 1), ?_⟩, fun i j e e' hij hj h1 h2 => ?_, fun n => ?_⟩
  · have he' : (if p = plN x then some 0 else none) = some e := he
    by_cases z : p = plN x
    · exact z.symm
    · rw [if_neg z] at he'; cases he'
  · have a : bD (S0 x) (plN x) = some e := h1
    have b : bD (S0 x) (plN x) = some e' := h2
    rw [d0] at a b
    cases a
    cases b
    exact Nat.le_refl _
  · have a := cnt_up (p := fun _ => false) (p' := fun p => leO (bD (S0 x) p) n) (z := plN x) rfl (fun i hi => by show leO (if i = plN x then some 0 else none) n = false; rw [if_neg hi]; rfl) 1840
    have b : cntN (fun _ => false) 1840 = 0 := by unfold cntN; exact sumN_0 _ (fun _ _ => rfl)
    rw [a, b]
    have d : leO (bD (S0 x) (plN x)) n = true := by rw [d0]; rfl
    rw [if_pos ⟨hp, d⟩]
    show cntN (fun j => leO (bD (S0 x) (bW (S0 x) j)) n) (0 + 1) = _
    rw [cnt_s]
    have e : leO (bD (S0 x) (bW (S0 x) 0)) n = true := d
    rw [if_pos e]
    rfl
theorem S0_oi {F : Nat → Int32} {c : Nat → Nat} {x : Nat} {gd : Nat → Bool} (hx : okD x = true) : Oi F c x gd (S0 x) 0 := by
  have d0 : bD (S0 x) (plN x) = some 0 := if_pos rfl
  refine ⟨S0_wf hx, Nat.zero_le _, fun e0 _ _ j hj e he => ?_, fun j hj => by omega, fun p hp e he => ?_, d0⟩
  · have a : bD (S0 x) (plN x) = some e := he
    rw [d0] at a
    cases a
    omega
  · have he' : (if p = plN x then some 0 else none) = some e := he
    by_cases z : p = plN x
    · rw [if_pos z] at he'
      cases he'
      rw [z]
      exact decide_eq_true (plN_lt hx).2
    · rw [if_neg z] at he'; cases he'
/-- what a search leaves -/
def Fnd (F : Nat → Int32) (c : Nat → Nat) (x : Nat) (N : Mm) : Prop := ∃ S, Fs N S (fun p => goodP F c (dishN p)) ∧ Wf S ∧ ∀ n p, p < 1840 → leO (bD S p) n = Rb F c x n (dishN p)
set_option maxRecDepth 20000 in
theorem l_find2 {G : Gt} {d : Nat} {Mb : Mm} (hG : gS G = SHAPE) {F : Nat → Int32} {c : Nat → Nat} {x : Nat} (hxo : okD x = true) (hMd : MdS Mb) : ∀ (n i : Nat) (N : Mm) (S : Bf), i + n = 1840 → Fs N S (fun p => goodP F c (dishN p)) → FsF Mb N → Oi F c x (fun p => goodP F c (dishN p)) S i → Go G (d + 2) mX7_findSteps 67 [some (.ref 49), some (.int (nI x)), some (.int (nI i))] [] N (fun v M' => v = none ∧ Fnd F c x M' ∧ FsF Mb M') := by
  intro n
  induction n with
  | zero =>
    intro i N S hin hF hFF hO
    have hm1 := hO.1.1
    have hm2 := hO.2.1
    refine Go.iload_n dX7_findSteps_67 rfl ?_
    refine Go.aload_n dX7_findSteps_68 rfl ?_
    refine Go.getI dX7_findSteps_69 flX7_206 (shp hG rfl) rfl ?_
    refine Go.eqI (y := nI (bM S)) (hF.1) ?_
    refine Go.icmp_ge 91 dX7_findSteps_72 rfl (fun _ => ?_) (fun h72 => absurd (nI_le (a := bM S) (b := i) (by omega) (by omega)) h72)
    refine Go.vret dX7_findSteps_91 rfl ?_
    exact ⟨rfl, ⟨S, hF, hO.1, Oi.fin hxo (fun _ _ => rfl) (by rw [show bM S = i by have := hO.2.1; have := hO.1.1; omega]; exact hO)⟩, hFF⟩
  | succ n ih =>
    intro i N S hin hF hFF hO
    have hi : i < 1840 := by omega
    have hm1 := hO.1.1
    have hm2 := hO.2.1
    refine Go.iload_n dX7_findSteps_67 rfl ?_
    refine Go.aload_n dX7_findSteps_68 rfl ?_
    refine Go.getI dX7_findSteps_69 flX7_206 (shp hG rfl) rfl ?_
    refine Go.eqI (y := nI (bM S)) (hF.1) ?_
    refine Go.icmp_ge 91 dX7_findSteps_72 rfl (fun h72 => ?_) (fun h72 => ?_)
    · have n72 : (bM S) ≤ i := (nI_leI (a := (bM S)) (b := i) (by omega) (by omega)).mp h72
      refine Go.vret dX7_findSteps_91 rfl ?_
      exact ⟨rfl, ⟨S, hF, hO.1, Oi.fin hxo (fun _ _ => rfl) (by rw [show bM S = i by have := hO.2.1; have := hO.1.1; omega]; exact hO)⟩, hFF⟩
    · have n72 : ¬ (bM S) ≤ i := fun q => h72 ((nI_leI (a := (bM S)) (b := i) (by omega) (by omega)).mpr q)
      obtain ⟨hw1, e0, he0, hle0⟩ := hO.1.2.1 i (by omega)
      have hI : Iv S i e0 := ⟨hO.1, by omega, he0, fun j hj e he => hO.2.2.1 e0 (by omega) he0 j hj e he⟩
      refine Go.aload_n dX7_findSteps_75 rfl ?_
      refine Go.aload_n dX7_findSteps_76 rfl ?_
      refine Go.getR dX7_findSteps_77 flX7_50 (shp hG rfl) rfl ?_
      refine Go.iload_n dX7_findSteps_80 rfl ?_
      refine Go.iald dX7_findSteps_81 (shp hG rfl) (vin (by omega) (by decide)) ?_
      refine Go.eqI (y := nI (bW S i)) (by rw [ncl (by omega)]; exact hF.2.2.1 i (by omega)) ?_
      refine Go.callVV [] dX7_findSteps_82 lkX7_216 imX7_goesFrom seX7_goesFrom cbX7_goesFrom (m_goesFrom hG (k := i) (e0 := e0) hw1 (hFF.mds hMd) hF hI rfl) (shp hG rfl) rfl rfl rfl (Nat.le_of_ble_eq_true rfl) (fun M2 hr1 => ?_)
      obtain ⟨S', hJ, hdn⟩ := hr1
      refine Go.iinc (v := nI (i + 1)) (ls' := [some (.ref 49), some (.int (nI x)), some (.int (nI (i + 1)))]) dX7_findSteps_85 rfl (nI_1 _) rfl rfl ?_
      refine Go.goto 67 dX7_findSteps_88 rfl ?_
      exact ih (i + 1) M2 S' (by omega) hJ.1 (hFF.trans hJ.2.1) (hO.next (fun _ _ => rfl) (by omega) he0 hJ.2.2.1 hJ.2.2.2.1 hJ.2.2.2.2 hdn)
theorem k_isGood {G : Gt} {d : Nat} {M : Mm} (hG : gS G = SHAPE) (hS : MdS M) {c : Nat → Nat} (hM : MarkIs M c) {F : Nat → Int32} (hF : M.1 50 = F) {p : Nat} (hp : p < 1840) : ExI G (d + 2) mX7_isGood [.ref 49, .int (nI p)] M (fun r M' => r = bi (goodP F c (dishN p)) ∧ M' = M) := by
  subst hF
  exact m_isGood hG hS hM hp
set_option maxRecDepth 20000 in
theorem l_find1 {G : Gt} {d : Nat} {M1 : Mm} (hG : gS G = SHAPE) {F : Nat → Int32} {c : Nat → Nat} {x : Nat} (hMd : MdS M1) (hMk : MarkIs M1 c) (hF0 : M1.1 50 = F) {post : Option Value → Mm → Prop} (hout : ∀ N, Same [62, 64] M1 N → (∀ p, p < 1840 → N.1 62 p = -1 ∧ N.1 64 p = bi (goodP F c (dishN p))) → Go G (d + 3) mX7_findSteps 37 [some (.ref 49), some (.int (nI x)), some (.int (nI 1840))] [] N post) : ∀ (n i : Nat) (N : Mm), i + n = 1840 → Same [62, 64] M1 N → (∀ p, p < i → N.1 62 p = -1 ∧ N.1 64 p = bi (goodP F c (dishN p))) → Go G (d + 3) mX7_findSteps 6 [some (.ref 49), some (.int (nI x)), some (.int (nI i))] [] N post := by
  intro n
  induction n with
  | zero =>
    intro i N hin hSm hA
    refine Go.iload_n dX7_findSteps_6 rfl ?_
    refine Go.sipush (v := 1840) dX7_findSteps_7 (by decide) ?_
    refine Go.icmp_ge 37 dX7_findSteps_10 rfl (fun _ => ?_) (fun h10 => absurd (nI_le (a := 1840) (b := i) (by omega) (by omega)) h10)
    have e9 : i = 1840 := by omega
    subst e9
    exact hout N hSm hA
  | succ n ih =>
    intro i N hin hSm hA
    have hi : i < 1840 := by omega
    refine Go.iload_n dX7_findSteps_6 rfl ?_
    refine Go.sipush (v := 1840) dX7_findSteps_7 (by decide) ?_
    refine Go.icmp_ge 37 dX7_findSteps_10 rfl (fun h10 => absurd h10 (nI_ge (a := i) (b := 1840) (by omega) (by omega))) (fun _ => ?_)
    refine Go.aload_n dX7_findSteps_13 rfl ?_
    refine Go.getR dX7_findSteps_14 flX7_47 (shp hG rfl) rfl ?_
    refine Go.iload_n dX7_findSteps_17 rfl ?_
    refine Go.iconst (v := -1) dX7_findSteps_18 (by decide) ?_
    refine Go.iast dX7_findSteps_19 (shp hG rfl) (vin (by omega) (by decide)) ?_
    refine Go.nmM (fun N1 eN1 => ?_)
    have hr1 : ∀ a, a ≠ 62 → a ≠ 64 → N1.1 a = M1.1 a := fun a q1 q2 => by rw [eN1, rd_ne q1]; exact hSm.1 a (by simp [q1, q2])
    have hMd1 : MdS N1 := hMd.same (hr1 57 (by decide) (by decide)) (hr1 58 (by decide) (by decide))
    have hMk1 : MarkIs N1 c := hMk.same (hr1 59 (by decide) (by decide))
    have hF1 : N1.1 50 = F := by rw [hr1 50 (by decide) (by decide)]; exact hF0
    refine Go.aload_n dX7_findSteps_20 rfl ?_
    refine Go.getR dX7_findSteps_21 flX7_53 (shp hG rfl) rfl ?_
    refine Go.iload_n dX7_findSteps_24 rfl ?_
    refine Go.aload_n dX7_findSteps_25 rfl ?_
    refine Go.iload_n dX7_findSteps_26 rfl ?_
    refine Go.callVI [.int (nI i), .ref 64] dX7_findSteps_27 lkX7_156 imX7_isGood seX7_isGood cbX7_isGood (k_isGood hG hMd1 hMk1 hF1 (p := i) (by omega)) (shp hG rfl) rfl rfl rfl (Nat.le_of_ble_eq_true rfl) (fun r2 M3 hr2 => ?_)
    obtain ⟨er2, emr2⟩ := hr2
    rw [emr2]
    clear emr2 M3
    subst er2
    refine Go.zast dX7_findSteps_30 (shp hG rfl) (vin (by omega) (by decide)) ?_
    refine Go.nmM (fun N4 eN4 => ?_)
    refine Go.iinc (v := nI (i + 1)) (ls' := [some (.ref 49), some (.int (nI x)), some (.int (nI (i + 1)))]) dX7_findSteps_31 rfl (nI_1 _) rfl rfl ?_
    refine Go.goto 6 dX7_findSteps_34 rfl ?_
    have eA : N1 = upi N 62 i (-1) := by rw [eN1, ncl (by omega)]
    have eB : N4 = upi N1 64 i (bi (goodP F c (dishN i))) := by rw [eN4, ncl (by omega), bi_vp]
    refine ih (i + 1) N4 (by omega) (hSm.trans (by rw [eB, eA]; exact (Same.upi N 62 _ _ (by decide)).trans (Same.upi _ 64 _ _ (by decide)))) (fun p hp => ?_)
    rw [eB, rd_ne (by decide), rd_eq, eA, rd_eq, rd_ne (by decide)]
    unfold upd
    by_cases z : p = i
    · rw [if_pos z, if_pos z, z]; exact ⟨rfl, rfl⟩
    · rw [if_neg z, if_neg z]; exact hA p (by omega)
set_option maxRecDepth 20000 in
theorem m_findSteps {G : Gt} {d : Nat} {M : Mm} (hG : gS G = SHAPE) {n9 : Nat} {K X : Nat → Nat} {ed : Nat} (hB : BkM M n9 K X ed) (hS0 : MdS M) {F : Nat → Int32} (hF0 : M.1 50 = F) {c : Nat → Nat} (hc : c = cB n9 K X ed) {x : Nat} (hxo : okD x = true) : ExV G (d + 4) mX7_findSteps [.ref 49, .int (nI x)] M (fun M' => Fnd F c x M' ∧ MarkIs M' c ∧ Same [49, 59, 62, 63, 64] M M' ∧ ∀ j, j ≠ 18 → M'.1 49 j = M.1 49 j) := by
  subst hc
  refine Ex.of (by decide) (Nat.le_of_ble_eq_true rfl) ?_
  show Go G (d + 4) mX7_findSteps 0 [some (.ref 49), some (.int (nI x)), none] [] M _
  obtain ⟨c, hc⟩ : ∃ c, c = cB n9 K X ed := ⟨_, rfl⟩
  rw [← hc]
  have hx5 := okD_lt hxo
  refine Go.aload_n dX7_findSteps_0 rfl ?_
  refine Go.callVV [] dX7_findSteps_1 lkX7_153 imX7_marks seX7_marks cbX7_marks (m_marks hG hB hS0) (shp hG rfl) rfl rfl rfl (Nat.le_of_ble_eq_true rfl) (fun M2 hr1 => ?_)
  obtain ⟨hMk, hs59⟩ := hr1
  refine Go.iconst (v := 0) dX7_findSteps_4 (by decide) ?_
  refine Go.istore_n (ls' := [some (.ref 49), some (.int (nI x)), some (.int 0)]) dX7_findSteps_5 (Nat.le_of_ble_eq_true rfl) rfl rfl ?_
  rw [← hc] at hMk
  have hMd1 : MdS M2 := hS0.same (hs59.1 57 (by decide)) (hs59.1 58 (by decide))
  refine l_find1 (F := F) hG hMd1 hMk (by rw [hs59.1 50 (by decide)]; exact hF0) (fun N1 hSm1 hA1 => ?_) 1840 0 M2 (by omega) (Same.refl _ _) (fun p hp => by omega)
  have hMd2 : MdS N1 := hMd1.same (hSm1.1 57 (by decide)) (hSm1.1 58 (by decide))
  refine Go.aload_n dX7_findSteps_37 rfl ?_
  refine Go.iconst (v := 1) dX7_findSteps_38 (by decide) ?_
  refine Go.putI dX7_findSteps_39 fpX7_206 (shp hG rfl) rfl rfl rfl ?_
  refine Go.nmM (fun N51 eN51 => ?_)
  refine Go.aload_n dX7_findSteps_42 rfl ?_
  refine Go.getR dX7_findSteps_43 flX7_50 (shp hG rfl) rfl ?_
  refine Go.iconst (v := 0) dX7_findSteps_46 (by decide) ?_
  refine Go.aload_n dX7_findSteps_47 rfl ?_
  refine Go.iload_n dX7_findSteps_48 rfl ?_
  refine Go.callVI [.int 0, .ref 63] dX7_findSteps_49 lkX7_213 imX7_placeOf seX7_placeOf cbX7_placeOf (m_placeOf hG (hMd2.same (by rw [eN51, rd_ne (by decide)]) (by rw [eN51, rd_ne (by decide)])) (x := x) hxo) (shp hG rfl) rfl rfl rfl (Nat.le_of_ble_eq_true rfl) (fun r52 M53 hr52 => ?_)
  obtain ⟨er52, emr52⟩ := hr52
  rw [emr52]
  clear emr52 M53
  subst er52
  refine Go.iast dX7_findSteps_52 (shp hG rfl) (vin (i := 0) (by decide) (by decide)) ?_
  refine Go.nmM (fun N54 eN54 => ?_)
  refine Go.aload_n dX7_findSteps_53 rfl ?_
  refine Go.getR dX7_findSteps_54 flX7_47 (shp hG rfl) rfl ?_
  refine Go.aload_n dX7_findSteps_57 rfl ?_
  refine Go.getR dX7_findSteps_58 flX7_50 (shp hG rfl) rfl ?_
  refine Go.iconst (v := 0) dX7_findSteps_61 (by decide) ?_
  refine Go.iald dX7_findSteps_62 (shp hG rfl) (vin (i := 0) (by decide) (by decide)) ?_
  refine Go.eqI (y := nI (plN x)) (by rw [eN54, cl0, rd_eq]; simp [upd]) ?_
  refine Go.iconst (v := 0) dX7_findSteps_63 (by decide) ?_
  refine Go.iast dX7_findSteps_64 (shp hG rfl) (vin (plN_lt hxo).1 (by decide)) ?_
  refine Go.nmM (fun N55 eN55 => ?_)
  refine Go.iconst (v := 0) dX7_findSteps_65 (by decide) ?_
  refine Go.istore_n (ls' := [some (.ref 49), some (.int (nI x)), some (.int 0)]) dX7_findSteps_66 (Nat.le_of_ble_eq_true rfl) rfl rfl ?_
  have hpl := (plN_lt hxo).1
  have eA : N51 = upi N1 49 18 1 := eN51
  have eB : N54 = upi N51 63 0 (nI (plN x)) := by rw [eN54, cl0]
  have eC : N55 = upi N54 62 (plN x) 0 := by rw [eN55, ncl (by omega)]
  have hFs : Fs N55 (S0 x) (fun p => goodP F c (dishN p)) := by
    refine ⟨by rw [eC, rd_ne (by decide), eB, rd_ne (by decide), eA, rd_eq]; simp [upd]; rfl, fun p hp => ?_, fun j hj => ?_, fun p hp => ?_⟩
    · rw [eC, rd_eq]
      show upd (N54.1 62) (plN x) 0 p = optI (-1) (if p = plN x then some 0 else none)
      unfold upd
      by_cases z : p = plN x
      · rw [if_pos z, if_pos z]; rfl
      · rw [if_neg z, if_neg z, eB, rd_ne (by decide), eA, rd_ne (by decide)]; exact (hA1 p hp).1
    · have hj0 : j = 0 := by have : j < 1 := hj; omega
      rw [eC, rd_ne (by decide), eB, rd_eq, hj0]
      simp [upd]
      rfl
    · rw [eC, rd_ne (by decide), eB, rd_ne (by decide), eA, rd_ne (by decide)]; exact (hA1 p hp).2
  have hsC : Same [49, 62, 63, 64] M2 N55 := (hSm1.mono (by decide)).trans (by rw [eC, eB, eA]; exact ((Same.upi N1 49 _ _ (by decide)).trans (Same.upi _ 63 _ _ (by decide))).trans (Same.upi _ 62 _ _ (by decide)))
  have h49 : ∀ j, j ≠ 18 → N55.1 49 j = M2.1 49 j := fun j hj => by
    rw [eC, rd_ne (by decide), eB, rd_ne (by decide), eA, rd_eq]
    simp only [upd]
    rw [if_neg hj, hSm1.1 49 (by decide)]
  have hMd3 : MdS N55 := hMd2.same (by rw [hsC.1 57 (by decide), ← hSm1.1 57 (by decide)]) (by rw [hsC.1 58 (by decide), ← hSm1.1 58 (by decide)])
  refine Go.weak (fun v M' ⟨a1, a2, a3⟩ => ⟨a1, a2, hMk.same (by rw [a3.1.1 59 (by decide), hsC.1 59 (by decide)]), (hs59.mono (by decide)).trans ((hsC.mono (by decide)).trans (a3.1.mono (by decide))), fun j hj => by rw [a3.2 j hj, h49 j hj, hs59.1 49 (by decide)]⟩) (l_find2 hG hxo hMd3 1840 0 N55 (S0 x) (by omega) hFs (FsF.refl _) (S0_oi hxo))
