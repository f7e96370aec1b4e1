def okW (f : Nat → Int32) (c : Nat → Nat) (x n y : Nat) : Prop := okG f c y ∧ Rb f c x n y = true
def A_steps (g : Sg) (a b : Int32) : Int32 × Sg := if isDishI a && isDishI b then ornS g (fstF (fun n => Rb (uS (gU g)) (kc (gU g)) (tN a) n (tN b)) 0 1841) else (-1000000001, fndS g 0)
def A_within (g : Sg) (a n : Int32) : Int32 × Sg := if isDishI a && inI n 0 12 then (nI (cntN (fun p => Rb (uS (gU g)) (kc (gU g)) (tN a) (tN n) (dishN p)) 1840), g) else (-1000000001, fndS g 0)
noncomputable def A_walk (g : Sg) (a n : Int32) : Int32 × Sg := if isDishI a && inI n 1 12 then ornS g (bst (okW (uS (gU g)) (kc (gU g)) (tN a) (tN n)) (lk (gU g))) else (-1000000001, fndS g 0)
theorem k_steps {G : Gt} {d : Nat} {M : Mm} (hG : gS G = SHAPE) {f : Nat → Int32} {c : Nat → Nat} {g : Nat → Int32} {ed : Nat} (hS : KS M f c g ed) {x y : Nat} (hx : x < 5120) (hy : y < 5120) : ExI G (d + 2) mX3_stepsBetween [.ref 34, .int (nI x), .int (nI y), .ref 25] M (fun r M' => r = optI (-1) (fstF (fun n => Rb f c x n y) 0 1841) ∧ Same [35, 36] M M') := by
  obtain ⟨f', lt, lw, ls, ⟨⟨fv, h1⟩, hE, _, _, hf⟩, h2, h3⟩ := hS
  refine (s_steps hG hx hy h1.1 hf).mono (fun r M' ⟨a, b⟩ => ⟨?_, b⟩)
  rw [a, fstF_congr (q := fun n => Rb f c x n y) 1841 0 (fun k _ _ => Rb_congr h2 c x k y)]
theorem k_reach {G : Gt} {d : Nat} {M : Mm} (hG : gS G = SHAPE) {f : Nat → Int32} {c : Nat → Nat} {g : Nat → Int32} {ed : Nat} (hS : KS M f c g ed) {x m : Nat} (hx : x < 5120) (hm : m ≤ 12) : ExV G (d + 2) mX3_reach [.ref 34, .int (nI x), .int (nI m), .ref 25] M (fun M' => Rp M' (Rb f c x m) ∧ Same [35, 36] M M') := by
  obtain ⟨f', lt, lw, ls, ⟨⟨fv, h1⟩, hE, _, _, hf⟩, h2, h3⟩ := hS
  exact (s_reach hG hx hm h1.1 hf).mono (fun M' ⟨a, b⟩ => ⟨a.conv (fun y _ => (Rb_congr h2 c x m y).symm), b⟩)
theorem cnt_rb {q : Nat → Bool} (h : ∀ y, okD y = false → q y = false) : sumN (fun j => popN (qM q j)) 256 = cntN (fun p => q (dishN p)) 1840 := by
  have e : ∀ j, popN (qM q j) = sumN (fun m => if q (20 * j + m) then 1 else 0) 20 := fun j => pop_mask _
  rw [sumN_congr 256 (fun j _ => e j), sum_sets (fun s hs ho => sumN_0 20 (fun m hm => by rw [h _ (by rw [okD_at hm]; exact ho)]; rfl))]
  unfold cntN
  rw [blk]
  refine sumN_congr 92 (fun k hk => sumN_congr 20 (fun m hm => ?_))
  show _ = if q (dishN (20 * k + m)) = true then 1 else 0
  rw [dishN_at hm]
theorem k_count {G : Gt} {d : Nat} {M : Mm} (hG : gS G = SHAPE) {q : Nat → Bool} (hR : Rp M q) (h : ∀ y, okD y = false → q y = false) : ExI G (d + 1) mX6_countOf [.ref 35] M (fun r M' => r = nI (cntN (fun p => q (dishN p)) 1840) ∧ M' = M) := by
  refine (s_countOf (k := 35) (w := qM q) (shp hG rfl) (fun j hj => ⟨hR j hj, qM_lt _ _⟩)).mono (fun r M' ⟨a, b⟩ => ⟨?_, b⟩)
  rw [a, cnt_rb h]
theorem k_among {G : Gt} {d : Nat} {M : Mm} (hG : gS G = SHAPE) {f : Nat → Int32} {c : Nat → Nat} {g : Nat → Int32} {ed : Nat} (hS : KS M f c g ed) {x m : Nat} (hR : Rp M (Rb f c x m)) : ExI G (d + 2) mX2_favouriteAmong [.ref 25, .ref 35] M (fun r M' => r = optI (-1) (bst (okW f c x m) g) ∧ M' = M) := by
  obtain ⟨f', lt, lw, ls, ⟨⟨fv, h1⟩, hE, _, _, hf⟩, h2, h3⟩ := hS
  refine (s_among hG h1 (k := 35) (shp hG rfl) (am := qM (Rb f c x m)) (fun s hs => ⟨hR s hs, qM_lt _ _⟩)).mono (fun r M' ⟨a, b⟩ => ⟨?_, b⟩)
  rw [hf] at a
  have e : bst (okA f' c (qM (Rb f c x m)) 92) (likD lt lw ls) = bst (okW f c x m) g := by
    refine bst_congr (fun y => ?_) (funext h3)
    rw [okA_all, okG_congr h2, qM_bit _ _ (show y % 20 < 20 by omega), show 20 * (y / 20) + y % 20 = y by omega]
    rfl
  rcases a.bst with ⟨p, q⟩ | ⟨z, p, q⟩
  · rw [← e, q, p]; rfl
  · rw [← e, q, p]; rfl
theorem KS.pth {M M' : Mm} {f : Nat → Int32} {c : Nat → Nat} {g : Nat → Int32} {ed : Nat} (h : KS M f c g ed) (h2 : Same [35, 36] M M') : KS M' f c g ed := by
  obtain ⟨f', lt, lw, ls, ⟨⟨fv, a1, a2, a3, a4, a5, a6⟩, b, e1, e2, e3⟩, hE, h3⟩ := h
  have g31 := h2.1 31 (by decide)
  exact ⟨f', lt, lw, ls, ⟨⟨fv, a1.same (h2.1 28 (by decide)) (h2.1 29 (by decide)), a2, fun j hj => by rw [h2.1 30 (by decide)]; exact a3 j hj, fun m hm => by rw [g31]; exact a4 m hm, ⟨by rw [g31]; exact a5.1, fun i hi => by rw [h2.1 32 (by decide)]; exact a5.2 i hi⟩, a6⟩, fun s hs => by rw [h2.1 33 (by decide)]; exact b s hs, by rw [h2.1 25 (by decide)]; exact e1, e2, by rw [h2.1 26 (by decide)]; exact e3⟩, hE, h3⟩
theorem bstW_lt {f : Nat → Int32} {c : Nat → Nat} {x n : Nat} {g : Nat → Int32} : ∀ y, bst (okW f c x n) g = some y → y < 2 ^ 31 := fun y h => by
  have := okD_lt (bst_spec h).1.1.1
  omega
set_option maxRecDepth 20000 in
theorem c_steps {G : Gt} {d : Nat} {M : Mm} (hG : gS G = SHAPE) {g : Sg} (hC : CompIs M g) (hg : SgOk g) (a b : Int32) : ExI G (d + 4) mX6_steps [.ref 0, .int a, .int b] M (fun r M' => r = (A_steps g a b).1 ∧ CompIs M' (A_steps g a b).2 ∧ MSame M M') := by
  refine Ex.of (by decide) (Nat.le_of_ble_eq_true rfl) ?_
  show Go G (d + 4) mX6_steps 0 [some (.ref 0), some (.int a), some (.int b)] [] M _
  by_cases hgd : (isDishI a && isDishI b) = true
  · rw [Bool.and_eq_true] at hgd
    obtain ⟨x, hx, ea, hxo⟩ := isDishI_ok hgd.1
    obtain ⟨y, hy, eb, hyo⟩ := isDishI_ok hgd.2
    subst ea
    subst eb
    have hA0 : A_steps g (nI x) (nI y) = ornS g (fstF (fun n => Rb (uS (gU g)) (kc (gU g)) x n y) 0 1841) := by
      have h9 : A_steps g (nI x) (nI y) = _ := if_pos (by rw [hgd.1, hgd.2]; rfl)
      rw [tN_nI (x := x) (by omega), tN_nI (x := y) (by omega)] at h9
      exact h9
    rw [hA0]
    clear hA0
    refine Go.iload_n dX6_steps_0 rfl ?_
    refine Go.callSI [] dX6_steps_1 lkX6_86 stX6_isDish cbX6_isDish (s_isDish (nI x)) rfl rfl (Nat.le_of_ble_eq_true rfl) (fun r1 M2 hr1 => ?_)
    obtain ⟨er1, emr1⟩ := hr1
    rw [emr1]
    clear emr1 M2
    subst er1
    refine Go.eqI (y := 1) (by rw [isDishI_nI (by omega), hxo]; rfl) ?_
    refine Go.if_eq 14 dX6_steps_4 rfl (fun h4 => absurd h4 (by decide)) (fun _ => ?_)
    refine Go.iload_n dX6_steps_7 rfl ?_
    refine Go.callSI [] dX6_steps_8 lkX6_86 stX6_isDish cbX6_isDish (s_isDish (nI y)) rfl rfl (Nat.le_of_ble_eq_true rfl) (fun r3 M4 hr3 => ?_)
    obtain ⟨er3, emr3⟩ := hr3
    rw [emr3]
    clear emr3 M4
    subst er3
    refine Go.eqI (y := 1) (by rw [isDishI_nI (by omega), hyo]; rfl) ?_
    refine Go.if_ne 21 dX6_steps_11 rfl (fun _ => ?_) (fun h11 => absurd h11 (by decide))
    refine Go.aload_n dX6_steps_21 rfl ?_
    refine Go.getR dX6_steps_22 flX6_29 (shp hG rfl) rfl ?_
    refine Go.aload_n dX6_steps_25 rfl ?_
    refine Go.getR dX6_steps_26 flX6_12 (shp hG rfl) rfl ?_
    refine Go.callVV [] dX6_steps_29 lkX6_114 imX2_begin seX2_begin cbX2_begin (k_begin hG hC hg) (shp hG rfl) rfl rfl rfl (Nat.le_of_ble_eq_true rfl) (fun M6 hr5 => ?_)
    obtain ⟨hCk, hmk, hkck, hKk⟩ := hr5
    refine Go.aload_n dX6_steps_32 rfl ?_
    refine Go.aload_n dX6_steps_33 rfl ?_
    refine Go.getR dX6_steps_34 flX6_36 (shp hG rfl) rfl ?_
    refine Go.iload_n dX6_steps_37 rfl ?_
    refine Go.iload_n dX6_steps_38 rfl ?_
    refine Go.aload_n dX6_steps_39 rfl ?_
    refine Go.getR dX6_steps_40 flX6_29 (shp hG rfl) rfl ?_
    refine Go.callVI [.ref 0] dX6_steps_43 lkX6_210 imX3_stepsBetween seX3_stepsBetween cbX3_stepsBetween (k_steps hG hKk (by omega) (by omega)) (shp hG rfl) rfl rfl rfl (Nat.le_of_ble_eq_true rfl) (fun r7 M8 hr7 => ?_)
    obtain ⟨er7, hsp⟩ := hr7
    refine Go.callVI [] dX6_steps_46 lkX6_137 imX6_orNone seX6_orNone cbX6_orNone (s_orNone hG r7) (shp hG rfl) rfl rfl rfl (Nat.le_of_ble_eq_true rfl) (fun r9 M10 hr9 => ?_)
    refine Go.iret dX6_steps_49 rfl rfl ?_
    have hk9 := hCk.kc (hsp.mono (by decide))
    exact ⟨_, rfl, orn_c (hmk.trans hk9.2) hk9.1 er7 (fun i hi => by have := (fstF_some hi).2.1; omega) hr9⟩
  · refine Go.iload_n dX6_steps_0 rfl ?_
    refine Go.callSI [] dX6_steps_1 lkX6_86 stX6_isDish cbX6_isDish (s_isDish a) rfl rfl (Nat.le_of_ble_eq_true rfl) (fun r1 M2 hr1 => ?_)
    obtain ⟨er1, emr1⟩ := hr1
    rw [emr1]
    clear emr1 M2
    subst er1
    refine Go.if_eq 14 dX6_steps_4 rfl (fun h4 => ?_) (fun h4 => ?_)
    · refine Go.aload_n dX6_steps_14 rfl ?_
      refine Go.ldc dX6_steps_15 kcX6_62 ?_
      refine Go.callVI [] dX6_steps_17 lkX6_63 imX6_finding seX6_finding cbX6_finding (s_finding hG (code := (-1000000001)) (q := 0) (by decide) (by decide)) (shp hG rfl) rfl rfl rfl (Nat.le_of_ble_eq_true rfl) (fun r3 M4 hr3 => ?_)
      refine Go.iret dX6_steps_20 rfl rfl ?_
      refine ⟨_, rfl, ?_⟩
      rw [show A_steps g a b = ((-1000000001), fndS g 0) from if_neg hgd, hr3.2]
      exact ⟨hr3.1, hC.fnd⟩
    · refine Go.iload_n dX6_steps_7 rfl ?_
      refine Go.callSI [] dX6_steps_8 lkX6_86 stX6_isDish cbX6_isDish (s_isDish b) rfl rfl (Nat.le_of_ble_eq_true rfl) (fun r5 M6 hr5 => ?_)
      obtain ⟨er5, emr5⟩ := hr5
      rw [emr5]
      clear emr5 M6
      subst er5
      refine Go.if_ne 21 dX6_steps_11 rfl (fun h11 => ?_) (fun h11 => ?_)
      · exact absurd (by simp [bi_n0.mp h4, bi_n0.mp h11]) hgd
      · refine Go.aload_n dX6_steps_14 rfl ?_
        refine Go.ldc dX6_steps_15 kcX6_62 ?_
        refine Go.callVI [] dX6_steps_17 lkX6_63 imX6_finding seX6_finding cbX6_finding (s_finding hG (code := (-1000000001)) (q := 0) (by decide) (by decide)) (shp hG rfl) rfl rfl rfl (Nat.le_of_ble_eq_true rfl) (fun r7 M8 hr7 => ?_)
        refine Go.iret dX6_steps_20 rfl rfl ?_
        refine ⟨_, rfl, ?_⟩
        rw [show A_steps g a b = ((-1000000001), fndS g 0) from if_neg hgd, hr7.2]
        exact ⟨hr7.1, hC.fnd⟩
theorem in12_no {n : Int32} (h1 : ¬ n < 0) (h2 : n ≤ 12) : inI n 0 12 = true := by simp [inI, i_nlt h1, h2]
theorem in12_1 {n : Int32} (h1 : ¬ n < 1) (h2 : n ≤ 12) : inI n 1 12 = true := by simp [inI, i_nlt h1, h2]
set_option maxRecDepth 20000 in
theorem c_within {G : Gt} {d : Nat} {M : Mm} (hG : gS G = SHAPE) {g : Sg} (hC : CompIs M g) (hg : SgOk g) (a n : Int32) : ExI G (d + 4) mX6_within [.ref 0, .int a, .int n] M (fun r M' => r = (A_within g a n).1 ∧ CompIs M' (A_within g a n).2 ∧ MSame M M') := by
  refine Ex.of (by decide) (Nat.le_of_ble_eq_true rfl) ?_
  show Go G (d + 4) mX6_within 0 [some (.ref 0), some (.int a), some (.int n)] [] M _
  by_cases hgd : (isDishI a && inI n 0 12) = true
  · rw [Bool.and_eq_true] at hgd
    obtain ⟨x, hx, ea, hxo⟩ := isDishI_ok hgd.1
    obtain ⟨m, hm1, hm12, em⟩ := inI_nI (a := 0) (b := 12) (by decide) (by decide) hgd.2
    subst ea
    subst em
    have hA0 : A_within g (nI x) (nI m) = (nI (cntN (fun p => Rb (uS (gU g)) (kc (gU g)) x m (dishN p)) 1840), g) := by
      have h9 : A_within g (nI x) (nI m) = _ := if_pos (by rw [hgd.1, hgd.2]; rfl)
      rw [tN_nI (x := x) (by omega), tN_nI (x := m) (by omega)] at h9
      exact h9
    rw [hA0]
    clear hA0
    refine Go.iload_n dX6_within_0 rfl ?_
    refine Go.callSI [] dX6_within_1 lkX6_86 stX6_isDish cbX6_isDish (s_isDish (nI x)) rfl rfl (Nat.le_of_ble_eq_true rfl) (fun r1 M2 hr1 => ?_)
    obtain ⟨er1, emr1⟩ := hr1
    rw [emr1]
    clear emr1 M2
    subst er1
    refine Go.eqI (y := 1) (by rw [isDishI_nI (by omega), hxo]; rfl) ?_
    refine Go.if_eq 17 dX6_within_4 rfl (fun h4 => absurd h4 (by decide)) (fun _ => ?_)
    refine Go.iload_n dX6_within_7 rfl ?_
    refine Go.if_lt 17 dX6_within_8 rfl (fun h8 => absurd h8 (nI_pos (by omega))) (fun _ => ?_)
    refine Go.iload_n dX6_within_11 rfl ?_
    refine Go.bipush (v := 12) dX6_within_12 (by decide) ?_
    refine Go.icmp_le 24 dX6_within_14 rfl (fun _ => ?_) (fun h14 => absurd ((nI_leI (a := m) (b := 12) (by omega) (by decide)).mpr hm12) h14)
    refine Go.aload_n dX6_within_24 rfl ?_
    refine Go.getR dX6_within_25 flX6_29 (shp hG rfl) rfl ?_
    refine Go.aload_n dX6_within_28 rfl ?_
    refine Go.getR dX6_within_29 flX6_12 (shp hG rfl) rfl ?_
    refine Go.callVV [] dX6_within_32 lkX6_114 imX2_begin seX2_begin cbX2_begin (k_begin hG hC hg) (shp hG rfl) rfl rfl rfl (Nat.le_of_ble_eq_true rfl) (fun M4 hr3 => ?_)
    obtain ⟨hCk, hmk, hkck, hKk⟩ := hr3
    refine Go.aload_n dX6_within_35 rfl ?_
    refine Go.getR dX6_within_36 flX6_36 (shp hG rfl) rfl ?_
    refine Go.iload_n dX6_within_39 rfl ?_
    refine Go.iload_n dX6_within_40 rfl ?_
    refine Go.aload_n dX6_within_41 rfl ?_
    refine Go.getR dX6_within_42 flX6_29 (shp hG rfl) rfl ?_
    refine Go.callVV [] dX6_within_45 lkX6_214 imX3_reach seX3_reach cbX3_reach (k_reach hG hKk (by omega) hm12) (shp hG rfl) rfl rfl rfl (Nat.le_of_ble_eq_true rfl) (fun M6 hr5 => ?_)
    obtain ⟨hRp, hsp⟩ := hr5
    refine Go.aload_n dX6_within_48 rfl ?_
    refine Go.getR dX6_within_49 flX6_36 (shp hG rfl) rfl ?_
    refine Go.getR dX6_within_52 flX6_218 (shp hG rfl) rfl ?_
    refine Go.callSI [] dX6_within_55 lkX6_221 stX6_countOf cbX6_countOf (k_count hG hRp (fun y hy => by cases h9 : Rb (uS (gU g)) (kc (gU g)) x m y with | false => rfl | true => rw [Rb_ok hxo m y h9] at hy; cases hy)) rfl rfl (Nat.le_of_ble_eq_true rfl) (fun r7 M8 hr7 => ?_)
    obtain ⟨er7, emr7⟩ := hr7
    rw [emr7]
    clear emr7 M8
    subst er7
    refine Go.iret dX6_within_58 rfl rfl ?_
    have hk9 := hCk.kc (hsp.mono (by decide))
    exact ⟨_, rfl, rfl, hk9.1, hmk.trans hk9.2⟩
  · refine Go.iload_n dX6_within_0 rfl ?_
    refine Go.callSI [] dX6_within_1 lkX6_86 stX6_isDish cbX6_isDish (s_isDish a) rfl rfl (Nat.le_of_ble_eq_true rfl) (fun r1 M2 hr1 => ?_)
    obtain ⟨er1, emr1⟩ := hr1
    rw [emr1]
    clear emr1 M2
    subst er1
    refine Go.if_eq 17 dX6_within_4 rfl (fun h4 => ?_) (fun h4 => ?_)
    · refine Go.aload_n dX6_within_17 rfl ?_
      refine Go.ldc dX6_within_18 kcX6_62 ?_
      refine Go.callVI [] dX6_within_20 lkX6_63 imX6_finding seX6_finding cbX6_finding (s_finding hG (code := (-1000000001)) (q := 0) (by decide) (by decide)) (shp hG rfl) rfl rfl rfl (Nat.le_of_ble_eq_true rfl) (fun r3 M4 hr3 => ?_)
      refine Go.iret dX6_within_23 rfl rfl ?_
      refine ⟨_, rfl, ?_⟩
      rw [show A_within g a n = ((-1000000001), fndS g 0) from if_neg hgd, hr3.2]
      exact ⟨hr3.1, hC.fnd⟩
    · refine Go.iload_n dX6_within_7 rfl ?_
      refine Go.if_lt 17 dX6_within_8 rfl (fun h8 => ?_) (fun h8 => ?_)
      · refine Go.aload_n dX6_within_17 rfl ?_
        refine Go.ldc dX6_within_18 kcX6_62 ?_
        refine Go.callVI [] dX6_within_20 lkX6_63 imX6_finding seX6_finding cbX6_finding (s_finding hG (code := (-1000000001)) (q := 0) (by decide) (by decide)) (shp hG rfl) rfl rfl rfl (Nat.le_of_ble_eq_true rfl) (fun r5 M6 hr5 => ?_)
        refine Go.iret dX6_within_23 rfl rfl ?_
        refine ⟨_, rfl, ?_⟩
        rw [show A_within g a n = ((-1000000001), fndS g 0) from if_neg hgd, hr5.2]
        exact ⟨hr5.1, hC.fnd⟩
      · refine Go.iload_n dX6_within_11 rfl ?_
        refine Go.bipush (v := 12) dX6_within_12 (by decide) ?_
        refine Go.icmp_le 24 dX6_within_14 rfl (fun h14 => ?_) (fun h14 => ?_)
        · exact absurd (by rw [bi_n0.mp h4, in12_no h8 h14]; rfl) hgd
        · refine Go.aload_n dX6_within_17 rfl ?_
          refine Go.ldc dX6_within_18 kcX6_62 ?_
          refine Go.callVI [] dX6_within_20 lkX6_63 imX6_finding seX6_finding cbX6_finding (s_finding hG (code := (-1000000001)) (q := 0) (by decide) (by decide)) (shp hG rfl) rfl rfl rfl (Nat.le_of_ble_eq_true rfl) (fun r7 M8 hr7 => ?_)
          refine Go.iret dX6_within_23 rfl rfl ?_
          refine ⟨_, rfl, ?_⟩
          rw [show A_within g a n = ((-1000000001), fndS g 0) from if_neg hgd, hr7.2]
          exact ⟨hr7.1, hC.fnd⟩
set_option maxRecDepth 20000 in
theorem c_walk {G : Gt} {d : Nat} {M : Mm} (hG : gS G = SHAPE) {g : Sg} (hC : CompIs M g) (hg : SgOk g) (a n : Int32) : ExI G (d + 4) mX6_walk [.ref 0, .int a, .int n] M (fun r M' => r = (A_walk g a n).1 ∧ CompIs M' (A_walk g a n).2 ∧ MSame M M') := by
  refine Ex.of (by decide) (Nat.le_of_ble_eq_true rfl) ?_
  show Go G (d + 4) mX6_walk 0 [some (.ref 0), some (.int a), some (.int n)] [] M _
  by_cases hgd : (isDishI a && inI n 1 12) = true
  · rw [Bool.and_eq_true] at hgd
    obtain ⟨x, hx, ea, hxo⟩ := isDishI_ok hgd.1
    obtain ⟨m, hm1, hm12, em⟩ := inI_nI (a := 1) (b := 12) (by decide) (by decide) hgd.2
    subst ea
    subst em
    have hA0 : A_walk g (nI x) (nI m) = ornS g (bst (okW (uS (gU g)) (kc (gU g)) x m) (lk (gU g))) := by
      have h9 : A_walk g (nI x) (nI m) = _ := if_pos (by rw [hgd.1, hgd.2]; rfl)
      rw [tN_nI (x := x) (by omega), tN_nI (x := m) (by omega)] at h9
      exact h9
    rw [hA0]
    clear hA0
    refine Go.iload_n dX6_walk_0 rfl ?_
    refine Go.callSI [] dX6_walk_1 lkX6_86 stX6_isDish cbX6_isDish (s_isDish (nI x)) rfl rfl (Nat.le_of_ble_eq_true rfl) (fun r1 M2 hr1 => ?_)
    obtain ⟨er1, emr1⟩ := hr1
    rw [emr1]
    clear emr1 M2
    subst er1
    refine Go.eqI (y := 1) (by rw [isDishI_nI (by omega), hxo]; rfl) ?_
    refine Go.if_eq 18 dX6_walk_4 rfl (fun h4 => absurd h4 (by decide)) (fun _ => ?_)
    refine Go.iload_n dX6_walk_7 rfl ?_
    refine Go.iconst (v := 1) dX6_walk_8 (by decide) ?_
    refine Go.icmp_lt 18 dX6_walk_9 rfl (fun h9 => absurd h9 (i_le_n ((nI_leI (a := 1) (b := m) (by decide) (by omega)).mpr hm1))) (fun _ => ?_)
    refine Go.iload_n dX6_walk_12 rfl ?_
    refine Go.bipush (v := 12) dX6_walk_13 (by decide) ?_
    refine Go.icmp_le 25 dX6_walk_15 rfl (fun _ => ?_) (fun h15 => absurd ((nI_leI (a := m) (b := 12) (by omega) (by decide)).mpr hm12) h15)
    refine Go.aload_n dX6_walk_25 rfl ?_
    refine Go.getR dX6_walk_26 flX6_29 (shp hG rfl) rfl ?_
    refine Go.aload_n dX6_walk_29 rfl ?_
    refine Go.getR dX6_walk_30 flX6_12 (shp hG rfl) rfl ?_
    refine Go.callVV [] dX6_walk_33 lkX6_114 imX2_begin seX2_begin cbX2_begin (k_begin hG hC hg) (shp hG rfl) rfl rfl rfl (Nat.le_of_ble_eq_true rfl) (fun M4 hr3 => ?_)
    obtain ⟨hCk, hmk, hkck, hKk⟩ := hr3
    refine Go.aload_n dX6_walk_36 rfl ?_
    refine Go.getR dX6_walk_37 flX6_36 (shp hG rfl) rfl ?_
    refine Go.iload_n dX6_walk_40 rfl ?_
    refine Go.iload_n dX6_walk_41 rfl ?_
    refine Go.aload_n dX6_walk_42 rfl ?_
    refine Go.getR dX6_walk_43 flX6_29 (shp hG rfl) rfl ?_
    refine Go.callVV [] dX6_walk_46 lkX6_214 imX3_reach seX3_reach cbX3_reach (k_reach hG hKk (by omega) hm12) (shp hG rfl) rfl rfl rfl (Nat.le_of_ble_eq_true rfl) (fun M6 hr5 => ?_)
    obtain ⟨hRp, hsp⟩ := hr5
    refine Go.aload_n dX6_walk_49 rfl ?_
    refine Go.aload_n dX6_walk_50 rfl ?_
    refine Go.getR dX6_walk_51 flX6_29 (shp hG rfl) rfl ?_
    refine Go.aload_n dX6_walk_54 rfl ?_
    refine Go.getR dX6_walk_55 flX6_36 (shp hG rfl) rfl ?_
    refine Go.getR dX6_walk_58 flX6_218 (shp hG rfl) rfl ?_
    refine Go.callVI [.ref 0] dX6_walk_61 lkX6_225 imX2_favouriteAmong seX2_favouriteAmong cbX2_favouriteAmong (k_among hG (hKk.pth hsp) hRp) (shp hG rfl) rfl rfl rfl (Nat.le_of_ble_eq_true rfl) (fun r7 M8 hr7 => ?_)
    obtain ⟨er7, emr7⟩ := hr7
    rw [emr7]
    clear emr7 M8
    subst er7
    refine Go.callVI [] dX6_walk_64 lkX6_137 imX6_orNone seX6_orNone cbX6_orNone (s_orNone hG (optI (-1) (bst (okW (uS (gU g)) (kc (gU g)) x m) (lk (gU g))))) (shp hG rfl) rfl rfl rfl (Nat.le_of_ble_eq_true rfl) (fun r9 M10 hr9 => ?_)
    refine Go.iret dX6_walk_67 rfl rfl ?_
    have hk9 := hCk.kc (hsp.mono (by decide))
    exact ⟨_, rfl, orn_c (hmk.trans hk9.2) hk9.1 rfl bstW_lt hr9⟩
  · refine Go.iload_n dX6_walk_0 rfl ?_
    refine Go.callSI [] dX6_walk_1 lkX6_86 stX6_isDish cbX6_isDish (s_isDish a) rfl rfl (Nat.le_of_ble_eq_true rfl) (fun r1 M2 hr1 => ?_)
    obtain ⟨er1, emr1⟩ := hr1
    rw [emr1]
    clear emr1 M2
    subst er1
    refine Go.if_eq 18 dX6_walk_4 rfl (fun h4 => ?_) (fun h4 => ?_)
    · refine Go.aload_n dX6_walk_18 rfl ?_
      refine Go.ldc dX6_walk_19 kcX6_62 ?_
      refine Go.callVI [] dX6_walk_21 lkX6_63 imX6_finding seX6_finding cbX6_finding (s_finding hG (code := (-1000000001)) (q := 0) (by decide) (by decide)) (shp hG rfl) rfl rfl rfl (Nat.le_of_ble_eq_true rfl) (fun r3 M4 hr3 => ?_)
      refine Go.iret dX6_walk_24 rfl rfl ?_
      refine ⟨_, rfl, ?_⟩
      rw [show A_walk g a n = ((-1000000001), fndS g 0) from if_neg hgd, hr3.2]
      exact ⟨hr3.1, hC.fnd⟩
    · refine Go.iload_n dX6_walk_7 rfl ?_
      refine Go.iconst (v := 1) dX6_walk_8 (by decide) ?_
      refine Go.icmp_lt 18 dX6_walk_9 rfl (fun h9 => ?_) (fun h9 => ?_)
      · refine Go.aload_n dX6_walk_18 rfl ?_
        refine Go.ldc dX6_walk_19 kcX6_62 ?_
        refine Go.callVI [] dX6_walk_21 lkX6_63 imX6_finding seX6_finding cbX6_finding (s_finding hG (code := (-1000000001)) (q := 0) (by decide) (by decide)) (shp hG rfl) rfl rfl rfl (Nat.le_of_ble_eq_true rfl) (fun r5 M6 hr5 => ?_)
        refine Go.iret dX6_walk_24 rfl rfl ?_
        refine ⟨_, rfl, ?_⟩
        rw [show A_walk g a n = ((-1000000001), fndS g 0) from if_neg hgd, hr5.2]
        exact ⟨hr5.1, hC.fnd⟩
      · refine Go.iload_n dX6_walk_12 rfl ?_
        refine Go.bipush (v := 12) dX6_walk_13 (by decide) ?_
        refine Go.icmp_le 25 dX6_walk_15 rfl (fun h15 => ?_) (fun h15 => ?_)
        · exact absurd (by rw [bi_n0.mp h4, in12_1 h9 h15]; rfl) hgd
        · refine Go.aload_n dX6_walk_18 rfl ?_
          refine Go.ldc dX6_walk_19 kcX6_62 ?_
          refine Go.callVI [] dX6_walk_21 lkX6_63 imX6_finding seX6_finding cbX6_finding (s_finding hG (code := (-1000000001)) (q := 0) (by decide) (by decide)) (shp hG rfl) rfl rfl rfl (Nat.le_of_ble_eq_true rfl) (fun r7 M8 hr7 => ?_)
          refine Go.iret dX6_walk_24 rfl rfl ?_
          refine ⟨_, rfl, ?_⟩
          rw [show A_walk g a n = ((-1000000001), fndS g 0) from if_neg hgd, hr7.2]
          exact ⟨hr7.1, hC.fnd⟩
