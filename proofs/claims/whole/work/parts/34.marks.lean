theorem part_no {a b : Nat} (h1 : ¬ nI (b &&& a) = nI a) (h2 : ¬ nI (b &&& a) = nI b) (_ : a < 2 ^ 31) (_ : b < 2 ^ 31) : partN a b = false := by
  unfold partN
  rw [Nat.and_comm a b]
  have e1 : ¬ (b &&& a = a) := fun q => h1 (by rw [q])
  have e2 : ¬ (b &&& a = b) := fun q => h2 (by rw [q])
  simp [e1, e2]
theorem part_yes {a b : Nat} (h : nI (b &&& a) = nI a ∨ nI (b &&& a) = nI b) (ha : a < 2 ^ 31) (hb : b < 2 ^ 31) : partN a b = true := by
  have h9 : b &&& a < 2 ^ 31 := Nat.lt_of_le_of_lt Nat.and_le_left hb
  unfold partN
  rw [Nat.and_comm a b]
  rcases h with h | h
  · have := (nI_inj h9 ha).mp h
    simp [this]
  · have := (nI_inj h9 hb).mp h
    simp [this]
set_option maxRecDepth 20000 in
theorem l_marksBy {G : Gt} {d : Nat} {M : Mm} (hG : gS G = SHAPE) {n9 : Nat} {K X : Nat → Nat} {ed : Nat} (hB0 : BkM M n9 K X ed) (hS0 : MdS M) {c : Nat → Nat} {e : Nat} (he : e < n9) {i : Nat} (hi : i < 92) (hpart : partN (X e / 20) (sN i) = true) (hout : ∀ N, MarkTo N c (addC c (K e) (X e) ed) (20 * (i + 1)) → Same [59] M N → Go G (d + 2) mX7_marksBy 12 [some (.ref 49), some (.int (nI e)), some (.int (nI (X e / 20))), some (.int (nI (i + 1))), some (.int (nI (sN i &&& X e / 20))), some (.int (nI (20 * i + 20)))] [] N (fun v M' => v = none ∧ MarkIs M' (addC c (K e) (X e) ed) ∧ Same [59] M M')) : ∀ (n m : Nat) (N : Mm), m + n = 20 → MarkTo N c (addC c (K e) (X e) ed) (20 * i + m) → Same [59] M N → Go G (d + 2) mX7_marksBy 34 [some (.ref 49), some (.int (nI e)), some (.int (nI (X e / 20))), some (.int (nI i)), some (.int (nI (sN i &&& X e / 20))), some (.int (nI (20 * i + m)))] [] N (fun v M' => v = none ∧ MarkIs M' (addC c (K e) (X e) ed) ∧ Same [59] M M') := by
  have hsi := sN_lt hi
  intro n
  induction n with
  | zero =>
    intro m N hin hM hSm
    have hB : BkM N n9 K X ed := hB0.same (by rw [hSm.1 49 (by decide)]) (hSm.1 52 (by decide)) (hSm.1 53 (by decide)) (hSm.1 54 (by decide))
    have hS : MdS N := hS0.same (hSm.1 57 (by decide)) (hSm.1 58 (by decide))
    have hn := hB.1
    have hX5 := okD_lt (hB.2.2.2.2.2 e he).2.1
    have e20 : m = 20 := by omega
    refine Go.iload dX7_marksBy_34 rfl ?_
    refine Go.bipush (v := 20) dX7_marksBy_36 (by decide) ?_
    refine Go.iload_n dX7_marksBy_38 rfl ?_
    refine Go.imul dX7_marksBy_39 ?_
    refine Go.eqI (y := nI (20 * i)) (pk_mul _ _) ?_
    refine Go.bipush (v := 20) dX7_marksBy_40 (by decide) ?_
    refine Go.iadd dX7_marksBy_42 ?_
    refine Go.eqI (y := nI (20 * i + 20)) (nI_add _ _) ?_
    refine Go.icmp_ge 105 dX7_marksBy_43 rfl (fun _ => ?_) (fun h43 => absurd (nI_le (a := 20 * i + 20) (b := 20 * i + m) (by omega) (by omega)) h43)
    refine Go.iinc (v := nI (i + 1)) (ls' := [some (.ref 49), some (.int (nI e)), some (.int (nI (X e / 20))), some (.int (nI (i + 1))), some (.int (nI (sN i &&& X e / 20))), some (.int (nI (20 * i + m)))]) dX7_marksBy_105 rfl (nI_1 _) rfl rfl ?_
    refine Go.goto 12 dX7_marksBy_108 rfl ?_
    have h9 := hout N (by rw [show 20 * (i + 1) = 20 * i + m by omega]; exact hM) hSm
    rw [show 20 * i + m = 20 * i + 20 by omega]
    exact h9
  | succ n ih =>
    intro m N hin hM hSm
    have hB : BkM N n9 K X ed := hB0.same (by rw [hSm.1 49 (by decide)]) (hSm.1 52 (by decide)) (hSm.1 53 (by decide)) (hSm.1 54 (by decide))
    have hS : MdS N := hS0.same (hSm.1 57 (by decide)) (hSm.1 58 (by decide))
    have hn := hB.1
    have hX5 := okD_lt (hB.2.2.2.2.2 e he).2.1
    have hm : m < 20 := by omega
    refine Go.iload dX7_marksBy_34 rfl ?_
    refine Go.bipush (v := 20) dX7_marksBy_36 (by decide) ?_
    refine Go.iload_n dX7_marksBy_38 rfl ?_
    refine Go.imul dX7_marksBy_39 ?_
    refine Go.eqI (y := nI (20 * i)) (pk_mul _ _) ?_
    refine Go.bipush (v := 20) dX7_marksBy_40 (by decide) ?_
    refine Go.iadd dX7_marksBy_42 ?_
    refine Go.eqI (y := nI (20 * i + 20)) (nI_add _ _) ?_
    refine Go.icmp_ge 105 dX7_marksBy_43 rfl (fun h43 => absurd h43 (nI_ge (a := 20 * i + m) (b := 20 * i + 20) (by omega) (by omega))) (fun _ => ?_)
    refine Go.iload dX7_marksBy_46 rfl ?_
    refine Go.iload_n dX7_marksBy_48 rfl ?_
    refine Go.icmp_eq 63 dX7_marksBy_49 rfl (fun h49 => ?_) (fun h49 => ?_)
    · refine Go.aload_n dX7_marksBy_63 rfl ?_
      refine Go.getR dX7_marksBy_64 flX7_37 (shp hG rfl) rfl ?_
      refine Go.iload dX7_marksBy_67 rfl ?_
      refine Go.aload_n dX7_marksBy_69 rfl ?_
      refine Go.getR dX7_marksBy_70 flX7_37 (shp hG rfl) rfl ?_
      refine Go.iload dX7_marksBy_73 rfl ?_
      refine Go.zald dX7_marksBy_75 (shp hG rfl) (vin (by omega) (by decide)) ?_
      refine Go.eqI (y := bi (decide (1 ≤ c (dishN (20 * i + m))))) (by rw [ncl (by omega), hM _ (by omega), if_neg (by omega)]) ?_
      refine Go.if_ne 93 dX7_marksBy_76 rfl (fun h76 => ?_) (fun h76 => ?_)
      · refine Go.iconst (v := 1) dX7_marksBy_93 (by decide) ?_
        refine Go.goto 98 dX7_marksBy_94 rfl ?_
        refine Go.zast dX7_marksBy_98 (shp hG rfl) (vin (by omega) (by decide)) ?_
        refine Go.nmM (fun N1 eN1 => ?_)
        refine Go.iinc (v := nI (20 * i + m + 1)) (ls' := [some (.ref 49), some (.int (nI e)), some (.int (nI (X e / 20))), some (.int (nI i)), some (.int (nI (sN i &&& X e / 20))), some (.int (nI (20 * i + m + 1)))]) dX7_marksBy_99 rfl (nI_1 _) rfl rfl ?_
        refine Go.goto 34 dX7_marksBy_102 rfl ?_
        have e9 : N1 = upi N 59 (20 * i + m) (bi true) := by rw [eN1, ncl (by omega)]; rfl
        exact ih (m + 1) N1 (by omega) (by rw [e9]; exact hM.step (by omega) true (by rw [bi_n0.mp h76]; rfl)) (by rw [e9]; exact hSm.trans (Same.upi _ 59 _ _ (by decide)))
      · refine Go.aload_n dX7_marksBy_79 rfl ?_
        refine Go.iload_n dX7_marksBy_80 rfl ?_
        refine Go.aload_n dX7_marksBy_81 rfl ?_
        refine Go.iload dX7_marksBy_82 rfl ?_
        refine Go.callVI [.int (nI e), .ref 49, .int (nI (20 * i + m)), .ref 59] dX7_marksBy_84 lkX7_150 imX7_dishAt seX7_dishAt cbX7_dishAt (m_dishAt hG hS (p := 20 * i + m) (by omega)) (shp hG rfl) rfl rfl rfl (Nat.le_of_ble_eq_true rfl) (fun r2 M3 hr2 => ?_)
        obtain ⟨er2, emr2⟩ := hr2
        rw [emr2]
        clear emr2 M3
        subst er2
        refine Go.callVI [.int (nI (20 * i + m)), .ref 59] dX7_marksBy_87 lkX7_124 imX7_barsIt seX7_barsIt cbX7_barsIt (m_barsIt hG hB (e := e) (x := dishN (20 * i + m)) (by omega) (dishN_ok (by omega))) (shp hG rfl) rfl rfl rfl (Nat.le_of_ble_eq_true rfl) (fun r4 M5 hr4 => ?_)
        obtain ⟨er4, emr4⟩ := hr4
        rw [emr4]
        clear emr4 M5
        subst er4
        refine Go.if_eq 97 dX7_marksBy_90 rfl (fun h90 => ?_) (fun h90 => ?_)
        · refine Go.iconst (v := 0) dX7_marksBy_97 (by decide) ?_
          refine Go.zast dX7_marksBy_98 (shp hG rfl) (vin (by omega) (by decide)) ?_
          refine Go.nmM (fun N6 eN6 => ?_)
          refine Go.iinc (v := nI (20 * i + m + 1)) (ls' := [some (.ref 49), some (.int (nI e)), some (.int (nI (X e / 20))), some (.int (nI i)), some (.int (nI (sN i &&& X e / 20))), some (.int (nI (20 * i + m + 1)))]) dX7_marksBy_99 rfl (nI_1 _) rfl rfl ?_
          refine Go.goto 34 dX7_marksBy_102 rfl ?_
          have e9 : N6 = upi N 59 (20 * i + m) (bi false) := by rw [eN6, ncl (by omega)]; rfl
          exact ih (m + 1) N6 (by omega) (by rw [e9]; exact hM.step (by omega) false (by rw [bi_0.mp h76]; show _ = (false || barB K X ed (dishN (20 * i + m)) e); rw [bi_0.mp h90]; rfl)) (by rw [e9]; exact hSm.trans (Same.upi _ 59 _ _ (by decide)))
        · refine Go.iconst (v := 1) dX7_marksBy_93 (by decide) ?_
          refine Go.goto 98 dX7_marksBy_94 rfl ?_
          refine Go.zast dX7_marksBy_98 (shp hG rfl) (vin (by omega) (by decide)) ?_
          refine Go.nmM (fun N7 eN7 => ?_)
          refine Go.iinc (v := nI (20 * i + m + 1)) (ls' := [some (.ref 49), some (.int (nI e)), some (.int (nI (X e / 20))), some (.int (nI i)), some (.int (nI (sN i &&& X e / 20))), some (.int (nI (20 * i + m + 1)))]) dX7_marksBy_99 rfl (nI_1 _) rfl rfl ?_
          refine Go.goto 34 dX7_marksBy_102 rfl ?_
          have e9 : N7 = upi N 59 (20 * i + m) (bi true) := by rw [eN7, ncl (by omega)]; rfl
          exact ih (m + 1) N7 (by omega) (by rw [e9]; exact hM.step (by omega) true (by rw [bi_0.mp h76]; show _ = (false || barB K X ed (dishN (20 * i + m)) e); rw [bi_n0.mp h90]; rfl)) (by rw [e9]; exact hSm.trans (Same.upi _ 59 _ _ (by decide)))
    · refine Go.iload dX7_marksBy_52 rfl ?_
      refine Go.aload_n dX7_marksBy_54 rfl ?_
      refine Go.getR dX7_marksBy_55 flX7_31 (shp hG rfl) rfl ?_
      refine Go.iload_n dX7_marksBy_58 rfl ?_
      refine Go.iald dX7_marksBy_59 (shp hG rfl) (vin (by omega) (by decide)) ?_
      refine Go.eqI (y := nI (sN i)) (by rw [ncl (by omega)]; exact hS.1 i (by omega)) ?_
      refine Go.icmp_ne 105 dX7_marksBy_60 rfl (fun h60 => ?_) (fun h60 => ?_)
      · exact absurd hpart (by rw [show partN (X e / 20) (sN i) = false from part_no h49 h60 (by omega) (by omega)]; decide)
      · refine Go.aload_n dX7_marksBy_63 rfl ?_
        refine Go.getR dX7_marksBy_64 flX7_37 (shp hG rfl) rfl ?_
        refine Go.iload dX7_marksBy_67 rfl ?_
        refine Go.aload_n dX7_marksBy_69 rfl ?_
        refine Go.getR dX7_marksBy_70 flX7_37 (shp hG rfl) rfl ?_
        refine Go.iload dX7_marksBy_73 rfl ?_
        refine Go.zald dX7_marksBy_75 (shp hG rfl) (vin (by omega) (by decide)) ?_
        refine Go.eqI (y := bi (decide (1 ≤ c (dishN (20 * i + m))))) (by rw [ncl (by omega), hM _ (by omega), if_neg (by omega)]) ?_
        refine Go.if_ne 93 dX7_marksBy_76 rfl (fun h76 => ?_) (fun h76 => ?_)
        · refine Go.iconst (v := 1) dX7_marksBy_93 (by decide) ?_
          refine Go.goto 98 dX7_marksBy_94 rfl ?_
          refine Go.zast dX7_marksBy_98 (shp hG rfl) (vin (by omega) (by decide)) ?_
          refine Go.nmM (fun N8 eN8 => ?_)
          refine Go.iinc (v := nI (20 * i + m + 1)) (ls' := [some (.ref 49), some (.int (nI e)), some (.int (nI (X e / 20))), some (.int (nI i)), some (.int (nI (sN i &&& X e / 20))), some (.int (nI (20 * i + m + 1)))]) dX7_marksBy_99 rfl (nI_1 _) rfl rfl ?_
          refine Go.goto 34 dX7_marksBy_102 rfl ?_
          have e9 : N8 = upi N 59 (20 * i + m) (bi true) := by rw [eN8, ncl (by omega)]; rfl
          exact ih (m + 1) N8 (by omega) (by rw [e9]; exact hM.step (by omega) true (by rw [bi_n0.mp h76]; rfl)) (by rw [e9]; exact hSm.trans (Same.upi _ 59 _ _ (by decide)))
        · refine Go.aload_n dX7_marksBy_79 rfl ?_
          refine Go.iload_n dX7_marksBy_80 rfl ?_
          refine Go.aload_n dX7_marksBy_81 rfl ?_
          refine Go.iload dX7_marksBy_82 rfl ?_
          refine Go.callVI [.int (nI e), .ref 49, .int (nI (20 * i + m)), .ref 59] dX7_marksBy_84 lkX7_150 imX7_dishAt seX7_dishAt cbX7_dishAt (m_dishAt hG hS (p := 20 * i + m) (by omega)) (shp hG rfl) rfl rfl rfl (Nat.le_of_ble_eq_true rfl) (fun r9 M10 hr9 => ?_)
          obtain ⟨er9, emr9⟩ := hr9
          rw [emr9]
          clear emr9 M10
          subst er9
          refine Go.callVI [.int (nI (20 * i + m)), .ref 59] dX7_marksBy_87 lkX7_124 imX7_barsIt seX7_barsIt cbX7_barsIt (m_barsIt hG hB (e := e) (x := dishN (20 * i + m)) (by omega) (dishN_ok (by omega))) (shp hG rfl) rfl rfl rfl (Nat.le_of_ble_eq_true rfl) (fun r11 M12 hr11 => ?_)
          obtain ⟨er11, emr11⟩ := hr11
          rw [emr11]
          clear emr11 M12
          subst er11
          refine Go.if_eq 97 dX7_marksBy_90 rfl (fun h90 => ?_) (fun h90 => ?_)
          · refine Go.iconst (v := 0) dX7_marksBy_97 (by decide) ?_
            refine Go.zast dX7_marksBy_98 (shp hG rfl) (vin (by omega) (by decide)) ?_
            refine Go.nmM (fun N13 eN13 => ?_)
            refine Go.iinc (v := nI (20 * i + m + 1)) (ls' := [some (.ref 49), some (.int (nI e)), some (.int (nI (X e / 20))), some (.int (nI i)), some (.int (nI (sN i &&& X e / 20))), some (.int (nI (20 * i + m + 1)))]) dX7_marksBy_99 rfl (nI_1 _) rfl rfl ?_
            refine Go.goto 34 dX7_marksBy_102 rfl ?_
            have e9 : N13 = upi N 59 (20 * i + m) (bi false) := by rw [eN13, ncl (by omega)]; rfl
            exact ih (m + 1) N13 (by omega) (by rw [e9]; exact hM.step (by omega) false (by rw [bi_0.mp h76]; show _ = (false || barB K X ed (dishN (20 * i + m)) e); rw [bi_0.mp h90]; rfl)) (by rw [e9]; exact hSm.trans (Same.upi _ 59 _ _ (by decide)))
          · refine Go.iconst (v := 1) dX7_marksBy_93 (by decide) ?_
            refine Go.goto 98 dX7_marksBy_94 rfl ?_
            refine Go.zast dX7_marksBy_98 (shp hG rfl) (vin (by omega) (by decide)) ?_
            refine Go.nmM (fun N14 eN14 => ?_)
            refine Go.iinc (v := nI (20 * i + m + 1)) (ls' := [some (.ref 49), some (.int (nI e)), some (.int (nI (X e / 20))), some (.int (nI i)), some (.int (nI (sN i &&& X e / 20))), some (.int (nI (20 * i + m + 1)))]) dX7_marksBy_99 rfl (nI_1 _) rfl rfl ?_
            refine Go.goto 34 dX7_marksBy_102 rfl ?_
            have e9 : N14 = upi N 59 (20 * i + m) (bi true) := by rw [eN14, ncl (by omega)]; rfl
            exact ih (m + 1) N14 (by omega) (by rw [e9]; exact hM.step (by omega) true (by rw [bi_0.mp h76]; show _ = (false || barB K X ed (dishN (20 * i + m)) e); rw [bi_n0.mp h90]; rfl)) (by rw [e9]; exact hSm.trans (Same.upi _ 59 _ _ (by decide)))
set_option maxRecDepth 20000 in
theorem l_marksBy2 {G : Gt} {d : Nat} {M : Mm} (hG : gS G = SHAPE) {n9 : Nat} {K X : Nat → Nat} {ed : Nat} (hB0 : BkM M n9 K X ed) (hS0 : MdS M) {c : Nat → Nat} {e : Nat} (he : e < n9) : ∀ (n i : Nat) (N : Mm) (o4 o5 : Option Value), i + n = 92 → MarkTo N c (addC c (K e) (X e) ed) (20 * i) → Same [59] M N → Go G (d + 2) mX7_marksBy 12 [some (.ref 49), some (.int (nI e)), some (.int (nI (X e / 20))), some (.int (nI i)), o4, o5] [] N (fun v M' => v = none ∧ MarkIs M' (addC c (K e) (X e) ed) ∧ Same [59] M M') := by
  intro n
  induction n with
  | zero =>
    intro i N o4 o5 hin hM hSm
    refine Go.iload_n dX7_marksBy_12 rfl ?_
    refine Go.bipush (v := 92) dX7_marksBy_13 (by decide) ?_
    refine Go.icmp_ge 111 dX7_marksBy_15 rfl (fun _ => ?_) (fun h15 => absurd (nI_le (a := 92) (b := i) (by omega) (by omega)) h15)
    refine Go.vret dX7_marksBy_111 rfl ?_
    have e9 : i = 92 := by omega
    subst e9
    exact ⟨rfl, fun p hp => by rw [hM p hp, if_pos (by omega)], hSm⟩
  | succ n ih =>
    intro i N o4 o5 hin hM hSm
    have hB : BkM N n9 K X ed := hB0.same (by rw [hSm.1 49 (by decide)]) (hSm.1 52 (by decide)) (hSm.1 53 (by decide)) (hSm.1 54 (by decide))
    have hS : MdS N := hS0.same (hSm.1 57 (by decide)) (hSm.1 58 (by decide))
    have hn := hB.1
    have hX5 := okD_lt (hB.2.2.2.2.2 e he).2.1
    have hi : i < 92 := by omega
    have hsi := sN_lt hi
    have jno : partN (X e / 20) (sN i) = false → Go G (d + 2) mX7_marksBy 34 [some (.ref 49), some (.int (nI e)), some (.int (nI (X e / 20))), some (.int (nI i)), some (.int (nI (sN i &&& X e / 20))), some (.int (nI (20 * i)))] [] N (fun v M' => v = none ∧ MarkIs M' (addC c (K e) (X e) ed) ∧ Same [59] M M') := by
      intro hpart
      refine Go.iload dX7_marksBy_34 rfl ?_
      refine Go.bipush (v := 20) dX7_marksBy_36 (by decide) ?_
      refine Go.iload_n dX7_marksBy_38 rfl ?_
      refine Go.imul dX7_marksBy_39 ?_
      refine Go.eqI (y := nI (20 * i)) (pk_mul _ _) ?_
      refine Go.bipush (v := 20) dX7_marksBy_40 (by decide) ?_
      refine Go.iadd dX7_marksBy_42 ?_
      refine Go.eqI (y := nI (20 * i + 20)) (nI_add _ _) ?_
      refine Go.icmp_ge 105 dX7_marksBy_43 rfl (fun h43 => absurd h43 (nI_ge (a := 20 * i) (b := 20 * i + 20) (by omega) (by omega))) (fun _ => ?_)
      refine Go.iload dX7_marksBy_46 rfl ?_
      refine Go.iload_n dX7_marksBy_48 rfl ?_
      refine Go.icmp_eq 63 dX7_marksBy_49 rfl (fun h49 => ?_) (fun h49 => ?_)
      · exact absurd (part_yes (Or.inl h49) (by omega) (by omega)) (by rw [hpart]; decide)
      · refine Go.iload dX7_marksBy_52 rfl ?_
        refine Go.aload_n dX7_marksBy_54 rfl ?_
        refine Go.getR dX7_marksBy_55 flX7_31 (shp hG rfl) rfl ?_
        refine Go.iload_n dX7_marksBy_58 rfl ?_
        refine Go.iald dX7_marksBy_59 (shp hG rfl) (vin (by omega) (by decide)) ?_
        refine Go.eqI (y := nI (sN i)) (by rw [ncl (by omega)]; exact hS.1 i (by omega)) ?_
        refine Go.icmp_ne 105 dX7_marksBy_60 rfl (fun h60 => ?_) (fun h60 => ?_)
        · refine Go.iinc (v := nI (i + 1)) (ls' := [some (.ref 49), some (.int (nI e)), some (.int (nI (X e / 20))), some (.int (nI (i + 1))), some (.int (nI (sN i &&& X e / 20))), some (.int (nI (20 * i)))]) dX7_marksBy_105 rfl (nI_1 _) rfl rfl ?_
          refine Go.goto 12 dX7_marksBy_108 rfl ?_
          exact ih (i + 1) N _ _ (by omega) (hM.skip hi hpart) hSm
        · exact absurd (part_yes (Or.inr h60) (by omega) (by omega)) (by rw [hpart]; decide)
    refine Go.iload_n dX7_marksBy_12 rfl ?_
    refine Go.bipush (v := 92) dX7_marksBy_13 (by decide) ?_
    refine Go.icmp_ge 111 dX7_marksBy_15 rfl (fun h15 => absurd h15 (nI_ge (a := i) (b := 92) (by omega) (by omega))) (fun _ => ?_)
    refine Go.aload_n dX7_marksBy_18 rfl ?_
    refine Go.getR dX7_marksBy_19 flX7_31 (shp hG rfl) rfl ?_
    refine Go.iload_n dX7_marksBy_22 rfl ?_
    refine Go.iald dX7_marksBy_23 (shp hG rfl) (vin (by omega) (by decide)) ?_
    refine Go.eqI (y := nI (sN i)) (by rw [ncl (by omega)]; exact hS.1 i (by omega)) ?_
    refine Go.iload_n dX7_marksBy_24 rfl ?_
    refine Go.iand dX7_marksBy_25 ?_
    refine Go.eqI (y := nI (sN i &&& X e / 20)) (fa_and _ _) ?_
    refine Go.istore (ls' := [some (.ref 49), some (.int (nI e)), some (.int (nI (X e / 20))), some (.int (nI i)), some (.int (nI (sN i &&& X e / 20))), o5]) dX7_marksBy_26 (Nat.le_of_ble_eq_true rfl) rfl rfl ?_
    refine Go.bipush (v := 20) dX7_marksBy_28 (by decide) ?_
    refine Go.iload_n dX7_marksBy_30 rfl ?_
    refine Go.imul dX7_marksBy_31 ?_
    refine Go.eqI (y := nI (20 * i)) (pk_mul _ _) ?_
    refine Go.istore (ls' := [some (.ref 49), some (.int (nI e)), some (.int (nI (X e / 20))), some (.int (nI i)), some (.int (nI (sN i &&& X e / 20))), some (.int (nI (20 * i)))]) dX7_marksBy_32 (Nat.le_of_ble_eq_true rfl) rfl rfl ?_
    cases hpart : partN (X e / 20) (sN i) with
    | true => exact l_marksBy hG hB0 hS0 he hi hpart (fun L h1 h2 => ih (i + 1) L _ _ (by omega) h1 h2) 20 0 N (by omega) hM hSm
    | false => exact jno hpart
set_option maxRecDepth 20000 in
theorem m_marksBy {G : Gt} {d : Nat} {M : Mm} (hG : gS G = SHAPE) {n9 : Nat} {K X : Nat → Nat} {ed : Nat} (hB0 : BkM M n9 K X ed) (hS0 : MdS M) {c : Nat → Nat} {e : Nat} (he : e < n9) (hM : MarkIs M c) : ExV G (d + 2) mX7_marksBy [.ref 49, .int (nI e)] M (fun M' => MarkIs M' (addC c (K e) (X e) ed) ∧ Same [59] M M') := by
  have hn := hB0.1
  have hX5 := okD_lt (hB0.2.2.2.2.2 e he).2.1
  refine Ex.of (by decide) (Nat.le_of_ble_eq_true rfl) ?_
  show Go G (d + 2) mX7_marksBy 0 [some (.ref 49), some (.int (nI e)), none, none, none, none] [] M _
  refine Go.aload_n dX7_marksBy_0 rfl ?_
  refine Go.getR dX7_marksBy_1 flX7_22 (shp hG rfl) rfl ?_
  refine Go.iload_n dX7_marksBy_4 rfl ?_
  refine Go.iald dX7_marksBy_5 (shp hG rfl) (vin (by omega) (by decide)) ?_
  refine Go.eqI (y := nI (X e)) (by rw [ncl (by omega)]; exact (hB0.2.2.2.2.2 e he).2.2.2) ?_
  refine Go.callSI [] dX7_marksBy_6 lkX7_90 stX7_setOf cbX7_setOf (m_setOf (nI (X e))) rfl rfl (Nat.le_of_ble_eq_true rfl) (fun r1 M2 hr1 => ?_)
  obtain ⟨er1, emr1⟩ := hr1
  rw [emr1]
  clear emr1 M2
  subst er1
  refine Go.eqI (y := nI (X e / 20)) (iset_nI (by omega)) ?_
  refine Go.istore_n (ls' := [some (.ref 49), some (.int (nI e)), some (.int (nI (X e / 20))), none, none, none]) dX7_marksBy_9 (Nat.le_of_ble_eq_true rfl) rfl rfl ?_
  refine Go.iconst (v := 0) dX7_marksBy_10 (by decide) ?_
  refine Go.istore_n (ls' := [some (.ref 49), some (.int (nI e)), some (.int (nI (X e / 20))), some (.int 0), none, none]) dX7_marksBy_11 (Nat.le_of_ble_eq_true rfl) rfl rfl ?_
  exact l_marksBy2 hG hB0 hS0 he 92 0 M none none (by omega) (fun p hp => by rw [hM p hp, if_neg (by omega)]) (Same.refl _ _)
set_option maxRecDepth 20000 in
theorem l_marks {G : Gt} {d : Nat} {M : Mm} (hG : gS G = SHAPE) {n9 : Nat} {K X : Nat → Nat} {ed : Nat} (hB0 : BkM M n9 K X ed) (hS0 : MdS M) : ∀ (n i : Nat) (N : Mm), i + n = n9 → MarkIs N (cB i K X ed) → Same [59] M N → Go G (d + 3) mX7_marks 24 [some (.ref 49), some (.int (nI i))] [] N (fun v M' => v = none ∧ MarkIs M' (cB n9 K X ed) ∧ Same [59] M M') := by
  intro n
  induction n with
  | zero =>
    intro i N hin hM hSm
    have hB : BkM N n9 K X ed := hB0.same (by rw [hSm.1 49 (by decide)]) (hSm.1 52 (by decide)) (hSm.1 53 (by decide)) (hSm.1 54 (by decide))
    have hS : MdS N := hS0.same (hSm.1 57 (by decide)) (hSm.1 58 (by decide))
    have hn := hB.1
    refine Go.iload_n dX7_marks_24 rfl ?_
    refine Go.aload_n dX7_marks_25 rfl ?_
    refine Go.getI dX7_marks_26 flX7_93 (shp hG rfl) rfl ?_
    refine Go.eqI (y := nI n9) (hB.2.2.1) ?_
    refine Go.icmp_ge 43 dX7_marks_29 rfl (fun _ => ?_) (fun h29 => absurd (nI_le (a := n9) (b := i) (by omega) (by omega)) h29)
    refine Go.vret dX7_marks_43 rfl ?_
    have e9 : i = n9 := by omega
    subst e9
    exact ⟨rfl, hM, hSm⟩
  | succ n ih =>
    intro i N hin hM hSm
    have hi : i < n9 := by omega
    have hB : BkM N n9 K X ed := hB0.same (by rw [hSm.1 49 (by decide)]) (hSm.1 52 (by decide)) (hSm.1 53 (by decide)) (hSm.1 54 (by decide))
    have hS : MdS N := hS0.same (hSm.1 57 (by decide)) (hSm.1 58 (by decide))
    have hn := hB.1
    refine Go.iload_n dX7_marks_24 rfl ?_
    refine Go.aload_n dX7_marks_25 rfl ?_
    refine Go.getI dX7_marks_26 flX7_93 (shp hG rfl) rfl ?_
    refine Go.eqI (y := nI n9) (hB.2.2.1) ?_
    refine Go.icmp_ge 43 dX7_marks_29 rfl (fun h29 => absurd h29 (nI_ge (a := i) (b := n9) (by omega) (by omega))) (fun _ => ?_)
    refine Go.aload_n dX7_marks_32 rfl ?_
    refine Go.iload_n dX7_marks_33 rfl ?_
    refine Go.callVV [] dX7_marks_34 lkX7_146 imX7_marksBy seX7_marksBy cbX7_marksBy (m_marksBy hG hB hS (c := cB i K X ed) (e := i) (by omega) hM) (shp hG rfl) rfl rfl rfl (Nat.le_of_ble_eq_true rfl) (fun M2 hr1 => ?_)
    refine Go.iinc (v := nI (i + 1)) (ls' := [some (.ref 49), some (.int (nI (i + 1)))]) dX7_marks_37 rfl (nI_1 _) rfl rfl ?_
    refine Go.goto 24 dX7_marks_40 rfl ?_
    exact ih (i + 1) M2 (by omega) (fun p hp => by rw [hr1.1 p hp]; congr 2; rw [cB_succ]) (hSm.trans hr1.2)
set_option maxRecDepth 20000 in
theorem l_clear {G : Gt} {d : Nat} {M : Mm} (hG : gS G = SHAPE) {n9 : Nat} {K X : Nat → Nat} {ed : Nat} (hB0 : BkM M n9 K X ed) (hS0 : MdS M) : ∀ (n i : Nat) (N : Mm), i + n = 1840 → (∀ p, p < i → N.1 59 p = 0) → Same [59] M N → Go G (d + 3) mX7_marks 2 [some (.ref 49), some (.int (nI i))] [] N (fun v M' => v = none ∧ MarkIs M' (cB n9 K X ed) ∧ Same [59] M M') := by
  intro n
  induction n with
  | zero =>
    intro i N hin hM hSm
    refine Go.iload_n dX7_marks_2 rfl ?_
    refine Go.sipush (v := 1840) dX7_marks_3 (by decide) ?_
    refine Go.icmp_ge 22 dX7_marks_6 rfl (fun _ => ?_) (fun h6 => absurd (nI_le (a := 1840) (b := i) (by omega) (by omega)) h6)
    refine Go.iconst (v := 0) dX7_marks_22 (by decide) ?_
    refine Go.istore_n (ls' := [some (.ref 49), some (.int 0)]) dX7_marks_23 (Nat.le_of_ble_eq_true rfl) rfl rfl ?_
    have e9 : i = 1840 := by omega
    exact l_marks hG hB0 hS0 n9 0 N (by omega) (fun p hp => by rw [hM p (by omega), cB_0]; rfl) hSm
  | succ n ih =>
    intro i N hin hM hSm
    have hi : i < 1840 := by omega
    refine Go.iload_n dX7_marks_2 rfl ?_
    refine Go.sipush (v := 1840) dX7_marks_3 (by decide) ?_
    refine Go.icmp_ge 22 dX7_marks_6 rfl (fun h6 => absurd h6 (nI_ge (a := i) (b := 1840) (by omega) (by omega))) (fun _ => ?_)
    refine Go.aload_n dX7_marks_9 rfl ?_
    refine Go.getR dX7_marks_10 flX7_37 (shp hG rfl) rfl ?_
    refine Go.iload_n dX7_marks_13 rfl ?_
    refine Go.iconst (v := 0) dX7_marks_14 (by decide) ?_
    refine Go.zast dX7_marks_15 (shp hG rfl) (vin (by omega) (by decide)) ?_
    refine Go.nmM (fun N1 eN1 => ?_)
    refine Go.iinc (v := nI (i + 1)) (ls' := [some (.ref 49), some (.int (nI (i + 1)))]) dX7_marks_16 rfl (nI_1 _) rfl rfl ?_
    refine Go.goto 2 dX7_marks_19 rfl ?_
    refine ih (i + 1) N1 (by omega) (fun p hp => ?_) (by rw [eN1]; exact hSm.trans (Same.upi _ 59 _ _ (by decide)))
    rw [eN1, ncl (by omega), rd_eq]
    unfold upd
    by_cases e2 : p = i
    · rw [if_pos e2]; rfl
    · rw [if_neg e2]; exact hM p (by omega)
set_option maxRecDepth 20000 in
theorem m_marks {G : Gt} {d : Nat} {M : Mm} (hG : gS G = SHAPE) {n9 : Nat} {K X : Nat → Nat} {ed : Nat} (hB0 : BkM M n9 K X ed) (hS0 : MdS M) : ExV G (d + 3) mX7_marks [.ref 49] M (fun M' => MarkIs M' (cB n9 K X ed) ∧ Same [59] M M') := by
  refine Ex.of (by decide) (Nat.le_of_ble_eq_true rfl) ?_
  show Go G (d + 3) mX7_marks 0 [some (.ref 49), none] [] M _
  refine Go.iconst (v := 0) dX7_marks_0 (by decide) ?_
  refine Go.istore_n (ls' := [some (.ref 49), some (.int 0)]) dX7_marks_1 (Nat.le_of_ble_eq_true rfl) rfl rfl ?_
  exact l_clear hG hB0 hS0 1840 0 M (by omega) (fun p hp => by omega) (Same.refl _ _)
