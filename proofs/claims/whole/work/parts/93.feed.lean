def fb (b : Int32) (k : Nat) : Int32 := (b >>> (nI (8 * k) &&& 31)) &&& 255
theorem fb_ok (b : Int32) (k : Nat) : 0 ≤ (fb b k).toInt ∧ (fb b k).toInt ≤ 255 := by
  unfold fb
  generalize b >>> (nI (8 * k) &&& 31) = x
  have h : ∀ y : BitVec 32, (y &&& 255#32).toNat ≤ 255 := fun y => by rw [BitVec.toNat_and]; exact Nat.and_le_right
  have h2 := h x.toBitVec
  have e : (x &&& 255).toBitVec = x.toBitVec &&& 255#32 := rfl
  have e2 : (x &&& 255).toInt = (x.toBitVec &&& 255#32).toInt := rfl
  rw [e2, BitVec.toInt_eq_toNat_of_lt (by omega)]
  omega
def fdT (g : Sg) (b : Int32) (m : Nat) (j : Nat) : Int32 := if j < gTn g then gTb g j else fb b (m - 1 - (j - gTn g))
def A_feed (g : Sg) (b n : Int32) : Int32 × Sg := if inI n 1 4 then (if gTn g + tN n ≤ 120 then (nI (gTn g + tN n), setT g (gTn g + tN n) (fdT g b (tN n))) else (-1000000002, fndS g 1)) else (-1000000001, fndS g 0)
theorem nI_dn (n : Nat) : nI n + Int32.ofInt (-1) = nI n - 1 := by
  rw [Int32.sub_eq_add_neg]
  rfl
theorem nI_pd (n : Nat) : nI (n + 1) - 1 = nI n := by
  rw [← nI_1 n, Int32.add_sub_cancel]
theorem le_120 {a : Nat} (h : a < 1000) : nI a ≤ 120 ↔ a ≤ 120 := by
  rw [i_le, nI_toInt (by omega), show ((120 : Int32)).toInt = 120 by decide]
  omega
/-- the tape, some bytes into a feed -/
def FdC (M N : Mm) (g : Sg) (b : Int32) (m i : Nat) : Prop := Same [37, 38] M N ∧ N.1 37 0 = nI (gTn g + i) ∧ ∀ j, j < gTn g + i → N.1 38 j = fdT g b m j
def FdM (M N : Mm) (g : Sg) (b : Int32) (m i : Nat) : Prop := Same [49, 65] M N ∧ (∀ j, j ≠ 20 → N.1 49 j = M.1 49 j) ∧ N.1 49 20 = nI (gTn g + i) ∧ ∀ j, j < gTn g + i → N.1 65 j = fdT g b m j
theorem fdT_at {g : Sg} {b : Int32} {m n i : Nat} (h : i + (n + 1) = m) : fdT g b m (gTn g + i) = fb b n := by
  unfold fdT
  rw [if_neg (by omega), show m - 1 - (gTn g + i - gTn g) = n by omega]
theorem FdC.step {M N N' : Mm} {g : Sg} {b : Int32} {m n i : Nat} (h : FdC M N g b m i) (hn : i + (n + 1) = m) (he : N' = upi (upi N 38 (gTn g + i) (fb b n)) 37 0 (nI (gTn g + (i + 1)))) : FdC M N' g b m (i + 1) := by
  obtain ⟨h1, h2, h3⟩ := h
  subst he
  refine ⟨(h1.trans (Same.upi _ 38 _ _ (by decide))).trans (Same.upi _ 37 _ _ (by decide)), by rw [rd_eq]; simp [upd], fun j hj => ?_⟩
  rw [rd_ne (by decide), rd_eq]
  unfold upd
  by_cases e : j = gTn g + i
  · rw [if_pos e, e, fdT_at hn]
  · rw [if_neg e]
    exact h3 j (by omega)
theorem FdM.step {M N N' : Mm} {g : Sg} {b : Int32} {m n i : Nat} (h : FdM M N g b m i) (hn : i + (n + 1) = m) (he : N' = upi (upi N 65 (gTn g + i) (fb b n)) 49 20 (nI (gTn g + (i + 1)))) : FdM M N' g b m (i + 1) := by
  obtain ⟨h1, h0, h2, h3⟩ := h
  subst he
  refine ⟨(h1.trans (Same.upi _ 65 _ _ (by decide))).trans (Same.upi _ 49 _ _ (by decide)), fun j hj => ?_, by rw [rd_eq]; simp [upd], fun j hj => ?_⟩
  · rw [rd_eq]
    unfold upd
    rw [if_neg hj, rd_ne (by decide)]
    exact h0 j hj
  · rw [rd_ne (by decide), rd_eq]
    unfold upd
    by_cases e : j = gTn g + i
    · rw [if_pos e, e, fdT_at hn]
    · rw [if_neg e]
      exact h3 j (by omega)
set_option maxRecDepth 20000 in
theorem t_put {G : Gt} {d : Nat} {M : Mm} (hG : gS G = SHAPE) {t : Nat} (ht : M.1 37 0 = nI t) (h120 : t < 120) (x : Int32) : ExV G (d) mX5_put [.ref 37, .int x] M (fun M' => M' = upi (upi M 38 t x) 37 0 (nI (t + 1))) := by
  refine Ex.of (by decide) (Nat.le_of_ble_eq_true rfl) ?_
  show Go G (d) mX5_put 0 [some (.ref 37), some (.int x)] [] M _
  refine Go.aload_n dX5_put_0 rfl ?_
  refine Go.getI dX5_put_1 flX5_9 (shp hG rfl) rfl ?_
  refine Go.eqI (y := nI t) (ht) ?_
  refine Go.bipush (v := 120) dX5_put_4 (by decide) ?_
  refine Go.icmp_ge 29 dX5_put_6 rfl (fun h6 => absurd h6 (nI_ge (a := t) (b := 120) (by omega) (by omega))) (fun _ => ?_)
  refine Go.aload_n dX5_put_9 rfl ?_
  refine Go.getR dX5_put_10 flX5_15 (shp hG rfl) rfl ?_
  refine Go.aload_n dX5_put_13 rfl ?_
  refine Go.getI dX5_put_14 flX5_9 (shp hG rfl) rfl ?_
  refine Go.eqI (y := nI t) (ht) ?_
  refine Go.iload_n dX5_put_17 rfl ?_
  refine Go.iast dX5_put_18 (shp hG rfl) (vin (by omega) (by decide)) ?_
  refine Go.nmM (fun N1 eN1 => ?_)
  refine Go.aload_n dX5_put_19 rfl ?_
  refine Go.dup dX5_put_20 rfl ?_
  refine Go.getI dX5_put_21 flX5_9 (shp hG rfl) rfl ?_
  refine Go.iconst (v := 1) dX5_put_24 (by decide) ?_
  refine Go.iadd dX5_put_25 ?_
  refine Go.putI dX5_put_26 fpX5_9 (shp hG rfl) rfl rfl rfl ?_
  refine Go.nmM (fun N2 eN2 => ?_)
  refine Go.vret dX5_put_29 rfl ?_
  refine ⟨rfl, ?_⟩
  rw [ncl (by omega)] at eN1
  have e9 : N1.1 37 0 = nI t := by rw [eN1, rd_ne (by decide)]; exact ht
  rw [e9, nI_1, eN1] at eN2
  exact eN2
set_option maxRecDepth 20000 in
theorem l_feed_c {G : Gt} {d : Nat} {M : Mm} (hG : gS G = SHAPE) {g : Sg} (hC : CompIs M g) {b : Int32} {m : Nat} (hm : m ≤ 4) (h120 : gTn g + m ≤ 120) : ∀ (n i : Nat) (N : Mm), i + n = m → FdC M N g b m i → Go G (d + 1) mX6_feed 42 [some (.ref 0), some (.int b), some (.int (nI m)), some (.int (nI n - 1))] [] N (fun v M' => ∃ r, v = some (.int r) ∧ r = (nI (gTn g + m)) ∧ CompIs M' (setT g (gTn g + m) (fdT g b m)) ∧ MSame M M') := by
  intro n
  induction n with
  | zero =>
    intro i N hin hF
    have e9 : i = m := by omega
    subst e9
    show Go _ _ _ _ [some (.ref 0), some (.int b), some (.int (nI i)), some (.int ((-1)))] _ _ _
    refine Go.iload_n dX6_feed_42 rfl ?_
    refine Go.if_lt 69 dX6_feed_43 rfl (fun _ => ?_) (fun h43 => absurd (by decide) h43)
    refine Go.aload_n dX6_feed_69 rfl ?_
    refine Go.getR dX6_feed_70 flX6_43 (shp hG rfl) rfl ?_
    refine Go.getI dX6_feed_73 flX6_234 (shp hG rfl) rfl ?_
    refine Go.iret dX6_feed_76 rfl rfl ?_
    exact ⟨_, rfl, hF.2.1, hC.setT hF.1 hF.2.1 hF.2.2⟩
  | succ n ih =>
    intro i N hin hF
    rw [nI_pd]
    refine Go.iload_n dX6_feed_42 rfl ?_
    refine Go.if_lt 69 dX6_feed_43 rfl (fun h43 => absurd h43 (nI_pos (by omega))) (fun _ => ?_)
    refine Go.aload_n dX6_feed_46 rfl ?_
    refine Go.getR dX6_feed_47 flX6_43 (shp hG rfl) rfl ?_
    refine Go.iload_n dX6_feed_50 rfl ?_
    refine Go.bipush (v := 8) dX6_feed_51 (by decide) ?_
    refine Go.iload_n dX6_feed_53 rfl ?_
    refine Go.imul dX6_feed_54 ?_
    refine Go.eqI (y := nI (8 * n)) (pk_mul _ _) ?_
    refine Go.ishr dX6_feed_55 ?_
    refine Go.sipush (v := 255) dX6_feed_56 (by decide) ?_
    refine Go.iand dX6_feed_59 ?_
    refine Go.callVV [] dX6_feed_60 lkX6_237 imX5_put seX5_put cbX5_put (t_put hG hF.2.1 (by omega) ((b >>> ((nI (8 * n)) &&& 31)) &&& 255)) (shp hG rfl) rfl rfl rfl (Nat.le_of_ble_eq_true rfl) (fun M2 hr1 => ?_)
    refine Go.iinc (v := nI n - 1) (ls' := [some (.ref 0), some (.int b), some (.int (nI m)), some (.int (nI n - 1))]) dX6_feed_63 rfl (nI_dn n) rfl rfl ?_
    refine Go.goto 42 dX6_feed_66 rfl ?_
    exact ih (i + 1) M2 (by omega) (hF.step hin hr1)
set_option maxRecDepth 20000 in
theorem l_feed_m {G : Gt} {d : Nat} {M : Mm} (hG : gS G = SHAPE) {g : Sg} (hC : ModIs M g) {b : Int32} {m : Nat} (hm : m ≤ 4) (h120 : gTn g + m ≤ 120) : ∀ (n i : Nat) (N : Mm), i + n = m → FdM M N g b m i → Go G (d) mX7_feed 38 [some (.ref 49), some (.int b), some (.int (nI m)), some (.int (nI n - 1))] [] N (fun v M' => ∃ r, v = some (.int r) ∧ r = (nI (gTn g + m)) ∧ ModIs M' (setT g (gTn g + m) (fdT g b m)) ∧ CSame M M') := by
  intro n
  induction n with
  | zero =>
    intro i N hin hF
    have e9 : i = m := by omega
    subst e9
    show Go _ _ _ _ [some (.ref 49), some (.int b), some (.int (nI i)), some (.int ((-1)))] _ _ _
    refine Go.iload_n dX7_feed_38 rfl ?_
    refine Go.if_lt 77 dX7_feed_39 rfl (fun _ => ?_) (fun h39 => absurd (by decide) h39)
    refine Go.aload_n dX7_feed_77 rfl ?_
    refine Go.getI dX7_feed_78 flX7_222 (shp hG rfl) rfl ?_
    refine Go.iret dX7_feed_81 rfl rfl ?_
    exact ⟨_, rfl, hF.2.2.1, hC.setT hF.1 hF.2.1 hF.2.2.1 hF.2.2.2⟩
  | succ n ih =>
    intro i N hin hF
    rw [nI_pd]
    refine Go.iload_n dX7_feed_38 rfl ?_
    refine Go.if_lt 77 dX7_feed_39 rfl (fun h39 => absurd h39 (nI_pos (by omega))) (fun _ => ?_)
    refine Go.aload_n dX7_feed_42 rfl ?_
    refine Go.getR dX7_feed_43 flX7_56 (shp hG rfl) rfl ?_
    refine Go.aload_n dX7_feed_46 rfl ?_
    refine Go.getI dX7_feed_47 flX7_222 (shp hG rfl) rfl ?_
    refine Go.eqI (y := nI (gTn g + i)) (hF.2.2.1) ?_
    refine Go.iload_n dX7_feed_50 rfl ?_
    refine Go.bipush (v := 8) dX7_feed_51 (by decide) ?_
    refine Go.iload_n dX7_feed_53 rfl ?_
    refine Go.imul dX7_feed_54 ?_
    refine Go.eqI (y := nI (8 * n)) (pk_mul _ _) ?_
    refine Go.ishr dX7_feed_55 ?_
    refine Go.sipush (v := 255) dX7_feed_56 (by decide) ?_
    refine Go.iand dX7_feed_59 ?_
    refine Go.iast dX7_feed_60 (shp hG rfl) (vin (by omega) (by decide)) ?_
    refine Go.nmM (fun N1 eN1 => ?_)
    refine Go.aload_n dX7_feed_61 rfl ?_
    refine Go.dup dX7_feed_62 rfl ?_
    refine Go.getI dX7_feed_63 flX7_222 (shp hG rfl) rfl ?_
    refine Go.iconst (v := 1) dX7_feed_66 (by decide) ?_
    refine Go.iadd dX7_feed_67 ?_
    refine Go.putI dX7_feed_68 fpX7_222 (shp hG rfl) rfl rfl rfl ?_
    refine Go.nmM (fun N2 eN2 => ?_)
    refine Go.iinc (v := nI n - 1) (ls' := [some (.ref 49), some (.int b), some (.int (nI m)), some (.int (nI n - 1))]) dX7_feed_71 rfl (nI_dn n) rfl rfl ?_
    refine Go.goto 38 dX7_feed_74 rfl ?_
    have e7 : N1.1 49 20 = nI (gTn g + i) := by rw [eN1, rd_ne (by decide)]; exact hF.2.2.1
    have e9 : N2 = upi (upi N 65 (gTn g + i) (fb b n)) 49 20 (nI (gTn g + (i + 1))) := by rw [eN2, e7, nI_1, eN1, ncl (by omega)]; rfl
    exact ih (i + 1) N2 (by omega) (hF.step hin e9)
theorem n_lt1 {m : Nat} (h : 1 ≤ m) (h2 : m < 1000) : ¬ nI m < 1 := by
  rw [i_lt, nI_toInt (by omega), show ((1 : Int32)).toInt = 1 by decide]
  omega
theorem n_le4 {m : Nat} (h : m ≤ 4) : nI m ≤ 4 := by
  rw [i_le, nI_toInt (by omega), show ((4 : Int32)).toInt = 4 by decide]
  omega
set_option maxRecDepth 20000 in
theorem c_feed {G : Gt} {d : Nat} {M : Mm} (hG : gS G = SHAPE) {g : Sg} (hC : CompIs M g) (hg : SgOk g) (b n : Int32) : ExI G (d + 2) mX6_feed [.ref 0, .int b, .int n] M (fun r M' => r = (A_feed g b n).1 ∧ CompIs M' (A_feed g b n).2 ∧ MSame M M') := by
  refine Ex.of (by decide) (Nat.le_of_ble_eq_true rfl) ?_
  show Go G (d + 2) mX6_feed 0 [some (.ref 0), some (.int b), some (.int n), none] [] M _
  by_cases hgd : (inI n 1 4) = true
  · obtain ⟨m, hm1, hm4, en⟩ := inI_nI (a := 1) (b := 4) (by decide) (by decide) hgd
    subst en
    have hA0 : A_feed g b (nI m) = (if gTn g + m ≤ 120 then (nI (gTn g + m), setT g (gTn g + m) (fdT g b m)) else (-1000000002, fndS g 1)) := by
      have h9 : A_feed g b (nI m) = _ := if_pos hgd
      rw [tN_nI (by omega)] at h9
      exact h9
    rw [hA0]
    clear hA0
    have ht := hg.2.2.1
    refine Go.iload_n dX6_feed_0 rfl ?_
    refine Go.iconst (v := 1) dX6_feed_1 (by decide) ?_
    refine Go.icmp_lt 10 dX6_feed_2 rfl (fun h2 => absurd h2 (n_lt1 hm1 (by omega))) (fun _ => ?_)
    refine Go.iload_n dX6_feed_5 rfl ?_
    refine Go.iconst (v := 4) dX6_feed_6 (by decide) ?_
    refine Go.icmp_le 17 dX6_feed_7 rfl (fun _ => ?_) (fun h7 => absurd (n_le4 hm4) h7)
    refine Go.aload_n dX6_feed_17 rfl ?_
    refine Go.getR dX6_feed_18 flX6_43 (shp hG rfl) rfl ?_
    refine Go.getI dX6_feed_21 flX6_234 (shp hG rfl) rfl ?_
    refine Go.eqI (y := nI (gTn g)) (hC.2.2.2.1) ?_
    refine Go.iload_n dX6_feed_24 rfl ?_
    refine Go.iadd dX6_feed_25 ?_
    refine Go.eqI (y := nI (gTn g + m)) (nI_add _ _) ?_
    refine Go.bipush (v := 120) dX6_feed_26 (by decide) ?_
    refine Go.icmp_le 38 dX6_feed_28 rfl (fun h28 => ?_) (fun h28 => ?_)
    · refine Go.iload_n dX6_feed_38 rfl ?_
      refine Go.iconst (v := 1) dX6_feed_39 (by decide) ?_
      refine Go.isub dX6_feed_40 ?_
      refine Go.nmI (fun x1 ex1 => ?_)
      refine Go.istore_n (ls' := [some (.ref 0), some (.int b), some (.int (nI m)), some (.int x1)]) dX6_feed_41 (Nat.le_of_ble_eq_true rfl) rfl rfl ?_
      subst ex1
      have h12 := (le_120 (by omega)).mp h28
      rw [if_pos h12]
      exact l_feed_c hG hC hm4 h12 m 0 M (by omega) ⟨Same.refl _ _, hC.2.2.2.1, fun j hj => by unfold fdT; rw [if_pos (show j < gTn g from hj)]; exact hC.2.2.2.2.1 j hj⟩
    · refine Go.aload_n dX6_feed_31 rfl ?_
      refine Go.ldc dX6_feed_32 kcX6_144 ?_
      refine Go.callVI [] dX6_feed_34 lkX6_63 imX6_finding seX6_finding cbX6_finding (s_finding hG (code := (-1000000002)) (q := 1) (by decide) (by decide)) (shp hG rfl) rfl rfl rfl (Nat.le_of_ble_eq_true rfl) (fun r2 M3 hr2 => ?_)
      refine Go.iret dX6_feed_37 rfl rfl ?_
      refine ⟨_, rfl, ?_⟩
      rw [if_neg (fun z => h28 ((le_120 (by omega)).mpr z)), hr2.2]
      exact ⟨hr2.1, hC.fnd⟩
  · refine Go.iload_n dX6_feed_0 rfl ?_
    refine Go.iconst (v := 1) dX6_feed_1 (by decide) ?_
    refine Go.icmp_lt 10 dX6_feed_2 rfl (fun h2 => ?_) (fun h2 => ?_)
    · refine Go.aload_n dX6_feed_10 rfl ?_
      refine Go.ldc dX6_feed_11 kcX6_62 ?_
      refine Go.callVI [] dX6_feed_13 lkX6_63 imX6_finding seX6_finding cbX6_finding (s_finding hG (code := (-1000000001)) (q := 0) (by decide) (by decide)) (shp hG rfl) rfl rfl rfl (Nat.le_of_ble_eq_true rfl) (fun r1 M2 hr1 => ?_)
      refine Go.iret dX6_feed_16 rfl rfl ?_
      refine ⟨_, rfl, ?_⟩
      rw [show A_feed g b n = ((-1000000001), fndS g 0) from if_neg hgd, hr1.2]
      exact ⟨hr1.1, hC.fnd⟩
    · refine Go.iload_n dX6_feed_5 rfl ?_
      refine Go.iconst (v := 4) dX6_feed_6 (by decide) ?_
      refine Go.icmp_le 17 dX6_feed_7 rfl (fun h7 => ?_) (fun h7 => ?_)
      · exact absurd (by unfold inI; rw [decide_eq_true (i_nlt h2), decide_eq_true h7]; rfl) hgd
      · refine Go.aload_n dX6_feed_10 rfl ?_
        refine Go.ldc dX6_feed_11 kcX6_62 ?_
        refine Go.callVI [] dX6_feed_13 lkX6_63 imX6_finding seX6_finding cbX6_finding (s_finding hG (code := (-1000000001)) (q := 0) (by decide) (by decide)) (shp hG rfl) rfl rfl rfl (Nat.le_of_ble_eq_true rfl) (fun r3 M4 hr3 => ?_)
        refine Go.iret dX6_feed_16 rfl rfl ?_
        refine ⟨_, rfl, ?_⟩
        rw [show A_feed g b n = ((-1000000001), fndS g 0) from if_neg hgd, hr3.2]
        exact ⟨hr3.1, hC.fnd⟩
set_option maxRecDepth 20000 in
theorem m_feed {G : Gt} {d : Nat} {M : Mm} (hG : gS G = SHAPE) {g : Sg} (hC : ModIs M g) (hg : SgOk g) (b n : Int32) : ExI G (d + 1) mX7_feed [.ref 49, .int b, .int n] M (fun r M' => r = (A_feed g b n).1 ∧ ModIs M' (A_feed g b n).2 ∧ CSame M M') := by
  refine Ex.of (by decide) (Nat.le_of_ble_eq_true rfl) ?_
  show Go G (d + 1) mX7_feed 0 [some (.ref 49), some (.int b), some (.int n), none] [] M _
  by_cases hgd : (inI n 1 4) = true
  · obtain ⟨m, hm1, hm4, en⟩ := inI_nI (a := 1) (b := 4) (by decide) (by decide) hgd
    subst en
    have hA0 : A_feed g b (nI m) = (if gTn g + m ≤ 120 then (nI (gTn g + m), setT g (gTn g + m) (fdT g b m)) else (-1000000002, fndS g 1)) := by
      have h9 : A_feed g b (nI m) = _ := if_pos hgd
      rw [tN_nI (by omega)] at h9
      exact h9
    rw [hA0]
    clear hA0
    have ht := hg.2.2.1
    refine Go.iload_n dX7_feed_0 rfl ?_
    refine Go.iconst (v := 1) dX7_feed_1 (by decide) ?_
    refine Go.iconst (v := 4) dX7_feed_2 (by decide) ?_
    refine Go.callSI [] dX7_feed_3 lkX7_86 stX7_in cbX7_in (m_in (nI m) 1 4) rfl rfl (Nat.le_of_ble_eq_true rfl) (fun r1 M2 hr1 => ?_)
    obtain ⟨er1, emr1⟩ := hr1
    rw [emr1]
    clear emr1 M2
    subst er1
    refine Go.eqI (y := 1) (by rw [hgd]; rfl) ?_
    refine Go.if_ne 16 dX7_feed_6 rfl (fun _ => ?_) (fun h6 => absurd h6 (by decide))
    refine Go.aload_n dX7_feed_16 rfl ?_
    refine Go.getI dX7_feed_17 flX7_222 (shp hG rfl) rfl ?_
    refine Go.eqI (y := nI (gTn g)) (hC.2.2.2.1) ?_
    refine Go.iload_n dX7_feed_20 rfl ?_
    refine Go.iadd dX7_feed_21 ?_
    refine Go.eqI (y := nI (gTn g + m)) (nI_add _ _) ?_
    refine Go.bipush (v := 120) dX7_feed_22 (by decide) ?_
    refine Go.icmp_le 34 dX7_feed_24 rfl (fun h24 => ?_) (fun h24 => ?_)
    · refine Go.iload_n dX7_feed_34 rfl ?_
      refine Go.iconst (v := 1) dX7_feed_35 (by decide) ?_
      refine Go.isub dX7_feed_36 ?_
      refine Go.nmI (fun x3 ex3 => ?_)
      refine Go.istore_n (ls' := [some (.ref 49), some (.int b), some (.int (nI m)), some (.int x3)]) dX7_feed_37 (Nat.le_of_ble_eq_true rfl) rfl rfl ?_
      subst ex3
      have h12 := (le_120 (by omega)).mp h24
      rw [if_pos h12]
      exact l_feed_m hG hC hm4 h12 m 0 M (by omega) ⟨Same.refl _ _, fun j hj => rfl, hC.2.2.2.1, fun j hj => by unfold fdT; rw [if_pos (show j < gTn g from hj)]; exact hC.2.2.2.2.1 j hj⟩
    · refine Go.aload_n dX7_feed_27 rfl ?_
      refine Go.ldc dX7_feed_28 kcX7_162 ?_
      refine Go.callVI [] dX7_feed_30 lkX7_104 imX7_finds seX7_finds cbX7_finds (m_finds hG (code := (-1000000002)) (q := 1) (by decide) (by decide)) (shp hG rfl) rfl rfl rfl (Nat.le_of_ble_eq_true rfl) (fun r4 M5 hr4 => ?_)
      refine Go.iret dX7_feed_33 rfl rfl ?_
      refine ⟨_, rfl, ?_⟩
      rw [if_neg (fun z => h24 ((le_120 (by omega)).mpr z)), hr4.2]
      exact ⟨hr4.1, hC.fnd⟩
  · refine Go.iload_n dX7_feed_0 rfl ?_
    refine Go.iconst (v := 1) dX7_feed_1 (by decide) ?_
    refine Go.iconst (v := 4) dX7_feed_2 (by decide) ?_
    refine Go.callSI [] dX7_feed_3 lkX7_86 stX7_in cbX7_in (m_in n 1 4) rfl rfl (Nat.le_of_ble_eq_true rfl) (fun r1 M2 hr1 => ?_)
    obtain ⟨er1, emr1⟩ := hr1
    rw [emr1]
    clear emr1 M2
    subst er1
    refine Go.if_ne 16 dX7_feed_6 rfl (fun h6 => ?_) (fun h6 => ?_)
    · exact absurd (bi_n0.mp h6) hgd
    · refine Go.aload_n dX7_feed_9 rfl ?_
      refine Go.ldc dX7_feed_10 kcX7_85 ?_
      refine Go.callVI [] dX7_feed_12 lkX7_104 imX7_finds seX7_finds cbX7_finds (m_finds hG (code := (-1000000001)) (q := 0) (by decide) (by decide)) (shp hG rfl) rfl rfl rfl (Nat.le_of_ble_eq_true rfl) (fun r3 M4 hr3 => ?_)
      refine Go.iret dX7_feed_15 rfl rfl ?_
      refine ⟨_, rfl, ?_⟩
      rw [show A_feed g b n = ((-1000000001), fndS g 0) from if_neg hgd, hr3.2]
      exact ⟨hr3.1, hC.fnd⟩
