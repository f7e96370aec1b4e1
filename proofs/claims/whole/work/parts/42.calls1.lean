def setU (g : Sg) (u : Bu) : Sg := (u, g.2)
theorem CompIs.setU {M M' : Mm} {g : Sg} {u : Bu} (h : CompIs M g) (hu : BuC M' 1 u) (hs : Same [1, 2, 3, 4, 5, 6, 7, 8] M M') : CompIs M' (setU g u) ∧ MSame M M' := by
  have r : ∀ a, 9 ≤ a → M'.1 a = M.1 a := fun a ha => hs.1 a (by simp; omega)
  obtain ⟨h1, h2, h3, h4, h5, h6, h7, h8⟩ := h
  refine ⟨⟨hu, by rw [hs.1 0 (by decide)]; exact h2, fun k => (h3 k).same (fun j hj => r _ (by omega)), by rw [r 37 (by decide)]; exact h4, fun i hi => by rw [r 38 (by decide)]; exact h5 i hi, fun s hs4 => ?_, fun j hj => by rw [r 48 (by decide)]; exact h7 j hj, fun s hs4 => by rw [r 33 (by decide)]; exact h8 s hs4⟩, hs.ms (by decide)⟩
  rw [r (40 + s) (by omega), hs.2]
  exact h6 s hs4
theorem ModIs.setU {M M' : Mm} {g : Sg} {u : Bu} (h : ModIs M g) (hu : BuM M' u) (hs : Same [49, 50, 51, 52, 53, 54, 55] M M') (h33 : M'.1 49 33 = M.1 49 33) (h20 : M'.1 49 20 = M.1 49 20) : ModIs M' (setU g u) ∧ CSame M M' := by
  have r : ∀ a, 56 ≤ a → M'.1 a = M.1 a := fun a ha => hs.1 a (by simp; omega)
  obtain ⟨h1, h2, h3, h4, h5, h6, h7, h8⟩ := h
  refine ⟨⟨hu, by rw [h33]; exact h2, fun k => (h3 k).same (r 70 (by decide)), by rw [h20]; exact h4, fun i hi => by rw [r 65 (by decide)]; exact h5 i hi, fun s hs4 => ?_, fun j hj => by rw [r 56 (by decide)]; exact h7 j hj, h8.same (r 57 (by decide)) (r 58 (by decide))⟩, hs.cs (by decide)⟩
  rw [r 66 (by decide), r 67 (by decide), hs.2]
  exact h6 s hs4
def stS (u : Bu) (t : Nat) (v : Int32) : Bu := (upd (uS u) t v, u.2)
theorem BuC.st {M : Mm} {b : Nat} {u : Bu} (h : BuC M b u) (t : Nat) (v : Int32) : BuC (upi M (b + 1) t v) b (stS u t v) := by
  have r : ∀ a, a ≠ b + 1 → (upi M (b + 1) t v).1 a = M.1 a := fun a ha => rd_ne ha
  obtain ⟨h1, h2, h3, h4, h5, h6, h7, h8⟩ := h
  refine ⟨fun j hj => ?_, fun j hj => by rw [r _ (by omega)]; exact h2 j hj, fun j hj => by rw [r _ (by omega)]; exact h3 j hj, fun j hj => by rw [r _ (by omega)]; exact h4 j hj, by rw [r _ (by omega)]; exact h5, by rw [r _ (by omega)]; exact h6, by rw [r _ (by omega)]; exact h7, fun e he => by rw [r _ (by omega), r _ (by omega), r _ (by omega)]; exact h8 e he⟩
  rw [rd_eq]
  show upd (M.1 (b + 1)) t v j = upd (uS u) t v j
  unfold upd
  split
  · rfl
  · exact h1 j hj
theorem BuM.st {M : Mm} {u : Bu} (h : BuM M u) (t : Nat) (v : Int32) : BuM (upi M 50 t v) (stS u t v) := by
  have r : ∀ a, a ≠ 50 → (upi M 50 t v).1 a = M.1 a := fun a ha => rd_ne ha
  obtain ⟨h1, h2⟩ := h
  refine ⟨fun j hj => ?_, ?_⟩
  · rw [rd_eq]
    show upd (M.1 50) t v j = upd (uS u) t v j
    unfold upd
    split
    · rfl
    · exact h1 j hj
  · rw [r 51 (by decide), r 49 (by decide), r 52 (by decide), r 53 (by decide), r 54 (by decide), r 55 (by decide)]
    exact h2
def A_store (g : Sg) (t v : Int32) : Int32 × Sg := if inb t 8 && (decide (0 ≤ v) && decide (v ≤ 99)) then (uS (gU g) t.toNatClampNeg, setU g (stS (gU g) t.toNatClampNeg v)) else (-1000000001, fndS g 0)
def A_storeOf (g : Sg) (t : Int32) : Int32 × Sg := if inb t 8 then (uS (gU g) t.toNatClampNeg, g) else (-1000000001, fndS g 0)
theorem inb_ex {t : Int32} {n : Nat} (h : inb t (nI n) = true) (hn : n < 2 ^ 31) : ∃ j, j < n ∧ t = nI j := vp_in_of (vin6 h hn) hn
theorem inI_inb {t : Int32} : inI t 0 7 = inb t 8 := by
  unfold inI inb
  congr 1
  rw [Bool.eq_iff_iff, decide_eq_true_eq, decide_eq_true_eq, i_le, i_lt]
  have e1 : (7 : Int32).toInt = 7 := by decide
  have e2 : (8 : Int32).toInt = 8 := by decide
  omega
set_option maxRecDepth 20000 in
theorem c_store {G : Gt} {d : Nat} {M : Mm} (hG : gS G = SHAPE) {g : Sg} (hC : CompIs M g) (t v : Int32) : ExI G (d + 2) mX6_store [.ref 0, .int t, .int v] M (fun r M' => r = (A_store g t v).1 ∧ CompIs M' (A_store g t v).2 ∧ MSame M M') := by
  refine Ex.of (by decide) (Nat.le_of_ble_eq_true rfl) ?_
  show Go G (d + 2) mX6_store 0 [some (.ref 0), some (.int t), some (.int v), none] [] M _
  refine Go.iload_n dX6_store_0 rfl ?_
  refine Go.bipush (v := 8) dX6_store_1 (by decide) ?_
  refine Go.callSI [] dX6_store_3 lkX6_58 stX6_isBelow cbX6_isBelow (s_isBelow t 8) rfl rfl (Nat.le_of_ble_eq_true rfl) (fun r1 M2 hr1 => ?_)
  obtain ⟨er1, emr1⟩ := hr1
  rw [emr1]
  clear emr1 M2
  subst er1
  refine Go.if_eq 19 dX6_store_6 rfl (fun h6 => ?_) (fun h6 => ?_)
  · refine Go.aload_n dX6_store_19 rfl ?_
    refine Go.ldc dX6_store_20 kcX6_62 ?_
    refine Go.callVI [] dX6_store_22 lkX6_63 imX6_finding seX6_finding cbX6_finding (s_finding hG (code := (-1000000001)) (q := 0) (by decide) (by decide)) (shp hG rfl) rfl rfl rfl (Nat.le_of_ble_eq_true rfl) (fun r3 M4 hr3 => ?_)
    refine Go.iret dX6_store_25 rfl rfl ?_
    refine ⟨_, rfl, ?_⟩
    rw [show A_store g t v = (-1000000001, fndS g 0) from if_neg (by rw [show (inb t 8 && (decide (0 ≤ v) && decide (v ≤ 99))) = false from by simp [bi_0.mp h6]]; decide)]
    rw [hr3.2]
    exact ⟨hr3.1, hC.fnd⟩
  · refine Go.iload_n dX6_store_9 rfl ?_
    refine Go.if_lt 19 dX6_store_10 rfl (fun h10 => ?_) (fun h10 => ?_)
    · refine Go.aload_n dX6_store_19 rfl ?_
      refine Go.ldc dX6_store_20 kcX6_62 ?_
      refine Go.callVI [] dX6_store_22 lkX6_63 imX6_finding seX6_finding cbX6_finding (s_finding hG (code := (-1000000001)) (q := 0) (by decide) (by decide)) (shp hG rfl) rfl rfl rfl (Nat.le_of_ble_eq_true rfl) (fun r5 M6 hr5 => ?_)
      refine Go.iret dX6_store_25 rfl rfl ?_
      refine ⟨_, rfl, ?_⟩
      rw [show A_store g t v = (-1000000001, fndS g 0) from if_neg (by rw [show (inb t 8 && (decide (0 ≤ v) && decide (v ≤ 99))) = false from by simp [bi_n0.mp h6, h10, i_lt_n h10]]; decide)]
      rw [hr5.2]
      exact ⟨hr5.1, hC.fnd⟩
    · refine Go.iload_n dX6_store_13 rfl ?_
      refine Go.bipush (v := 99) dX6_store_14 (by decide) ?_
      refine Go.icmp_le 26 dX6_store_16 rfl (fun h16 => ?_) (fun h16 => ?_)
      · refine Go.aload_n dX6_store_26 rfl ?_
        refine Go.getR dX6_store_27 flX6_12 (shp hG rfl) rfl ?_
        refine Go.getR dX6_store_30 flX6_67 (shp hG rfl) rfl ?_
        refine Go.iload_n dX6_store_33 rfl ?_
        refine Go.iald dX6_store_34 (shp hG rfl) (vin6 (n := 8) (bi_n0.mp h6)) ?_
        refine Go.nmI (fun x7 ex7 => ?_)
        refine Go.istore_n (ls' := [some (.ref 0), some (.int t), some (.int v), some (.int x7)]) dX6_store_35 (Nat.le_of_ble_eq_true rfl) rfl rfl ?_
        refine Go.aload_n dX6_store_36 rfl ?_
        refine Go.getR dX6_store_37 flX6_12 (shp hG rfl) rfl ?_
        refine Go.getR dX6_store_40 flX6_67 (shp hG rfl) rfl ?_
        refine Go.iload_n dX6_store_43 rfl ?_
        refine Go.iload_n dX6_store_44 rfl ?_
        refine Go.iast dX6_store_45 (shp hG rfl) (vin6 (n := 8) (bi_n0.mp h6)) ?_
        refine Go.nmM (fun N8 eN8 => ?_)
        refine Go.iload_n dX6_store_46 rfl ?_
        refine Go.iret dX6_store_47 rfl rfl ?_
        have hin : inb t 8 = true := bi_n0.mp h6
        obtain ⟨j, hj, ej⟩ := inb_ex (n := 8) hin (by decide)
        refine ⟨_, rfl, ?_⟩
        rw [show A_store g t v = (uS (gU g) t.toNatClampNeg, setU g (stS (gU g) t.toNatClampNeg v)) from if_pos (by simp [bi_n0.mp h6, h10, i_nlt h10, h16, i_le_n h16])]
        subst ex7
        subst ej
        rw [ncl (by omega)] at *
        rw [eN8]
        exact ⟨hC.1.1 j hj, hC.setU (hC.1.st j v) (Same.upi _ 2 _ _ (by decide))⟩
      · refine Go.aload_n dX6_store_19 rfl ?_
        refine Go.ldc dX6_store_20 kcX6_62 ?_
        refine Go.callVI [] dX6_store_22 lkX6_63 imX6_finding seX6_finding cbX6_finding (s_finding hG (code := (-1000000001)) (q := 0) (by decide) (by decide)) (shp hG rfl) rfl rfl rfl (Nat.le_of_ble_eq_true rfl) (fun r9 M10 hr9 => ?_)
        refine Go.iret dX6_store_25 rfl rfl ?_
        refine ⟨_, rfl, ?_⟩
        rw [show A_store g t v = (-1000000001, fndS g 0) from if_neg (by rw [show (inb t 8 && (decide (0 ≤ v) && decide (v ≤ 99))) = false from by simp [bi_n0.mp h6, h10, i_nlt h10, h16, i_nle h16]]; decide)]
        rw [hr9.2]
        exact ⟨hr9.1, hC.fnd⟩
theorem inI_st {v : Int32} : inI v 0 99 = (decide (0 ≤ v) && decide (v ≤ 99)) := rfl
set_option maxRecDepth 20000 in
theorem m_store {G : Gt} {d : Nat} {M : Mm} (hG : gS G = SHAPE) {g : Sg} (hC : ModIs M g) (t v : Int32) : ExI G (d + 2) mX7_store [.ref 49, .int t, .int v] M (fun r M' => r = (A_store g t v).1 ∧ ModIs M' (A_store g t v).2 ∧ CSame M M') := by
  refine Ex.of (by decide) (Nat.le_of_ble_eq_true rfl) ?_
  show Go G (d + 2) mX7_store 0 [some (.ref 49), some (.int t), some (.int v), none] [] M _
  refine Go.iload_n dX7_store_0 rfl ?_
  refine Go.callSI [] dX7_store_1 lkX7_97 stX7_isThing cbX7_isThing (m_isThing t) rfl rfl (Nat.le_of_ble_eq_true rfl) (fun r1 M2 hr1 => ?_)
  obtain ⟨er1, emr1⟩ := hr1
  rw [emr1]
  clear emr1 M2
  subst er1
  refine Go.if_eq 14 dX7_store_4 rfl (fun h4 => ?_) (fun h4 => ?_)
  · refine Go.aload_n dX7_store_14 rfl ?_
    refine Go.ldc dX7_store_15 kcX7_85 ?_
    refine Go.callVI [] dX7_store_17 lkX7_104 imX7_finds seX7_finds cbX7_finds (m_finds hG (code := (-1000000001)) (q := 0) (by decide) (by decide)) (shp hG rfl) rfl rfl rfl (Nat.le_of_ble_eq_true rfl) (fun r3 M4 hr3 => ?_)
    refine Go.iret dX7_store_20 rfl rfl ?_
    have hf9 : (inb t 8 && (decide (0 ≤ v) && decide (v ≤ 99))) = false := by
      rw [← inI_inb, bi_0.mp h4]; rfl
    refine ⟨_, rfl, ?_⟩
    rw [show A_store g t v = (-1000000001, fndS g 0) from if_neg (by rw [hf9]; decide)]
    rw [hr3.2]
    exact ⟨hr3.1, hC.fnd⟩
  · refine Go.iload_n dX7_store_7 rfl ?_
    refine Go.callSI [] dX7_store_8 lkX7_101 stX7_isStore cbX7_isStore (m_isStore v) rfl rfl (Nat.le_of_ble_eq_true rfl) (fun r5 M6 hr5 => ?_)
    obtain ⟨er5, emr5⟩ := hr5
    rw [emr5]
    clear emr5 M6
    subst er5
    refine Go.if_ne 21 dX7_store_11 rfl (fun h11 => ?_) (fun h11 => ?_)
    · refine Go.aload_n dX7_store_21 rfl ?_
      refine Go.getR dX7_store_22 flX7_7 (shp hG rfl) rfl ?_
      refine Go.iload_n dX7_store_25 rfl ?_
      refine Go.iald dX7_store_26 (shp hG rfl) (vin6 (n := 8) (by rw [show nI 8 = 8 from rfl, ← inI_inb]; exact bi_n0.mp h4)) ?_
      refine Go.nmI (fun x7 ex7 => ?_)
      refine Go.istore_n (ls' := [some (.ref 49), some (.int t), some (.int v), some (.int x7)]) dX7_store_27 (Nat.le_of_ble_eq_true rfl) rfl rfl ?_
      refine Go.aload_n dX7_store_28 rfl ?_
      refine Go.getR dX7_store_29 flX7_7 (shp hG rfl) rfl ?_
      refine Go.iload_n dX7_store_32 rfl ?_
      refine Go.iload_n dX7_store_33 rfl ?_
      refine Go.iast dX7_store_34 (shp hG rfl) (vin6 (n := 8) (by rw [show nI 8 = 8 from rfl, ← inI_inb]; exact bi_n0.mp h4)) ?_
      refine Go.nmM (fun N8 eN8 => ?_)
      refine Go.iload_n dX7_store_35 rfl ?_
      refine Go.iret dX7_store_36 rfl rfl ?_
      have hin : inb t 8 = true := by rw [← inI_inb]; exact bi_n0.mp h4
      obtain ⟨j, hj, ej⟩ := inb_ex (n := 8) hin (by decide)
      have h99 := bi_n0.mp h11
      rw [inI_st] at h99
      refine ⟨_, rfl, ?_⟩
      rw [show A_store g t v = (uS (gU g) t.toNatClampNeg, setU g (stS (gU g) t.toNatClampNeg v)) from if_pos (by rw [hin, h99]; rfl)]
      subst ex7
      subst ej
      rw [ncl (by omega)] at *
      rw [eN8]
      exact ⟨hC.1.1 j hj, hC.setU (hC.1.st j v) (Same.upi _ 50 _ _ (by decide)) (by rw [rd_ne (by decide)]) (by rw [rd_ne (by decide)])⟩
    · refine Go.aload_n dX7_store_14 rfl ?_
      refine Go.ldc dX7_store_15 kcX7_85 ?_
      refine Go.callVI [] dX7_store_17 lkX7_104 imX7_finds seX7_finds cbX7_finds (m_finds hG (code := (-1000000001)) (q := 0) (by decide) (by decide)) (shp hG rfl) rfl rfl rfl (Nat.le_of_ble_eq_true rfl) (fun r9 M10 hr9 => ?_)
      refine Go.iret dX7_store_20 rfl rfl ?_
      have hf9 : (inb t 8 && (decide (0 ≤ v) && decide (v ≤ 99))) = false := by
        rw [← inI_st, bi_0.mp h11, Bool.and_false]
      refine ⟨_, rfl, ?_⟩
      rw [show A_store g t v = (-1000000001, fndS g 0) from if_neg (by rw [hf9]; decide)]
      rw [hr9.2]
      exact ⟨hr9.1, hC.fnd⟩
