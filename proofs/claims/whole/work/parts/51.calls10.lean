def edN (ed w : Nat) (v : Bool) : Nat := if v = ed.testBit w then ed else ed ^^^ 2 ^ w
def edU (u : Bu) (w : Nat) (v : Bool) : Bu := (uS u, uT u, uW u, uC u, uN u, uK u, uX u, uD u, edN (uE u) w v, uY u)
theorem ed_bits : ∀ ed, ed < 4 → nI (ed % 2) = bi (ed.testBit 0) ∧ nI (ed / 2) = bi (ed.testBit 1) := by decide +kernel
theorem edN_lt : ∀ ed, ed < 4 → ∀ w, w < 2 → ∀ v : Bool, edN ed w v < 4 := by decide +kernel
theorem edN_0 : ∀ ed, ed < 4 → ∀ v : Bool, nI (edN ed 0 v % 2) = bi v ∧ edN ed 0 v / 2 = ed / 2 := by decide +kernel
theorem edN_1 : ∀ ed, ed < 4 → ∀ v : Bool, nI (edN ed 1 v / 2) = bi v ∧ edN ed 1 v % 2 = ed % 2 := by decide +kernel
theorem edU_ok {u : Bu} {w : Nat} {v : Bool} (h : BuOk u) (hw : w < 2) : BuOk (edU u w v) := ⟨h.1, edN_lt _ h.2.1 w hw v, h.2.2⟩
theorem BuC.ed {M : Mm} {b : Nat} {u : Bu} (h : BuC M b u) (w : Nat) (v : Bool) : BuC (decM M b (uE u) w v) b (edU u w v) := by
  unfold decM
  by_cases q : v = (uE u).testBit w
  · rw [if_pos q]
    have : edU u w v = (uS u, uT u, uW u, uC u, uN u, uK u, uX u, uD u, uE u, uY u) := by unfold edU edN; rw [if_pos q]
    rw [this]
    exact h
  · rw [if_neg q]
    obtain ⟨h1, h2, h3, h4, h5, h6, h7, h8⟩ := h
    have r : ∀ a, a ≠ b → (upi M b 8 (nI (uE u ^^^ 2 ^ w))).1 a = M.1 a := fun a q => rd_ne q
    have rb : ∀ j, j ≠ 8 → (upi M b 8 (nI (uE u ^^^ 2 ^ w))).1 b j = M.1 b j := fun j hj => by rw [rd_eq]; simp [upd, hj]
    refine ⟨fun t ht => by rw [r _ (by omega)]; exact h1 t ht, fun t ht => by rw [r _ (by omega)]; exact h2 t ht, fun t ht => by rw [r _ (by omega)]; exact h3 t ht, fun t ht => by rw [r _ (by omega)]; exact h4 t ht, by rw [rb 7 (by decide)]; exact h5, ?_, by rw [rb 9 (by decide)]; exact h7, fun j hj => by rw [r _ (by omega), r _ (by omega), r _ (by omega)]; exact h8 j hj⟩
    rw [rd_eq]
    show upd (M.1 b) 8 (nI (uE u ^^^ 2 ^ w)) 8 = nI (edN (uE u) w v)
    unfold edN
    rw [if_neg q]
    simp [upd]
theorem dec_same (M : Mm) (b ed w : Nat) (v : Bool) {S : List Nat} (h : b ∈ S) : Same S M (decM M b ed w v) := by
  unfold decM
  split
  · exact Same.refl _ _
  · exact Same.upi _ b _ _ h
theorem BuM.ed {M : Mm} {u : Bu} (h : BuM M u) (he : uE u < 4) {w : Nat} (hw : w < 2) (v : Bool) : BuM (upi M 52 w (bi v)) (edU u w v) := by
  obtain ⟨h1, h2, h3, h4, h5, h6, h7, h8, h9⟩ := h
  have r : ∀ a, a ≠ 52 → (upi M 52 w (bi v)).1 a = M.1 a := fun a q => rd_ne q
  refine ⟨fun t ht => by rw [r 50 (by decide)]; exact h1 t ht, fun t ht => by rw [r 51 (by decide)]; exact h2 t ht, fun t ht => by rw [r 51 (by decide)]; exact h3 t ht, fun t ht => by rw [r 51 (by decide)]; exact h4 t ht, by rw [r 49 (by decide)]; exact h5, ?_, ?_, by rw [r 49 (by decide)]; exact h8, fun j hj => by rw [r 53 (by decide), r 54 (by decide), r 55 (by decide)]; exact h9 j hj⟩
  · rw [rd_eq]
    show upd (M.1 52) w (bi v) 0 = nI (edN (uE u) w v % 2)
    match w, hw with
    | 0, _ => rw [(edN_0 _ he v).1]; rfl
    | 1, _ => rw [(edN_1 _ he v).2]; exact h6
  · rw [rd_eq]
    show upd (M.1 52) w (bi v) 1 = nI (edN (uE u) w v / 2)
    match w, hw with
    | 0, _ => rw [(edN_0 _ he v).2]; exact h7
    | 1, _ => rw [(edN_1 _ he v).1]; rfl
theorem edU_id {u : Bu} {w : Nat} {v : Bool} (q : v = (uE u).testBit w) : edU u w v = u := by unfold edU edN; rw [if_pos q]; rfl
def A_edict (g : Sg) (w : Int32) (v : Bool) : Int32 × Sg := if inb w 2 then (bi (v != (uE (gU g)).testBit (tN w)), setU g (edU (gU g) (tN w) v)) else (-1000000001, fndS g 0)
theorem inI_two {k : Int32} : inI k 0 1 = inb k 2 := by
  unfold inI inb
  congr 1
  rw [Bool.eq_iff_iff, decide_eq_true_eq, decide_eq_true_eq, i_le, i_lt]
  have e1 : (1 : Int32).toInt = 1 := by decide
  have e2 : (2 : Int32).toInt = 2 := by decide
  omega
set_option maxRecDepth 20000 in
theorem c_edict {G : Gt} {d : Nat} {M : Mm} (hG : gS G = SHAPE) {g : Sg} (hC : CompIs M g) (hg : SgOk g) (w0 : Int32) (v : Bool) : ExI G (d + 2) mX6_edict [.ref 0, .int w0, .int (bi v)] M (fun r M' => r = (A_edict g w0 v).1 ∧ CompIs M' (A_edict g w0 v).2 ∧ MSame M M') := by
  refine Ex.of (by decide) (Nat.le_of_ble_eq_true rfl) ?_
  have hB := hC.1.bk hg.1
  have hn30 := hg.1.1
  show Go G (d + 2) mX6_edict 0 [some (.ref 0), some (.int w0), some (.int (bi v))] [] M _
  by_cases hgd : (inb w0 2) = true
  · obtain ⟨w, hw, ew⟩ := inb_ex (n := 2) hgd (by decide)
    subst ew
    have hA0 : A_edict g (nI w) v = (bi (v != (uE (gU g)).testBit w), setU g (edU (gU g) w v)) := by
      rw [show A_edict g (nI w) v = (bi (v != (uE (gU g)).testBit (tN (nI w))), setU g (edU (gU g) (tN (nI w)) v)) from if_pos hgd, tN_nI (by omega)]
    refine Go.iload_n dX6_edict_0 rfl ?_
    refine Go.iconst (v := 2) dX6_edict_1 (by decide) ?_
    refine Go.callSI [] dX6_edict_2 lkX6_58 stX6_isBelow cbX6_isBelow (s_isBelow (nI w) 2) rfl rfl (Nat.le_of_ble_eq_true rfl) (fun r1 M2 hr1 => ?_)
    obtain ⟨er1, emr1⟩ := hr1
    rw [emr1]
    clear emr1 M2
    subst er1
    refine Go.eqI (y := 1) (by rw [show inb (nI w) 2 = decide (w < 2) from inb_nI (by omega) (by decide), decide_eq_true (by omega)]; rfl) ?_
    refine Go.if_ne 15 dX6_edict_5 rfl (fun _ => ?_) (fun h5 => absurd h5 (by decide))
    refine Go.aload_n dX6_edict_15 rfl ?_
    refine Go.getR dX6_edict_16 flX6_12 (shp hG rfl) rfl ?_
    refine Go.iload_n dX6_edict_19 rfl ?_
    refine Go.iload_n dX6_edict_20 rfl ?_
    refine Go.callVI [] dX6_edict_21 lkX6_74 imX1_decree seX1_decree cbX1_decree (s_decree1 hG (ed := uE (gU g)) (w := w) hB.2.1 (by omega) hB.2.2.2.1 v) (shp hG rfl) rfl rfl rfl (Nat.le_of_ble_eq_true rfl) (fun r3 M4 hr3 => ?_)
    refine Go.if_eq 31 dX6_edict_24 rfl (fun h24 => ?_) (fun h24 => ?_)
    · refine Go.iconst (v := 0) dX6_edict_31 (by decide) ?_
      refine Go.iret dX6_edict_32 rfl rfl ?_
      refine ⟨_, rfl, ?_⟩
      have hq := hr3
      rw [hq.1] at h24
      rw [hA0, hq.2]
      refine ⟨?_, hC.setU (hC.1.ed w v) (dec_same M 1 _ w v (by decide))⟩
      rw [bi_0.mp h24]
      rfl
    · refine Go.iconst (v := 1) dX6_edict_27 (by decide) ?_
      refine Go.goto 32 dX6_edict_28 rfl ?_
      refine Go.iret dX6_edict_32 rfl rfl ?_
      refine ⟨_, rfl, ?_⟩
      have hq := hr3
      rw [hq.1] at h24
      rw [hA0, hq.2]
      refine ⟨?_, hC.setU (hC.1.ed w v) (dec_same M 1 _ w v (by decide))⟩
      rw [bi_n0.mp h24]
      rfl
  · refine Go.iload_n dX6_edict_0 rfl ?_
    refine Go.iconst (v := 2) dX6_edict_1 (by decide) ?_
    refine Go.callSI [] dX6_edict_2 lkX6_58 stX6_isBelow cbX6_isBelow (s_isBelow w0 2) rfl rfl (Nat.le_of_ble_eq_true rfl) (fun r1 M2 hr1 => ?_)
    obtain ⟨er1, emr1⟩ := hr1
    rw [emr1]
    clear emr1 M2
    subst er1
    refine Go.if_ne 15 dX6_edict_5 rfl (fun h5 => ?_) (fun h5 => ?_)
    · exact absurd (by simp [bi_n0.mp h5]) hgd
    · refine Go.aload_n dX6_edict_8 rfl ?_
      refine Go.ldc dX6_edict_9 kcX6_62 ?_
      refine Go.callVI [] dX6_edict_11 lkX6_63 imX6_finding seX6_finding cbX6_finding (s_finding hG (code := (-1000000001)) (q := 0) (by decide) (by decide)) (shp hG rfl) rfl rfl rfl (Nat.le_of_ble_eq_true rfl) (fun r3 M4 hr3 => ?_)
      refine Go.iret dX6_edict_14 rfl rfl ?_
      refine ⟨_, rfl, ?_⟩
      rw [show A_edict g w0 v = ((-1000000001), fndS g 0) from if_neg hgd, hr3.2]
      exact ⟨hr3.1, hC.fnd⟩
theorem ed_at {M : Mm} {u : Bu} (h : BuM M u) (he : uE u < 4) {w : Nat} (hw : w < 2) : M.1 52 w = bi ((uE u).testBit w) := by
  match w, hw with
  | 0, _ => rw [h.2.2.2.2.2.1]; exact (ed_bits _ he).1
  | 1, _ => rw [h.2.2.2.2.2.2.1]; exact (ed_bits _ he).2
set_option maxRecDepth 20000 in
theorem m_edict {G : Gt} {d : Nat} {M : Mm} (hG : gS G = SHAPE) {g : Sg} (hC : ModIs M g) (hg : SgOk g) (w0 : Int32) (v : Bool) : ExI G (d + 1) mX7_edict [.ref 49, .int w0, .int (bi v)] M (fun r M' => r = (A_edict g w0 v).1 ∧ ModIs M' (A_edict g w0 v).2 ∧ CSame M M') := by
  refine Ex.of (by decide) (Nat.le_of_ble_eq_true rfl) ?_
  have hB := hC.1.bk hg.1
  have hn30 := hg.1.1
  show Go G (d + 1) mX7_edict 0 [some (.ref 49), some (.int w0), some (.int (bi v)), none] [] M _
  by_cases hgd : (inb w0 2) = true
  · obtain ⟨w, hw, ew⟩ := inb_ex (n := 2) hgd (by decide)
    subst ew
    have hA0 : A_edict g (nI w) v = (bi (v != (uE (gU g)).testBit w), setU g (edU (gU g) w v)) := by
      rw [show A_edict g (nI w) v = (bi (v != (uE (gU g)).testBit (tN (nI w))), setU g (edU (gU g) (tN (nI w)) v)) from if_pos hgd, tN_nI (by omega)]
    refine Go.iload_n dX7_edict_0 rfl ?_
    refine Go.iconst (v := 0) dX7_edict_1 (by decide) ?_
    refine Go.iconst (v := 1) dX7_edict_2 (by decide) ?_
    refine Go.callSI [] dX7_edict_3 lkX7_86 stX7_in cbX7_in (m_in (nI w) 0 1) rfl rfl (Nat.le_of_ble_eq_true rfl) (fun r1 M2 hr1 => ?_)
    obtain ⟨er1, emr1⟩ := hr1
    rw [emr1]
    clear emr1 M2
    subst er1
    refine Go.eqI (y := 1) (by rw [show inI (nI w) 0 1 = true from inI_lo (N := 1) (by omega) (by decide)]; rfl) ?_
    refine Go.if_ne 16 dX7_edict_6 rfl (fun _ => ?_) (fun h6 => absurd h6 (by decide))
    refine Go.iload_n dX7_edict_16 rfl ?_
    refine Go.if_eq 24 dX7_edict_17 rfl (fun h17 => ?_) (fun h17 => ?_)
    · refine Go.iconst (v := 0) dX7_edict_24 (by decide) ?_
      refine Go.istore_n (ls' := [some (.ref 49), some (.int (nI w)), some (.int (bi v)), some (.int 0)]) dX7_edict_25 (Nat.le_of_ble_eq_true rfl) rfl rfl ?_
      refine Go.aload_n dX7_edict_26 rfl ?_
      refine Go.getR dX7_edict_27 flX7_16 (shp hG rfl) rfl ?_
      refine Go.iload_n dX7_edict_30 rfl ?_
      refine Go.iald dX7_edict_31 (shp hG rfl) (vin (by omega) (by decide)) ?_
      refine Go.eqI (y := bi ((uE (gU g)).testBit w)) (by rw [ncl (by omega)]; exact ed_at hC.1 hg.1.2.1 hw) ?_
      refine Go.iload_n dX7_edict_32 rfl ?_
      refine Go.icmp_ne 38 dX7_edict_33 rfl (fun h33 => ?_) (fun h33 => ?_)
      · refine Go.aload_n dX7_edict_38 rfl ?_
        refine Go.getR dX7_edict_39 flX7_16 (shp hG rfl) rfl ?_
        refine Go.iload_n dX7_edict_42 rfl ?_
        refine Go.iload_n dX7_edict_43 rfl ?_
        refine Go.iast dX7_edict_44 (shp hG rfl) (vin (by omega) (by decide)) ?_
        refine Go.nmM (fun N3 eN3 => ?_)
        refine Go.iconst (v := 1) dX7_edict_45 (by decide) ?_
        refine Go.iret dX7_edict_46 rfl rfl ?_
        have hv := bi_0.mp h17
        have hq : ¬ v = (uE (gU g)).testBit w := fun q => h33 (by rw [← q, hv]; rfl)
        refine ⟨_, rfl, ?_⟩
        rw [hA0, eN3, ncl (by omega)]
        refine ⟨by simp [bi, hq], ?_⟩
        have h9 := hC.1.ed hg.1.2.1 hw v
        rw [hv] at h9 ⊢
        exact hC.setU h9 (Same.upi _ 52 _ _ (by decide)) (by rw [rd_ne (by decide)]) (by rw [rd_ne (by decide)])
      · refine Go.iconst (v := 0) dX7_edict_36 (by decide) ?_
        refine Go.iret dX7_edict_37 rfl rfl ?_
        have hv := bi_0.mp h17
        have hq : v = (uE (gU g)).testBit w := bi_inj.mp (by rw [h33, hv]; rfl)
        refine ⟨_, rfl, ?_⟩
        rw [hA0, edU_id hq, ← hq]
        exact ⟨by simp [bi], hC, CSame.refl M⟩
    · refine Go.iconst (v := 1) dX7_edict_20 (by decide) ?_
      refine Go.goto 25 dX7_edict_21 rfl ?_
      refine Go.istore_n (ls' := [some (.ref 49), some (.int (nI w)), some (.int (bi v)), some (.int 1)]) dX7_edict_25 (Nat.le_of_ble_eq_true rfl) rfl rfl ?_
      refine Go.aload_n dX7_edict_26 rfl ?_
      refine Go.getR dX7_edict_27 flX7_16 (shp hG rfl) rfl ?_
      refine Go.iload_n dX7_edict_30 rfl ?_
      refine Go.iald dX7_edict_31 (shp hG rfl) (vin (by omega) (by decide)) ?_
      refine Go.eqI (y := bi ((uE (gU g)).testBit w)) (by rw [ncl (by omega)]; exact ed_at hC.1 hg.1.2.1 hw) ?_
      refine Go.iload_n dX7_edict_32 rfl ?_
      refine Go.icmp_ne 38 dX7_edict_33 rfl (fun h33 => ?_) (fun h33 => ?_)
      · refine Go.aload_n dX7_edict_38 rfl ?_
        refine Go.getR dX7_edict_39 flX7_16 (shp hG rfl) rfl ?_
        refine Go.iload_n dX7_edict_42 rfl ?_
        refine Go.iload_n dX7_edict_43 rfl ?_
        refine Go.iast dX7_edict_44 (shp hG rfl) (vin (by omega) (by decide)) ?_
        refine Go.nmM (fun N4 eN4 => ?_)
        refine Go.iconst (v := 1) dX7_edict_45 (by decide) ?_
        refine Go.iret dX7_edict_46 rfl rfl ?_
        have hv := bi_n0.mp h17
        have hq : ¬ v = (uE (gU g)).testBit w := fun q => h33 (by rw [← q, hv]; rfl)
        refine ⟨_, rfl, ?_⟩
        rw [hA0, eN4, ncl (by omega)]
        refine ⟨by simp [bi, hq], ?_⟩
        have h9 := hC.1.ed hg.1.2.1 hw v
        rw [hv] at h9 ⊢
        exact hC.setU h9 (Same.upi _ 52 _ _ (by decide)) (by rw [rd_ne (by decide)]) (by rw [rd_ne (by decide)])
      · refine Go.iconst (v := 0) dX7_edict_36 (by decide) ?_
        refine Go.iret dX7_edict_37 rfl rfl ?_
        have hv := bi_n0.mp h17
        have hq : v = (uE (gU g)).testBit w := bi_inj.mp (by rw [h33, hv]; rfl)
        refine ⟨_, rfl, ?_⟩
        rw [hA0, edU_id hq, ← hq]
        exact ⟨by simp [bi], hC, CSame.refl M⟩
  · refine Go.iload_n dX7_edict_0 rfl ?_
    refine Go.iconst (v := 0) dX7_edict_1 (by decide) ?_
    refine Go.iconst (v := 1) dX7_edict_2 (by decide) ?_
    refine Go.callSI [] dX7_edict_3 lkX7_86 stX7_in cbX7_in (m_in w0 0 1) rfl rfl (Nat.le_of_ble_eq_true rfl) (fun r1 M2 hr1 => ?_)
    obtain ⟨er1, emr1⟩ := hr1
    rw [emr1]
    clear emr1 M2
    subst er1
    refine Go.if_ne 16 dX7_edict_6 rfl (fun h6 => ?_) (fun h6 => ?_)
    · exact absurd (by simp [← inI_two, bi_n0.mp h6]) hgd
    · refine Go.aload_n dX7_edict_9 rfl ?_
      refine Go.ldc dX7_edict_10 kcX7_85 ?_
      refine Go.callVI [] dX7_edict_12 lkX7_104 imX7_finds seX7_finds cbX7_finds (m_finds hG (code := (-1000000001)) (q := 0) (by decide) (by decide)) (shp hG rfl) rfl rfl rfl (Nat.le_of_ble_eq_true rfl) (fun r3 M4 hr3 => ?_)
      refine Go.iret dX7_edict_15 rfl rfl ?_
      refine ⟨_, rfl, ?_⟩
      rw [show A_edict g w0 v = ((-1000000001), fndS g 0) from if_neg hgd, hr3.2]
      exact ⟨hr3.1, hC.fnd⟩
