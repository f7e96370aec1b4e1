def turU (u : Bu) (e k : Nat) : Bu := (uS u, uT u, uW u, uC u, uN u, fun j => if j = e then k else uK u j, uX u, uD u, uE u, uY u)
theorem BuC.tur {M : Mm} {b : Nat} {u : Bu} (h : BuC M b u) (e k : Nat) : BuC (upi M (b + 5) e (nI k)) b (turU u e k) := by
  obtain ⟨h1, h2, h3, h4, h5, h6, h7, h8⟩ := h
  have r : ∀ a, a ≠ b + 5 → (upi M (b + 5) e (nI k)).1 a = M.1 a := fun a q => rd_ne q
  refine ⟨fun t ht => by rw [r _ (by omega)]; exact h1 t ht, fun t ht => by rw [r _ (by omega)]; exact h2 t ht, fun t ht => by rw [r _ (by omega)]; exact h3 t ht, fun t ht => by rw [r _ (by omega)]; exact h4 t ht, by rw [r _ (by omega)]; exact h5, by rw [r _ (by omega)]; exact h6, by rw [r _ (by omega)]; exact h7, fun j hj => ?_⟩
  rw [rd_eq, r _ (by omega), r _ (by omega)]
  refine ⟨?_, (h8 j hj).2⟩
  show upd (M.1 (b + 5)) e (nI k) j = nI (if j = e then k else uK u j)
  unfold upd
  by_cases q : j = e
  · simp only [if_pos q]
  · simp only [if_neg q]; exact (h8 j hj).1
theorem BuM.tur {M : Mm} {u : Bu} (h : BuM M u) (e k : Nat) : BuM (upi M 53 e (nI k)) (turU u e k) := by
  obtain ⟨h1, h2, h3, h4, h5, h6, h7, h8, h9⟩ := h
  have r : ∀ a, a ≠ 53 → (upi M 53 e (nI k)).1 a = M.1 a := fun a q => rd_ne q
  refine ⟨fun t ht => by rw [r 50 (by decide)]; exact h1 t ht, fun t ht => by rw [r 51 (by decide)]; exact h2 t ht, fun t ht => by rw [r 51 (by decide)]; exact h3 t ht, fun t ht => by rw [r 51 (by decide)]; exact h4 t ht, by rw [r 49 (by decide)]; exact h5, by rw [r 52 (by decide)]; exact h6, by rw [r 52 (by decide)]; exact h7, by rw [r 49 (by decide)]; exact h8, fun j hj => ?_⟩
  rw [rd_eq, r 54 (by decide), r 55 (by decide)]
  refine ⟨?_, (h9 j hj).2⟩
  show upd (M.1 53) e (nI k) j = nI (if j = e then k else uK u j)
  unfold upd
  by_cases q : j = e
  · simp only [if_pos q]
  · simp only [if_neg q]; exact (h9 j hj).1
theorem turU_ok {u : Bu} {e k : Nat} (h : BuOk u) (hk : k < 6) : BuOk (turU u e k) := by
  obtain ⟨h1, h2, h3, h4⟩ := h
  refine ⟨h1, h2, fun j hj => ?_, h4⟩
  show (if j = e then k else uK u j) < 6 ∧ okD (uX u j) = true
  have := h3 j hj
  split
  · exact ⟨hk, this.2⟩
  · exact this
def A_turn (g : Sg) (e k : Int32) : Int32 × Sg := if inb e (nI (uN (gU g))) && inb k 6 then (nI (uK (gU g) (tN e)), setU g (turU (gU g) (tN e) (tN k))) else (-1000000001, fndS g 0)
def A_as (g : Sg) (e k : Int32) : Int32 × Sg := if inb e (nI (uN (gU g))) && inb k 6 then (if upK 6 (nI (uK (gU g) (tN e))) k then (nI (uX (gU g) (tN e)), g) else (-1000000003, fndS g 2)) else (-1000000001, fndS g 0)
set_option maxRecDepth 20000 in
theorem c_turn {G : Gt} {d : Nat} {M : Mm} (hG : gS G = SHAPE) {g : Sg} (hC : CompIs M g) (hg : SgOk g) (e0 k0 : Int32) : ExI G (d + 2) mX6_turn [.ref 0, .int e0, .int k0] M (fun r M' => r = (A_turn g e0 k0).1 ∧ CompIs M' (A_turn g e0 k0).2 ∧ MSame M M') := by
  refine Ex.of (by decide) (Nat.le_of_ble_eq_true rfl) ?_
  have hB := hC.1.bk hg.1
  have hn30 := hg.1.1
  show Go G (d + 2) mX6_turn 0 [some (.ref 0), some (.int e0), some (.int k0), none] [] M _
  by_cases hgd : (inb e0 (nI (uN (gU g))) && inb k0 6) = true
  · rw [Bool.and_eq_true] at hgd
    obtain ⟨j, hj, ej⟩ := inb_ex hgd.1 (by omega)
    obtain ⟨k, hk, ek⟩ := inb_ex (n := 6) hgd.2 (by decide)
    subst ej
    subst ek
    refine Go.iload_n dX6_turn_0 rfl ?_
    refine Go.aload_n dX6_turn_1 rfl ?_
    refine Go.getR dX6_turn_2 flX6_12 (shp hG rfl) rfl ?_
    refine Go.getI dX6_turn_5 flX6_148 (shp hG rfl) rfl ?_
    refine Go.eqI (y := nI (uN (gU g))) (hB.2.2.1) ?_
    refine Go.callSI [] dX6_turn_8 lkX6_58 stX6_isBelow cbX6_isBelow (s_isBelow (nI j) (nI (uN (gU g)))) rfl rfl (Nat.le_of_ble_eq_true rfl) (fun r1 M2 hr1 => ?_)
    obtain ⟨er1, emr1⟩ := hr1
    rw [emr1]
    clear emr1 M2
    subst er1
    refine Go.eqI (y := 1) (by rw [hgd.1]; rfl) ?_
    refine Go.if_eq 23 dX6_turn_11 rfl (fun h11 => absurd h11 (by decide)) (fun _ => ?_)
    refine Go.iload_n dX6_turn_14 rfl ?_
    refine Go.bipush (v := 6) dX6_turn_15 (by decide) ?_
    refine Go.callSI [] dX6_turn_17 lkX6_58 stX6_isBelow cbX6_isBelow (s_isBelow (nI k) 6) rfl rfl (Nat.le_of_ble_eq_true rfl) (fun r3 M4 hr3 => ?_)
    obtain ⟨er3, emr3⟩ := hr3
    rw [emr3]
    clear emr3 M4
    subst er3
    refine Go.eqI (y := 1) (by rw [show inb (nI k) 6 = decide (k < 6) from inb_nI (by omega) (by decide), decide_eq_true (by omega)]; rfl) ?_
    refine Go.if_ne 30 dX6_turn_20 rfl (fun _ => ?_) (fun h20 => absurd h20 (by decide))
    refine Go.aload_n dX6_turn_30 rfl ?_
    refine Go.getR dX6_turn_31 flX6_12 (shp hG rfl) rfl ?_
    refine Go.getR dX6_turn_34 flX6_152 (shp hG rfl) rfl ?_
    refine Go.iload_n dX6_turn_37 rfl ?_
    refine Go.iald dX6_turn_38 (shp hG rfl) (vin (by omega) (by decide)) ?_
    refine Go.eqI (y := nI (uK (gU g) j)) (by rw [ncl (by omega)]; exact (hC.1.2.2.2.2.2.2.2 j hj).1) ?_
    refine Go.istore_n (ls' := [some (.ref 0), some (.int (nI j)), some (.int (nI k)), some (.int (nI (uK (gU g) j)))]) dX6_turn_39 (Nat.le_of_ble_eq_true rfl) rfl rfl ?_
    refine Go.aload_n dX6_turn_40 rfl ?_
    refine Go.getR dX6_turn_41 flX6_12 (shp hG rfl) rfl ?_
    refine Go.getR dX6_turn_44 flX6_152 (shp hG rfl) rfl ?_
    refine Go.iload_n dX6_turn_47 rfl ?_
    refine Go.iload_n dX6_turn_48 rfl ?_
    refine Go.iast dX6_turn_49 (shp hG rfl) (vin (by omega) (by decide)) ?_
    refine Go.nmM (fun N5 eN5 => ?_)
    refine Go.iload_n dX6_turn_50 rfl ?_
    refine Go.iret dX6_turn_51 rfl rfl ?_
    refine ⟨_, rfl, ?_⟩
    rw [show A_turn g (nI j) (nI k) = (nI (uK (gU g) (tN (nI j))), setU g (turU (gU g) (tN (nI j)) (tN (nI k)))) from if_pos (by rw [hgd.1, hgd.2]; rfl), tN_nI (by omega), tN_nI (by omega), eN5, ncl (by omega)]
    exact ⟨rfl, hC.setU (hC.1.tur j k) (Same.upi _ 6 _ _ (by decide))⟩
  · refine Go.iload_n dX6_turn_0 rfl ?_
    refine Go.aload_n dX6_turn_1 rfl ?_
    refine Go.getR dX6_turn_2 flX6_12 (shp hG rfl) rfl ?_
    refine Go.getI dX6_turn_5 flX6_148 (shp hG rfl) rfl ?_
    refine Go.eqI (y := nI (uN (gU g))) (hB.2.2.1) ?_
    refine Go.callSI [] dX6_turn_8 lkX6_58 stX6_isBelow cbX6_isBelow (s_isBelow e0 (nI (uN (gU g)))) rfl rfl (Nat.le_of_ble_eq_true rfl) (fun r1 M2 hr1 => ?_)
    obtain ⟨er1, emr1⟩ := hr1
    rw [emr1]
    clear emr1 M2
    subst er1
    refine Go.if_eq 23 dX6_turn_11 rfl (fun h11 => ?_) (fun h11 => ?_)
    · refine Go.aload_n dX6_turn_23 rfl ?_
      refine Go.ldc dX6_turn_24 kcX6_62 ?_
      refine Go.callVI [] dX6_turn_26 lkX6_63 imX6_finding seX6_finding cbX6_finding (s_finding hG (code := (-1000000001)) (q := 0) (by decide) (by decide)) (shp hG rfl) rfl rfl rfl (Nat.le_of_ble_eq_true rfl) (fun r3 M4 hr3 => ?_)
      refine Go.iret dX6_turn_29 rfl rfl ?_
      refine ⟨_, rfl, ?_⟩
      rw [show A_turn g e0 k0 = ((-1000000001), fndS g 0) from if_neg hgd, hr3.2]
      exact ⟨hr3.1, hC.fnd⟩
    · refine Go.iload_n dX6_turn_14 rfl ?_
      refine Go.bipush (v := 6) dX6_turn_15 (by decide) ?_
      refine Go.callSI [] dX6_turn_17 lkX6_58 stX6_isBelow cbX6_isBelow (s_isBelow k0 6) rfl rfl (Nat.le_of_ble_eq_true rfl) (fun r5 M6 hr5 => ?_)
      obtain ⟨er5, emr5⟩ := hr5
      rw [emr5]
      clear emr5 M6
      subst er5
      refine Go.if_ne 30 dX6_turn_20 rfl (fun h20 => ?_) (fun h20 => ?_)
      · exact absurd (by simp [bi_n0.mp h11, bi_n0.mp h20]) hgd
      · refine Go.aload_n dX6_turn_23 rfl ?_
        refine Go.ldc dX6_turn_24 kcX6_62 ?_
        refine Go.callVI [] dX6_turn_26 lkX6_63 imX6_finding seX6_finding cbX6_finding (s_finding hG (code := (-1000000001)) (q := 0) (by decide) (by decide)) (shp hG rfl) rfl rfl rfl (Nat.le_of_ble_eq_true rfl) (fun r7 M8 hr7 => ?_)
        refine Go.iret dX6_turn_29 rfl rfl ?_
        refine ⟨_, rfl, ?_⟩
        rw [show A_turn g e0 k0 = ((-1000000001), fndS g 0) from if_neg hgd, hr7.2]
        exact ⟨hr7.1, hC.fnd⟩
set_option maxRecDepth 20000 in
theorem m_turn {G : Gt} {d : Nat} {M : Mm} (hG : gS G = SHAPE) {g : Sg} (hC : ModIs M g) (hg : SgOk g) (e0 k0 : Int32) : ExI G (d + 2) mX7_turn [.ref 49, .int e0, .int k0] M (fun r M' => r = (A_turn g e0 k0).1 ∧ ModIs M' (A_turn g e0 k0).2 ∧ CSame M M') := by
  refine Ex.of (by decide) (Nat.le_of_ble_eq_true rfl) ?_
  have hB := hC.1.bk hg.1
  have hn30 := hg.1.1
  show Go G (d + 2) mX7_turn 0 [some (.ref 49), some (.int e0), some (.int k0), none] [] M _
  by_cases hgd : (inb e0 (nI (uN (gU g))) && inb k0 6) = true
  · rw [Bool.and_eq_true] at hgd
    obtain ⟨j, hj, ej⟩ := inb_ex hgd.1 (by omega)
    obtain ⟨k, hk, ek⟩ := inb_ex (n := 6) hgd.2 (by decide)
    subst ej
    subst ek
    refine Go.aload_n dX7_turn_0 rfl ?_
    refine Go.iload_n dX7_turn_1 rfl ?_
    refine Go.callVI [] dX7_turn_2 lkX7_170 imX7_isEntry seX7_isEntry cbX7_isEntry (m_isEntry hG (n := uN (gU g)) hB.2.2.1 (by omega) (nI j)) (shp hG rfl) rfl rfl rfl (Nat.le_of_ble_eq_true rfl) (fun r1 M2 hr1 => ?_)
    obtain ⟨er1, emr1⟩ := hr1
    rw [emr1]
    clear emr1 M2
    subst er1
    refine Go.eqI (y := 1) (by rw [hgd.1]; rfl) ?_
    refine Go.if_eq 15 dX7_turn_5 rfl (fun h5 => absurd h5 (by decide)) (fun _ => ?_)
    refine Go.iload_n dX7_turn_8 rfl ?_
    refine Go.callSI [] dX7_turn_9 lkX7_159 stX7_isKind cbX7_isKind (m_isKind (nI k)) rfl rfl (Nat.le_of_ble_eq_true rfl) (fun r3 M4 hr3 => ?_)
    obtain ⟨er3, emr3⟩ := hr3
    rw [emr3]
    clear emr3 M4
    subst er3
    refine Go.eqI (y := 1) (by rw [show inI (nI k) 0 5 = true from inI_lo (N := 5) (by omega) (by decide)]; rfl) ?_
    refine Go.if_ne 22 dX7_turn_12 rfl (fun _ => ?_) (fun h12 => absurd h12 (by decide))
    refine Go.aload_n dX7_turn_22 rfl ?_
    refine Go.getR dX7_turn_23 flX7_19 (shp hG rfl) rfl ?_
    refine Go.iload_n dX7_turn_26 rfl ?_
    refine Go.iald dX7_turn_27 (shp hG rfl) (vin (by omega) (by decide)) ?_
    refine Go.eqI (y := nI (uK (gU g) j)) (by rw [ncl (by omega)]; exact (hC.1.2.2.2.2.2.2.2.2 j hj).1) ?_
    refine Go.istore_n (ls' := [some (.ref 49), some (.int (nI j)), some (.int (nI k)), some (.int (nI (uK (gU g) j)))]) dX7_turn_28 (Nat.le_of_ble_eq_true rfl) rfl rfl ?_
    refine Go.aload_n dX7_turn_29 rfl ?_
    refine Go.getR dX7_turn_30 flX7_19 (shp hG rfl) rfl ?_
    refine Go.iload_n dX7_turn_33 rfl ?_
    refine Go.iload_n dX7_turn_34 rfl ?_
    refine Go.iast dX7_turn_35 (shp hG rfl) (vin (by omega) (by decide)) ?_
    refine Go.nmM (fun N5 eN5 => ?_)
    refine Go.iload_n dX7_turn_36 rfl ?_
    refine Go.iret dX7_turn_37 rfl rfl ?_
    refine ⟨_, rfl, ?_⟩
    rw [show A_turn g (nI j) (nI k) = (nI (uK (gU g) (tN (nI j))), setU g (turU (gU g) (tN (nI j)) (tN (nI k)))) from if_pos (by rw [hgd.1, hgd.2]; rfl), tN_nI (by omega), tN_nI (by omega), eN5, ncl (by omega)]
    exact ⟨rfl, hC.setU (hC.1.tur j k) (Same.upi _ 53 _ _ (by decide)) (by rw [rd_ne (by decide)]) (by rw [rd_ne (by decide)])⟩
  · refine Go.aload_n dX7_turn_0 rfl ?_
    refine Go.iload_n dX7_turn_1 rfl ?_
    refine Go.callVI [] dX7_turn_2 lkX7_170 imX7_isEntry seX7_isEntry cbX7_isEntry (m_isEntry hG (n := uN (gU g)) hB.2.2.1 (by omega) e0) (shp hG rfl) rfl rfl rfl (Nat.le_of_ble_eq_true rfl) (fun r1 M2 hr1 => ?_)
    obtain ⟨er1, emr1⟩ := hr1
    rw [emr1]
    clear emr1 M2
    subst er1
    refine Go.if_eq 15 dX7_turn_5 rfl (fun h5 => ?_) (fun h5 => ?_)
    · refine Go.aload_n dX7_turn_15 rfl ?_
      refine Go.ldc dX7_turn_16 kcX7_85 ?_
      refine Go.callVI [] dX7_turn_18 lkX7_104 imX7_finds seX7_finds cbX7_finds (m_finds hG (code := (-1000000001)) (q := 0) (by decide) (by decide)) (shp hG rfl) rfl rfl rfl (Nat.le_of_ble_eq_true rfl) (fun r3 M4 hr3 => ?_)
      refine Go.iret dX7_turn_21 rfl rfl ?_
      refine ⟨_, rfl, ?_⟩
      rw [show A_turn g e0 k0 = ((-1000000001), fndS g 0) from if_neg hgd, hr3.2]
      exact ⟨hr3.1, hC.fnd⟩
    · refine Go.iload_n dX7_turn_8 rfl ?_
      refine Go.callSI [] dX7_turn_9 lkX7_159 stX7_isKind cbX7_isKind (m_isKind k0) rfl rfl (Nat.le_of_ble_eq_true rfl) (fun r5 M6 hr5 => ?_)
      obtain ⟨er5, emr5⟩ := hr5
      rw [emr5]
      clear emr5 M6
      subst er5
      refine Go.if_ne 22 dX7_turn_12 rfl (fun h12 => ?_) (fun h12 => ?_)
      · exact absurd (by simp [← inI_kind, bi_n0.mp h5, bi_n0.mp h12]) hgd
      · refine Go.aload_n dX7_turn_15 rfl ?_
        refine Go.ldc dX7_turn_16 kcX7_85 ?_
        refine Go.callVI [] dX7_turn_18 lkX7_104 imX7_finds seX7_finds cbX7_finds (m_finds hG (code := (-1000000001)) (q := 0) (by decide) (by decide)) (shp hG rfl) rfl rfl rfl (Nat.le_of_ble_eq_true rfl) (fun r7 M8 hr7 => ?_)
        refine Go.iret dX7_turn_21 rfl rfl ?_
        refine ⟨_, rfl, ?_⟩
        rw [show A_turn g e0 k0 = ((-1000000001), fndS g 0) from if_neg hgd, hr7.2]
        exact ⟨hr7.1, hC.fnd⟩
def undI (k a : Int32) : Bool := decide (a = 0) || decide (a = k) || (decide (a = 1) && decide (k = 4)) || (decide (a = 3) && decide (k = 5))
theorem und_up : ∀ k, k < 6 → ∀ a, a < 6 → undI (nI k) (nI a) = upK 6 (nI k) (nI a) := by decide +kernel
set_option maxRecDepth 20000 in
theorem m_isUnder {G : Gt} {d : Nat} {M : Mm} (k a : Int32) : ExI G (d) mX7_isUnder [.int k, .int a] M (fun r M' => r = bi (undI k a) ∧ M' = M) := by
  refine Ex.of (by decide) (Nat.le_of_ble_eq_true rfl) ?_
  show Go G (d) mX7_isUnder 0 [some (.int k), some (.int a)] [] M _
  refine Go.iload_n dX7_isUnder_0 rfl ?_
  refine Go.if_eq 29 dX7_isUnder_1 rfl (fun h1 => ?_) (fun h1 => ?_)
  · refine Go.iconst (v := 1) dX7_isUnder_29 (by decide) ?_
    refine Go.goto 34 dX7_isUnder_30 rfl ?_
    refine Go.iret dX7_isUnder_34 rfl (by decide) ?_
    refine ⟨_, rfl, ?_, rfl⟩
    simp_all [bi, undI]
  · refine Go.iload_n dX7_isUnder_4 rfl ?_
    refine Go.iload_n dX7_isUnder_5 rfl ?_
    refine Go.icmp_eq 29 dX7_isUnder_6 rfl (fun h6 => ?_) (fun h6 => ?_)
    · refine Go.iconst (v := 1) dX7_isUnder_29 (by decide) ?_
      refine Go.goto 34 dX7_isUnder_30 rfl ?_
      refine Go.iret dX7_isUnder_34 rfl (by decide) ?_
      refine ⟨_, rfl, ?_, rfl⟩
      simp_all [bi, undI]
    · refine Go.iload_n dX7_isUnder_9 rfl ?_
      refine Go.iconst (v := 1) dX7_isUnder_10 (by decide) ?_
      refine Go.icmp_ne 19 dX7_isUnder_11 rfl (fun h11 => ?_) (fun h11 => ?_)
      · refine Go.iload_n dX7_isUnder_19 rfl ?_
        refine Go.iconst (v := 3) dX7_isUnder_20 (by decide) ?_
        refine Go.icmp_ne 33 dX7_isUnder_21 rfl (fun h21 => ?_) (fun h21 => ?_)
        · refine Go.iconst (v := 0) dX7_isUnder_33 (by decide) ?_
          refine Go.iret dX7_isUnder_34 rfl (by decide) ?_
          refine ⟨_, rfl, ?_, rfl⟩
          simp_all [bi, undI]
        · refine Go.iload_n dX7_isUnder_24 rfl ?_
          refine Go.iconst (v := 5) dX7_isUnder_25 (by decide) ?_
          refine Go.icmp_ne 33 dX7_isUnder_26 rfl (fun h26 => ?_) (fun h26 => ?_)
          · refine Go.iconst (v := 0) dX7_isUnder_33 (by decide) ?_
            refine Go.iret dX7_isUnder_34 rfl (by decide) ?_
            refine ⟨_, rfl, ?_, rfl⟩
            simp_all [bi, undI]
          · refine Go.iconst (v := 1) dX7_isUnder_29 (by decide) ?_
            refine Go.goto 34 dX7_isUnder_30 rfl ?_
            refine Go.iret dX7_isUnder_34 rfl (by decide) ?_
            refine ⟨_, rfl, ?_, rfl⟩
            simp_all [bi, undI]
      · refine Go.iload_n dX7_isUnder_14 rfl ?_
        refine Go.iconst (v := 4) dX7_isUnder_15 (by decide) ?_
        refine Go.icmp_eq 29 dX7_isUnder_16 rfl (fun h16 => ?_) (fun h16 => ?_)
        · refine Go.iconst (v := 1) dX7_isUnder_29 (by decide) ?_
          refine Go.goto 34 dX7_isUnder_30 rfl ?_
          refine Go.iret dX7_isUnder_34 rfl (by decide) ?_
          refine ⟨_, rfl, ?_, rfl⟩
          simp_all [bi, undI]
        · refine Go.iload_n dX7_isUnder_19 rfl ?_
          refine Go.iconst (v := 3) dX7_isUnder_20 (by decide) ?_
          refine Go.icmp_ne 33 dX7_isUnder_21 rfl (fun h21 => ?_) (fun h21 => ?_)
          · refine Go.iconst (v := 0) dX7_isUnder_33 (by decide) ?_
            refine Go.iret dX7_isUnder_34 rfl (by decide) ?_
            refine ⟨_, rfl, ?_, rfl⟩
            simp_all [bi, undI]
          · refine Go.iload_n dX7_isUnder_24 rfl ?_
            refine Go.iconst (v := 5) dX7_isUnder_25 (by decide) ?_
            refine Go.icmp_ne 33 dX7_isUnder_26 rfl (fun h26 => ?_) (fun h26 => ?_)
            · refine Go.iconst (v := 0) dX7_isUnder_33 (by decide) ?_
              refine Go.iret dX7_isUnder_34 rfl (by decide) ?_
              refine ⟨_, rfl, ?_, rfl⟩
              simp_all [bi, undI]
            · refine Go.iconst (v := 1) dX7_isUnder_29 (by decide) ?_
              refine Go.goto 34 dX7_isUnder_30 rfl ?_
              refine Go.iret dX7_isUnder_34 rfl (by decide) ?_
              refine ⟨_, rfl, ?_, rfl⟩
              simp_all [bi, undI]
set_option maxRecDepth 20000 in
theorem c_as {G : Gt} {d : Nat} {M : Mm} (hG : gS G = SHAPE) {g : Sg} (hC : CompIs M g) (hg : SgOk g) (e0 k0 : Int32) : ExI G (d + 2) mX6_as [.ref 0, .int e0, .int k0] M (fun r M' => r = (A_as g e0 k0).1 ∧ CompIs M' (A_as g e0 k0).2 ∧ MSame M M') := by
  refine Ex.of (by decide) (Nat.le_of_ble_eq_true rfl) ?_
  have hB := hC.1.bk hg.1
  have hn30 := hg.1.1
  show Go G (d + 2) mX6_as 0 [some (.ref 0), some (.int e0), some (.int k0)] [] M _
  by_cases hgd : (inb e0 (nI (uN (gU g))) && inb k0 6) = true
  · rw [Bool.and_eq_true] at hgd
    obtain ⟨j, hj, ej⟩ := inb_ex hgd.1 (by omega)
    obtain ⟨k, hk, ek⟩ := inb_ex (n := 6) hgd.2 (by decide)
    subst ej
    subst ek
    have hA0 : A_as g (nI j) (nI k) = (if upK 6 (nI (uK (gU g) j)) (nI k) then (nI (uX (gU g) j), g) else (-1000000003, fndS g 2)) := by
      rw [show A_as g (nI j) (nI k) = (if upK 6 (nI (uK (gU g) (tN (nI j)))) (nI k) then (nI (uX (gU g) (tN (nI j))), g) else (-1000000003, fndS g 2)) from if_pos (by rw [hgd.1, hgd.2]; rfl), tN_nI (by omega)]
    have hk6 := (hB.2.2.2.2 j hj).1
    refine Go.iload_n dX6_as_0 rfl ?_
    refine Go.aload_n dX6_as_1 rfl ?_
    refine Go.getR dX6_as_2 flX6_12 (shp hG rfl) rfl ?_
    refine Go.getI dX6_as_5 flX6_148 (shp hG rfl) rfl ?_
    refine Go.eqI (y := nI (uN (gU g))) (hB.2.2.1) ?_
    refine Go.callSI [] dX6_as_8 lkX6_58 stX6_isBelow cbX6_isBelow (s_isBelow (nI j) (nI (uN (gU g)))) rfl rfl (Nat.le_of_ble_eq_true rfl) (fun r1 M2 hr1 => ?_)
    obtain ⟨er1, emr1⟩ := hr1
    rw [emr1]
    clear emr1 M2
    subst er1
    refine Go.eqI (y := 1) (by rw [hgd.1]; rfl) ?_
    refine Go.if_eq 23 dX6_as_11 rfl (fun h11 => absurd h11 (by decide)) (fun _ => ?_)
    refine Go.iload_n dX6_as_14 rfl ?_
    refine Go.bipush (v := 6) dX6_as_15 (by decide) ?_
    refine Go.callSI [] dX6_as_17 lkX6_58 stX6_isBelow cbX6_isBelow (s_isBelow (nI k) 6) rfl rfl (Nat.le_of_ble_eq_true rfl) (fun r3 M4 hr3 => ?_)
    obtain ⟨er3, emr3⟩ := hr3
    rw [emr3]
    clear emr3 M4
    subst er3
    refine Go.eqI (y := 1) (by rw [show inb (nI k) 6 = decide (k < 6) from inb_nI (by omega) (by decide), decide_eq_true (by omega)]; rfl) ?_
    refine Go.if_ne 30 dX6_as_20 rfl (fun _ => ?_) (fun h20 => absurd h20 (by decide))
    refine Go.aload_n dX6_as_30 rfl ?_
    refine Go.getR dX6_as_31 flX6_12 (shp hG rfl) rfl ?_
    refine Go.getR dX6_as_34 flX6_152 (shp hG rfl) rfl ?_
    refine Go.iload_n dX6_as_37 rfl ?_
    refine Go.iald dX6_as_38 (shp hG rfl) (vin (by omega) (by decide)) ?_
    refine Go.eqI (y := nI (uK (gU g) j)) (by rw [ncl (by omega)]; exact (hC.1.2.2.2.2.2.2.2 j hj).1) ?_
    refine Go.iload_n dX6_as_39 rfl ?_
    refine Go.callSI [] dX6_as_40 lkX6_167 stX6_isOfKind cbX6_isOfKind (s_isOfKind (nI (uK (gU g) j)) (nI k)) rfl rfl (Nat.le_of_ble_eq_true rfl) (fun r5 M6 hr5 => ?_)
    obtain ⟨er5, emr5⟩ := hr5
    rw [emr5]
    clear emr5 M6
    subst er5
    refine Go.if_ne 53 dX6_as_43 rfl (fun h43 => ?_) (fun h43 => ?_)
    · refine Go.aload_n dX6_as_53 rfl ?_
      refine Go.getR dX6_as_54 flX6_12 (shp hG rfl) rfl ?_
      refine Go.getR dX6_as_57 flX6_155 (shp hG rfl) rfl ?_
      refine Go.iload_n dX6_as_60 rfl ?_
      refine Go.iald dX6_as_61 (shp hG rfl) (vin (by omega) (by decide)) ?_
      refine Go.eqI (y := nI (uX (gU g) j)) (by rw [ncl (by omega)]; exact (hC.1.2.2.2.2.2.2.2 j hj).2.1) ?_
      refine Go.iret dX6_as_62 rfl rfl ?_
      refine ⟨_, rfl, ?_⟩
      rw [hA0, if_pos (bi_n0.mp h43)]
      exact ⟨rfl, hC, MSame.refl M⟩
    · refine Go.aload_n dX6_as_46 rfl ?_
      refine Go.ldc dX6_as_47 kcX6_170 ?_
      refine Go.callVI [] dX6_as_49 lkX6_63 imX6_finding seX6_finding cbX6_finding (s_finding hG (code := (-1000000003)) (q := 2) (by decide) (by decide)) (shp hG rfl) rfl rfl rfl (Nat.le_of_ble_eq_true rfl) (fun r7 M8 hr7 => ?_)
      refine Go.iret dX6_as_52 rfl rfl ?_
      refine ⟨_, rfl, ?_⟩
      rw [hA0, if_neg (by rw [bi_0.mp h43]; decide), hr7.2]
      exact ⟨hr7.1, hC.fnd⟩
  · refine Go.iload_n dX6_as_0 rfl ?_
    refine Go.aload_n dX6_as_1 rfl ?_
    refine Go.getR dX6_as_2 flX6_12 (shp hG rfl) rfl ?_
    refine Go.getI dX6_as_5 flX6_148 (shp hG rfl) rfl ?_
    refine Go.eqI (y := nI (uN (gU g))) (hB.2.2.1) ?_
    refine Go.callSI [] dX6_as_8 lkX6_58 stX6_isBelow cbX6_isBelow (s_isBelow e0 (nI (uN (gU g)))) rfl rfl (Nat.le_of_ble_eq_true rfl) (fun r1 M2 hr1 => ?_)
    obtain ⟨er1, emr1⟩ := hr1
    rw [emr1]
    clear emr1 M2
    subst er1
    refine Go.if_eq 23 dX6_as_11 rfl (fun h11 => ?_) (fun h11 => ?_)
    · refine Go.aload_n dX6_as_23 rfl ?_
      refine Go.ldc dX6_as_24 kcX6_62 ?_
      refine Go.callVI [] dX6_as_26 lkX6_63 imX6_finding seX6_finding cbX6_finding (s_finding hG (code := (-1000000001)) (q := 0) (by decide) (by decide)) (shp hG rfl) rfl rfl rfl (Nat.le_of_ble_eq_true rfl) (fun r3 M4 hr3 => ?_)
      refine Go.iret dX6_as_29 rfl rfl ?_
      refine ⟨_, rfl, ?_⟩
      rw [show A_as g e0 k0 = ((-1000000001), fndS g 0) from if_neg hgd, hr3.2]
      exact ⟨hr3.1, hC.fnd⟩
    · refine Go.iload_n dX6_as_14 rfl ?_
      refine Go.bipush (v := 6) dX6_as_15 (by decide) ?_
      refine Go.callSI [] dX6_as_17 lkX6_58 stX6_isBelow cbX6_isBelow (s_isBelow k0 6) rfl rfl (Nat.le_of_ble_eq_true rfl) (fun r5 M6 hr5 => ?_)
      obtain ⟨er5, emr5⟩ := hr5
      rw [emr5]
      clear emr5 M6
      subst er5
      refine Go.if_ne 30 dX6_as_20 rfl (fun h20 => ?_) (fun h20 => ?_)
      · exact absurd (by simp [bi_n0.mp h11, bi_n0.mp h20]) hgd
      · refine Go.aload_n dX6_as_23 rfl ?_
        refine Go.ldc dX6_as_24 kcX6_62 ?_
        refine Go.callVI [] dX6_as_26 lkX6_63 imX6_finding seX6_finding cbX6_finding (s_finding hG (code := (-1000000001)) (q := 0) (by decide) (by decide)) (shp hG rfl) rfl rfl rfl (Nat.le_of_ble_eq_true rfl) (fun r7 M8 hr7 => ?_)
        refine Go.iret dX6_as_29 rfl rfl ?_
        refine ⟨_, rfl, ?_⟩
        rw [show A_as g e0 k0 = ((-1000000001), fndS g 0) from if_neg hgd, hr7.2]
        exact ⟨hr7.1, hC.fnd⟩
set_option maxRecDepth 20000 in
theorem m_as {G : Gt} {d : Nat} {M : Mm} (hG : gS G = SHAPE) {g : Sg} (hC : ModIs M g) (hg : SgOk g) (e0 k0 : Int32) : ExI G (d + 2) mX7_as [.ref 49, .int e0, .int k0] M (fun r M' => r = (A_as g e0 k0).1 ∧ ModIs M' (A_as g e0 k0).2 ∧ CSame M M') := by
  refine Ex.of (by decide) (Nat.le_of_ble_eq_true rfl) ?_
  have hB := hC.1.bk hg.1
  have hn30 := hg.1.1
  show Go G (d + 2) mX7_as 0 [some (.ref 49), some (.int e0), some (.int k0)] [] M _
  by_cases hgd : (inb e0 (nI (uN (gU g))) && inb k0 6) = true
  · rw [Bool.and_eq_true] at hgd
    obtain ⟨j, hj, ej⟩ := inb_ex hgd.1 (by omega)
    obtain ⟨k, hk, ek⟩ := inb_ex (n := 6) hgd.2 (by decide)
    subst ej
    subst ek
    have hA0 : A_as g (nI j) (nI k) = (if upK 6 (nI (uK (gU g) j)) (nI k) then (nI (uX (gU g) j), g) else (-1000000003, fndS g 2)) := by
      rw [show A_as g (nI j) (nI k) = (if upK 6 (nI (uK (gU g) (tN (nI j)))) (nI k) then (nI (uX (gU g) (tN (nI j))), g) else (-1000000003, fndS g 2)) from if_pos (by rw [hgd.1, hgd.2]; rfl), tN_nI (by omega)]
    have hk6 := (hB.2.2.2.2.2 j hj).1
    refine Go.aload_n dX7_as_0 rfl ?_
    refine Go.iload_n dX7_as_1 rfl ?_
    refine Go.callVI [] dX7_as_2 lkX7_170 imX7_isEntry seX7_isEntry cbX7_isEntry (m_isEntry hG (n := uN (gU g)) hB.2.2.1 (by omega) (nI j)) (shp hG rfl) rfl rfl rfl (Nat.le_of_ble_eq_true rfl) (fun r1 M2 hr1 => ?_)
    obtain ⟨er1, emr1⟩ := hr1
    rw [emr1]
    clear emr1 M2
    subst er1
    refine Go.eqI (y := 1) (by rw [hgd.1]; rfl) ?_
    refine Go.if_eq 15 dX7_as_5 rfl (fun h5 => absurd h5 (by decide)) (fun _ => ?_)
    refine Go.iload_n dX7_as_8 rfl ?_
    refine Go.callSI [] dX7_as_9 lkX7_159 stX7_isKind cbX7_isKind (m_isKind (nI k)) rfl rfl (Nat.le_of_ble_eq_true rfl) (fun r3 M4 hr3 => ?_)
    obtain ⟨er3, emr3⟩ := hr3
    rw [emr3]
    clear emr3 M4
    subst er3
    refine Go.eqI (y := 1) (by rw [show inI (nI k) 0 5 = true from inI_lo (N := 5) (by omega) (by decide)]; rfl) ?_
    refine Go.if_ne 22 dX7_as_12 rfl (fun _ => ?_) (fun h12 => absurd h12 (by decide))
    refine Go.aload_n dX7_as_22 rfl ?_
    refine Go.getR dX7_as_23 flX7_19 (shp hG rfl) rfl ?_
    refine Go.iload_n dX7_as_26 rfl ?_
    refine Go.iald dX7_as_27 (shp hG rfl) (vin (by omega) (by decide)) ?_
    refine Go.eqI (y := nI (uK (gU g) j)) (by rw [ncl (by omega)]; exact (hC.1.2.2.2.2.2.2.2.2 j hj).1) ?_
    refine Go.iload_n dX7_as_28 rfl ?_
    refine Go.callSI [] dX7_as_29 lkX7_176 stX7_isUnder cbX7_isUnder (m_isUnder (nI (uK (gU g) j)) (nI k)) rfl rfl (Nat.le_of_ble_eq_true rfl) (fun r5 M6 hr5 => ?_)
    obtain ⟨er5, emr5⟩ := hr5
    rw [emr5]
    clear emr5 M6
    subst er5
    refine Go.eqI (y := bi (upK 6 (nI (uK (gU g) j)) (nI k))) (by rw [und_up _ hk6 k hk]) ?_
    refine Go.if_eq 44 dX7_as_32 rfl (fun h32 => ?_) (fun h32 => ?_)
    · refine Go.aload_n dX7_as_44 rfl ?_
      refine Go.ldc dX7_as_45 kcX7_179 ?_
      refine Go.callVI [] dX7_as_47 lkX7_104 imX7_finds seX7_finds cbX7_finds (m_finds hG (code := (-1000000003)) (q := 2) (by decide) (by decide)) (shp hG rfl) rfl rfl rfl (Nat.le_of_ble_eq_true rfl) (fun r7 M8 hr7 => ?_)
      refine Go.iret dX7_as_50 rfl rfl ?_
      refine ⟨_, rfl, ?_⟩
      rw [hA0, if_neg (by rw [bi_0.mp h32]; decide), hr7.2]
      exact ⟨hr7.1, hC.fnd⟩
    · refine Go.aload_n dX7_as_35 rfl ?_
      refine Go.getR dX7_as_36 flX7_22 (shp hG rfl) rfl ?_
      refine Go.iload_n dX7_as_39 rfl ?_
      refine Go.iald dX7_as_40 (shp hG rfl) (vin (by omega) (by decide)) ?_
      refine Go.eqI (y := nI (uX (gU g) j)) (by rw [ncl (by omega)]; exact (hC.1.2.2.2.2.2.2.2.2 j hj).2.1) ?_
      refine Go.goto 50 dX7_as_41 rfl ?_
      refine Go.iret dX7_as_50 rfl rfl ?_
      refine ⟨_, rfl, ?_⟩
      rw [hA0, if_pos (bi_n0.mp h32)]
      exact ⟨rfl, hC, CSame.refl M⟩
  · refine Go.aload_n dX7_as_0 rfl ?_
    refine Go.iload_n dX7_as_1 rfl ?_
    refine Go.callVI [] dX7_as_2 lkX7_170 imX7_isEntry seX7_isEntry cbX7_isEntry (m_isEntry hG (n := uN (gU g)) hB.2.2.1 (by omega) e0) (shp hG rfl) rfl rfl rfl (Nat.le_of_ble_eq_true rfl) (fun r1 M2 hr1 => ?_)
    obtain ⟨er1, emr1⟩ := hr1
    rw [emr1]
    clear emr1 M2
    subst er1
    refine Go.if_eq 15 dX7_as_5 rfl (fun h5 => ?_) (fun h5 => ?_)
    · refine Go.aload_n dX7_as_15 rfl ?_
      refine Go.ldc dX7_as_16 kcX7_85 ?_
      refine Go.callVI [] dX7_as_18 lkX7_104 imX7_finds seX7_finds cbX7_finds (m_finds hG (code := (-1000000001)) (q := 0) (by decide) (by decide)) (shp hG rfl) rfl rfl rfl (Nat.le_of_ble_eq_true rfl) (fun r3 M4 hr3 => ?_)
      refine Go.iret dX7_as_21 rfl rfl ?_
      refine ⟨_, rfl, ?_⟩
      rw [show A_as g e0 k0 = ((-1000000001), fndS g 0) from if_neg hgd, hr3.2]
      exact ⟨hr3.1, hC.fnd⟩
    · refine Go.iload_n dX7_as_8 rfl ?_
      refine Go.callSI [] dX7_as_9 lkX7_159 stX7_isKind cbX7_isKind (m_isKind k0) rfl rfl (Nat.le_of_ble_eq_true rfl) (fun r5 M6 hr5 => ?_)
      obtain ⟨er5, emr5⟩ := hr5
      rw [emr5]
      clear emr5 M6
      subst er5
      refine Go.if_ne 22 dX7_as_12 rfl (fun h12 => ?_) (fun h12 => ?_)
      · exact absurd (by simp [← inI_kind, bi_n0.mp h5, bi_n0.mp h12]) hgd
      · refine Go.aload_n dX7_as_15 rfl ?_
        refine Go.ldc dX7_as_16 kcX7_85 ?_
        refine Go.callVI [] dX7_as_18 lkX7_104 imX7_finds seX7_finds cbX7_finds (m_finds hG (code := (-1000000001)) (q := 0) (by decide) (by decide)) (shp hG rfl) rfl rfl rfl (Nat.le_of_ble_eq_true rfl) (fun r7 M8 hr7 => ?_)
        refine Go.iret dX7_as_21 rfl rfl ?_
        refine ⟨_, rfl, ?_⟩
        rw [show A_as g e0 k0 = ((-1000000001), fndS g 0) from if_neg hgd, hr7.2]
        exact ⟨hr7.1, hC.fnd⟩
def cutU (u : Bu) : Bu := (uS u, uT u, uW u, uC u, uN u - 1, uK u, uX u, uD u, uE u, uY u)
theorem BuC.cut {M : Mm} {b : Nat} {u : Bu} (h : BuC M b u) : BuC (upi M b 7 (nI (uN u - 1))) b (cutU u) := by
  obtain ⟨h1, h2, h3, h4, h5, h6, h7, h8⟩ := h
  have r : ∀ a, a ≠ b → (upi M b 7 (nI (uN u - 1))).1 a = M.1 a := fun a q => rd_ne q
  refine ⟨fun t ht => by rw [r _ (by omega)]; exact h1 t ht, fun t ht => by rw [r _ (by omega)]; exact h2 t ht, fun t ht => by rw [r _ (by omega)]; exact h3 t ht, fun t ht => by rw [r _ (by omega)]; exact h4 t ht, by rw [rd_eq]; simp [upd]; rfl, by rw [rd_eq]; simp [upd]; exact h6, by rw [rd_eq]; simp [upd]; exact h7, fun j hj => ?_⟩
  have hj' : j < uN u - 1 := hj
  rw [r _ (by omega), r _ (by omega), r _ (by omega)]
  exact h8 j (by omega)
theorem BuM.cut {M : Mm} {u : Bu} (h : BuM M u) : BuM (upi M 49 4 (nI (uN u - 1))) (cutU u) := by
  obtain ⟨h1, h2, h3, h4, h5, h6, h7, h8, h9⟩ := h
  have r : ∀ a, a ≠ 49 → (upi M 49 4 (nI (uN u - 1))).1 a = M.1 a := fun a q => rd_ne q
  refine ⟨fun t ht => by rw [r 50 (by decide)]; exact h1 t ht, fun t ht => by rw [r 51 (by decide)]; exact h2 t ht, fun t ht => by rw [r 51 (by decide)]; exact h3 t ht, fun t ht => by rw [r 51 (by decide)]; exact h4 t ht, by rw [rd_eq]; simp [upd]; rfl, by rw [r 52 (by decide)]; exact h6, by rw [r 52 (by decide)]; exact h7, by rw [rd_eq]; simp [upd]; exact h8, fun j hj => ?_⟩
  have hj' : j < uN u - 1 := hj
  rw [r 53 (by decide), r 54 (by decide), r 55 (by decide)]
  exact h9 j (by omega)
theorem cutU_ok {u : Bu} (h : BuOk u) : BuOk (cutU u) := by
  obtain ⟨h1, h2, h3, h4⟩ := h
  exact ⟨by show uN u - 1 ≤ 30; omega, h2, fun j hj => h3 j (by have hj' : j < uN u - 1 := hj; omega), h4⟩
def A_strike (g : Sg) : Int32 × Sg := if uN (gU g) = 0 then (-1000000004, fndS g 3) else (nI (uX (gU g) (uN (gU g) - 1)), setU g (cutU (gU g)))
set_option maxRecDepth 20000 in
theorem c_strike {G : Gt} {d : Nat} {M : Mm} (hG : gS G = SHAPE) {g : Sg} (hC : CompIs M g) (hg : SgOk g)  : ExI G (d + 2) mX6_strike [.ref 0] M (fun r M' => r = (A_strike g).1 ∧ CompIs M' (A_strike g).2 ∧ MSame M M') := by
  refine Ex.of (by decide) (Nat.le_of_ble_eq_true rfl) ?_
  have hB := hC.1.bk hg.1
  have hn30 := hg.1.1
  show Go G (d + 2) mX6_strike 0 [some (.ref 0)] [] M _
  refine Go.aload_n dX6_strike_0 rfl ?_
  refine Go.getR dX6_strike_1 flX6_12 (shp hG rfl) rfl ?_
  refine Go.getI dX6_strike_4 flX6_148 (shp hG rfl) rfl ?_
  refine Go.eqI (y := nI (uN (gU g))) (hB.2.2.1) ?_
  refine Go.if_gt 17 dX6_strike_7 rfl (fun h7 => ?_) (fun h7 => ?_)
  · have n7 : 0 < (uN (gU g)) := (nI_ltI (a := 0) (b := (uN (gU g))) (by omega) (by omega)).mp h7
    refine Go.aload_n dX6_strike_17 rfl ?_
    refine Go.getR dX6_strike_18 flX6_12 (shp hG rfl) rfl ?_
    refine Go.dup dX6_strike_21 rfl ?_
    refine Go.getI dX6_strike_22 flX6_148 (shp hG rfl) rfl ?_
    refine Go.eqI (y := nI (uN (gU g))) (hB.2.2.1) ?_
    refine Go.iconst (v := 1) dX6_strike_25 (by decide) ?_
    refine Go.isub dX6_strike_26 ?_
    refine Go.eqI (y := nI (uN (gU g) - 1)) (pk_sub (b := 1) (by omega)) ?_
    refine Go.putI dX6_strike_27 fpX6_148 (shp hG rfl) rfl rfl rfl ?_
    refine Go.nmM (fun N1 eN1 => ?_)
    refine Go.aload_n dX6_strike_30 rfl ?_
    refine Go.getR dX6_strike_31 flX6_12 (shp hG rfl) rfl ?_
    refine Go.getR dX6_strike_34 flX6_155 (shp hG rfl) rfl ?_
    refine Go.aload_n dX6_strike_37 rfl ?_
    refine Go.getR dX6_strike_38 flX6_12 (shp hG rfl) rfl ?_
    refine Go.getI dX6_strike_41 flX6_148 (shp hG rfl) rfl ?_
    refine Go.eqI (y := nI (uN (gU g) - 1)) (by rw [eN1, rd_eq]; simp [upd]) ?_
    refine Go.iald dX6_strike_44 (shp hG rfl) (vin (by omega) (by decide)) ?_
    refine Go.eqI (y := nI (uX (gU g) (uN (gU g) - 1))) (by rw [eN1, rd_ne (by decide), ncl (by omega)]; exact (hC.1.2.2.2.2.2.2.2 _ (by omega)).2.1) ?_
    refine Go.iret dX6_strike_45 rfl rfl ?_
    refine ⟨_, rfl, ?_⟩
    have h9 : ¬ uN (gU g) = 0 := by omega
    rw [show A_strike g = (nI (uX (gU g) (uN (gU g) - 1)), setU g (cutU (gU g))) from if_neg h9, eN1]
    exact ⟨rfl, hC.setU hC.1.cut (Same.upi _ 1 _ _ (by decide))⟩
  · have n7 : ¬ 0 < (uN (gU g)) := fun q => h7 ((nI_ltI (a := 0) (b := (uN (gU g))) (by omega) (by omega)).mpr q)
    refine Go.aload_n dX6_strike_10 rfl ?_
    refine Go.ldc dX6_strike_11 kcX6_171 ?_
    refine Go.callVI [] dX6_strike_13 lkX6_63 imX6_finding seX6_finding cbX6_finding (s_finding hG (code := (-1000000004)) (q := 3) (by decide) (by decide)) (shp hG rfl) rfl rfl rfl (Nat.le_of_ble_eq_true rfl) (fun r2 M3 hr2 => ?_)
    refine Go.iret dX6_strike_16 rfl rfl ?_
    refine ⟨_, rfl, ?_⟩
    have h9 : uN (gU g) = 0 := by omega
    rw [show A_strike g = (-1000000004, fndS g 3) from if_pos h9, hr2.2]
    exact ⟨hr2.1, hC.fnd⟩
set_option maxRecDepth 20000 in
theorem m_strike {G : Gt} {d : Nat} {M : Mm} (hG : gS G = SHAPE) {g : Sg} (hC : ModIs M g) (hg : SgOk g)  : ExI G (d + 2) mX7_strike [.ref 49] M (fun r M' => r = (A_strike g).1 ∧ ModIs M' (A_strike g).2 ∧ CSame M M') := by
  refine Ex.of (by decide) (Nat.le_of_ble_eq_true rfl) ?_
  have hB := hC.1.bk hg.1
  have hn30 := hg.1.1
  show Go G (d + 2) mX7_strike 0 [some (.ref 49)] [] M _
  refine Go.aload_n dX7_strike_0 rfl ?_
  refine Go.getI dX7_strike_1 flX7_93 (shp hG rfl) rfl ?_
  refine Go.eqI (y := nI (uN (gU g))) (hB.2.2.1) ?_
  refine Go.if_ne 14 dX7_strike_4 rfl (fun h4 => ?_) (fun h4 => ?_)
  · have n4 : ¬ (uN (gU g)) = 0 := fun q => h4 ((nI_inj (a := (uN (gU g))) (b := 0) (by omega) (by omega)).mpr q)
    refine Go.aload_n dX7_strike_14 rfl ?_
    refine Go.dup dX7_strike_15 rfl ?_
    refine Go.getI dX7_strike_16 flX7_93 (shp hG rfl) rfl ?_
    refine Go.eqI (y := nI (uN (gU g))) (hB.2.2.1) ?_
    refine Go.iconst (v := 1) dX7_strike_19 (by decide) ?_
    refine Go.isub dX7_strike_20 ?_
    refine Go.eqI (y := nI (uN (gU g) - 1)) (pk_sub (b := 1) (by omega)) ?_
    refine Go.putI dX7_strike_21 fpX7_93 (shp hG rfl) rfl rfl rfl ?_
    refine Go.nmM (fun N1 eN1 => ?_)
    refine Go.aload_n dX7_strike_24 rfl ?_
    refine Go.getR dX7_strike_25 flX7_22 (shp hG rfl) rfl ?_
    refine Go.aload_n dX7_strike_28 rfl ?_
    refine Go.getI dX7_strike_29 flX7_93 (shp hG rfl) rfl ?_
    refine Go.eqI (y := nI (uN (gU g) - 1)) (by rw [eN1, rd_eq]; simp [upd]) ?_
    refine Go.iald dX7_strike_32 (shp hG rfl) (vin (by omega) (by decide)) ?_
    refine Go.eqI (y := nI (uX (gU g) (uN (gU g) - 1))) (by rw [eN1, rd_ne (by decide), ncl (by omega)]; exact (hC.1.2.2.2.2.2.2.2.2 _ (by omega)).2.1) ?_
    refine Go.iret dX7_strike_33 rfl rfl ?_
    refine ⟨_, rfl, ?_⟩
    have h9 : ¬ uN (gU g) = 0 := by omega
    rw [show A_strike g = (nI (uX (gU g) (uN (gU g) - 1)), setU g (cutU (gU g))) from if_neg h9, eN1]
    exact ⟨rfl, hC.setU hC.1.cut (Same.upi _ 49 _ _ (by decide)) (by rw [rd_eq]; simp [upd]) (by rw [rd_eq]; simp [upd])⟩
  · have n4 : (uN (gU g)) = 0 := (nI_inj (a := (uN (gU g))) (b := 0) (by omega) (by omega)).mp h4
    refine Go.aload_n dX7_strike_7 rfl ?_
    refine Go.ldc dX7_strike_8 kcX7_127 ?_
    refine Go.callVI [] dX7_strike_10 lkX7_104 imX7_finds seX7_finds cbX7_finds (m_finds hG (code := (-1000000004)) (q := 3) (by decide) (by decide)) (shp hG rfl) rfl rfl rfl (Nat.le_of_ble_eq_true rfl) (fun r2 M3 hr2 => ?_)
    refine Go.iret dX7_strike_13 rfl rfl ?_
    refine ⟨_, rfl, ?_⟩
    have h9 : uN (gU g) = 0 := by omega
    rw [show A_strike g = (-1000000004, fndS g 3) from if_pos h9, hr2.2]
    exact ⟨hr2.1, hC.fnd⟩
