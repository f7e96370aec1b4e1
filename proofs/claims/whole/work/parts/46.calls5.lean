def entU (u : Bu) (k x : Nat) : Bu := (uS u, uT u, uW u, uC u, uN u + 1, fun e => if e = uN u then k else uK u e, fun e => if e = uN u then x else uX u e, fun e => if e = uN u then uY u else uD u e, uE u, uY u)
theorem BuC.ent {M : Mm} {b : Nat} {u : Bu} (h : BuC M b u) (k x : Nat) : BuC (noteM b M (uN u) (nI k) (nI x)) b (entU u k x) := by
  obtain ⟨h1, h2, h3, h4, h5, h6, h7, h8⟩ := h
  have r : ∀ a, a ≠ b → a ≠ b + 5 → a ≠ b + 6 → a ≠ b + 7 → (noteM b M (uN u) (nI k) (nI x)).1 a = M.1 a := fun a q1 q2 q3 q4 => by
    unfold noteM; rw [rd_ne q1, rd_ne q4, rd_ne q3, rd_ne q2]
  have rb : ∀ j, j ≠ 7 → (noteM b M (uN u) (nI k) (nI x)).1 b j = M.1 b j := fun j hj => by
    unfold noteM
    rw [rd_eq]
    unfold upd
    rw [if_neg hj, rd_ne (by omega), rd_ne (by omega), rd_ne (by omega)]
  refine ⟨fun t ht => by rw [r _ (by omega) (by omega) (by omega) (by omega)]; exact h1 t ht, fun t ht => by rw [r _ (by omega) (by omega) (by omega) (by omega)]; exact h2 t ht, fun t ht => by rw [r _ (by omega) (by omega) (by omega) (by omega)]; exact h3 t ht, fun t ht => by rw [r _ (by omega) (by omega) (by omega) (by omega)]; exact h4 t ht, ?_, by rw [rb 8 (by decide)]; exact h6, by rw [rb 9 (by decide)]; exact h7, fun e he => ?_⟩
  · unfold noteM; rw [rd_eq]; simp [upd]; rfl
  · have e5 : (noteM b M (uN u) (nI k) (nI x)).1 (b + 5) = upd (M.1 (b + 5)) (uN u) (nI k) := by
      unfold noteM; rw [rd_ne (by omega), rd_ne (by omega), rd_ne (by omega), rd_eq]
    have e6 : (noteM b M (uN u) (nI k) (nI x)).1 (b + 6) = upd (M.1 (b + 6)) (uN u) (nI x) := by
      unfold noteM; rw [rd_ne (by omega), rd_ne (by omega), rd_eq, rd_ne (by omega)]
    have e7 : (noteM b M (uN u) (nI k) (nI x)).1 (b + 7) = upd (M.1 (b + 7)) (uN u) (M.1 b 9) := by
      unfold noteM; rw [rd_ne (by omega), rd_eq, rd_ne (by omega), rd_ne (by omega)]
    rw [e5, e6, e7]
    have he' : e < uN u + 1 := he
    show upd (M.1 (b + 5)) (uN u) (nI k) e = nI (if e = uN u then k else uK u e) ∧ upd (M.1 (b + 6)) (uN u) (nI x) e = nI (if e = uN u then x else uX u e) ∧ upd (M.1 (b + 7)) (uN u) (M.1 b 9) e = (if e = uN u then uY u else uD u e)
    unfold upd
    by_cases q : e = uN u
    · simp only [if_pos q]; exact ⟨trivial, trivial, h7⟩
    · simp only [if_neg q]; exact h8 e (by omega)
theorem BuM.ent {M : Mm} {u : Bu} (h : BuM M u) (k x : Nat) : BuM (addM M (uN u) (nI k) (nI x) (uY u)) (entU u k x) := by
  obtain ⟨h1, h2, h3, h4, h5, h6, h7, h8, h9⟩ := h
  have r : ∀ a, a ≠ 49 → a ≠ 53 → a ≠ 54 → a ≠ 55 → (addM M (uN u) (nI k) (nI x) (uY u)).1 a = M.1 a := fun a q1 q2 q3 q4 => by
    unfold addM; rw [rd_ne q1, rd_ne q4, rd_ne q3, rd_ne q2]
  have rb : ∀ j, j ≠ 4 → (addM M (uN u) (nI k) (nI x) (uY u)).1 49 j = M.1 49 j := fun j hj => by
    unfold addM
    rw [rd_eq]
    unfold upd
    rw [if_neg hj, rd_ne (by decide), rd_ne (by decide), rd_ne (by decide)]
  have e51 := r 51 (by decide) (by decide) (by decide) (by decide)
  have e52 := r 52 (by decide) (by decide) (by decide) (by decide)
  refine ⟨fun t ht => by rw [r 50 (by decide) (by decide) (by decide) (by decide)]; exact h1 t ht, fun t ht => by rw [e51]; exact h2 t ht, fun t ht => by rw [e51]; exact h3 t ht, fun t ht => by rw [e51]; exact h4 t ht, ?_, by rw [e52]; exact h6, by rw [e52]; exact h7, by rw [rb 3 (by decide)]; exact h8, fun e he => ?_⟩
  · unfold addM; rw [rd_eq]; simp [upd]; rfl
  · have e5 : (addM M (uN u) (nI k) (nI x) (uY u)).1 53 = upd (M.1 53) (uN u) (nI k) := by
      unfold addM; rw [rd_ne (by decide), rd_ne (by decide), rd_ne (by decide), rd_eq]
    have e6 : (addM M (uN u) (nI k) (nI x) (uY u)).1 54 = upd (M.1 54) (uN u) (nI x) := by
      unfold addM; rw [rd_ne (by decide), rd_ne (by decide), rd_eq, rd_ne (by decide)]
    have e7 : (addM M (uN u) (nI k) (nI x) (uY u)).1 55 = upd (M.1 55) (uN u) (uY u) := by
      unfold addM; rw [rd_ne (by decide), rd_eq, rd_ne (by decide), rd_ne (by decide)]
    rw [e5, e6, e7]
    have he' : e < uN u + 1 := he
    show upd (M.1 53) (uN u) (nI k) e = nI (if e = uN u then k else uK u e) ∧ upd (M.1 54) (uN u) (nI x) e = nI (if e = uN u then x else uX u e) ∧ upd (M.1 55) (uN u) (uY u) e = (if e = uN u then uY u else uD u e)
    unfold upd
    by_cases q : e = uN u
    · simp only [if_pos q]; exact ⟨trivial, trivial, trivial⟩
    · simp only [if_neg q]; exact h9 e (by omega)
theorem entU_ok {u : Bu} {k x : Nat} (h : BuOk u) (hn : uN u < 30) (hk : k < 6) (hx : okD x = true) : BuOk (entU u k x) := by
  obtain ⟨h1, h2, h3, h4⟩ := h
  refine ⟨by show uN u + 1 ≤ 30; omega, h2, fun e he => ?_, h4⟩
  have he' : e < uN u + 1 := he
  show (if e = uN u then k else uK u e) < 6 ∧ okD (if e = uN u then x else uX u e) = true
  by_cases q : e = uN u
  · simp only [if_pos q]; exact ⟨hk, hx⟩
  · simp only [if_neg q]; exact h3 e (by omega)
theorem note_same (b : Nat) (M : Mm) (n : Nat) (k x : Int32) {S : List Nat} (h : b ∈ S ∧ b + 5 ∈ S ∧ b + 6 ∈ S ∧ b + 7 ∈ S) : Same S M (noteM b M n k x) := ((Same.upi M (b + 5) n k h.2.1).trans (Same.upi _ (b + 6) n x h.2.2.1)).trans ((Same.upi _ (b + 7) n _ h.2.2.2).trans (Same.upi _ b 7 _ h.1))
theorem add_same (M : Mm) (n : Nat) (k x dy : Int32) {S : List Nat} (h : 49 ∈ S ∧ 53 ∈ S ∧ 54 ∈ S ∧ 55 ∈ S) : Same S M (addM M n k x dy) := ((Same.upi M 53 n k h.2.1).trans (Same.upi _ 54 n x h.2.2.1)).trans ((Same.upi _ 55 n _ h.2.2.2).trans (Same.upi _ 49 4 _ h.1))
def A_enter (g : Sg) (k x : Int32) : Int32 × Sg := if inb k 6 && isDishI x then (if uN (gU g) = 30 then (-1000000002, fndS g 1) else (nI (uN (gU g)), setU g (entU (gU g) (tN k) (tN x)))) else (-1000000001, fndS g 0)
theorem inI_kind {k : Int32} : inI k 0 5 = inb k 6 := by
  unfold inI inb
  congr 1
  rw [Bool.eq_iff_iff, decide_eq_true_eq, decide_eq_true_eq, i_le, i_lt]
  have e1 : (5 : Int32).toInt = 5 := by decide
  have e2 : (6 : Int32).toInt = 6 := by decide
  omega
set_option maxRecDepth 20000 in
theorem c_enter {G : Gt} {d : Nat} {M : Mm} (hG : gS G = SHAPE) {g : Sg} (hC : CompIs M g) (hg : SgOk g) (k0 x0 : Int32) : ExI G (d + 3) mX6_enter [.ref 0, .int k0, .int x0] M (fun r M' => r = (A_enter g k0 x0).1 ∧ CompIs M' (A_enter g k0 x0).2 ∧ MSame M M') := by
  refine Ex.of (by decide) (Nat.le_of_ble_eq_true rfl) ?_
  have hB := hC.1.bk hg.1
  have hn30 := hg.1.1
  show Go G (d + 3) mX6_enter 0 [some (.ref 0), some (.int k0), some (.int x0)] [] M _
  by_cases hgd : (inb k0 6 && isDishI x0) = true
  · rw [Bool.and_eq_true] at hgd
    obtain ⟨k, hk, ek⟩ := inb_ex (n := 6) hgd.1 (by decide)
    obtain ⟨x, hx, ex, hxo⟩ := isDishI_ok hgd.2
    subst ek
    subst ex
    have hA0 : A_enter g (nI k) (nI x) = (if uN (gU g) = 30 then (-1000000002, fndS g 1) else (nI (uN (gU g)), setU g (entU (gU g) k x))) := by
      rw [show A_enter g (nI k) (nI x) = (if uN (gU g) = 30 then (-1000000002, fndS g 1) else (nI (uN (gU g)), setU g (entU (gU g) (tN (nI k)) (tN (nI x))))) from if_pos (by rw [hgd.1, hgd.2]; rfl), tN_nI (by omega), tN_nI (by omega)]
    refine Go.iload_n dX6_enter_0 rfl ?_
    refine Go.bipush (v := 6) dX6_enter_1 (by decide) ?_
    refine Go.callSI [] dX6_enter_3 lkX6_58 stX6_isBelow cbX6_isBelow (s_isBelow (nI k) 6) rfl rfl (Nat.le_of_ble_eq_true rfl) (fun r1 M2 hr1 => ?_)
    obtain ⟨er1, emr1⟩ := hr1
    rw [emr1]
    clear emr1 M2
    subst er1
    refine Go.eqI (y := 1) (by rw [show inb (nI k) 6 = decide (k < 6) from inb_nI (by omega) (by decide), decide_eq_true (by omega)]; rfl) ?_
    refine Go.if_eq 16 dX6_enter_6 rfl (fun h6 => absurd h6 (by decide)) (fun _ => ?_)
    refine Go.iload_n dX6_enter_9 rfl ?_
    refine Go.callSI [] dX6_enter_10 lkX6_86 stX6_isDish cbX6_isDish (s_isDish (nI x)) rfl rfl (Nat.le_of_ble_eq_true rfl) (fun r3 M4 hr3 => ?_)
    obtain ⟨er3, emr3⟩ := hr3
    rw [emr3]
    clear emr3 M4
    subst er3
    refine Go.eqI (y := 1) (by rw [isDishI_nI (by omega), hxo]; rfl) ?_
    refine Go.if_ne 23 dX6_enter_13 rfl (fun _ => ?_) (fun h13 => absurd h13 (by decide))
    refine Go.aload_n dX6_enter_23 rfl ?_
    refine Go.getR dX6_enter_24 flX6_12 (shp hG rfl) rfl ?_
    refine Go.callVI [] dX6_enter_27 lkX6_140 imX1_isFull seX1_isFull cbX1_isFull (s_isFull1 hG (n := uN (gU g)) hB.2.2.1 (by omega)) (shp hG rfl) rfl rfl rfl (Nat.le_of_ble_eq_true rfl) (fun r5 M6 hr5 => ?_)
    obtain ⟨er5, emr5⟩ := hr5
    rw [emr5]
    clear emr5 M6
    subst er5
    refine Go.if_eq 40 dX6_enter_30 rfl (fun h30 => ?_) (fun h30 => ?_)
    · refine Go.aload_n dX6_enter_40 rfl ?_
      refine Go.getR dX6_enter_41 flX6_12 (shp hG rfl) rfl ?_
      refine Go.iload_n dX6_enter_44 rfl ?_
      refine Go.iload_n dX6_enter_45 rfl ?_
      refine Go.callVI [] dX6_enter_46 lkX6_145 imX1_note seX1_note cbX1_note (s_note1 hG (n := uN (gU g)) hB.2.2.1 (by have := bi_0.mp h30; simp at this; omega) (nI k) (nI x)) (shp hG rfl) rfl rfl rfl (Nat.le_of_ble_eq_true rfl) (fun r7 M8 hr7 => ?_)
      refine Go.iret dX6_enter_49 rfl rfl ?_
      refine ⟨_, rfl, ?_⟩
      have h9 : ¬ uN (gU g) = 30 := by simpa using bi_0.mp h30
      rw [hA0, if_neg h9, hr7.2]
      exact ⟨hr7.1, hC.setU (hC.1.ent k x) (note_same 1 M _ _ _ (by decide))⟩
    · refine Go.aload_n dX6_enter_33 rfl ?_
      refine Go.ldc dX6_enter_34 kcX6_144 ?_
      refine Go.callVI [] dX6_enter_36 lkX6_63 imX6_finding seX6_finding cbX6_finding (s_finding hG (code := (-1000000002)) (q := 1) (by decide) (by decide)) (shp hG rfl) rfl rfl rfl (Nat.le_of_ble_eq_true rfl) (fun r9 M10 hr9 => ?_)
      refine Go.iret dX6_enter_39 rfl rfl ?_
      refine ⟨_, rfl, ?_⟩
      have h9 : uN (gU g) = 30 := by simpa using bi_n0.mp h30
      rw [hA0, if_pos h9, hr9.2]
      exact ⟨hr9.1, hC.fnd⟩
  · refine Go.iload_n dX6_enter_0 rfl ?_
    refine Go.bipush (v := 6) dX6_enter_1 (by decide) ?_
    refine Go.callSI [] dX6_enter_3 lkX6_58 stX6_isBelow cbX6_isBelow (s_isBelow k0 6) rfl rfl (Nat.le_of_ble_eq_true rfl) (fun r1 M2 hr1 => ?_)
    obtain ⟨er1, emr1⟩ := hr1
    rw [emr1]
    clear emr1 M2
    subst er1
    refine Go.if_eq 16 dX6_enter_6 rfl (fun h6 => ?_) (fun h6 => ?_)
    · refine Go.aload_n dX6_enter_16 rfl ?_
      refine Go.ldc dX6_enter_17 kcX6_62 ?_
      refine Go.callVI [] dX6_enter_19 lkX6_63 imX6_finding seX6_finding cbX6_finding (s_finding hG (code := (-1000000001)) (q := 0) (by decide) (by decide)) (shp hG rfl) rfl rfl rfl (Nat.le_of_ble_eq_true rfl) (fun r3 M4 hr3 => ?_)
      refine Go.iret dX6_enter_22 rfl rfl ?_
      refine ⟨_, rfl, ?_⟩
      rw [show A_enter g k0 x0 = ((-1000000001), fndS g 0) from if_neg hgd, hr3.2]
      exact ⟨hr3.1, hC.fnd⟩
    · refine Go.iload_n dX6_enter_9 rfl ?_
      refine Go.callSI [] dX6_enter_10 lkX6_86 stX6_isDish cbX6_isDish (s_isDish x0) rfl rfl (Nat.le_of_ble_eq_true rfl) (fun r5 M6 hr5 => ?_)
      obtain ⟨er5, emr5⟩ := hr5
      rw [emr5]
      clear emr5 M6
      subst er5
      refine Go.if_ne 23 dX6_enter_13 rfl (fun h13 => ?_) (fun h13 => ?_)
      · exact absurd (by simp [bi_n0.mp h6, bi_n0.mp h13]) hgd
      · refine Go.aload_n dX6_enter_16 rfl ?_
        refine Go.ldc dX6_enter_17 kcX6_62 ?_
        refine Go.callVI [] dX6_enter_19 lkX6_63 imX6_finding seX6_finding cbX6_finding (s_finding hG (code := (-1000000001)) (q := 0) (by decide) (by decide)) (shp hG rfl) rfl rfl rfl (Nat.le_of_ble_eq_true rfl) (fun r7 M8 hr7 => ?_)
        refine Go.iret dX6_enter_22 rfl rfl ?_
        refine ⟨_, rfl, ?_⟩
        rw [show A_enter g k0 x0 = ((-1000000001), fndS g 0) from if_neg hgd, hr7.2]
        exact ⟨hr7.1, hC.fnd⟩
set_option maxRecDepth 20000 in
theorem m_enter {G : Gt} {d : Nat} {M : Mm} (hG : gS G = SHAPE) {g : Sg} (hC : ModIs M g) (hg : SgOk g) (k0 x0 : Int32) : ExI G (d + 2) mX7_enter [.ref 49, .int k0, .int x0] M (fun r M' => r = (A_enter g k0 x0).1 ∧ ModIs M' (A_enter g k0 x0).2 ∧ CSame M M') := by
  refine Ex.of (by decide) (Nat.le_of_ble_eq_true rfl) ?_
  have hB := hC.1.bk hg.1
  have hn30 := hg.1.1
  show Go G (d + 2) mX7_enter 0 [some (.ref 49), some (.int k0), some (.int x0)] [] M _
  by_cases hgd : (inb k0 6 && isDishI x0) = true
  · rw [Bool.and_eq_true] at hgd
    obtain ⟨k, hk, ek⟩ := inb_ex (n := 6) hgd.1 (by decide)
    obtain ⟨x, hx, ex, hxo⟩ := isDishI_ok hgd.2
    subst ek
    subst ex
    have hA0 : A_enter g (nI k) (nI x) = (if uN (gU g) = 30 then (-1000000002, fndS g 1) else (nI (uN (gU g)), setU g (entU (gU g) k x))) := by
      rw [show A_enter g (nI k) (nI x) = (if uN (gU g) = 30 then (-1000000002, fndS g 1) else (nI (uN (gU g)), setU g (entU (gU g) (tN (nI k)) (tN (nI x))))) from if_pos (by rw [hgd.1, hgd.2]; rfl), tN_nI (by omega), tN_nI (by omega)]
    refine Go.iload_n dX7_enter_0 rfl ?_
    refine Go.callSI [] dX7_enter_1 lkX7_159 stX7_isKind cbX7_isKind (m_isKind (nI k)) rfl rfl (Nat.le_of_ble_eq_true rfl) (fun r1 M2 hr1 => ?_)
    obtain ⟨er1, emr1⟩ := hr1
    rw [emr1]
    clear emr1 M2
    subst er1
    refine Go.eqI (y := 1) (by rw [show inI (nI k) 0 5 = true from inI_lo (N := 5) (by omega) (by decide)]; rfl) ?_
    refine Go.if_eq 15 dX7_enter_4 rfl (fun h4 => absurd h4 (by decide)) (fun _ => ?_)
    refine Go.aload_n dX7_enter_7 rfl ?_
    refine Go.iload_n dX7_enter_8 rfl ?_
    refine Go.callVI [] dX7_enter_9 lkX7_131 imX7_isDish seX7_isDish cbX7_isDish (m_isDish hG hC.2.2.2.2.2.2.2 (nI x)) (shp hG rfl) rfl rfl rfl (Nat.le_of_ble_eq_true rfl) (fun r3 M4 hr3 => ?_)
    obtain ⟨er3, emr3⟩ := hr3
    rw [emr3]
    clear emr3 M4
    subst er3
    refine Go.eqI (y := 1) (by rw [isDishI_nI (by omega), hxo]; rfl) ?_
    refine Go.if_ne 22 dX7_enter_12 rfl (fun _ => ?_) (fun h12 => absurd h12 (by decide))
    refine Go.aload_n dX7_enter_22 rfl ?_
    refine Go.getI dX7_enter_23 flX7_93 (shp hG rfl) rfl ?_
    refine Go.eqI (y := nI (uN (gU g))) (hB.2.2.1) ?_
    refine Go.bipush (v := 30) dX7_enter_26 (by decide) ?_
    refine Go.icmp_ne 38 dX7_enter_28 rfl (fun h28 => ?_) (fun h28 => ?_)
    · have n28 : ¬ (uN (gU g)) = 30 := fun q => h28 ((nI_inj (a := (uN (gU g))) (b := 30) (by omega) (by omega)).mpr q)
      refine Go.aload_n dX7_enter_38 rfl ?_
      refine Go.iload_n dX7_enter_39 rfl ?_
      refine Go.iload_n dX7_enter_40 rfl ?_
      refine Go.aload_n dX7_enter_41 rfl ?_
      refine Go.getI dX7_enter_42 flX7_163 (shp hG rfl) rfl ?_
      refine Go.eqI (y := uY (gU g)) (hC.1.2.2.2.2.2.2.2.1) ?_
      refine Go.callVV [] dX7_enter_45 lkX7_166 imX7_addEntry seX7_addEntry cbX7_addEntry (m_addEntry hG (n := uN (gU g)) hB.2.2.1 (by omega) (nI k) (nI x) (uY (gU g))) (shp hG rfl) rfl rfl rfl (Nat.le_of_ble_eq_true rfl) (fun M6 hr5 => ?_)
      refine Go.aload_n dX7_enter_48 rfl ?_
      refine Go.getI dX7_enter_49 flX7_93 (shp hG rfl) rfl ?_
      refine Go.eqI (y := nI (uN (gU g) + 1)) (by rw [hr5]; simp [addM, upi, seti, upd]) ?_
      refine Go.iconst (v := 1) dX7_enter_52 (by decide) ?_
      refine Go.isub dX7_enter_53 ?_
      refine Go.eqI (y := nI (uN (gU g))) (nI_pred _) ?_
      refine Go.iret dX7_enter_54 rfl rfl ?_
      refine ⟨_, rfl, ?_⟩
      rw [hA0, if_neg n28, hr5]
      exact ⟨rfl, hC.setU (hC.1.ent k x) (add_same M _ _ _ _ (by decide)) (by simp [addM, upi, seti, upd]) (by simp [addM, upi, seti, upd])⟩
    · have n28 : (uN (gU g)) = 30 := (nI_inj (a := (uN (gU g))) (b := 30) (by omega) (by omega)).mp h28
      refine Go.aload_n dX7_enter_31 rfl ?_
      refine Go.ldc dX7_enter_32 kcX7_162 ?_
      refine Go.callVI [] dX7_enter_34 lkX7_104 imX7_finds seX7_finds cbX7_finds (m_finds hG (code := (-1000000002)) (q := 1) (by decide) (by decide)) (shp hG rfl) rfl rfl rfl (Nat.le_of_ble_eq_true rfl) (fun r7 M8 hr7 => ?_)
      refine Go.iret dX7_enter_37 rfl rfl ?_
      refine ⟨_, rfl, ?_⟩
      rw [hA0, if_pos n28, hr7.2]
      exact ⟨hr7.1, hC.fnd⟩
  · refine Go.iload_n dX7_enter_0 rfl ?_
    refine Go.callSI [] dX7_enter_1 lkX7_159 stX7_isKind cbX7_isKind (m_isKind k0) rfl rfl (Nat.le_of_ble_eq_true rfl) (fun r1 M2 hr1 => ?_)
    obtain ⟨er1, emr1⟩ := hr1
    rw [emr1]
    clear emr1 M2
    subst er1
    refine Go.if_eq 15 dX7_enter_4 rfl (fun h4 => ?_) (fun h4 => ?_)
    · refine Go.aload_n dX7_enter_15 rfl ?_
      refine Go.ldc dX7_enter_16 kcX7_85 ?_
      refine Go.callVI [] dX7_enter_18 lkX7_104 imX7_finds seX7_finds cbX7_finds (m_finds hG (code := (-1000000001)) (q := 0) (by decide) (by decide)) (shp hG rfl) rfl rfl rfl (Nat.le_of_ble_eq_true rfl) (fun r3 M4 hr3 => ?_)
      refine Go.iret dX7_enter_21 rfl rfl ?_
      refine ⟨_, rfl, ?_⟩
      rw [show A_enter g k0 x0 = ((-1000000001), fndS g 0) from if_neg hgd, hr3.2]
      exact ⟨hr3.1, hC.fnd⟩
    · refine Go.aload_n dX7_enter_7 rfl ?_
      refine Go.iload_n dX7_enter_8 rfl ?_
      refine Go.callVI [] dX7_enter_9 lkX7_131 imX7_isDish seX7_isDish cbX7_isDish (m_isDish hG hC.2.2.2.2.2.2.2 x0) (shp hG rfl) rfl rfl rfl (Nat.le_of_ble_eq_true rfl) (fun r5 M6 hr5 => ?_)
      obtain ⟨er5, emr5⟩ := hr5
      rw [emr5]
      clear emr5 M6
      subst er5
      refine Go.if_ne 22 dX7_enter_12 rfl (fun h12 => ?_) (fun h12 => ?_)
      · exact absurd (by simp [← inI_kind, bi_n0.mp h4, bi_n0.mp h12]) hgd
      · refine Go.aload_n dX7_enter_15 rfl ?_
        refine Go.ldc dX7_enter_16 kcX7_85 ?_
        refine Go.callVI [] dX7_enter_18 lkX7_104 imX7_finds seX7_finds cbX7_finds (m_finds hG (code := (-1000000001)) (q := 0) (by decide) (by decide)) (shp hG rfl) rfl rfl rfl (Nat.le_of_ble_eq_true rfl) (fun r7 M8 hr7 => ?_)
        refine Go.iret dX7_enter_21 rfl rfl ?_
        refine ⟨_, rfl, ?_⟩
        rw [show A_enter g k0 x0 = ((-1000000001), fndS g 0) from if_neg hgd, hr7.2]
        exact ⟨hr7.1, hC.fnd⟩
