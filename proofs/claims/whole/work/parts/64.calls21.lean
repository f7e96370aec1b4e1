theorem CompIs.img {M M' : Mm} {g : Sg} (h : CompIs M g) (hu : BuC M' 9 (gU g)) (h3 : M'.1 0 3 = 1) (hs : Same [0, 9, 10, 11, 12, 13, 14, 15, 16] M M') : CompIs M' (setK g true (gU g)) ∧ MSame M M' := by
  have r : ∀ a, 0 < a → a < 9 ∨ 16 < a → M'.1 a = M.1 a := fun a q1 q2 => hs.1 a (by simp; omega)
  obtain ⟨k1, k2, k3, k4, k5, k6, k7, k8⟩ := h
  refine ⟨⟨k1.same (fun j hj => r _ (by omega) (by omega)), by rw [h3]; rfl, fun _ => hu, by rw [r 37 (by decide) (by decide)]; exact k4, fun i hi => by rw [r 38 (by decide) (by decide)]; exact k5 i hi, fun s hs4 => ?_, fun j hj => by rw [r 48 (by decide) (by decide)]; exact k7 j hj, fun s hs4 => by rw [r 33 (by decide) (by decide)]; exact k8 s hs4⟩, hs.ms (by decide)⟩
  rw [r (40 + s) (by omega) (by omega), hs.2]
  exact k6 s hs4
theorem ModIs.img {M M' : Mm} {g : Sg} (h : ModIs M g) (hu : BuI M' 70 (gU g)) (h3 : M'.1 49 33 = 1) (hs : Same [49, 70, 72] M M') (h0 : ∀ j, j ≠ 33 → j ≠ 34 → M'.1 49 j = M.1 49 j) : ModIs M' (setK g true (gU g)) ∧ CSame M M' := by
  have r : ∀ a, a ≠ 49 → a ≠ 70 → a ≠ 72 → M'.1 a = M.1 a := fun a q1 q2 q3 => hs.1 a (by simp [q1, q2, q3])
  obtain ⟨k1, k2, k3, k4, k5, k6, k7, k8⟩ := h
  refine ⟨⟨?_, by rw [h3]; rfl, fun _ => hu, by rw [h0 20 (by decide) (by decide)]; exact k4, fun i hi => by rw [r 65 (by decide) (by decide) (by decide)]; exact k5 i hi, fun s hs4 => ?_, fun j hj => by rw [r 56 (by decide) (by decide) (by decide)]; exact k7 j hj, k8.same (r 57 (by decide) (by decide) (by decide)) (r 58 (by decide) (by decide) (by decide))⟩, hs.cs (by decide)⟩
  · show BuM M' (gU g)
    unfold BuM at k1 ⊢
    rw [h0 4 (by decide) (by decide), h0 3 (by decide) (by decide), r 50 (by decide) (by decide) (by decide), r 51 (by decide) (by decide) (by decide), r 52 (by decide) (by decide) (by decide), r 53 (by decide) (by decide) (by decide), r 54 (by decide) (by decide) (by decide), r 55 (by decide) (by decide) (by decide)]
    exact k1
  · rw [r 66 (by decide) (by decide) (by decide), r 67 (by decide) (by decide) (by decide), hs.2]
    exact k6 s hs4
/-- a bureau in the reference's rows is another one now -/
theorem mod_get {M M' : Mm} {g : Sg} {u : Bu} (h : ModIs M g) (hu : BuM M' u) (hs : Same [49, 50, 51, 52, 53, 54, 55, 72] M M') (h0 : ∀ j, j ≠ 3 → j ≠ 4 → j ≠ 34 → M'.1 49 j = M.1 49 j) : ModIs M' (setU g u) ∧ CSame M M' := by
  have r : ∀ a, 56 ≤ a → a ≠ 72 → M'.1 a = M.1 a := fun a q1 q2 => hs.1 a (by simp; omega)
  obtain ⟨h1, h2, h3, h4, h5, h6, h7, h8⟩ := h
  refine ⟨⟨hu, by rw [h0 33 (by decide) (by decide) (by decide)]; exact h2, fun k => (h3 k).same (r 70 (by decide) (by decide)), by rw [h0 20 (by decide) (by decide) (by decide)]; exact h4, fun i hi => by rw [r 65 (by decide) (by decide)]; exact h5 i hi, fun s hs4 => ?_, fun j hj => by rw [r 56 (by decide) (by decide)]; exact h7 j hj, h8.same (r 57 (by decide) (by decide)) (r 58 (by decide) (by decide))⟩, hs.cs (by decide)⟩
  rw [r 66 (by decide) (by decide), r 67 (by decide) (by decide), hs.2]
  exact h6 s hs4
def A_image (g : Sg) : Int32 × Sg := (1, setK g true (gU g))
def A_undo (g : Sg) : Int32 × Sg := if gK g then (nI (uN (gV g)), setU g (gV g)) else (-1000000004, fndS g 3)
set_option maxRecDepth 20000 in
theorem c_image {G : Gt} {d : Nat} {M : Mm} (hG : gS G = SHAPE) {g : Sg} (hC : CompIs M g) (hg : SgOk g)  : ExI G (d + 2) mX6_image [.ref 0] M (fun r M' => r = (A_image g).1 ∧ CompIs M' (A_image g).2 ∧ MSame M M') := by
  refine Ex.of (by decide) (Nat.le_of_ble_eq_true rfl) ?_
  show Go G (d + 2) mX6_image 0 [some (.ref 0)] [] M _
  refine Go.aload_n dX6_image_0 rfl ?_
  refine Go.getR dX6_image_1 flX6_16 (shp hG rfl) rfl ?_
  refine Go.aload_n dX6_image_4 rfl ?_
  refine Go.getR dX6_image_5 flX6_12 (shp hG rfl) rfl ?_
  refine Go.callVV [] dX6_image_8 lkX6_241 imX1_become seX1_become cbX1_become (s_become9_1 hG (u := gU g) hC.1 hg.1.1) (shp hG rfl) rfl rfl rfl (Nat.le_of_ble_eq_true rfl) (fun M2 hr1 => ?_)
  obtain ⟨hb1, hb2⟩ := hr1
  refine Go.aload_n dX6_image_11 rfl ?_
  refine Go.iconst (v := 1) dX6_image_12 (by decide) ?_
  refine Go.putI dX6_image_13 fpX6_22 (shp hG rfl) rfl rfl rfl ?_
  refine Go.nmM (fun N3 eN3 => ?_)
  refine Go.iconst (v := 1) dX6_image_16 (by decide) ?_
  refine Go.iret dX6_image_17 rfl rfl ?_
  refine ⟨_, rfl, rfl, ?_⟩
  have hs : Same [0, 9, 10, 11, 12, 13, 14, 15, 16] M N3 := (hb2.mono (by decide)).trans (by rw [eN3]; exact Same.upi _ 0 _ _ (by decide))
  exact hC.img (hb1.same (fun j hj => by rw [eN3, rd_ne (by omega)])) (by rw [eN3, rd_eq]; simp [upd]) hs
set_option maxRecDepth 20000 in
theorem m_image {G : Gt} {d : Nat} {M : Mm} (hG : gS G = SHAPE) {g : Sg} (hC : ModIs M g) (hg : SgOk g)  : ExI G (d + 2) mX7_image [.ref 49] M (fun r M' => r = (A_image g).1 ∧ ModIs M' (A_image g).2 ∧ CSame M M') := by
  refine Ex.of (by decide) (Nat.le_of_ble_eq_true rfl) ?_
  show Go G (d + 2) mX7_image 0 [some (.ref 49)] [] M _
  refine Go.aload_n dX7_image_0 rfl ?_
  refine Go.iconst (v := 1) dX7_image_1 (by decide) ?_
  refine Go.aload_n dX7_image_2 rfl ?_
  refine Go.getR dX7_image_3 flX7_72 (shp hG rfl) rfl ?_
  refine Go.callVV [] dX7_image_6 lkX7_333 imX7_moveAll seX7_moveAll cbX7_moveAll (m_allK70 hG (u := gU g) hC.1 hg.1.1) (shp hG rfl) rfl rfl rfl (Nat.le_of_ble_eq_true rfl) (fun M2 hr1 => ?_)
  obtain ⟨hb1, hb2, hb3⟩ := hr1
  refine Go.aload_n dX7_image_9 rfl ?_
  refine Go.iconst (v := 1) dX7_image_10 (by decide) ?_
  refine Go.putI dX7_image_11 fpX7_370 (shp hG rfl) rfl rfl rfl ?_
  refine Go.nmM (fun N3 eN3 => ?_)
  refine Go.iconst (v := 1) dX7_image_14 (by decide) ?_
  refine Go.iret dX7_image_15 rfl rfl ?_
  refine ⟨_, rfl, rfl, ?_⟩
  have hs : Same [49, 70, 72] M N3 := (hb2.mono (by decide)).trans (by rw [eN3]; exact Same.upi _ 49 _ _ (by decide))
  exact hC.img (hb1.same (by rw [eN3, rd_ne (by decide)])) (by rw [eN3, rd_eq]; simp [upd]) hs (fun j h33 h34 => by rw [eN3, rd_eq]; simp only [upd]; rw [if_neg h33]; exact hb3 j h34)
set_option maxRecDepth 20000 in
theorem c_undo {G : Gt} {d : Nat} {M : Mm} (hG : gS G = SHAPE) {g : Sg} (hC : CompIs M g) (hg : SgOk g)  : ExI G (d + 2) mX6_undo [.ref 0] M (fun r M' => r = (A_undo g).1 ∧ CompIs M' (A_undo g).2 ∧ MSame M M') := by
  refine Ex.of (by decide) (Nat.le_of_ble_eq_true rfl) ?_
  show Go G (d + 2) mX6_undo 0 [some (.ref 0)] [] M _
  refine Go.aload_n dX6_undo_0 rfl ?_
  refine Go.getI dX6_undo_1 flX6_22 (shp hG rfl) rfl ?_
  refine Go.eqI (y := bi (gK g)) (hC.2.1) ?_
  refine Go.if_ne 14 dX6_undo_4 rfl (fun h4 => ?_) (fun h4 => ?_)
  · refine Go.aload_n dX6_undo_14 rfl ?_
    refine Go.getR dX6_undo_15 flX6_12 (shp hG rfl) rfl ?_
    refine Go.aload_n dX6_undo_18 rfl ?_
    refine Go.getR dX6_undo_19 flX6_16 (shp hG rfl) rfl ?_
    refine Go.callVV [] dX6_undo_22 lkX6_241 imX1_become seX1_become cbX1_become (s_become1_9 hG (u := gV g) (hC.2.2.1 (bi_n0.mp h4)) (hg.2.1 (bi_n0.mp h4)).1) (shp hG rfl) rfl rfl rfl (Nat.le_of_ble_eq_true rfl) (fun M2 hr1 => ?_)
    obtain ⟨hb1, hb2⟩ := hr1
    refine Go.aload_n dX6_undo_25 rfl ?_
    refine Go.getR dX6_undo_26 flX6_12 (shp hG rfl) rfl ?_
    refine Go.getI dX6_undo_29 flX6_148 (shp hG rfl) rfl ?_
    refine Go.iret dX6_undo_32 rfl rfl ?_
    refine ⟨_, rfl, ?_⟩
    rw [show A_undo g = (nI (uN (gV g)), setU g (gV g)) from if_pos (bi_n0.mp h4)]
    exact ⟨hb1.2.2.2.2.1, hC.setU hb1 hb2⟩
  · refine Go.aload_n dX6_undo_7 rfl ?_
    refine Go.ldc dX6_undo_8 kcX6_171 ?_
    refine Go.callVI [] dX6_undo_10 lkX6_63 imX6_finding seX6_finding cbX6_finding (s_finding hG (code := (-1000000004)) (q := 3) (by decide) (by decide)) (shp hG rfl) rfl rfl rfl (Nat.le_of_ble_eq_true rfl) (fun r3 M4 hr3 => ?_)
    refine Go.iret dX6_undo_13 rfl rfl ?_
    refine ⟨_, rfl, ?_⟩
    rw [show A_undo g = (-1000000004, fndS g 3) from if_neg (by rw [bi_0.mp h4]; decide), hr3.2]
    exact ⟨hr3.1, hC.fnd⟩
set_option maxRecDepth 20000 in
theorem m_undo {G : Gt} {d : Nat} {M : Mm} (hG : gS G = SHAPE) {g : Sg} (hC : ModIs M g) (hg : SgOk g)  : ExI G (d + 2) mX7_undo [.ref 49] M (fun r M' => r = (A_undo g).1 ∧ ModIs M' (A_undo g).2 ∧ CSame M M') := by
  refine Ex.of (by decide) (Nat.le_of_ble_eq_true rfl) ?_
  show Go G (d + 2) mX7_undo 0 [some (.ref 49)] [] M _
  refine Go.aload_n dX7_undo_0 rfl ?_
  refine Go.getI dX7_undo_1 flX7_370 (shp hG rfl) rfl ?_
  refine Go.eqI (y := bi (gK g)) (hC.2.1) ?_
  refine Go.if_ne 14 dX7_undo_4 rfl (fun h4 => ?_) (fun h4 => ?_)
  · refine Go.aload_n dX7_undo_14 rfl ?_
    refine Go.iconst (v := 0) dX7_undo_15 (by decide) ?_
    refine Go.aload_n dX7_undo_16 rfl ?_
    refine Go.getR dX7_undo_17 flX7_72 (shp hG rfl) rfl ?_
    refine Go.callVV [] dX7_undo_20 lkX7_333 imX7_moveAll seX7_moveAll cbX7_moveAll (m_allG70 hG (u := gV g) (hC.2.2.1 (bi_n0.mp h4)) (hg.2.1 (bi_n0.mp h4)).1) (shp hG rfl) rfl rfl rfl (Nat.le_of_ble_eq_true rfl) (fun M2 hr1 => ?_)
    obtain ⟨hb1, hb2, hb3⟩ := hr1
    refine Go.aload_n dX7_undo_23 rfl ?_
    refine Go.getI dX7_undo_24 flX7_93 (shp hG rfl) rfl ?_
    refine Go.iret dX7_undo_27 rfl rfl ?_
    refine ⟨_, rfl, ?_⟩
    rw [show A_undo g = (nI (uN (gV g)), setU g (gV g)) from if_pos (bi_n0.mp h4)]
    exact ⟨hb1.2.2.2.2.1, mod_get hC hb1 hb2 hb3⟩
  · refine Go.aload_n dX7_undo_7 rfl ?_
    refine Go.ldc dX7_undo_8 kcX7_127 ?_
    refine Go.callVI [] dX7_undo_10 lkX7_104 imX7_finds seX7_finds cbX7_finds (m_finds hG (code := (-1000000004)) (q := 3) (by decide) (by decide)) (shp hG rfl) rfl rfl rfl (Nat.le_of_ble_eq_true rfl) (fun r3 M4 hr3 => ?_)
    refine Go.iret dX7_undo_13 rfl rfl ?_
    refine ⟨_, rfl, ?_⟩
    rw [show A_undo g = (-1000000004, fndS g 3) from if_neg (by rw [bi_0.mp h4]; decide), hr3.2]
    exact ⟨hr3.1, hC.fnd⟩
