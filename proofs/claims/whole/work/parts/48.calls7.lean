def setT (g : Sg) (n : Nat) (b : Nat → Int32) : Sg := (g.1, g.2.1, g.2.2.1, (n, b), g.2.2.2.2)
def setK (g : Sg) (k : Bool) (u : Bu) : Sg := (g.1, k, u, g.2.2.2)
theorem CompIs.setT {M M' : Mm} {g : Sg} {n : Nat} {b : Nat → Int32} (h : CompIs M g) (hs : Same [37, 38] M M') (h1 : M'.1 37 0 = nI n) (h2 : ∀ i, i < n → M'.1 38 i = b i) : CompIs M' (setT g n b) ∧ MSame M M' := by
  have r : ∀ a, a ≠ 37 → a ≠ 38 → M'.1 a = M.1 a := fun a q1 q2 => hs.1 a (by simp [q1, q2])
  obtain ⟨k1, k2, k3, k4, k5, k6, k7, k8⟩ := h
  refine ⟨⟨k1.same (fun j hj => r _ (by omega) (by omega)), by rw [r 0 (by decide) (by decide)]; exact k2, fun k => (k3 k).same (fun j hj => r _ (by omega) (by omega)), h1, h2, fun s hs4 => ?_, fun j hj => by rw [r 48 (by decide) (by decide)]; exact k7 j hj, fun s hs4 => by rw [r 33 (by decide) (by decide)]; exact k8 s hs4⟩, hs.ms (by decide)⟩
  rw [r (40 + s) (by omega) (by omega), hs.2]
  exact k6 s hs4
theorem ModIs.setT {M M' : Mm} {g : Sg} {n : Nat} {b : Nat → Int32} (h : ModIs M g) (hs : Same [49, 65] M M') (h0 : ∀ j, j ≠ 20 → M'.1 49 j = M.1 49 j) (h1 : M'.1 49 20 = nI n) (h2 : ∀ i, i < n → M'.1 65 i = b i) : ModIs M' (setT g n b) ∧ CSame M M' := by
  have r : ∀ a, a ≠ 49 → a ≠ 65 → M'.1 a = M.1 a := fun a q1 q2 => hs.1 a (by simp [q1, q2])
  obtain ⟨k1, k2, k3, k4, k5, k6, k7, k8⟩ := h
  refine ⟨⟨?_, by rw [h0 33 (by decide)]; exact k2, fun k => (k3 k).same (r 70 (by decide) (by decide)), h1, h2, fun s hs4 => ?_, fun j hj => by rw [r 56 (by decide) (by decide)]; exact k7 j hj, k8.same (r 57 (by decide) (by decide)) (r 58 (by decide) (by decide))⟩, hs.cs (by decide)⟩
  · show BuM M' (gU g)
    unfold BuM at k1 ⊢
    rw [h0 4 (by decide), h0 3 (by decide), r 50 (by decide) (by decide), r 51 (by decide) (by decide), r 52 (by decide) (by decide), r 53 (by decide) (by decide), r 54 (by decide) (by decide), r 55 (by decide) (by decide)]
    exact k1
  · rw [r 66 (by decide) (by decide), r 67 (by decide) (by decide), hs.2]
    exact k6 s hs4
theorem CompIs.tear {M : Mm} {g : Sg} (h : CompIs M g) : CompIs (upi M 0 3 0) (setK g false (gV g)) ∧ MSame M (upi M 0 3 0) := by
  have r : ∀ a, a ≠ 0 → (upi M 0 3 0).1 a = M.1 a := fun a q1 => rd_ne q1
  obtain ⟨k1, k2, k3, k4, k5, k6, k7, k8⟩ := h
  exact ⟨⟨k1.same (fun j hj => r _ (by omega)), by rw [rd_eq]; simp [upd]; rfl, fun k => (by cases k), by rw [r 37 (by decide)]; exact k4, fun i hi => by rw [r 38 (by decide)]; exact k5 i hi, fun s hs4 => by rw [r (40 + s) (by omega)]; exact k6 s hs4, fun j hj => by rw [r 48 (by decide)]; exact k7 j hj, fun s hs4 => by rw [r 33 (by decide)]; exact k8 s hs4⟩, (Same.upi M 0 3 0 (S := [0]) (by decide)).ms (by decide)⟩
theorem ModIs.tear {M : Mm} {g : Sg} (h : ModIs M g) : ModIs (upi M 49 33 0) (setK g false (gV g)) ∧ CSame M (upi M 49 33 0) := by
  have r : ∀ a, a ≠ 49 → (upi M 49 33 0).1 a = M.1 a := fun a q1 => rd_ne q1
  have h0 : ∀ j, j ≠ 33 → (upi M 49 33 0).1 49 j = M.1 49 j := fun j hj => by rw [rd_eq]; simp [upd, hj]
  obtain ⟨k1, k2, k3, k4, k5, k6, k7, k8⟩ := h
  refine ⟨⟨?_, by rw [rd_eq]; simp [upd]; rfl, fun k => (by cases k), by rw [h0 20 (by decide)]; exact k4, fun i hi => by rw [r 65 (by decide)]; exact k5 i hi, fun s hs4 => by rw [r 66 (by decide), r 67 (by decide)]; exact k6 s hs4, fun j hj => by rw [r 56 (by decide)]; exact k7 j hj, k8.same (r 57 (by decide)) (r 58 (by decide))⟩, (Same.upi M 49 33 0 (S := [49]) (by decide)).cs (by decide)⟩
  show BuM (upi M 49 33 0) (gU g)
  unfold BuM at k1 ⊢
  rw [h0 4 (by decide), h0 3 (by decide), r 50 (by decide), r 51 (by decide), r 52 (by decide), r 53 (by decide), r 54 (by decide), r 55 (by decide)]
  exact k1
def A_wipe (g : Sg) : Int32 × Sg := (nI (gTn g), setT g 0 (gTb g))
def A_tear (g : Sg) : Int32 × Sg := (bi (gK g), setK g false (gV g))
set_option maxRecDepth 20000 in
theorem c_wipe {G : Gt} {d : Nat} {M : Mm} (hG : gS G = SHAPE) {g : Sg} (hC : CompIs M g) (hg : SgOk g)  : ExI G (d) mX6_wipe [.ref 0] M (fun r M' => r = (A_wipe g).1 ∧ CompIs M' (A_wipe g).2 ∧ MSame M M') := by
  refine Ex.of (by decide) (Nat.le_of_ble_eq_true rfl) ?_
  show Go G (d) mX6_wipe 0 [some (.ref 0), none] [] M _
  refine Go.aload_n dX6_wipe_0 rfl ?_
  refine Go.getR dX6_wipe_1 flX6_43 (shp hG rfl) rfl ?_
  refine Go.getI dX6_wipe_4 flX6_234 (shp hG rfl) rfl ?_
  refine Go.nmI (fun x1 ex1 => ?_)
  refine Go.istore_n (ls' := [some (.ref 0), some (.int x1)]) dX6_wipe_7 (Nat.le_of_ble_eq_true rfl) rfl rfl ?_
  refine Go.aload_n dX6_wipe_8 rfl ?_
  refine Go.getR dX6_wipe_9 flX6_43 (shp hG rfl) rfl ?_
  refine Go.iconst (v := 0) dX6_wipe_12 (by decide) ?_
  refine Go.putI dX6_wipe_13 fpX6_234 (shp hG rfl) rfl rfl rfl ?_
  refine Go.nmM (fun N2 eN2 => ?_)
  refine Go.iload_n dX6_wipe_16 rfl ?_
  refine Go.iret dX6_wipe_17 rfl rfl ?_
  subst ex1
  refine ⟨_, rfl, hC.2.2.2.1, ?_⟩
  rw [eN2]
  exact hC.setT (Same.upi _ 37 _ _ (by decide)) (by rw [rd_eq]; simp [upd]; rfl) (fun i hi => by omega)
set_option maxRecDepth 20000 in
theorem m_wipe {G : Gt} {d : Nat} {M : Mm} (hG : gS G = SHAPE) {g : Sg} (hC : ModIs M g) (hg : SgOk g)  : ExI G (d) mX7_wipe [.ref 49] M (fun r M' => r = (A_wipe g).1 ∧ ModIs M' (A_wipe g).2 ∧ CSame M M') := by
  refine Ex.of (by decide) (Nat.le_of_ble_eq_true rfl) ?_
  show Go G (d) mX7_wipe 0 [some (.ref 49), none] [] M _
  refine Go.aload_n dX7_wipe_0 rfl ?_
  refine Go.getI dX7_wipe_1 flX7_222 (shp hG rfl) rfl ?_
  refine Go.nmI (fun x1 ex1 => ?_)
  refine Go.istore_n (ls' := [some (.ref 49), some (.int x1)]) dX7_wipe_4 (Nat.le_of_ble_eq_true rfl) rfl rfl ?_
  refine Go.aload_n dX7_wipe_5 rfl ?_
  refine Go.iconst (v := 0) dX7_wipe_6 (by decide) ?_
  refine Go.putI dX7_wipe_7 fpX7_222 (shp hG rfl) rfl rfl rfl ?_
  refine Go.nmM (fun N2 eN2 => ?_)
  refine Go.iload_n dX7_wipe_10 rfl ?_
  refine Go.iret dX7_wipe_11 rfl rfl ?_
  subst ex1
  refine ⟨_, rfl, hC.2.2.2.1, ?_⟩
  rw [eN2]
  exact hC.setT (Same.upi _ 49 _ _ (by decide)) (fun j hj => by rw [rd_eq]; simp [upd, hj]) (by rw [rd_eq]; simp [upd]; rfl) (fun i hi => by omega)
set_option maxRecDepth 20000 in
theorem c_tear {G : Gt} {d : Nat} {M : Mm} (hG : gS G = SHAPE) {g : Sg} (hC : CompIs M g) (hg : SgOk g)  : ExI G (d) mX6_tear [.ref 0] M (fun r M' => r = (A_tear g).1 ∧ CompIs M' (A_tear g).2 ∧ MSame M M') := by
  refine Ex.of (by decide) (Nat.le_of_ble_eq_true rfl) ?_
  show Go G (d) mX6_tear 0 [some (.ref 0), none] [] M _
  refine Go.aload_n dX6_tear_0 rfl ?_
  refine Go.getI dX6_tear_1 flX6_22 (shp hG rfl) rfl ?_
  refine Go.eqI (y := bi (gK g)) (hC.2.1) ?_
  refine Go.if_eq 11 dX6_tear_4 rfl (fun h4 => ?_) (fun h4 => ?_)
  · refine Go.iconst (v := 0) dX6_tear_11 (by decide) ?_
    refine Go.istore_n (ls' := [some (.ref 0), some (.int 0)]) dX6_tear_12 (Nat.le_of_ble_eq_true rfl) rfl rfl ?_
    refine Go.aload_n dX6_tear_13 rfl ?_
    refine Go.iconst (v := 0) dX6_tear_14 (by decide) ?_
    refine Go.putI dX6_tear_15 fpX6_22 (shp hG rfl) rfl rfl rfl ?_
    refine Go.nmM (fun N1 eN1 => ?_)
    refine Go.iload_n dX6_tear_18 rfl ?_
    refine Go.iret dX6_tear_19 rfl rfl ?_
    refine ⟨_, rfl, ?_, ?_⟩
    · show _ = bi (gK g)
      rw [bi_0.mp h4]
      rfl
    · rw [eN1]
      exact hC.tear
  · refine Go.iconst (v := 1) dX6_tear_7 (by decide) ?_
    refine Go.goto 12 dX6_tear_8 rfl ?_
    refine Go.istore_n (ls' := [some (.ref 0), some (.int 1)]) dX6_tear_12 (Nat.le_of_ble_eq_true rfl) rfl rfl ?_
    refine Go.aload_n dX6_tear_13 rfl ?_
    refine Go.iconst (v := 0) dX6_tear_14 (by decide) ?_
    refine Go.putI dX6_tear_15 fpX6_22 (shp hG rfl) rfl rfl rfl ?_
    refine Go.nmM (fun N2 eN2 => ?_)
    refine Go.iload_n dX6_tear_18 rfl ?_
    refine Go.iret dX6_tear_19 rfl rfl ?_
    refine ⟨_, rfl, ?_, ?_⟩
    · show _ = bi (gK g)
      rw [bi_n0.mp h4]
      rfl
    · rw [eN2]
      exact hC.tear
set_option maxRecDepth 20000 in
theorem m_tear {G : Gt} {d : Nat} {M : Mm} (hG : gS G = SHAPE) {g : Sg} (hC : ModIs M g) (hg : SgOk g)  : ExI G (d) mX7_tear [.ref 49] M (fun r M' => r = (A_tear g).1 ∧ ModIs M' (A_tear g).2 ∧ CSame M M') := by
  refine Ex.of (by decide) (Nat.le_of_ble_eq_true rfl) ?_
  show Go G (d) mX7_tear 0 [some (.ref 49), none] [] M _
  refine Go.aload_n dX7_tear_0 rfl ?_
  refine Go.getI dX7_tear_1 flX7_370 (shp hG rfl) rfl ?_
  refine Go.eqI (y := bi (gK g)) (hC.2.1) ?_
  refine Go.if_eq 11 dX7_tear_4 rfl (fun h4 => ?_) (fun h4 => ?_)
  · refine Go.iconst (v := 0) dX7_tear_11 (by decide) ?_
    refine Go.istore_n (ls' := [some (.ref 49), some (.int 0)]) dX7_tear_12 (Nat.le_of_ble_eq_true rfl) rfl rfl ?_
    refine Go.aload_n dX7_tear_13 rfl ?_
    refine Go.iconst (v := 0) dX7_tear_14 (by decide) ?_
    refine Go.putI dX7_tear_15 fpX7_370 (shp hG rfl) rfl rfl rfl ?_
    refine Go.nmM (fun N1 eN1 => ?_)
    refine Go.iload_n dX7_tear_18 rfl ?_
    refine Go.iret dX7_tear_19 rfl rfl ?_
    refine ⟨_, rfl, ?_, ?_⟩
    · show _ = bi (gK g)
      rw [bi_0.mp h4]
      rfl
    · rw [eN1]
      exact hC.tear
  · refine Go.iconst (v := 1) dX7_tear_7 (by decide) ?_
    refine Go.goto 12 dX7_tear_8 rfl ?_
    refine Go.istore_n (ls' := [some (.ref 49), some (.int 1)]) dX7_tear_12 (Nat.le_of_ble_eq_true rfl) rfl rfl ?_
    refine Go.aload_n dX7_tear_13 rfl ?_
    refine Go.iconst (v := 0) dX7_tear_14 (by decide) ?_
    refine Go.putI dX7_tear_15 fpX7_370 (shp hG rfl) rfl rfl rfl ?_
    refine Go.nmM (fun N2 eN2 => ?_)
    refine Go.iload_n dX7_tear_18 rfl ?_
    refine Go.iret dX7_tear_19 rfl rfl ?_
    refine ⟨_, rfl, ?_, ?_⟩
    · show _ = bi (gK g)
      rw [bi_n0.mp h4]
      rfl
    · rw [eN2]
      exact hC.tear
