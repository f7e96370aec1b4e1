def KC : List Nat := [25, 26, 28, 29, 30, 31, 32]
def cpF (a b : Nat → Int32) : Nat → Int32 := va_cpy a b 0 0 8
theorem cpF_lo {a b : Nat → Int32} {t : Nat} (h : t < 8) : cpF a b t = a t := by simp [cpF, va_cpy, h]
set_option maxRecDepth 20000 in
theorem s_begin {G : Gt} {d : Nat} {M : Mm} (hG : gS G = SHAPE) {n9 : Nat} {K X : Nat → Nat} {ed : Nat} (hB : Bk M 1 n9 K X ed) (hE : Every M) (b1 : Lik9 (M.1 3) 8) (b2 : Lik9 (M.1 4) 5) (b3 : Lik9 (M.1 5) 4) : ExV G (d + 3) mX2_begin [.ref 25, .ref 1] M (fun M' => Same KC M M' ∧ Kst M' (cpF (M.1 2) (M.1 26)) (cB n9 K X ed) (M.1 3) (M.1 4) (M.1 5) ed) := by
  refine Ex.of (by decide) (Nat.le_of_ble_eq_true rfl) ?_
  show Go G (d + 3) mX2_begin 0 [some (.ref 25), some (.ref 1)] [] M _
  refine Go.aload_n dX2_begin_0 rfl ?_
  refine Go.getR dX2_begin_1 flX2_45 (shp hG rfl) rfl ?_
  refine Go.iconst (v := 0) dX2_begin_4 (by decide) ?_
  refine Go.aload_n dX2_begin_5 rfl ?_
  refine Go.getR dX2_begin_6 flX2_9 (shp hG rfl) rfl ?_
  refine Go.iconst (v := 0) dX2_begin_9 (by decide) ?_
  refine Go.bipush (v := 8) dX2_begin_10 (by decide) ?_
  refine Go.copyi dX2_begin_12 acX2_50 (shp hG rfl) (shp hG rfl) (by decide) (by decide) (by decide) (by decide) (by decide) (Nat.le_of_ble_eq_true rfl) ?_
  refine Go.nmM (fun N1 eN1 => ?_)
  refine Go.aload_n dX2_begin_15 rfl ?_
  refine Go.aload_n dX2_begin_16 rfl ?_
  refine Go.getI dX2_begin_17 flX2_56 (shp hG rfl) rfl ?_
  refine Go.eqI (y := nI ed) (by rw [eN1]; exact hB.2.2.2.1) ?_
  refine Go.putI dX2_begin_20 fpX2_22 (shp hG rfl) rfl rfl rfl ?_
  refine Go.nmM (fun N2 eN2 => ?_)
  refine Go.aload_n dX2_begin_23 rfl ?_
  refine Go.getR dX2_begin_24 flX2_18 (shp hG rfl) rfl ?_
  refine Go.aload_n dX2_begin_27 rfl ?_
  refine Go.aload_n dX2_begin_28 rfl ?_
  refine Go.getI dX2_begin_29 flX2_22 (shp hG rfl) rfl ?_
  refine Go.eqI (y := nI ed) (by rw [eN2]; simp [upi, seti, upd]) ?_
  have hS1 : Same KC M N1 := by rw [eN1]; exact Same.seti _ 26 _ (by decide)
  have hS2 : Same KC M N2 := by rw [eN2]; exact hS1.trans (Same.upi _ 25 _ _ (by decide))
  refine Go.callVV [] dX2_begin_32 lkX2_57 imX0_barAll seX0_barAll cbX0_barAll (s_barAll hG (hB.sm hS2 (by decide)) hB.2.1) (shp hG rfl) rfl rfl rfl (Nat.le_of_ble_eq_true rfl) (fun M4 hr3 => ?_)
  refine Go.aload_n dX2_begin_35 rfl ?_
  refine Go.aload_n dX2_begin_36 rfl ?_
  refine Go.getR dX2_begin_37 flX2_61 (shp hG rfl) rfl ?_
  refine Go.callVV [] dX2_begin_40 lkX2_64 imX2_weighSets seX2_weighSets cbX2_weighSets (s_weighSets hG) (shp hG rfl) rfl rfl rfl (Nat.le_of_ble_eq_true rfl) (fun M6 hr5 => ?_)
  refine Go.aload_n dX2_begin_43 rfl ?_
  refine Go.aload_n dX2_begin_44 rfl ?_
  refine Go.callVV [] dX2_begin_45 lkX2_68 imX2_weighManners seX2_weighManners cbX2_weighManners (s_weighManners hG) (shp hG rfl) rfl rfl rfl (Nat.le_of_ble_eq_true rfl) (fun M8 hr7 => ?_)
  refine Go.aload_n dX2_begin_48 rfl ?_
  refine Go.callVV [] dX2_begin_49 lkX2_72 imX2_rankManners seX2_rankManners cbX2_rankManners (s_rankManners hG) (shp hG rfl) rfl rfl rfl (Nat.le_of_ble_eq_true rfl) (fun M10 hr9 => ?_)
  refine Go.vret dX2_begin_52 rfl ?_
  obtain ⟨hO, g1⟩ := hr3
  obtain ⟨g2, k2⟩ := hr5
  obtain ⟨g3, k3⟩ := hr7
  obtain ⟨g4, fv, k4, k5⟩ := hr9
  have s4 : Same KC M M4 := hS2.trans (g1.mono (by decide))
  have s6 : Same KC M M6 := s4.trans (g2.mono (by decide))
  have s8 : Same KC M M8 := s6.trans (g3.mono (by decide))
  have s10 : Same KC M M10 := s8.trans (g4.mono (by decide))
  refine ⟨rfl, s10, ⟨fv, ⟨?_, cB_out _ _ _ _, ?_, ?_, ⟨?_, k5⟩, b1, b2, b3⟩⟩, ?_, ?_, hB.2.1, ?_⟩
  · exact hO.same (by rw [g4.1 28 (by decide), g3.1 28 (by decide), g2.1 28 (by decide)]) (by rw [g4.1 29 (by decide), g3.1 29 (by decide), g2.1 29 (by decide)])
  · intro j hj
    rw [g4.1 30 (by decide), g3.1 30 (by decide), k2 j hj, s4.1 3 (by decide)]
  · intro m hm
    rw [g4.1 31 (by decide), k3 m hm, s6.1 4 (by decide), s6.1 5 (by decide)]
  · rw [g4.1 31 (by decide)]; exact k4
  · intro s hs
    rw [s10.1 33 (by decide)]; exact hE s hs
  · rw [g4.1 25 (by decide), g3.1 25 (by decide), g2.1 25 (by decide), g1.1 25 (by decide), eN2]
    simp [upi, seti, upd]
  · rw [g4.1 26 (by decide), g3.1 26 (by decide), g2.1 26 (by decide), g1.1 26 (by decide), eN2, rd_ne (by decide), eN1]
    simp [seti]
    rfl
