theorem cl0 : Int32.toNatClampNeg 0 = 0 := by decide
theorem cl1 : Int32.toNatClampNeg 1 = 1 := by decide
theorem cl4 : Int32.toNatClampNeg 4 = 4 := by decide
theorem cl5 : Int32.toNatClampNeg 5 = 5 := by decide
theorem cl8 : Int32.toNatClampNeg 8 = 8 := by decide
theorem cl30 : Int32.toNatClampNeg 30 = 30 := by decide
theorem rs_ne {M : Mm} {k a : Nat} {f : Nat → Int32} (h : a ≠ k) : (seti M k f).1 a = M.1 a := by simp [seti, h]
theorem rs_eq {M : Mm} {k : Nat} {f : Nat → Int32} : (seti M k f).1 k = f := by simp [seti]
theorem cpy_lo {a b : Nat → Int32} {n t : Nat} (h : t < n) : va_cpy a b 0 0 n t = a t := by simp [va_cpy, h]
set_option maxRecDepth 20000 in
theorem s_become9_1 {G : Gt} {d : Nat} {M : Mm} (hG : gS G = SHAPE) {u : Bu} (hU : BuC M 1 u) (h30 : uN u ≤ 30) : ExV G (d + 1) mX1_become [.ref 9, .ref 1] M (fun M' => BuC M' 9 u ∧ Same [9, 10, 11, 12, 13, 14, 15, 16] M M') := by
  refine Ex.of (by decide) (Nat.le_of_ble_eq_true rfl) ?_
  show Go G (d + 1) mX1_become 0 [some (.ref 9), some (.ref 1)] [] M _
  refine Go.aload_n dX1_become_0 rfl ?_
  refine Go.getR dX1_become_1 flX1_9 (shp hG rfl) rfl ?_
  refine Go.iconst (v := 0) dX1_become_4 (by decide) ?_
  refine Go.aload_n dX1_become_5 rfl ?_
  refine Go.getR dX1_become_6 flX1_9 (shp hG rfl) rfl ?_
  refine Go.iconst (v := 0) dX1_become_9 (by decide) ?_
  refine Go.bipush (v := 8) dX1_become_10 (by decide) ?_
  refine Go.copyi dX1_become_12 acX1_49 (shp hG rfl) (shp hG rfl) (by decide) (by decide) (by decide) (by decide) (by decide) (Nat.le_of_ble_eq_true rfl) ?_
  refine Go.nmM (fun N1 eN1 => ?_)
  refine Go.aload_n dX1_become_15 rfl ?_
  refine Go.getR dX1_become_16 flX1_15 (shp hG rfl) rfl ?_
  refine Go.iconst (v := 0) dX1_become_19 (by decide) ?_
  refine Go.aload_n dX1_become_20 rfl ?_
  refine Go.getR dX1_become_21 flX1_15 (shp hG rfl) rfl ?_
  refine Go.iconst (v := 0) dX1_become_24 (by decide) ?_
  refine Go.bipush (v := 8) dX1_become_25 (by decide) ?_
  refine Go.copyi dX1_become_27 acX1_49 (shp hG rfl) (shp hG rfl) (by decide) (by decide) (by decide) (by decide) (by decide) (Nat.le_of_ble_eq_true rfl) ?_
  refine Go.nmM (fun N2 eN2 => ?_)
  refine Go.aload_n dX1_become_30 rfl ?_
  refine Go.getR dX1_become_31 flX1_18 (shp hG rfl) rfl ?_
  refine Go.iconst (v := 0) dX1_become_34 (by decide) ?_
  refine Go.aload_n dX1_become_35 rfl ?_
  refine Go.getR dX1_become_36 flX1_18 (shp hG rfl) rfl ?_
  refine Go.iconst (v := 0) dX1_become_39 (by decide) ?_
  refine Go.iconst (v := 5) dX1_become_40 (by decide) ?_
  refine Go.copyi dX1_become_41 acX1_49 (shp hG rfl) (shp hG rfl) (by decide) (by decide) (by decide) (by decide) (by decide) (Nat.le_of_ble_eq_true rfl) ?_
  refine Go.nmM (fun N3 eN3 => ?_)
  refine Go.aload_n dX1_become_44 rfl ?_
  refine Go.getR dX1_become_45 flX1_21 (shp hG rfl) rfl ?_
  refine Go.iconst (v := 0) dX1_become_48 (by decide) ?_
  refine Go.aload_n dX1_become_49 rfl ?_
  refine Go.getR dX1_become_50 flX1_21 (shp hG rfl) rfl ?_
  refine Go.iconst (v := 0) dX1_become_53 (by decide) ?_
  refine Go.iconst (v := 4) dX1_become_54 (by decide) ?_
  refine Go.copyi dX1_become_55 acX1_49 (shp hG rfl) (shp hG rfl) (by decide) (by decide) (by decide) (by decide) (by decide) (Nat.le_of_ble_eq_true rfl) ?_
  refine Go.nmM (fun N4 eN4 => ?_)
  refine Go.aload_n dX1_become_58 rfl ?_
  refine Go.getR dX1_become_59 flX1_24 (shp hG rfl) rfl ?_
  refine Go.iconst (v := 0) dX1_become_62 (by decide) ?_
  refine Go.aload_n dX1_become_63 rfl ?_
  refine Go.getR dX1_become_64 flX1_24 (shp hG rfl) rfl ?_
  refine Go.iconst (v := 0) dX1_become_67 (by decide) ?_
  refine Go.bipush (v := 30) dX1_become_68 (by decide) ?_
  refine Go.copyi dX1_become_70 acX1_49 (shp hG rfl) (shp hG rfl) (by decide) (by decide) (by decide) (by decide) (by decide) (Nat.le_of_ble_eq_true rfl) ?_
  refine Go.nmM (fun N5 eN5 => ?_)
  refine Go.aload_n dX1_become_73 rfl ?_
  refine Go.getR dX1_become_74 flX1_27 (shp hG rfl) rfl ?_
  refine Go.iconst (v := 0) dX1_become_77 (by decide) ?_
  refine Go.aload_n dX1_become_78 rfl ?_
  refine Go.getR dX1_become_79 flX1_27 (shp hG rfl) rfl ?_
  refine Go.iconst (v := 0) dX1_become_82 (by decide) ?_
  refine Go.bipush (v := 30) dX1_become_83 (by decide) ?_
  refine Go.copyi dX1_become_85 acX1_49 (shp hG rfl) (shp hG rfl) (by decide) (by decide) (by decide) (by decide) (by decide) (Nat.le_of_ble_eq_true rfl) ?_
  refine Go.nmM (fun N6 eN6 => ?_)
  refine Go.aload_n dX1_become_88 rfl ?_
  refine Go.getR dX1_become_89 flX1_30 (shp hG rfl) rfl ?_
  refine Go.iconst (v := 0) dX1_become_92 (by decide) ?_
  refine Go.aload_n dX1_become_93 rfl ?_
  refine Go.getR dX1_become_94 flX1_30 (shp hG rfl) rfl ?_
  refine Go.iconst (v := 0) dX1_become_97 (by decide) ?_
  refine Go.bipush (v := 30) dX1_become_98 (by decide) ?_
  refine Go.copyi dX1_become_100 acX1_49 (shp hG rfl) (shp hG rfl) (by decide) (by decide) (by decide) (by decide) (by decide) (Nat.le_of_ble_eq_true rfl) ?_
  refine Go.nmM (fun N7 eN7 => ?_)
  refine Go.aload_n dX1_become_103 rfl ?_
  refine Go.aload_n dX1_become_104 rfl ?_
  refine Go.getI dX1_become_105 flX1_33 (shp hG rfl) rfl ?_
  refine Go.putI dX1_become_108 fpX1_33 (shp hG rfl) rfl rfl rfl ?_
  refine Go.nmM (fun N8 eN8 => ?_)
  refine Go.aload_n dX1_become_111 rfl ?_
  refine Go.aload_n dX1_become_112 rfl ?_
  refine Go.getI dX1_become_113 flX1_37 (shp hG rfl) rfl ?_
  refine Go.putI dX1_become_116 fpX1_37 (shp hG rfl) rfl rfl rfl ?_
  refine Go.nmM (fun N9 eN9 => ?_)
  refine Go.aload_n dX1_become_119 rfl ?_
  refine Go.aload_n dX1_become_120 rfl ?_
  refine Go.getI dX1_become_121 flX1_40 (shp hG rfl) rfl ?_
  refine Go.putI dX1_become_124 fpX1_40 (shp hG rfl) rfl rfl rfl ?_
  refine Go.nmM (fun N10 eN10 => ?_)
  refine Go.vret dX1_become_127 rfl ?_
  have q1 : Same [9, 10, 11, 12, 13, 14, 15, 16] M N1 := by rw [eN1]; exact Same.seti _ 10 _ (by decide)
  have q2 : Same [9, 10, 11, 12, 13, 14, 15, 16] M N2 := q1.trans (by rw [eN2]; exact Same.seti _ 11 _ (by decide))
  have q3 : Same [9, 10, 11, 12, 13, 14, 15, 16] M N3 := q2.trans (by rw [eN3]; exact Same.seti _ 12 _ (by decide))
  have q4 : Same [9, 10, 11, 12, 13, 14, 15, 16] M N4 := q3.trans (by rw [eN4]; exact Same.seti _ 13 _ (by decide))
  have q5 : Same [9, 10, 11, 12, 13, 14, 15, 16] M N5 := q4.trans (by rw [eN5]; exact Same.seti _ 14 _ (by decide))
  have q6 : Same [9, 10, 11, 12, 13, 14, 15, 16] M N6 := q5.trans (by rw [eN6]; exact Same.seti _ 15 _ (by decide))
  have q7 : Same [9, 10, 11, 12, 13, 14, 15, 16] M N7 := q6.trans (by rw [eN7]; exact Same.seti _ 16 _ (by decide))
  have q8 : Same [9, 10, 11, 12, 13, 14, 15, 16] M N8 := q7.trans (by rw [eN8]; exact Same.upi _ 9 _ _ (by decide))
  have q9 : Same [9, 10, 11, 12, 13, 14, 15, 16] M N9 := q8.trans (by rw [eN9]; exact Same.upi _ 9 _ _ (by decide))
  have q10 : Same [9, 10, 11, 12, 13, 14, 15, 16] M N10 := q9.trans (by rw [eN10]; exact Same.upi _ 9 _ _ (by decide))
  have w1 : ∀ t, t < 8 → N10.1 10 t = M.1 2 t := by
    intro t ht
    rw [eN10, rd_ne (by decide)]; rw [eN9, rd_ne (by decide)]; rw [eN8, rd_ne (by decide)]; rw [eN7, rs_ne (by decide)]; rw [eN6, rs_ne (by decide)]; rw [eN5, rs_ne (by decide)]; rw [eN4, rs_ne (by decide)]; rw [eN3, rs_ne (by decide)]; rw [eN2, rs_ne (by decide)]; rw [eN1, rs_eq, cl0, cl8, cpy_lo ht]
  have w2 : ∀ t, t < 8 → N10.1 11 t = M.1 3 t := by
    intro t ht
    rw [eN10, rd_ne (by decide)]; rw [eN9, rd_ne (by decide)]; rw [eN8, rd_ne (by decide)]; rw [eN7, rs_ne (by decide)]; rw [eN6, rs_ne (by decide)]; rw [eN5, rs_ne (by decide)]; rw [eN4, rs_ne (by decide)]; rw [eN3, rs_ne (by decide)]; rw [eN2, rs_eq, cl0, cl8, cpy_lo ht]; rw [q1.1 3 (by decide)]
  have w3 : ∀ t, t < 5 → N10.1 12 t = M.1 4 t := by
    intro t ht
    rw [eN10, rd_ne (by decide)]; rw [eN9, rd_ne (by decide)]; rw [eN8, rd_ne (by decide)]; rw [eN7, rs_ne (by decide)]; rw [eN6, rs_ne (by decide)]; rw [eN5, rs_ne (by decide)]; rw [eN4, rs_ne (by decide)]; rw [eN3, rs_eq, cl0, cl5, cpy_lo ht]; rw [q2.1 4 (by decide)]
  have w4 : ∀ t, t < 4 → N10.1 13 t = M.1 5 t := by
    intro t ht
    rw [eN10, rd_ne (by decide)]; rw [eN9, rd_ne (by decide)]; rw [eN8, rd_ne (by decide)]; rw [eN7, rs_ne (by decide)]; rw [eN6, rs_ne (by decide)]; rw [eN5, rs_ne (by decide)]; rw [eN4, rs_eq, cl0, cl4, cpy_lo ht]; rw [q3.1 5 (by decide)]
  have w5 : ∀ t, t < 30 → N10.1 14 t = M.1 6 t := by
    intro t ht
    rw [eN10, rd_ne (by decide)]; rw [eN9, rd_ne (by decide)]; rw [eN8, rd_ne (by decide)]; rw [eN7, rs_ne (by decide)]; rw [eN6, rs_ne (by decide)]; rw [eN5, rs_eq, cl0, cl30, cpy_lo ht]; rw [q4.1 6 (by decide)]
  have w6 : ∀ t, t < 30 → N10.1 15 t = M.1 7 t := by
    intro t ht
    rw [eN10, rd_ne (by decide)]; rw [eN9, rd_ne (by decide)]; rw [eN8, rd_ne (by decide)]; rw [eN7, rs_ne (by decide)]; rw [eN6, rs_eq, cl0, cl30, cpy_lo ht]; rw [q5.1 7 (by decide)]
  have w7 : ∀ t, t < 30 → N10.1 16 t = M.1 8 t := by
    intro t ht
    rw [eN10, rd_ne (by decide)]; rw [eN9, rd_ne (by decide)]; rw [eN8, rd_ne (by decide)]; rw [eN7, rs_eq, cl0, cl30, cpy_lo ht]; rw [q6.1 8 (by decide)]
  have f7 : N10.1 9 7 = M.1 1 7 := by rw [eN10, rd_eq, eN9, rd_eq, eN8, rd_eq]; simp only [upd]; simp; rw [q7.1 1 (by decide)]
  have f8 : N10.1 9 8 = M.1 1 8 := by rw [eN10, rd_eq, eN9, rd_eq]; simp only [upd]; simp; rw [q8.1 1 (by decide)]
  have f9 : N10.1 9 9 = M.1 1 9 := by rw [eN10, rd_eq]; simp only [upd]; simp; rw [q9.1 1 (by decide)]
  obtain ⟨h1, h2, h3, h4, h5, h6, h7, h8⟩ := hU
  exact ⟨rfl, ⟨fun t ht => by rw [w1 t ht]; exact h1 t ht, fun t ht => by rw [w2 t ht]; exact h2 t ht, fun t ht => by rw [w3 t ht]; exact h3 t ht, fun t ht => by rw [w4 t ht]; exact h4 t ht, by rw [f7]; exact h5, by rw [f8]; exact h6, by rw [f9]; exact h7, fun e he => by rw [w5 e (by omega), w6 e (by omega), w7 e (by omega)]; exact h8 e he⟩, q10⟩
set_option maxRecDepth 20000 in
theorem s_become1_9 {G : Gt} {d : Nat} {M : Mm} (hG : gS G = SHAPE) {u : Bu} (hU : BuC M 9 u) (h30 : uN u ≤ 30) : ExV G (d + 1) mX1_become [.ref 1, .ref 9] M (fun M' => BuC M' 1 u ∧ Same [1, 2, 3, 4, 5, 6, 7, 8] M M') := by
  refine Ex.of (by decide) (Nat.le_of_ble_eq_true rfl) ?_
  show Go G (d + 1) mX1_become 0 [some (.ref 1), some (.ref 9)] [] M _
  refine Go.aload_n dX1_become_0 rfl ?_
  refine Go.getR dX1_become_1 flX1_9 (shp hG rfl) rfl ?_
  refine Go.iconst (v := 0) dX1_become_4 (by decide) ?_
  refine Go.aload_n dX1_become_5 rfl ?_
  refine Go.getR dX1_become_6 flX1_9 (shp hG rfl) rfl ?_
  refine Go.iconst (v := 0) dX1_become_9 (by decide) ?_
  refine Go.bipush (v := 8) dX1_become_10 (by decide) ?_
  refine Go.copyi dX1_become_12 acX1_49 (shp hG rfl) (shp hG rfl) (by decide) (by decide) (by decide) (by decide) (by decide) (Nat.le_of_ble_eq_true rfl) ?_
  refine Go.nmM (fun N1 eN1 => ?_)
  refine Go.aload_n dX1_become_15 rfl ?_
  refine Go.getR dX1_become_16 flX1_15 (shp hG rfl) rfl ?_
  refine Go.iconst (v := 0) dX1_become_19 (by decide) ?_
  refine Go.aload_n dX1_become_20 rfl ?_
  refine Go.getR dX1_become_21 flX1_15 (shp hG rfl) rfl ?_
  refine Go.iconst (v := 0) dX1_become_24 (by decide) ?_
  refine Go.bipush (v := 8) dX1_become_25 (by decide) ?_
  refine Go.copyi dX1_become_27 acX1_49 (shp hG rfl) (shp hG rfl) (by decide) (by decide) (by decide) (by decide) (by decide) (Nat.le_of_ble_eq_true rfl) ?_
  refine Go.nmM (fun N2 eN2 => ?_)
  refine Go.aload_n dX1_become_30 rfl ?_
  refine Go.getR dX1_become_31 flX1_18 (shp hG rfl) rfl ?_
  refine Go.iconst (v := 0) dX1_become_34 (by decide) ?_
  refine Go.aload_n dX1_become_35 rfl ?_
  refine Go.getR dX1_become_36 flX1_18 (shp hG rfl) rfl ?_
  refine Go.iconst (v := 0) dX1_become_39 (by decide) ?_
  refine Go.iconst (v := 5) dX1_become_40 (by decide) ?_
  refine Go.copyi dX1_become_41 acX1_49 (shp hG rfl) (shp hG rfl) (by decide) (by decide) (by decide) (by decide) (by decide) (Nat.le_of_ble_eq_true rfl) ?_
  refine Go.nmM (fun N3 eN3 => ?_)
  refine Go.aload_n dX1_become_44 rfl ?_
  refine Go.getR dX1_become_45 flX1_21 (shp hG rfl) rfl ?_
  refine Go.iconst (v := 0) dX1_become_48 (by decide) ?_
  refine Go.aload_n dX1_become_49 rfl ?_
  refine Go.getR dX1_become_50 flX1_21 (shp hG rfl) rfl ?_
  refine Go.iconst (v := 0) dX1_become_53 (by decide) ?_
  refine Go.iconst (v := 4) dX1_become_54 (by decide) ?_
  refine Go.copyi dX1_become_55 acX1_49 (shp hG rfl) (shp hG rfl) (by decide) (by decide) (by decide) (by decide) (by decide) (Nat.le_of_ble_eq_true rfl) ?_
  refine Go.nmM (fun N4 eN4 => ?_)
  refine Go.aload_n dX1_become_58 rfl ?_
  refine Go.getR dX1_become_59 flX1_24 (shp hG rfl) rfl ?_
  refine Go.iconst (v := 0) dX1_become_62 (by decide) ?_
  refine Go.aload_n dX1_become_63 rfl ?_
  refine Go.getR dX1_become_64 flX1_24 (shp hG rfl) rfl ?_
  refine Go.iconst (v := 0) dX1_become_67 (by decide) ?_
  refine Go.bipush (v := 30) dX1_become_68 (by decide) ?_
  refine Go.copyi dX1_become_70 acX1_49 (shp hG rfl) (shp hG rfl) (by decide) (by decide) (by decide) (by decide) (by decide) (Nat.le_of_ble_eq_true rfl) ?_
  refine Go.nmM (fun N5 eN5 => ?_)
  refine Go.aload_n dX1_become_73 rfl ?_
  refine Go.getR dX1_become_74 flX1_27 (shp hG rfl) rfl ?_
  refine Go.iconst (v := 0) dX1_become_77 (by decide) ?_
  refine Go.aload_n dX1_become_78 rfl ?_
  refine Go.getR dX1_become_79 flX1_27 (shp hG rfl) rfl ?_
  refine Go.iconst (v := 0) dX1_become_82 (by decide) ?_
  refine Go.bipush (v := 30) dX1_become_83 (by decide) ?_
  refine Go.copyi dX1_become_85 acX1_49 (shp hG rfl) (shp hG rfl) (by decide) (by decide) (by decide) (by decide) (by decide) (Nat.le_of_ble_eq_true rfl) ?_
  refine Go.nmM (fun N6 eN6 => ?_)
  refine Go.aload_n dX1_become_88 rfl ?_
  refine Go.getR dX1_become_89 flX1_30 (shp hG rfl) rfl ?_
  refine Go.iconst (v := 0) dX1_become_92 (by decide) ?_
  refine Go.aload_n dX1_become_93 rfl ?_
  refine Go.getR dX1_become_94 flX1_30 (shp hG rfl) rfl ?_
  refine Go.iconst (v := 0) dX1_become_97 (by decide) ?_
  refine Go.bipush (v := 30) dX1_become_98 (by decide) ?_
  refine Go.copyi dX1_become_100 acX1_49 (shp hG rfl) (shp hG rfl) (by decide) (by decide) (by decide) (by decide) (by decide) (Nat.le_of_ble_eq_true rfl) ?_
  refine Go.nmM (fun N7 eN7 => ?_)
  refine Go.aload_n dX1_become_103 rfl ?_
  refine Go.aload_n dX1_become_104 rfl ?_
  refine Go.getI dX1_become_105 flX1_33 (shp hG rfl) rfl ?_
  refine Go.putI dX1_become_108 fpX1_33 (shp hG rfl) rfl rfl rfl ?_
  refine Go.nmM (fun N8 eN8 => ?_)
  refine Go.aload_n dX1_become_111 rfl ?_
  refine Go.aload_n dX1_become_112 rfl ?_
  refine Go.getI dX1_become_113 flX1_37 (shp hG rfl) rfl ?_
  refine Go.putI dX1_become_116 fpX1_37 (shp hG rfl) rfl rfl rfl ?_
  refine Go.nmM (fun N9 eN9 => ?_)
  refine Go.aload_n dX1_become_119 rfl ?_
  refine Go.aload_n dX1_become_120 rfl ?_
  refine Go.getI dX1_become_121 flX1_40 (shp hG rfl) rfl ?_
  refine Go.putI dX1_become_124 fpX1_40 (shp hG rfl) rfl rfl rfl ?_
  refine Go.nmM (fun N10 eN10 => ?_)
  refine Go.vret dX1_become_127 rfl ?_
  have q1 : Same [1, 2, 3, 4, 5, 6, 7, 8] M N1 := by rw [eN1]; exact Same.seti _ 2 _ (by decide)
  have q2 : Same [1, 2, 3, 4, 5, 6, 7, 8] M N2 := q1.trans (by rw [eN2]; exact Same.seti _ 3 _ (by decide))
  have q3 : Same [1, 2, 3, 4, 5, 6, 7, 8] M N3 := q2.trans (by rw [eN3]; exact Same.seti _ 4 _ (by decide))
  have q4 : Same [1, 2, 3, 4, 5, 6, 7, 8] M N4 := q3.trans (by rw [eN4]; exact Same.seti _ 5 _ (by decide))
  have q5 : Same [1, 2, 3, 4, 5, 6, 7, 8] M N5 := q4.trans (by rw [eN5]; exact Same.seti _ 6 _ (by decide))
  have q6 : Same [1, 2, 3, 4, 5, 6, 7, 8] M N6 := q5.trans (by rw [eN6]; exact Same.seti _ 7 _ (by decide))
  have q7 : Same [1, 2, 3, 4, 5, 6, 7, 8] M N7 := q6.trans (by rw [eN7]; exact Same.seti _ 8 _ (by decide))
  have q8 : Same [1, 2, 3, 4, 5, 6, 7, 8] M N8 := q7.trans (by rw [eN8]; exact Same.upi _ 1 _ _ (by decide))
  have q9 : Same [1, 2, 3, 4, 5, 6, 7, 8] M N9 := q8.trans (by rw [eN9]; exact Same.upi _ 1 _ _ (by decide))
  have q10 : Same [1, 2, 3, 4, 5, 6, 7, 8] M N10 := q9.trans (by rw [eN10]; exact Same.upi _ 1 _ _ (by decide))
  have w1 : ∀ t, t < 8 → N10.1 2 t = M.1 10 t := by
    intro t ht
    rw [eN10, rd_ne (by decide)]; rw [eN9, rd_ne (by decide)]; rw [eN8, rd_ne (by decide)]; rw [eN7, rs_ne (by decide)]; rw [eN6, rs_ne (by decide)]; rw [eN5, rs_ne (by decide)]; rw [eN4, rs_ne (by decide)]; rw [eN3, rs_ne (by decide)]; rw [eN2, rs_ne (by decide)]; rw [eN1, rs_eq, cl0, cl8, cpy_lo ht]
  have w2 : ∀ t, t < 8 → N10.1 3 t = M.1 11 t := by
    intro t ht
    rw [eN10, rd_ne (by decide)]; rw [eN9, rd_ne (by decide)]; rw [eN8, rd_ne (by decide)]; rw [eN7, rs_ne (by decide)]; rw [eN6, rs_ne (by decide)]; rw [eN5, rs_ne (by decide)]; rw [eN4, rs_ne (by decide)]; rw [eN3, rs_ne (by decide)]; rw [eN2, rs_eq, cl0, cl8, cpy_lo ht]; rw [q1.1 11 (by decide)]
  have w3 : ∀ t, t < 5 → N10.1 4 t = M.1 12 t := by
    intro t ht
    rw [eN10, rd_ne (by decide)]; rw [eN9, rd_ne (by decide)]; rw [eN8, rd_ne (by decide)]; rw [eN7, rs_ne (by decide)]; rw [eN6, rs_ne (by decide)]; rw [eN5, rs_ne (by decide)]; rw [eN4, rs_ne (by decide)]; rw [eN3, rs_eq, cl0, cl5, cpy_lo ht]; rw [q2.1 12 (by decide)]
  have w4 : ∀ t, t < 4 → N10.1 5 t = M.1 13 t := by
    intro t ht
    rw [eN10, rd_ne (by decide)]; rw [eN9, rd_ne (by decide)]; rw [eN8, rd_ne (by decide)]; rw [eN7, rs_ne (by decide)]; rw [eN6, rs_ne (by decide)]; rw [eN5, rs_ne (by decide)]; rw [eN4, rs_eq, cl0, cl4, cpy_lo ht]; rw [q3.1 13 (by decide)]
  have w5 : ∀ t, t < 30 → N10.1 6 t = M.1 14 t := by
    intro t ht
    rw [eN10, rd_ne (by decide)]; rw [eN9, rd_ne (by decide)]; rw [eN8, rd_ne (by decide)]; rw [eN7, rs_ne (by decide)]; rw [eN6, rs_ne (by decide)]; rw [eN5, rs_eq, cl0, cl30, cpy_lo ht]; rw [q4.1 14 (by decide)]
  have w6 : ∀ t, t < 30 → N10.1 7 t = M.1 15 t := by
    intro t ht
    rw [eN10, rd_ne (by decide)]; rw [eN9, rd_ne (by decide)]; rw [eN8, rd_ne (by decide)]; rw [eN7, rs_ne (by decide)]; rw [eN6, rs_eq, cl0, cl30, cpy_lo ht]; rw [q5.1 15 (by decide)]
  have w7 : ∀ t, t < 30 → N10.1 8 t = M.1 16 t := by
    intro t ht
    rw [eN10, rd_ne (by decide)]; rw [eN9, rd_ne (by decide)]; rw [eN8, rd_ne (by decide)]; rw [eN7, rs_eq, cl0, cl30, cpy_lo ht]; rw [q6.1 16 (by decide)]
  have f7 : N10.1 1 7 = M.1 9 7 := by rw [eN10, rd_eq, eN9, rd_eq, eN8, rd_eq]; simp only [upd]; simp; rw [q7.1 9 (by decide)]
  have f8 : N10.1 1 8 = M.1 9 8 := by rw [eN10, rd_eq, eN9, rd_eq]; simp only [upd]; simp; rw [q8.1 9 (by decide)]
  have f9 : N10.1 1 9 = M.1 9 9 := by rw [eN10, rd_eq]; simp only [upd]; simp; rw [q9.1 9 (by decide)]
  obtain ⟨h1, h2, h3, h4, h5, h6, h7, h8⟩ := hU
  exact ⟨rfl, ⟨fun t ht => by rw [w1 t ht]; exact h1 t ht, fun t ht => by rw [w2 t ht]; exact h2 t ht, fun t ht => by rw [w3 t ht]; exact h3 t ht, fun t ht => by rw [w4 t ht]; exact h4 t ht, by rw [f7]; exact h5, by rw [f8]; exact h6, by rw [f9]; exact h7, fun e he => by rw [w5 e (by omega), w6 e (by omega), w7 e (by omega)]; exact h8 e he⟩, q10⟩
set_option maxRecDepth 20000 in
theorem s_become17_1 {G : Gt} {d : Nat} {M : Mm} (hG : gS G = SHAPE) {u : Bu} (hU : BuC M 1 u) (h30 : uN u ≤ 30) : ExV G (d + 1) mX1_become [.ref 17, .ref 1] M (fun M' => BuC M' 17 u ∧ Same [17, 18, 19, 20, 21, 22, 23, 24] M M') := by
  refine Ex.of (by decide) (Nat.le_of_ble_eq_true rfl) ?_
  show Go G (d + 1) mX1_become 0 [some (.ref 17), some (.ref 1)] [] M _
  refine Go.aload_n dX1_become_0 rfl ?_
  refine Go.getR dX1_become_1 flX1_9 (shp hG rfl) rfl ?_
  refine Go.iconst (v := 0) dX1_become_4 (by decide) ?_
  refine Go.aload_n dX1_become_5 rfl ?_
  refine Go.getR dX1_become_6 flX1_9 (shp hG rfl) rfl ?_
  refine Go.iconst (v := 0) dX1_become_9 (by decide) ?_
  refine Go.bipush (v := 8) dX1_become_10 (by decide) ?_
  refine Go.copyi dX1_become_12 acX1_49 (shp hG rfl) (shp hG rfl) (by decide) (by decide) (by decide) (by decide) (by decide) (Nat.le_of_ble_eq_true rfl) ?_
  refine Go.nmM (fun N1 eN1 => ?_)
  refine Go.aload_n dX1_become_15 rfl ?_
  refine Go.getR dX1_become_16 flX1_15 (shp hG rfl) rfl ?_
  refine Go.iconst (v := 0) dX1_become_19 (by decide) ?_
  refine Go.aload_n dX1_become_20 rfl ?_
  refine Go.getR dX1_become_21 flX1_15 (shp hG rfl) rfl ?_
  refine Go.iconst (v := 0) dX1_become_24 (by decide) ?_
  refine Go.bipush (v := 8) dX1_become_25 (by decide) ?_
  refine Go.copyi dX1_become_27 acX1_49 (shp hG rfl) (shp hG rfl) (by decide) (by decide) (by decide) (by decide) (by decide) (Nat.le_of_ble_eq_true rfl) ?_
  refine Go.nmM (fun N2 eN2 => ?_)
  refine Go.aload_n dX1_become_30 rfl ?_
  refine Go.getR dX1_become_31 flX1_18 (shp hG rfl) rfl ?_
  refine Go.iconst (v := 0) dX1_become_34 (by decide) ?_
  refine Go.aload_n dX1_become_35 rfl ?_
  refine Go.getR dX1_become_36 flX1_18 (shp hG rfl) rfl ?_
  refine Go.iconst (v := 0) dX1_become_39 (by decide) ?_
  refine Go.iconst (v := 5) dX1_become_40 (by decide) ?_
  refine Go.copyi dX1_become_41 acX1_49 (shp hG rfl) (shp hG rfl) (by decide) (by decide) (by decide) (by decide) (by decide) (Nat.le_of_ble_eq_true rfl) ?_
  refine Go.nmM (fun N3 eN3 => ?_)
  refine Go.aload_n dX1_become_44 rfl ?_
  refine Go.getR dX1_become_45 flX1_21 (shp hG rfl) rfl ?_
  refine Go.iconst (v := 0) dX1_become_48 (by decide) ?_
  refine Go.aload_n dX1_become_49 rfl ?_
  refine Go.getR dX1_become_50 flX1_21 (shp hG rfl) rfl ?_
  refine Go.iconst (v := 0) dX1_become_53 (by decide) ?_
  refine Go.iconst (v := 4) dX1_become_54 (by decide) ?_
  refine Go.copyi dX1_become_55 acX1_49 (shp hG rfl) (shp hG rfl) (by decide) (by decide) (by decide) (by decide) (by decide) (Nat.le_of_ble_eq_true rfl) ?_
  refine Go.nmM (fun N4 eN4 => ?_)
  refine Go.aload_n dX1_become_58 rfl ?_
  refine Go.getR dX1_become_59 flX1_24 (shp hG rfl) rfl ?_
  refine Go.iconst (v := 0) dX1_become_62 (by decide) ?_
  refine Go.aload_n dX1_become_63 rfl ?_
  refine Go.getR dX1_become_64 flX1_24 (shp hG rfl) rfl ?_
  refine Go.iconst (v := 0) dX1_become_67 (by decide) ?_
  refine Go.bipush (v := 30) dX1_become_68 (by decide) ?_
  refine Go.copyi dX1_become_70 acX1_49 (shp hG rfl) (shp hG rfl) (by decide) (by decide) (by decide) (by decide) (by decide) (Nat.le_of_ble_eq_true rfl) ?_
  refine Go.nmM (fun N5 eN5 => ?_)
  refine Go.aload_n dX1_become_73 rfl ?_
  refine Go.getR dX1_become_74 flX1_27 (shp hG rfl) rfl ?_
  refine Go.iconst (v := 0) dX1_become_77 (by decide) ?_
  refine Go.aload_n dX1_become_78 rfl ?_
  refine Go.getR dX1_become_79 flX1_27 (shp hG rfl) rfl ?_
  refine Go.iconst (v := 0) dX1_become_82 (by decide) ?_
  refine Go.bipush (v := 30) dX1_become_83 (by decide) ?_
  refine Go.copyi dX1_become_85 acX1_49 (shp hG rfl) (shp hG rfl) (by decide) (by decide) (by decide) (by decide) (by decide) (Nat.le_of_ble_eq_true rfl) ?_
  refine Go.nmM (fun N6 eN6 => ?_)
  refine Go.aload_n dX1_become_88 rfl ?_
  refine Go.getR dX1_become_89 flX1_30 (shp hG rfl) rfl ?_
  refine Go.iconst (v := 0) dX1_become_92 (by decide) ?_
  refine Go.aload_n dX1_become_93 rfl ?_
  refine Go.getR dX1_become_94 flX1_30 (shp hG rfl) rfl ?_
  refine Go.iconst (v := 0) dX1_become_97 (by decide) ?_
  refine Go.bipush (v := 30) dX1_become_98 (by decide) ?_
  refine Go.copyi dX1_become_100 acX1_49 (shp hG rfl) (shp hG rfl) (by decide) (by decide) (by decide) (by decide) (by decide) (Nat.le_of_ble_eq_true rfl) ?_
  refine Go.nmM (fun N7 eN7 => ?_)
  refine Go.aload_n dX1_become_103 rfl ?_
  refine Go.aload_n dX1_become_104 rfl ?_
  refine Go.getI dX1_become_105 flX1_33 (shp hG rfl) rfl ?_
  refine Go.putI dX1_become_108 fpX1_33 (shp hG rfl) rfl rfl rfl ?_
  refine Go.nmM (fun N8 eN8 => ?_)
  refine Go.aload_n dX1_become_111 rfl ?_
  refine Go.aload_n dX1_become_112 rfl ?_
  refine Go.getI dX1_become_113 flX1_37 (shp hG rfl) rfl ?_
  refine Go.putI dX1_become_116 fpX1_37 (shp hG rfl) rfl rfl rfl ?_
  refine Go.nmM (fun N9 eN9 => ?_)
  refine Go.aload_n dX1_become_119 rfl ?_
  refine Go.aload_n dX1_become_120 rfl ?_
  refine Go.getI dX1_become_121 flX1_40 (shp hG rfl) rfl ?_
  refine Go.putI dX1_become_124 fpX1_40 (shp hG rfl) rfl rfl rfl ?_
  refine Go.nmM (fun N10 eN10 => ?_)
  refine Go.vret dX1_become_127 rfl ?_
  have q1 : Same [17, 18, 19, 20, 21, 22, 23, 24] M N1 := by rw [eN1]; exact Same.seti _ 18 _ (by decide)
  have q2 : Same [17, 18, 19, 20, 21, 22, 23, 24] M N2 := q1.trans (by rw [eN2]; exact Same.seti _ 19 _ (by decide))
  have q3 : Same [17, 18, 19, 20, 21, 22, 23, 24] M N3 := q2.trans (by rw [eN3]; exact Same.seti _ 20 _ (by decide))
  have q4 : Same [17, 18, 19, 20, 21, 22, 23, 24] M N4 := q3.trans (by rw [eN4]; exact Same.seti _ 21 _ (by decide))
  have q5 : Same [17, 18, 19, 20, 21, 22, 23, 24] M N5 := q4.trans (by rw [eN5]; exact Same.seti _ 22 _ (by decide))
  have q6 : Same [17, 18, 19, 20, 21, 22, 23, 24] M N6 := q5.trans (by rw [eN6]; exact Same.seti _ 23 _ (by decide))
  have q7 : Same [17, 18, 19, 20, 21, 22, 23, 24] M N7 := q6.trans (by rw [eN7]; exact Same.seti _ 24 _ (by decide))
  have q8 : Same [17, 18, 19, 20, 21, 22, 23, 24] M N8 := q7.trans (by rw [eN8]; exact Same.upi _ 17 _ _ (by decide))
  have q9 : Same [17, 18, 19, 20, 21, 22, 23, 24] M N9 := q8.trans (by rw [eN9]; exact Same.upi _ 17 _ _ (by decide))
  have q10 : Same [17, 18, 19, 20, 21, 22, 23, 24] M N10 := q9.trans (by rw [eN10]; exact Same.upi _ 17 _ _ (by decide))
  have w1 : ∀ t, t < 8 → N10.1 18 t = M.1 2 t := by
    intro t ht
    rw [eN10, rd_ne (by decide)]; rw [eN9, rd_ne (by decide)]; rw [eN8, rd_ne (by decide)]; rw [eN7, rs_ne (by decide)]; rw [eN6, rs_ne (by decide)]; rw [eN5, rs_ne (by decide)]; rw [eN4, rs_ne (by decide)]; rw [eN3, rs_ne (by decide)]; rw [eN2, rs_ne (by decide)]; rw [eN1, rs_eq, cl0, cl8, cpy_lo ht]
  have w2 : ∀ t, t < 8 → N10.1 19 t = M.1 3 t := by
    intro t ht
    rw [eN10, rd_ne (by decide)]; rw [eN9, rd_ne (by decide)]; rw [eN8, rd_ne (by decide)]; rw [eN7, rs_ne (by decide)]; rw [eN6, rs_ne (by decide)]; rw [eN5, rs_ne (by decide)]; rw [eN4, rs_ne (by decide)]; rw [eN3, rs_ne (by decide)]; rw [eN2, rs_eq, cl0, cl8, cpy_lo ht]; rw [q1.1 3 (by decide)]
  have w3 : ∀ t, t < 5 → N10.1 20 t = M.1 4 t := by
    intro t ht
    rw [eN10, rd_ne (by decide)]; rw [eN9, rd_ne (by decide)]; rw [eN8, rd_ne (by decide)]; rw [eN7, rs_ne (by decide)]; rw [eN6, rs_ne (by decide)]; rw [eN5, rs_ne (by decide)]; rw [eN4, rs_ne (by decide)]; rw [eN3, rs_eq, cl0, cl5, cpy_lo ht]; rw [q2.1 4 (by decide)]
  have w4 : ∀ t, t < 4 → N10.1 21 t = M.1 5 t := by
    intro t ht
    rw [eN10, rd_ne (by decide)]; rw [eN9, rd_ne (by decide)]; rw [eN8, rd_ne (by decide)]; rw [eN7, rs_ne (by decide)]; rw [eN6, rs_ne (by decide)]; rw [eN5, rs_ne (by decide)]; rw [eN4, rs_eq, cl0, cl4, cpy_lo ht]; rw [q3.1 5 (by decide)]
  have w5 : ∀ t, t < 30 → N10.1 22 t = M.1 6 t := by
    intro t ht
    rw [eN10, rd_ne (by decide)]; rw [eN9, rd_ne (by decide)]; rw [eN8, rd_ne (by decide)]; rw [eN7, rs_ne (by decide)]; rw [eN6, rs_ne (by decide)]; rw [eN5, rs_eq, cl0, cl30, cpy_lo ht]; rw [q4.1 6 (by decide)]
  have w6 : ∀ t, t < 30 → N10.1 23 t = M.1 7 t := by
    intro t ht
    rw [eN10, rd_ne (by decide)]; rw [eN9, rd_ne (by decide)]; rw [eN8, rd_ne (by decide)]; rw [eN7, rs_ne (by decide)]; rw [eN6, rs_eq, cl0, cl30, cpy_lo ht]; rw [q5.1 7 (by decide)]
  have w7 : ∀ t, t < 30 → N10.1 24 t = M.1 8 t := by
    intro t ht
    rw [eN10, rd_ne (by decide)]; rw [eN9, rd_ne (by decide)]; rw [eN8, rd_ne (by decide)]; rw [eN7, rs_eq, cl0, cl30, cpy_lo ht]; rw [q6.1 8 (by decide)]
  have f7 : N10.1 17 7 = M.1 1 7 := by rw [eN10, rd_eq, eN9, rd_eq, eN8, rd_eq]; simp only [upd]; simp; rw [q7.1 1 (by decide)]
  have f8 : N10.1 17 8 = M.1 1 8 := by rw [eN10, rd_eq, eN9, rd_eq]; simp only [upd]; simp; rw [q8.1 1 (by decide)]
  have f9 : N10.1 17 9 = M.1 1 9 := by rw [eN10, rd_eq]; simp only [upd]; simp; rw [q9.1 1 (by decide)]
  obtain ⟨h1, h2, h3, h4, h5, h6, h7, h8⟩ := hU
  exact ⟨rfl, ⟨fun t ht => by rw [w1 t ht]; exact h1 t ht, fun t ht => by rw [w2 t ht]; exact h2 t ht, fun t ht => by rw [w3 t ht]; exact h3 t ht, fun t ht => by rw [w4 t ht]; exact h4 t ht, by rw [f7]; exact h5, by rw [f8]; exact h6, by rw [f9]; exact h7, fun e he => by rw [w5 e (by omega), w6 e (by omega), w7 e (by omega)]; exact h8 e he⟩, q10⟩
set_option maxRecDepth 20000 in
theorem s_become1_17 {G : Gt} {d : Nat} {M : Mm} (hG : gS G = SHAPE) {u : Bu} (hU : BuC M 17 u) (h30 : uN u ≤ 30) : ExV G (d + 1) mX1_become [.ref 1, .ref 17] M (fun M' => BuC M' 1 u ∧ Same [1, 2, 3, 4, 5, 6, 7, 8] M M') := by
  refine Ex.of (by decide) (Nat.le_of_ble_eq_true rfl) ?_
  show Go G (d + 1) mX1_become 0 [some (.ref 1), some (.ref 17)] [] M _
  refine Go.aload_n dX1_become_0 rfl ?_
  refine Go.getR dX1_become_1 flX1_9 (shp hG rfl) rfl ?_
  refine Go.iconst (v := 0) dX1_become_4 (by decide) ?_
  refine Go.aload_n dX1_become_5 rfl ?_
  refine Go.getR dX1_become_6 flX1_9 (shp hG rfl) rfl ?_
  refine Go.iconst (v := 0) dX1_become_9 (by decide) ?_
  refine Go.bipush (v := 8) dX1_become_10 (by decide) ?_
  refine Go.copyi dX1_become_12 acX1_49 (shp hG rfl) (shp hG rfl) (by decide) (by decide) (by decide) (by decide) (by decide) (Nat.le_of_ble_eq_true rfl) ?_
  refine Go.nmM (fun N1 eN1 => ?_)
  refine Go.aload_n dX1_become_15 rfl ?_
  refine Go.getR dX1_become_16 flX1_15 (shp hG rfl) rfl ?_
  refine Go.iconst (v := 0) dX1_become_19 (by decide) ?_
  refine Go.aload_n dX1_become_20 rfl ?_
  refine Go.getR dX1_become_21 flX1_15 (shp hG rfl) rfl ?_
  refine Go.iconst (v := 0) dX1_become_24 (by decide) ?_
  refine Go.bipush (v := 8) dX1_become_25 (by decide) ?_
  refine Go.copyi dX1_become_27 acX1_49 (shp hG rfl) (shp hG rfl) (by decide) (by decide) (by decide) (by decide) (by decide) (Nat.le_of_ble_eq_true rfl) ?_
  refine Go.nmM (fun N2 eN2 => ?_)
  refine Go.aload_n dX1_become_30 rfl ?_
  refine Go.getR dX1_become_31 flX1_18 (shp hG rfl) rfl ?_
  refine Go.iconst (v := 0) dX1_become_34 (by decide) ?_
  refine Go.aload_n dX1_become_35 rfl ?_
  refine Go.getR dX1_become_36 flX1_18 (shp hG rfl) rfl ?_
  refine Go.iconst (v := 0) dX1_become_39 (by decide) ?_
  refine Go.iconst (v := 5) dX1_become_40 (by decide) ?_
  refine Go.copyi dX1_become_41 acX1_49 (shp hG rfl) (shp hG rfl) (by decide) (by decide) (by decide) (by decide) (by decide) (Nat.le_of_ble_eq_true rfl) ?_
  refine Go.nmM (fun N3 eN3 => ?_)
  refine Go.aload_n dX1_become_44 rfl ?_
  refine Go.getR dX1_become_45 flX1_21 (shp hG rfl) rfl ?_
  refine Go.iconst (v := 0) dX1_become_48 (by decide) ?_
  refine Go.aload_n dX1_become_49 rfl ?_
  refine Go.getR dX1_become_50 flX1_21 (shp hG rfl) rfl ?_
  refine Go.iconst (v := 0) dX1_become_53 (by decide) ?_
  refine Go.iconst (v := 4) dX1_become_54 (by decide) ?_
  refine Go.copyi dX1_become_55 acX1_49 (shp hG rfl) (shp hG rfl) (by decide) (by decide) (by decide) (by decide) (by decide) (Nat.le_of_ble_eq_true rfl) ?_
  refine Go.nmM (fun N4 eN4 => ?_)
  refine Go.aload_n dX1_become_58 rfl ?_
  refine Go.getR dX1_become_59 flX1_24 (shp hG rfl) rfl ?_
  refine Go.iconst (v := 0) dX1_become_62 (by decide) ?_
  refine Go.aload_n dX1_become_63 rfl ?_
  refine Go.getR dX1_become_64 flX1_24 (shp hG rfl) rfl ?_
  refine Go.iconst (v := 0) dX1_become_67 (by decide) ?_
  refine Go.bipush (v := 30) dX1_become_68 (by decide) ?_
  refine Go.copyi dX1_become_70 acX1_49 (shp hG rfl) (shp hG rfl) (by decide) (by decide) (by decide) (by decide) (by decide) (Nat.le_of_ble_eq_true rfl) ?_
  refine Go.nmM (fun N5 eN5 => ?_)
  refine Go.aload_n dX1_become_73 rfl ?_
  refine Go.getR dX1_become_74 flX1_27 (shp hG rfl) rfl ?_
  refine Go.iconst (v := 0) dX1_become_77 (by decide) ?_
  refine Go.aload_n dX1_become_78 rfl ?_
  refine Go.getR dX1_become_79 flX1_27 (shp hG rfl) rfl ?_
  refine Go.iconst (v := 0) dX1_become_82 (by decide) ?_
  refine Go.bipush (v := 30) dX1_become_83 (by decide) ?_
  refine Go.copyi dX1_become_85 acX1_49 (shp hG rfl) (shp hG rfl) (by decide) (by decide) (by decide) (by decide) (by decide) (Nat.le_of_ble_eq_true rfl) ?_
  refine Go.nmM (fun N6 eN6 => ?_)
  refine Go.aload_n dX1_become_88 rfl ?_
  refine Go.getR dX1_become_89 flX1_30 (shp hG rfl) rfl ?_
  refine Go.iconst (v := 0) dX1_become_92 (by decide) ?_
  refine Go.aload_n dX1_become_93 rfl ?_
  refine Go.getR dX1_become_94 flX1_30 (shp hG rfl) rfl ?_
  refine Go.iconst (v := 0) dX1_become_97 (by decide) ?_
  refine Go.bipush (v := 30) dX1_become_98 (by decide) ?_
  refine Go.copyi dX1_become_100 acX1_49 (shp hG rfl) (shp hG rfl) (by decide) (by decide) (by decide) (by decide) (by decide) (Nat.le_of_ble_eq_true rfl) ?_
  refine Go.nmM (fun N7 eN7 => ?_)
  refine Go.aload_n dX1_become_103 rfl ?_
  refine Go.aload_n dX1_become_104 rfl ?_
  refine Go.getI dX1_become_105 flX1_33 (shp hG rfl) rfl ?_
  refine Go.putI dX1_become_108 fpX1_33 (shp hG rfl) rfl rfl rfl ?_
  refine Go.nmM (fun N8 eN8 => ?_)
  refine Go.aload_n dX1_become_111 rfl ?_
  refine Go.aload_n dX1_become_112 rfl ?_
  refine Go.getI dX1_become_113 flX1_37 (shp hG rfl) rfl ?_
  refine Go.putI dX1_become_116 fpX1_37 (shp hG rfl) rfl rfl rfl ?_
  refine Go.nmM (fun N9 eN9 => ?_)
  refine Go.aload_n dX1_become_119 rfl ?_
  refine Go.aload_n dX1_become_120 rfl ?_
  refine Go.getI dX1_become_121 flX1_40 (shp hG rfl) rfl ?_
  refine Go.putI dX1_become_124 fpX1_40 (shp hG rfl) rfl rfl rfl ?_
  refine Go.nmM (fun N10 eN10 => ?_)
  refine Go.vret dX1_become_127 rfl ?_
  have q1 : Same [1, 2, 3, 4, 5, 6, 7, 8] M N1 := by rw [eN1]; exact Same.seti _ 2 _ (by decide)
  have q2 : Same [1, 2, 3, 4, 5, 6, 7, 8] M N2 := q1.trans (by rw [eN2]; exact Same.seti _ 3 _ (by decide))
  have q3 : Same [1, 2, 3, 4, 5, 6, 7, 8] M N3 := q2.trans (by rw [eN3]; exact Same.seti _ 4 _ (by decide))
  have q4 : Same [1, 2, 3, 4, 5, 6, 7, 8] M N4 := q3.trans (by rw [eN4]; exact Same.seti _ 5 _ (by decide))
  have q5 : Same [1, 2, 3, 4, 5, 6, 7, 8] M N5 := q4.trans (by rw [eN5]; exact Same.seti _ 6 _ (by decide))
  have q6 : Same [1, 2, 3, 4, 5, 6, 7, 8] M N6 := q5.trans (by rw [eN6]; exact Same.seti _ 7 _ (by decide))
  have q7 : Same [1, 2, 3, 4, 5, 6, 7, 8] M N7 := q6.trans (by rw [eN7]; exact Same.seti _ 8 _ (by decide))
  have q8 : Same [1, 2, 3, 4, 5, 6, 7, 8] M N8 := q7.trans (by rw [eN8]; exact Same.upi _ 1 _ _ (by decide))
  have q9 : Same [1, 2, 3, 4, 5, 6, 7, 8] M N9 := q8.trans (by rw [eN9]; exact Same.upi _ 1 _ _ (by decide))
  have q10 : Same [1, 2, 3, 4, 5, 6, 7, 8] M N10 := q9.trans (by rw [eN10]; exact Same.upi _ 1 _ _ (by decide))
  have w1 : ∀ t, t < 8 → N10.1 2 t = M.1 18 t := by
    intro t ht
    rw [eN10, rd_ne (by decide)]; rw [eN9, rd_ne (by decide)]; rw [eN8, rd_ne (by decide)]; rw [eN7, rs_ne (by decide)]; rw [eN6, rs_ne (by decide)]; rw [eN5, rs_ne (by decide)]; rw [eN4, rs_ne (by decide)]; rw [eN3, rs_ne (by decide)]; rw [eN2, rs_ne (by decide)]; rw [eN1, rs_eq, cl0, cl8, cpy_lo ht]
  have w2 : ∀ t, t < 8 → N10.1 3 t = M.1 19 t := by
    intro t ht
    rw [eN10, rd_ne (by decide)]; rw [eN9, rd_ne (by decide)]; rw [eN8, rd_ne (by decide)]; rw [eN7, rs_ne (by decide)]; rw [eN6, rs_ne (by decide)]; rw [eN5, rs_ne (by decide)]; rw [eN4, rs_ne (by decide)]; rw [eN3, rs_ne (by decide)]; rw [eN2, rs_eq, cl0, cl8, cpy_lo ht]; rw [q1.1 19 (by decide)]
  have w3 : ∀ t, t < 5 → N10.1 4 t = M.1 20 t := by
    intro t ht
    rw [eN10, rd_ne (by decide)]; rw [eN9, rd_ne (by decide)]; rw [eN8, rd_ne (by decide)]; rw [eN7, rs_ne (by decide)]; rw [eN6, rs_ne (by decide)]; rw [eN5, rs_ne (by decide)]; rw [eN4, rs_ne (by decide)]; rw [eN3, rs_eq, cl0, cl5, cpy_lo ht]; rw [q2.1 20 (by decide)]
  have w4 : ∀ t, t < 4 → N10.1 5 t = M.1 21 t := by
    intro t ht
    rw [eN10, rd_ne (by decide)]; rw [eN9, rd_ne (by decide)]; rw [eN8, rd_ne (by decide)]; rw [eN7, rs_ne (by decide)]; rw [eN6, rs_ne (by decide)]; rw [eN5, rs_ne (by decide)]; rw [eN4, rs_eq, cl0, cl4, cpy_lo ht]; rw [q3.1 21 (by decide)]
  have w5 : ∀ t, t < 30 → N10.1 6 t = M.1 22 t := by
    intro t ht
    rw [eN10, rd_ne (by decide)]; rw [eN9, rd_ne (by decide)]; rw [eN8, rd_ne (by decide)]; rw [eN7, rs_ne (by decide)]; rw [eN6, rs_ne (by decide)]; rw [eN5, rs_eq, cl0, cl30, cpy_lo ht]; rw [q4.1 22 (by decide)]
  have w6 : ∀ t, t < 30 → N10.1 7 t = M.1 23 t := by
    intro t ht
    rw [eN10, rd_ne (by decide)]; rw [eN9, rd_ne (by decide)]; rw [eN8, rd_ne (by decide)]; rw [eN7, rs_ne (by decide)]; rw [eN6, rs_eq, cl0, cl30, cpy_lo ht]; rw [q5.1 23 (by decide)]
  have w7 : ∀ t, t < 30 → N10.1 8 t = M.1 24 t := by
    intro t ht
    rw [eN10, rd_ne (by decide)]; rw [eN9, rd_ne (by decide)]; rw [eN8, rd_ne (by decide)]; rw [eN7, rs_eq, cl0, cl30, cpy_lo ht]; rw [q6.1 24 (by decide)]
  have f7 : N10.1 1 7 = M.1 17 7 := by rw [eN10, rd_eq, eN9, rd_eq, eN8, rd_eq]; simp only [upd]; simp; rw [q7.1 17 (by decide)]
  have f8 : N10.1 1 8 = M.1 17 8 := by rw [eN10, rd_eq, eN9, rd_eq]; simp only [upd]; simp; rw [q8.1 17 (by decide)]
  have f9 : N10.1 1 9 = M.1 17 9 := by rw [eN10, rd_eq]; simp only [upd]; simp; rw [q9.1 17 (by decide)]
  obtain ⟨h1, h2, h3, h4, h5, h6, h7, h8⟩ := hU
  exact ⟨rfl, ⟨fun t ht => by rw [w1 t ht]; exact h1 t ht, fun t ht => by rw [w2 t ht]; exact h2 t ht, fun t ht => by rw [w3 t ht]; exact h3 t ht, fun t ht => by rw [w4 t ht]; exact h4 t ht, by rw [f7]; exact h5, by rw [f8]; exact h6, by rw [f9]; exact h7, fun e he => by rw [w5 e (by omega), w6 e (by omega), w7 e (by omega)]; exact h8 e he⟩, q10⟩
theorem upi_self {M : Mm} {k j : Nat} {x : Int32} (h : M.1 k j = x) : upi M k j x = M := by
  unfold upi
  rw [show upd (M.1 k) j x = M.1 k from by funext i; unfold upd; split; rename_i q; rw [q, h]; rfl]
  exact seti_self M k
def RwK (M N : Mm) (k s m0 i : Nat) : Prop := Same [s, 49] M N ∧ (∀ j, j ≠ 34 → N.1 49 j = M.1 49 j) ∧ N.1 49 34 = nI (m0 + i) ∧ (∀ j, j < i → N.1 s (m0 + j) = M.1 k j) ∧ ∀ j, j < m0 → N.1 s j = M.1 s j
def RwG (M N : Mm) (k s m0 i : Nat) : Prop := Same [k, 49] M N ∧ (∀ j, j ≠ 34 → N.1 49 j = M.1 49 j) ∧ N.1 49 34 = nI (m0 + i) ∧ ∀ j, j < i → N.1 k j = M.1 s (m0 + j)
set_option maxRecDepth 20000 in
theorem l_rowK {G : Gt} {d : Nat} {M : Mm} (hG : gS G = SHAPE) {k s L m0 m : Nat} (hk : (gS G)[k]? = some (.inl (0, L, []))) (hs : (gS G)[s]? = some (.inl (0, 130, []))) (hks : k ≠ s) (hk9 : k ≠ 49) (hs9 : s ≠ 49) (hmL : m ≤ L) (hL : L ≤ 90) (hm0 : m0 + m ≤ 130) : ∀ (n i : Nat) (N : Mm), i + n = m → RwK M N k s m0 i → Go G (d) mX7_moveRow 3 [some (.ref 49), some (.ref k), some (.int (nI m)), some (.int 1), some (.ref s), some (.int (nI i))] [] N (fun v M' => v = none ∧ RwK M M' k s m0 m) := by
  intro n
  induction n with
  | zero =>
    intro i N hin hR
    refine Go.iload dX7_moveRow_3 rfl ?_
    refine Go.iload_n dX7_moveRow_5 rfl ?_
    refine Go.icmp_ge 54 dX7_moveRow_6 rfl (fun _ => ?_) (fun h6 => absurd (nI_le (a := m) (b := i) (by omega) (by omega)) h6)
    refine Go.vret dX7_moveRow_54 rfl ?_
    have e9 : i = m := by omega
    subst e9
    exact ⟨rfl, hR⟩
  | succ n ih =>
    intro i N hin hR
    have hi : i < m := by omega
    refine Go.iload dX7_moveRow_3 rfl ?_
    refine Go.iload_n dX7_moveRow_5 rfl ?_
    refine Go.icmp_ge 54 dX7_moveRow_6 rfl (fun h6 => absurd h6 (nI_ge (a := i) (b := m) (by omega) (by omega))) (fun _ => ?_)
    refine Go.iload_n dX7_moveRow_9 rfl ?_
    refine Go.if_eq 27 dX7_moveRow_10 rfl (fun h10 => absurd h10 (by decide)) (fun _ => ?_)
    refine Go.aload dX7_moveRow_13 rfl ?_
    refine Go.aload_n dX7_moveRow_15 rfl ?_
    refine Go.getI dX7_moveRow_16 flX7_363 (shp hG rfl) rfl ?_
    refine Go.eqI (y := nI (m0 + i)) (hR.2.2.1) ?_
    refine Go.aload_n dX7_moveRow_19 rfl ?_
    refine Go.iload dX7_moveRow_20 rfl ?_
    refine Go.iald dX7_moveRow_22 hk (vin (by omega) (by omega)) ?_
    refine Go.iast dX7_moveRow_23 hs (vin (by omega) (by decide)) ?_
    refine Go.nmM (fun N1 eN1 => ?_)
    refine Go.goto 38 dX7_moveRow_24 rfl ?_
    refine Go.aload_n dX7_moveRow_38 rfl ?_
    refine Go.dup dX7_moveRow_39 rfl ?_
    refine Go.getI dX7_moveRow_40 flX7_363 (shp hG rfl) rfl ?_
    refine Go.eqI (y := nI (m0 + i)) (by rw [eN1, rd_ne (by omega)]; exact hR.2.2.1) ?_
    refine Go.iconst (v := 1) dX7_moveRow_43 (by decide) ?_
    refine Go.iadd dX7_moveRow_44 ?_
    refine Go.eqI (y := nI (m0 + i + 1)) (nI_add _ _) ?_
    refine Go.putI dX7_moveRow_45 fpX7_363 (shp hG rfl) rfl rfl rfl ?_
    refine Go.nmM (fun N2 eN2 => ?_)
    refine Go.iinc (v := nI (i + 1)) (ls' := [some (.ref 49), some (.ref k), some (.int (nI m)), some (.int 1), some (.ref s), some (.int (nI (i + 1)))]) dX7_moveRow_48 rfl (nI_1 _) rfl rfl ?_
    refine Go.goto 3 dX7_moveRow_51 rfl ?_
    have eA : N1 = upi N s (m0 + i) (N.1 k i) := by rw [eN1, ncl (by omega), ncl (by omega)]
    have hkN : N.1 k = M.1 k := hR.1.1 k (by simp [hks, hk9])
    refine ih (i + 1) N2 (by omega) ⟨(hR.1.trans ((by rw [eA]; exact Same.upi _ s _ _ (by simp) : Same [s, 49] N N1).trans (by rw [eN2]; exact Same.upi _ 49 _ _ (by simp)))), fun j hj => ?_, ?_, fun j hj => ?_, fun j hj => ?_⟩
    · rw [eN2, rd_eq]
      unfold upd
      rw [if_neg hj, eA, rd_ne (fun q => hs9 q.symm)]
      exact hR.2.1 j hj
    · rw [eN2, rd_eq]
      simp only [upd, if_true]
      rfl
    · rw [eN2, rd_ne hs9, eA, rd_eq]
      unfold upd
      by_cases q : j = i
      · rw [if_pos (by omega), q, hkN]
      · rw [if_neg (by omega)]
        exact hR.2.2.2.1 j (by omega)
    · rw [eN2, rd_ne hs9, eA, rd_eq]
      unfold upd
      rw [if_neg (by omega)]
      exact hR.2.2.2.2 j hj
set_option maxRecDepth 20000 in
theorem l_rowG {G : Gt} {d : Nat} {M : Mm} (hG : gS G = SHAPE) {k s L m0 m : Nat} (hk : (gS G)[k]? = some (.inl (0, L, []))) (hs : (gS G)[s]? = some (.inl (0, 130, []))) (hks : k ≠ s) (hk9 : k ≠ 49) (hs9 : s ≠ 49) (hmL : m ≤ L) (hL : L ≤ 90) (hm0 : m0 + m ≤ 130) : ∀ (n i : Nat) (N : Mm), i + n = m → RwG M N k s m0 i → Go G (d) mX7_moveRow 3 [some (.ref 49), some (.ref k), some (.int (nI m)), some (.int 0), some (.ref s), some (.int (nI i))] [] N (fun v M' => v = none ∧ RwG M M' k s m0 m) := by
  intro n
  induction n with
  | zero =>
    intro i N hin hR
    refine Go.iload dX7_moveRow_3 rfl ?_
    refine Go.iload_n dX7_moveRow_5 rfl ?_
    refine Go.icmp_ge 54 dX7_moveRow_6 rfl (fun _ => ?_) (fun h6 => absurd (nI_le (a := m) (b := i) (by omega) (by omega)) h6)
    refine Go.vret dX7_moveRow_54 rfl ?_
    have e9 : i = m := by omega
    subst e9
    exact ⟨rfl, hR⟩
  | succ n ih =>
    intro i N hin hR
    have hi : i < m := by omega
    refine Go.iload dX7_moveRow_3 rfl ?_
    refine Go.iload_n dX7_moveRow_5 rfl ?_
    refine Go.icmp_ge 54 dX7_moveRow_6 rfl (fun h6 => absurd h6 (nI_ge (a := i) (b := m) (by omega) (by omega))) (fun _ => ?_)
    refine Go.iload_n dX7_moveRow_9 rfl ?_
    refine Go.if_eq 27 dX7_moveRow_10 rfl (fun _ => ?_) (fun h10 => absurd (by decide) h10)
    refine Go.aload_n dX7_moveRow_27 rfl ?_
    refine Go.iload dX7_moveRow_28 rfl ?_
    refine Go.aload dX7_moveRow_30 rfl ?_
    refine Go.aload_n dX7_moveRow_32 rfl ?_
    refine Go.getI dX7_moveRow_33 flX7_363 (shp hG rfl) rfl ?_
    refine Go.eqI (y := nI (m0 + i)) (hR.2.2.1) ?_
    refine Go.iald dX7_moveRow_36 hs (vin (by omega) (by decide)) ?_
    refine Go.iast dX7_moveRow_37 hk (vin (by omega) (by omega)) ?_
    refine Go.nmM (fun N1 eN1 => ?_)
    refine Go.aload_n dX7_moveRow_38 rfl ?_
    refine Go.dup dX7_moveRow_39 rfl ?_
    refine Go.getI dX7_moveRow_40 flX7_363 (shp hG rfl) rfl ?_
    refine Go.eqI (y := nI (m0 + i)) (by rw [eN1, rd_ne (by omega)]; exact hR.2.2.1) ?_
    refine Go.iconst (v := 1) dX7_moveRow_43 (by decide) ?_
    refine Go.iadd dX7_moveRow_44 ?_
    refine Go.eqI (y := nI (m0 + i + 1)) (nI_add _ _) ?_
    refine Go.putI dX7_moveRow_45 fpX7_363 (shp hG rfl) rfl rfl rfl ?_
    refine Go.nmM (fun N2 eN2 => ?_)
    refine Go.iinc (v := nI (i + 1)) (ls' := [some (.ref 49), some (.ref k), some (.int (nI m)), some (.int 0), some (.ref s), some (.int (nI (i + 1)))]) dX7_moveRow_48 rfl (nI_1 _) rfl rfl ?_
    refine Go.goto 3 dX7_moveRow_51 rfl ?_
    have eA : N1 = upi N k i (N.1 s (m0 + i)) := by rw [eN1, ncl (by omega), ncl (by omega)]
    have hsN : N.1 s = M.1 s := hR.1.1 s (by simp [Ne.symm hks, hs9])
    refine ih (i + 1) N2 (by omega) ⟨(hR.1.trans ((by rw [eA]; exact Same.upi _ k _ _ (by simp) : Same [k, 49] N N1).trans (by rw [eN2]; exact Same.upi _ 49 _ _ (by simp)))), fun j hj => ?_, ?_, fun j hj => ?_⟩
    · rw [eN2, rd_eq]
      unfold upd
      rw [if_neg hj, eA, rd_ne (fun q => hk9 q.symm)]
      exact hR.2.1 j hj
    · rw [eN2, rd_eq]
      simp only [upd, if_true]
      rfl
    · rw [eN2, rd_ne hk9, eA, rd_eq]
      unfold upd
      by_cases q : j = i
      · rw [if_pos q, q, hsN]
      · rw [if_neg q]
        exact hR.2.2.2 j (by omega)
set_option maxRecDepth 20000 in
theorem m_rowK {G : Gt} {d : Nat} {M : Mm} (hG : gS G = SHAPE) {k s L m0 m : Nat} (hk : (gS G)[k]? = some (.inl (0, L, []))) (hs : (gS G)[s]? = some (.inl (0, 130, []))) (hks : k ≠ s) (hk9 : k ≠ 49) (hs9 : s ≠ 49) (hmL : m ≤ L) (hL : L ≤ 90) (hm0 : m0 + m ≤ 130) (h34 : M.1 49 34 = nI m0) : ExV G (d) mX7_moveRow [.ref 49, .ref k, .int (nI m), .int 1, .ref s] M (fun M' => RwK M M' k s m0 m) := by
  refine Ex.of (by decide) (Nat.le_of_ble_eq_true rfl) ?_
  show Go G (d) mX7_moveRow 0 [some (.ref 49), some (.ref k), some (.int (nI m)), some (.int 1), some (.ref s), none] [] M _
  refine Go.iconst (v := 0) dX7_moveRow_0 (by decide) ?_
  refine Go.istore (ls' := [some (.ref 49), some (.ref k), some (.int (nI m)), some (.int 1), some (.ref s), some (.int 0)]) dX7_moveRow_1 (Nat.le_of_ble_eq_true rfl) rfl rfl ?_
  exact l_rowK hG hk hs hks hk9 hs9 hmL hL hm0 m 0 M (by omega) ⟨Same.refl _ _, fun _ _ => rfl, h34, fun j hj => by omega, fun j hj => rfl⟩
set_option maxRecDepth 20000 in
theorem m_rowG {G : Gt} {d : Nat} {M : Mm} (hG : gS G = SHAPE) {k s L m0 m : Nat} (hk : (gS G)[k]? = some (.inl (0, L, []))) (hs : (gS G)[s]? = some (.inl (0, 130, []))) (hks : k ≠ s) (hk9 : k ≠ 49) (hs9 : s ≠ 49) (hmL : m ≤ L) (hL : L ≤ 90) (hm0 : m0 + m ≤ 130) (h34 : M.1 49 34 = nI m0) : ExV G (d) mX7_moveRow [.ref 49, .ref k, .int (nI m), .int 0, .ref s] M (fun M' => RwG M M' k s m0 m) := by
  refine Ex.of (by decide) (Nat.le_of_ble_eq_true rfl) ?_
  show Go G (d) mX7_moveRow 0 [some (.ref 49), some (.ref k), some (.int (nI m)), some (.int 0), some (.ref s), none] [] M _
  refine Go.iconst (v := 0) dX7_moveRow_0 (by decide) ?_
  refine Go.istore (ls' := [some (.ref 49), some (.ref k), some (.int (nI m)), some (.int 0), some (.ref s), some (.int 0)]) dX7_moveRow_1 (Nat.le_of_ble_eq_true rfl) rfl rfl ?_
  exact l_rowG hG hk hs hks hk9 hs9 hmL hL hm0 m 0 M (by omega) ⟨Same.refl _ _, fun _ _ => rfl, h34, fun j hj => by omega⟩
set_option maxRecDepth 20000 in
theorem m_allK70 {G : Gt} {d : Nat} {M : Mm} (hG : gS G = SHAPE) {u : Bu} (hU : BuM M u) (h30 : uN u ≤ 30) : ExV G (d + 1) mX7_moveAll [.ref 49, .int 1, .ref 70] M (fun M' => BuI M' 70 u ∧ Same [49, 70, 72] M M' ∧ ∀ j, j ≠ 34 → M'.1 49 j = M.1 49 j) := by
  refine Ex.of (by decide) (Nat.le_of_ble_eq_true rfl) ?_
  show Go G (d + 1) mX7_moveAll 0 [some (.ref 49), some (.int 1), some (.ref 70)] [] M _
  refine Go.aload_n dX7_moveAll_0 rfl ?_
  refine Go.iconst (v := 0) dX7_moveAll_1 (by decide) ?_
  refine Go.putI dX7_moveAll_2 fpX7_363 (shp hG rfl) rfl rfl rfl ?_
  refine Go.nmM (fun N1 eN1 => ?_)
  refine Go.aload_n dX7_moveAll_5 rfl ?_
  refine Go.getR dX7_moveAll_6 flX7_78 (shp hG rfl) rfl ?_
  refine Go.iconst (v := 0) dX7_moveAll_9 (by decide) ?_
  refine Go.aload_n dX7_moveAll_10 rfl ?_
  refine Go.getI dX7_moveAll_11 flX7_93 (shp hG rfl) rfl ?_
  refine Go.iast dX7_moveAll_14 (shp hG rfl) (vin (i := 0) (by decide) (by decide)) ?_
  refine Go.nmM (fun N2 eN2 => ?_)
  refine Go.aload_n dX7_moveAll_15 rfl ?_
  refine Go.getR dX7_moveAll_16 flX7_78 (shp hG rfl) rfl ?_
  refine Go.iconst (v := 1) dX7_moveAll_19 (by decide) ?_
  refine Go.aload_n dX7_moveAll_20 rfl ?_
  refine Go.getI dX7_moveAll_21 flX7_163 (shp hG rfl) rfl ?_
  refine Go.iast dX7_moveAll_24 (shp hG rfl) (vin (i := 1) (by decide) (by decide)) ?_
  refine Go.nmM (fun N3 eN3 => ?_)
  have h34_0 : N3.1 49 34 = nI 0 := by rw [eN3, rd_ne (by decide), eN2, rd_ne (by decide), eN1, rd_eq]; rfl
  refine Go.aload_n dX7_moveAll_25 rfl ?_
  refine Go.aload_n dX7_moveAll_26 rfl ?_
  refine Go.getR dX7_moveAll_27 flX7_78 (shp hG rfl) rfl ?_
  refine Go.iconst (v := 2) dX7_moveAll_30 (by decide) ?_
  refine Go.iload_n dX7_moveAll_31 rfl ?_
  refine Go.aload_n dX7_moveAll_32 rfl ?_
  refine Go.callVV [] dX7_moveAll_33 lkX7_366 imX7_moveRow seX7_moveRow cbX7_moveRow (m_rowK hG (k := 72) (s := 70) (L := 2) (m0 := 0) (m := 2) (shp hG rfl) (shp hG rfl) (by decide) (by decide) (by decide) (by decide) (by decide) (by decide) h34_0) (shp hG rfl) rfl rfl rfl (Nat.le_of_ble_eq_true rfl) (fun M5 hr4 => ?_)
  obtain ⟨a0, b0, c0, d0, z0⟩ := hr4
  refine Go.aload_n dX7_moveAll_36 rfl ?_
  refine Go.aload_n dX7_moveAll_37 rfl ?_
  refine Go.getR dX7_moveAll_38 flX7_78 (shp hG rfl) rfl ?_
  refine Go.iconst (v := 0) dX7_moveAll_41 (by decide) ?_
  refine Go.iald dX7_moveAll_42 (shp hG rfl) (vin (i := 0) (by decide) (by decide)) ?_
  refine Go.putI dX7_moveAll_43 fpX7_93 (shp hG rfl) rfl rfl rfl ?_
  refine Go.nmM (fun N6 eN6 => ?_)
  refine Go.aload_n dX7_moveAll_46 rfl ?_
  refine Go.aload_n dX7_moveAll_47 rfl ?_
  refine Go.getR dX7_moveAll_48 flX7_78 (shp hG rfl) rfl ?_
  refine Go.iconst (v := 1) dX7_moveAll_51 (by decide) ?_
  refine Go.iald dX7_moveAll_52 (shp hG rfl) (vin (i := 1) (by decide) (by decide)) ?_
  refine Go.putI dX7_moveAll_53 fpX7_163 (shp hG rfl) rfl rfl rfl ?_
  refine Go.nmM (fun N7 eN7 => ?_)
  have h34_1 : N7.1 49 34 = nI 2 := by rw [eN7, rd_eq]; simp only [upd]; simp; rw [eN6, rd_eq]; simp only [upd]; simp; exact c0
  refine Go.aload_n dX7_moveAll_56 rfl ?_
  refine Go.aload_n dX7_moveAll_57 rfl ?_
  refine Go.getR dX7_moveAll_58 flX7_7 (shp hG rfl) rfl ?_
  refine Go.bipush (v := 8) dX7_moveAll_61 (by decide) ?_
  refine Go.iload_n dX7_moveAll_63 rfl ?_
  refine Go.aload_n dX7_moveAll_64 rfl ?_
  refine Go.callVV [] dX7_moveAll_65 lkX7_366 imX7_moveRow seX7_moveRow cbX7_moveRow (m_rowK hG (k := 50) (s := 70) (L := 8) (m0 := 2) (m := 8) (shp hG rfl) (shp hG rfl) (by decide) (by decide) (by decide) (by decide) (by decide) (by decide) h34_1) (shp hG rfl) rfl rfl rfl (Nat.le_of_ble_eq_true rfl) (fun M9 hr8 => ?_)
  obtain ⟨a1, b1, c1, d1, z1⟩ := hr8
  have h34_2 : M9.1 49 34 = nI 10 := c1
  refine Go.aload_n dX7_moveAll_68 rfl ?_
  refine Go.aload_n dX7_moveAll_69 rfl ?_
  refine Go.getR dX7_moveAll_70 flX7_13 (shp hG rfl) rfl ?_
  refine Go.bipush (v := 17) dX7_moveAll_73 (by decide) ?_
  refine Go.iload_n dX7_moveAll_75 rfl ?_
  refine Go.aload_n dX7_moveAll_76 rfl ?_
  refine Go.callVV [] dX7_moveAll_77 lkX7_366 imX7_moveRow seX7_moveRow cbX7_moveRow (m_rowK hG (k := 51) (s := 70) (L := 17) (m0 := 10) (m := 17) (shp hG rfl) (shp hG rfl) (by decide) (by decide) (by decide) (by decide) (by decide) (by decide) h34_2) (shp hG rfl) rfl rfl rfl (Nat.le_of_ble_eq_true rfl) (fun M11 hr10 => ?_)
  obtain ⟨a2, b2, c2, d2, z2⟩ := hr10
  have h34_3 : M11.1 49 34 = nI 27 := c2
  refine Go.aload_n dX7_moveAll_80 rfl ?_
  refine Go.aload_n dX7_moveAll_81 rfl ?_
  refine Go.getR dX7_moveAll_82 flX7_16 (shp hG rfl) rfl ?_
  refine Go.iconst (v := 2) dX7_moveAll_85 (by decide) ?_
  refine Go.iload_n dX7_moveAll_86 rfl ?_
  refine Go.aload_n dX7_moveAll_87 rfl ?_
  refine Go.callVV [] dX7_moveAll_88 lkX7_366 imX7_moveRow seX7_moveRow cbX7_moveRow (m_rowK hG (k := 52) (s := 70) (L := 2) (m0 := 27) (m := 2) (shp hG rfl) (shp hG rfl) (by decide) (by decide) (by decide) (by decide) (by decide) (by decide) h34_3) (shp hG rfl) rfl rfl rfl (Nat.le_of_ble_eq_true rfl) (fun M13 hr12 => ?_)
  obtain ⟨a3, b3, c3, d3, z3⟩ := hr12
  have h34_4 : M13.1 49 34 = nI 29 := c3
  refine Go.aload_n dX7_moveAll_91 rfl ?_
  refine Go.aload_n dX7_moveAll_92 rfl ?_
  refine Go.getR dX7_moveAll_93 flX7_19 (shp hG rfl) rfl ?_
  refine Go.bipush (v := 30) dX7_moveAll_96 (by decide) ?_
  refine Go.iload_n dX7_moveAll_98 rfl ?_
  refine Go.aload_n dX7_moveAll_99 rfl ?_
  refine Go.callVV [] dX7_moveAll_100 lkX7_366 imX7_moveRow seX7_moveRow cbX7_moveRow (m_rowK hG (k := 53) (s := 70) (L := 90) (m0 := 29) (m := 30) (shp hG rfl) (shp hG rfl) (by decide) (by decide) (by decide) (by decide) (by decide) (by decide) h34_4) (shp hG rfl) rfl rfl rfl (Nat.le_of_ble_eq_true rfl) (fun M15 hr14 => ?_)
  obtain ⟨a4, b4, c4, d4, z4⟩ := hr14
  have h34_5 : M15.1 49 34 = nI 59 := c4
  refine Go.aload_n dX7_moveAll_103 rfl ?_
  refine Go.aload_n dX7_moveAll_104 rfl ?_
  refine Go.getR dX7_moveAll_105 flX7_22 (shp hG rfl) rfl ?_
  refine Go.bipush (v := 30) dX7_moveAll_108 (by decide) ?_
  refine Go.iload_n dX7_moveAll_110 rfl ?_
  refine Go.aload_n dX7_moveAll_111 rfl ?_
  refine Go.callVV [] dX7_moveAll_112 lkX7_366 imX7_moveRow seX7_moveRow cbX7_moveRow (m_rowK hG (k := 54) (s := 70) (L := 90) (m0 := 59) (m := 30) (shp hG rfl) (shp hG rfl) (by decide) (by decide) (by decide) (by decide) (by decide) (by decide) h34_5) (shp hG rfl) rfl rfl rfl (Nat.le_of_ble_eq_true rfl) (fun M17 hr16 => ?_)
  obtain ⟨a5, b5, c5, d5, z5⟩ := hr16
  have h34_6 : M17.1 49 34 = nI 89 := c5
  refine Go.aload_n dX7_moveAll_115 rfl ?_
  refine Go.aload_n dX7_moveAll_116 rfl ?_
  refine Go.getR dX7_moveAll_117 flX7_25 (shp hG rfl) rfl ?_
  refine Go.bipush (v := 30) dX7_moveAll_120 (by decide) ?_
  refine Go.iload_n dX7_moveAll_122 rfl ?_
  refine Go.aload_n dX7_moveAll_123 rfl ?_
  refine Go.callVV [] dX7_moveAll_124 lkX7_366 imX7_moveRow seX7_moveRow cbX7_moveRow (m_rowK hG (k := 55) (s := 70) (L := 90) (m0 := 89) (m := 30) (shp hG rfl) (shp hG rfl) (by decide) (by decide) (by decide) (by decide) (by decide) (by decide) h34_6) (shp hG rfl) rfl rfl rfl (Nat.le_of_ble_eq_true rfl) (fun M19 hr18 => ?_)
  obtain ⟨a6, b6, c6, d6, z6⟩ := hr18
  refine Go.vret dX7_moveAll_127 rfl ?_
  have x1 : N3.1 49 = upd (M.1 49) 34 0 := by rw [eN3, rd_ne (by decide), eN2, rd_ne (by decide), eN1, rd_eq]
  have x72a : N3.1 72 0 = M.1 49 4 := by rw [eN3, rd_eq]; simp only [upd]; simp; rw [eN2, rd_eq]; simp only [upd]; simp; simp [eN1, upi, seti, upd]
  have x72b : N3.1 72 1 = M.1 49 3 := by rw [eN3, rd_eq]; simp only [upd]; simp; simp [eN2, eN1, upi, seti, upd]
  have x0 : ∀ a, a ≠ 49 → a ≠ 72 → N3.1 a = M.1 a := fun a q1 q2 => by rw [eN3, rd_ne q2, eN2, rd_ne q2, eN1, rd_ne q1]
  have y1 : ∀ a, a ≠ 49 → N7.1 a = M5.1 a := fun a q => by rw [eN7, rd_ne q, eN6, rd_ne q]
  have y4 : N7.1 49 4 = M5.1 72 0 := by rw [eN7, rd_eq]; simp only [upd]; simp; rw [eN6, rd_eq]; simp only [upd]; simp
  have y3 : N7.1 49 3 = M5.1 72 1 := by rw [eN7, rd_eq]; simp only [upd]; simp; rw [eN6, rd_ne (by decide)]
  have y9 : ∀ j, j ≠ 3 → j ≠ 4 → N7.1 49 j = M5.1 49 j := fun j q3 q4 => by rw [eN7, rd_eq]; simp only [upd]; rw [if_neg q3, eN6, rd_eq]; simp only [upd]; rw [if_neg q4]
  have r1 : N7.1 50 = M.1 50 := by rw [y1 50 (by decide), a0.1 50 (by decide), x0 50 (by decide) (by decide)]
  have r2 : M9.1 51 = M.1 51 := by rw [a1.1 51 (by decide), y1 51 (by decide), a0.1 51 (by decide), x0 51 (by decide) (by decide)]
  have r3 : M11.1 52 = M.1 52 := by rw [a2.1 52 (by decide), a1.1 52 (by decide), y1 52 (by decide), a0.1 52 (by decide), x0 52 (by decide) (by decide)]
  have r4 : M13.1 53 = M.1 53 := by rw [a3.1 53 (by decide), a2.1 53 (by decide), a1.1 53 (by decide), y1 53 (by decide), a0.1 53 (by decide), x0 53 (by decide) (by decide)]
  have r5 : M15.1 54 = M.1 54 := by rw [a4.1 54 (by decide), a3.1 54 (by decide), a2.1 54 (by decide), a1.1 54 (by decide), y1 54 (by decide), a0.1 54 (by decide), x0 54 (by decide) (by decide)]
  have r6 : M17.1 55 = M.1 55 := by rw [a5.1 55 (by decide), a4.1 55 (by decide), a3.1 55 (by decide), a2.1 55 (by decide), a1.1 55 (by decide), y1 55 (by decide), a0.1 55 (by decide), x0 55 (by decide) (by decide)]
  have v4 : N7.1 49 4 = M.1 49 4 := by rw [y4, a0.1 72 (by decide)]; exact x72a
  have v3 : N7.1 49 3 = M.1 49 3 := by rw [y3, a0.1 72 (by decide)]; exact x72b
  have s0 : M19.1 70 0 = M.1 49 4 := by rw [z6 0 (by omega), z5 0 (by omega), z4 0 (by omega), z3 0 (by omega), z2 0 (by omega), z1 0 (by omega), y1 70 (by decide)]; exact (d0 0 (by decide)).trans x72a
  have s1 : M19.1 70 1 = M.1 49 3 := by rw [z6 1 (by omega), z5 1 (by omega), z4 1 (by omega), z3 1 (by omega), z2 1 (by omega), z1 1 (by omega), y1 70 (by decide)]; exact (d0 1 (by decide)).trans x72b
  have g1 : ∀ j, j < 8 → M19.1 70 (2 + j) = M.1 50 j := fun j hj => by rw [z6 (2 + j) (by omega), z5 (2 + j) (by omega), z4 (2 + j) (by omega), z3 (2 + j) (by omega), z2 (2 + j) (by omega), d1 j hj, r1]
  have g2 : ∀ j, j < 17 → M19.1 70 (10 + j) = M.1 51 j := fun j hj => by rw [z6 (10 + j) (by omega), z5 (10 + j) (by omega), z4 (10 + j) (by omega), z3 (10 + j) (by omega), d2 j hj, r2]
  have g3 : ∀ j, j < 2 → M19.1 70 (27 + j) = M.1 52 j := fun j hj => by rw [z6 (27 + j) (by omega), z5 (27 + j) (by omega), z4 (27 + j) (by omega), d3 j hj, r3]
  have g4 : ∀ j, j < 30 → M19.1 70 (29 + j) = M.1 53 j := fun j hj => by rw [z6 (29 + j) (by omega), z5 (29 + j) (by omega), d4 j hj, r4]
  have g5 : ∀ j, j < 30 → M19.1 70 (59 + j) = M.1 54 j := fun j hj => by rw [z6 (59 + j) (by omega), d5 j hj, r5]
  have g6 : ∀ j, j < 30 → M19.1 70 (89 + j) = M.1 55 j := fun j hj => by rw [d6 j hj, r6]
  obtain ⟨h1, h2, h3, h4, h5, h6, h7, h8, h9⟩ := hU
  refine ⟨rfl, ⟨fun t ht => by rw [g1 t ht]; exact h1 t ht, fun t ht => by rw [g2 t (by omega)]; exact h2 t ht, fun t ht => by rw [show 18 + t = 10 + (8 + t) by omega, g2 (8 + t) (by omega)]; exact h3 t ht, fun t ht => by rw [show 23 + t = 10 + (13 + t) by omega, g2 (13 + t) (by omega)]; exact h4 t ht, by rw [s0]; exact h5, by rw [show 27 = 27 + 0 from rfl, g3 0 (by decide)]; exact h6, by rw [show 28 = 27 + 1 from rfl, g3 1 (by decide)]; exact h7, by rw [s1]; exact h8, fun e he => ?_⟩, ?_, fun j hj => ?_⟩
  · rw [g4 e (by omega), g5 e (by omega), g6 e (by omega)]; exact h9 e he
  · refine ⟨fun a ha => ?_, ?_⟩
    · simp at ha
      rw [a6.1 a (by simp [ha]), a5.1 a (by simp [ha]), a4.1 a (by simp [ha]), a3.1 a (by simp [ha]), a2.1 a (by simp [ha]), a1.1 a (by simp [ha]), y1 a ha.1, a0.1 a (by simp [ha]), x0 a ha.1 ha.2.2]
    · rw [a6.2, a5.2, a4.2, a3.2, a2.2, a1.2, eN7, rd_l, eN6, rd_l, a0.2, eN3, rd_l, eN2, rd_l, eN1, rd_l]
  · rw [b6 j hj, b5 j hj, b4 j hj, b3 j hj, b2 j hj, b1 j hj]
    by_cases q4 : j = 4
    · rw [q4, v4]
    · by_cases q3 : j = 3
      · rw [q3, v3]
      · rw [y9 j q3 q4, b0 j hj, x1]
        simp [upd, hj]
set_option maxRecDepth 20000 in
theorem m_allK71 {G : Gt} {d : Nat} {M : Mm} (hG : gS G = SHAPE) {u : Bu} (hU : BuM M u) (h30 : uN u ≤ 30) : ExV G (d + 1) mX7_moveAll [.ref 49, .int 1, .ref 71] M (fun M' => BuI M' 71 u ∧ Same [49, 71, 72] M M' ∧ ∀ j, j ≠ 34 → M'.1 49 j = M.1 49 j) := by
  refine Ex.of (by decide) (Nat.le_of_ble_eq_true rfl) ?_
  show Go G (d + 1) mX7_moveAll 0 [some (.ref 49), some (.int 1), some (.ref 71)] [] M _
  refine Go.aload_n dX7_moveAll_0 rfl ?_
  refine Go.iconst (v := 0) dX7_moveAll_1 (by decide) ?_
  refine Go.putI dX7_moveAll_2 fpX7_363 (shp hG rfl) rfl rfl rfl ?_
  refine Go.nmM (fun N1 eN1 => ?_)
  refine Go.aload_n dX7_moveAll_5 rfl ?_
  refine Go.getR dX7_moveAll_6 flX7_78 (shp hG rfl) rfl ?_
  refine Go.iconst (v := 0) dX7_moveAll_9 (by decide) ?_
  refine Go.aload_n dX7_moveAll_10 rfl ?_
  refine Go.getI dX7_moveAll_11 flX7_93 (shp hG rfl) rfl ?_
  refine Go.iast dX7_moveAll_14 (shp hG rfl) (vin (i := 0) (by decide) (by decide)) ?_
  refine Go.nmM (fun N2 eN2 => ?_)
  refine Go.aload_n dX7_moveAll_15 rfl ?_
  refine Go.getR dX7_moveAll_16 flX7_78 (shp hG rfl) rfl ?_
  refine Go.iconst (v := 1) dX7_moveAll_19 (by decide) ?_
  refine Go.aload_n dX7_moveAll_20 rfl ?_
  refine Go.getI dX7_moveAll_21 flX7_163 (shp hG rfl) rfl ?_
  refine Go.iast dX7_moveAll_24 (shp hG rfl) (vin (i := 1) (by decide) (by decide)) ?_
  refine Go.nmM (fun N3 eN3 => ?_)
  have h34_0 : N3.1 49 34 = nI 0 := by rw [eN3, rd_ne (by decide), eN2, rd_ne (by decide), eN1, rd_eq]; rfl
  refine Go.aload_n dX7_moveAll_25 rfl ?_
  refine Go.aload_n dX7_moveAll_26 rfl ?_
  refine Go.getR dX7_moveAll_27 flX7_78 (shp hG rfl) rfl ?_
  refine Go.iconst (v := 2) dX7_moveAll_30 (by decide) ?_
  refine Go.iload_n dX7_moveAll_31 rfl ?_
  refine Go.aload_n dX7_moveAll_32 rfl ?_
  refine Go.callVV [] dX7_moveAll_33 lkX7_366 imX7_moveRow seX7_moveRow cbX7_moveRow (m_rowK hG (k := 72) (s := 71) (L := 2) (m0 := 0) (m := 2) (shp hG rfl) (shp hG rfl) (by decide) (by decide) (by decide) (by decide) (by decide) (by decide) h34_0) (shp hG rfl) rfl rfl rfl (Nat.le_of_ble_eq_true rfl) (fun M5 hr4 => ?_)
  obtain ⟨a0, b0, c0, d0, z0⟩ := hr4
  refine Go.aload_n dX7_moveAll_36 rfl ?_
  refine Go.aload_n dX7_moveAll_37 rfl ?_
  refine Go.getR dX7_moveAll_38 flX7_78 (shp hG rfl) rfl ?_
  refine Go.iconst (v := 0) dX7_moveAll_41 (by decide) ?_
  refine Go.iald dX7_moveAll_42 (shp hG rfl) (vin (i := 0) (by decide) (by decide)) ?_
  refine Go.putI dX7_moveAll_43 fpX7_93 (shp hG rfl) rfl rfl rfl ?_
  refine Go.nmM (fun N6 eN6 => ?_)
  refine Go.aload_n dX7_moveAll_46 rfl ?_
  refine Go.aload_n dX7_moveAll_47 rfl ?_
  refine Go.getR dX7_moveAll_48 flX7_78 (shp hG rfl) rfl ?_
  refine Go.iconst (v := 1) dX7_moveAll_51 (by decide) ?_
  refine Go.iald dX7_moveAll_52 (shp hG rfl) (vin (i := 1) (by decide) (by decide)) ?_
  refine Go.putI dX7_moveAll_53 fpX7_163 (shp hG rfl) rfl rfl rfl ?_
  refine Go.nmM (fun N7 eN7 => ?_)
  have h34_1 : N7.1 49 34 = nI 2 := by rw [eN7, rd_eq]; simp only [upd]; simp; rw [eN6, rd_eq]; simp only [upd]; simp; exact c0
  refine Go.aload_n dX7_moveAll_56 rfl ?_
  refine Go.aload_n dX7_moveAll_57 rfl ?_
  refine Go.getR dX7_moveAll_58 flX7_7 (shp hG rfl) rfl ?_
  refine Go.bipush (v := 8) dX7_moveAll_61 (by decide) ?_
  refine Go.iload_n dX7_moveAll_63 rfl ?_
  refine Go.aload_n dX7_moveAll_64 rfl ?_
  refine Go.callVV [] dX7_moveAll_65 lkX7_366 imX7_moveRow seX7_moveRow cbX7_moveRow (m_rowK hG (k := 50) (s := 71) (L := 8) (m0 := 2) (m := 8) (shp hG rfl) (shp hG rfl) (by decide) (by decide) (by decide) (by decide) (by decide) (by decide) h34_1) (shp hG rfl) rfl rfl rfl (Nat.le_of_ble_eq_true rfl) (fun M9 hr8 => ?_)
  obtain ⟨a1, b1, c1, d1, z1⟩ := hr8
  have h34_2 : M9.1 49 34 = nI 10 := c1
  refine Go.aload_n dX7_moveAll_68 rfl ?_
  refine Go.aload_n dX7_moveAll_69 rfl ?_
  refine Go.getR dX7_moveAll_70 flX7_13 (shp hG rfl) rfl ?_
  refine Go.bipush (v := 17) dX7_moveAll_73 (by decide) ?_
  refine Go.iload_n dX7_moveAll_75 rfl ?_
  refine Go.aload_n dX7_moveAll_76 rfl ?_
  refine Go.callVV [] dX7_moveAll_77 lkX7_366 imX7_moveRow seX7_moveRow cbX7_moveRow (m_rowK hG (k := 51) (s := 71) (L := 17) (m0 := 10) (m := 17) (shp hG rfl) (shp hG rfl) (by decide) (by decide) (by decide) (by decide) (by decide) (by decide) h34_2) (shp hG rfl) rfl rfl rfl (Nat.le_of_ble_eq_true rfl) (fun M11 hr10 => ?_)
  obtain ⟨a2, b2, c2, d2, z2⟩ := hr10
  have h34_3 : M11.1 49 34 = nI 27 := c2
  refine Go.aload_n dX7_moveAll_80 rfl ?_
  refine Go.aload_n dX7_moveAll_81 rfl ?_
  refine Go.getR dX7_moveAll_82 flX7_16 (shp hG rfl) rfl ?_
  refine Go.iconst (v := 2) dX7_moveAll_85 (by decide) ?_
  refine Go.iload_n dX7_moveAll_86 rfl ?_
  refine Go.aload_n dX7_moveAll_87 rfl ?_
  refine Go.callVV [] dX7_moveAll_88 lkX7_366 imX7_moveRow seX7_moveRow cbX7_moveRow (m_rowK hG (k := 52) (s := 71) (L := 2) (m0 := 27) (m := 2) (shp hG rfl) (shp hG rfl) (by decide) (by decide) (by decide) (by decide) (by decide) (by decide) h34_3) (shp hG rfl) rfl rfl rfl (Nat.le_of_ble_eq_true rfl) (fun M13 hr12 => ?_)
  obtain ⟨a3, b3, c3, d3, z3⟩ := hr12
  have h34_4 : M13.1 49 34 = nI 29 := c3
  refine Go.aload_n dX7_moveAll_91 rfl ?_
  refine Go.aload_n dX7_moveAll_92 rfl ?_
  refine Go.getR dX7_moveAll_93 flX7_19 (shp hG rfl) rfl ?_
  refine Go.bipush (v := 30) dX7_moveAll_96 (by decide) ?_
  refine Go.iload_n dX7_moveAll_98 rfl ?_
  refine Go.aload_n dX7_moveAll_99 rfl ?_
  refine Go.callVV [] dX7_moveAll_100 lkX7_366 imX7_moveRow seX7_moveRow cbX7_moveRow (m_rowK hG (k := 53) (s := 71) (L := 90) (m0 := 29) (m := 30) (shp hG rfl) (shp hG rfl) (by decide) (by decide) (by decide) (by decide) (by decide) (by decide) h34_4) (shp hG rfl) rfl rfl rfl (Nat.le_of_ble_eq_true rfl) (fun M15 hr14 => ?_)
  obtain ⟨a4, b4, c4, d4, z4⟩ := hr14
  have h34_5 : M15.1 49 34 = nI 59 := c4
  refine Go.aload_n dX7_moveAll_103 rfl ?_
  refine Go.aload_n dX7_moveAll_104 rfl ?_
  refine Go.getR dX7_moveAll_105 flX7_22 (shp hG rfl) rfl ?_
  refine Go.bipush (v := 30) dX7_moveAll_108 (by decide) ?_
  refine Go.iload_n dX7_moveAll_110 rfl ?_
  refine Go.aload_n dX7_moveAll_111 rfl ?_
  refine Go.callVV [] dX7_moveAll_112 lkX7_366 imX7_moveRow seX7_moveRow cbX7_moveRow (m_rowK hG (k := 54) (s := 71) (L := 90) (m0 := 59) (m := 30) (shp hG rfl) (shp hG rfl) (by decide) (by decide) (by decide) (by decide) (by decide) (by decide) h34_5) (shp hG rfl) rfl rfl rfl (Nat.le_of_ble_eq_true rfl) (fun M17 hr16 => ?_)
  obtain ⟨a5, b5, c5, d5, z5⟩ := hr16
  have h34_6 : M17.1 49 34 = nI 89 := c5
  refine Go.aload_n dX7_moveAll_115 rfl ?_
  refine Go.aload_n dX7_moveAll_116 rfl ?_
  refine Go.getR dX7_moveAll_117 flX7_25 (shp hG rfl) rfl ?_
  refine Go.bipush (v := 30) dX7_moveAll_120 (by decide) ?_
  refine Go.iload_n dX7_moveAll_122 rfl ?_
  refine Go.aload_n dX7_moveAll_123 rfl ?_
  refine Go.callVV [] dX7_moveAll_124 lkX7_366 imX7_moveRow seX7_moveRow cbX7_moveRow (m_rowK hG (k := 55) (s := 71) (L := 90) (m0 := 89) (m := 30) (shp hG rfl) (shp hG rfl) (by decide) (by decide) (by decide) (by decide) (by decide) (by decide) h34_6) (shp hG rfl) rfl rfl rfl (Nat.le_of_ble_eq_true rfl) (fun M19 hr18 => ?_)
  obtain ⟨a6, b6, c6, d6, z6⟩ := hr18
  refine Go.vret dX7_moveAll_127 rfl ?_
  have x1 : N3.1 49 = upd (M.1 49) 34 0 := by rw [eN3, rd_ne (by decide), eN2, rd_ne (by decide), eN1, rd_eq]
  have x72a : N3.1 72 0 = M.1 49 4 := by rw [eN3, rd_eq]; simp only [upd]; simp; rw [eN2, rd_eq]; simp only [upd]; simp; simp [eN1, upi, seti, upd]
  have x72b : N3.1 72 1 = M.1 49 3 := by rw [eN3, rd_eq]; simp only [upd]; simp; simp [eN2, eN1, upi, seti, upd]
  have x0 : ∀ a, a ≠ 49 → a ≠ 72 → N3.1 a = M.1 a := fun a q1 q2 => by rw [eN3, rd_ne q2, eN2, rd_ne q2, eN1, rd_ne q1]
  have y1 : ∀ a, a ≠ 49 → N7.1 a = M5.1 a := fun a q => by rw [eN7, rd_ne q, eN6, rd_ne q]
  have y4 : N7.1 49 4 = M5.1 72 0 := by rw [eN7, rd_eq]; simp only [upd]; simp; rw [eN6, rd_eq]; simp only [upd]; simp
  have y3 : N7.1 49 3 = M5.1 72 1 := by rw [eN7, rd_eq]; simp only [upd]; simp; rw [eN6, rd_ne (by decide)]
  have y9 : ∀ j, j ≠ 3 → j ≠ 4 → N7.1 49 j = M5.1 49 j := fun j q3 q4 => by rw [eN7, rd_eq]; simp only [upd]; rw [if_neg q3, eN6, rd_eq]; simp only [upd]; rw [if_neg q4]
  have r1 : N7.1 50 = M.1 50 := by rw [y1 50 (by decide), a0.1 50 (by decide), x0 50 (by decide) (by decide)]
  have r2 : M9.1 51 = M.1 51 := by rw [a1.1 51 (by decide), y1 51 (by decide), a0.1 51 (by decide), x0 51 (by decide) (by decide)]
  have r3 : M11.1 52 = M.1 52 := by rw [a2.1 52 (by decide), a1.1 52 (by decide), y1 52 (by decide), a0.1 52 (by decide), x0 52 (by decide) (by decide)]
  have r4 : M13.1 53 = M.1 53 := by rw [a3.1 53 (by decide), a2.1 53 (by decide), a1.1 53 (by decide), y1 53 (by decide), a0.1 53 (by decide), x0 53 (by decide) (by decide)]
  have r5 : M15.1 54 = M.1 54 := by rw [a4.1 54 (by decide), a3.1 54 (by decide), a2.1 54 (by decide), a1.1 54 (by decide), y1 54 (by decide), a0.1 54 (by decide), x0 54 (by decide) (by decide)]
  have r6 : M17.1 55 = M.1 55 := by rw [a5.1 55 (by decide), a4.1 55 (by decide), a3.1 55 (by decide), a2.1 55 (by decide), a1.1 55 (by decide), y1 55 (by decide), a0.1 55 (by decide), x0 55 (by decide) (by decide)]
  have v4 : N7.1 49 4 = M.1 49 4 := by rw [y4, a0.1 72 (by decide)]; exact x72a
  have v3 : N7.1 49 3 = M.1 49 3 := by rw [y3, a0.1 72 (by decide)]; exact x72b
  have s0 : M19.1 71 0 = M.1 49 4 := by rw [z6 0 (by omega), z5 0 (by omega), z4 0 (by omega), z3 0 (by omega), z2 0 (by omega), z1 0 (by omega), y1 71 (by decide)]; exact (d0 0 (by decide)).trans x72a
  have s1 : M19.1 71 1 = M.1 49 3 := by rw [z6 1 (by omega), z5 1 (by omega), z4 1 (by omega), z3 1 (by omega), z2 1 (by omega), z1 1 (by omega), y1 71 (by decide)]; exact (d0 1 (by decide)).trans x72b
  have g1 : ∀ j, j < 8 → M19.1 71 (2 + j) = M.1 50 j := fun j hj => by rw [z6 (2 + j) (by omega), z5 (2 + j) (by omega), z4 (2 + j) (by omega), z3 (2 + j) (by omega), z2 (2 + j) (by omega), d1 j hj, r1]
  have g2 : ∀ j, j < 17 → M19.1 71 (10 + j) = M.1 51 j := fun j hj => by rw [z6 (10 + j) (by omega), z5 (10 + j) (by omega), z4 (10 + j) (by omega), z3 (10 + j) (by omega), d2 j hj, r2]
  have g3 : ∀ j, j < 2 → M19.1 71 (27 + j) = M.1 52 j := fun j hj => by rw [z6 (27 + j) (by omega), z5 (27 + j) (by omega), z4 (27 + j) (by omega), d3 j hj, r3]
  have g4 : ∀ j, j < 30 → M19.1 71 (29 + j) = M.1 53 j := fun j hj => by rw [z6 (29 + j) (by omega), z5 (29 + j) (by omega), d4 j hj, r4]
  have g5 : ∀ j, j < 30 → M19.1 71 (59 + j) = M.1 54 j := fun j hj => by rw [z6 (59 + j) (by omega), d5 j hj, r5]
  have g6 : ∀ j, j < 30 → M19.1 71 (89 + j) = M.1 55 j := fun j hj => by rw [d6 j hj, r6]
  obtain ⟨h1, h2, h3, h4, h5, h6, h7, h8, h9⟩ := hU
  refine ⟨rfl, ⟨fun t ht => by rw [g1 t ht]; exact h1 t ht, fun t ht => by rw [g2 t (by omega)]; exact h2 t ht, fun t ht => by rw [show 18 + t = 10 + (8 + t) by omega, g2 (8 + t) (by omega)]; exact h3 t ht, fun t ht => by rw [show 23 + t = 10 + (13 + t) by omega, g2 (13 + t) (by omega)]; exact h4 t ht, by rw [s0]; exact h5, by rw [show 27 = 27 + 0 from rfl, g3 0 (by decide)]; exact h6, by rw [show 28 = 27 + 1 from rfl, g3 1 (by decide)]; exact h7, by rw [s1]; exact h8, fun e he => ?_⟩, ?_, fun j hj => ?_⟩
  · rw [g4 e (by omega), g5 e (by omega), g6 e (by omega)]; exact h9 e he
  · refine ⟨fun a ha => ?_, ?_⟩
    · simp at ha
      rw [a6.1 a (by simp [ha]), a5.1 a (by simp [ha]), a4.1 a (by simp [ha]), a3.1 a (by simp [ha]), a2.1 a (by simp [ha]), a1.1 a (by simp [ha]), y1 a ha.1, a0.1 a (by simp [ha]), x0 a ha.1 ha.2.2]
    · rw [a6.2, a5.2, a4.2, a3.2, a2.2, a1.2, eN7, rd_l, eN6, rd_l, a0.2, eN3, rd_l, eN2, rd_l, eN1, rd_l]
  · rw [b6 j hj, b5 j hj, b4 j hj, b3 j hj, b2 j hj, b1 j hj]
    by_cases q4 : j = 4
    · rw [q4, v4]
    · by_cases q3 : j = 3
      · rw [q3, v3]
      · rw [y9 j q3 q4, b0 j hj, x1]
        simp [upd, hj]
set_option maxRecDepth 20000 in
theorem m_allG70 {G : Gt} {d : Nat} {M : Mm} (hG : gS G = SHAPE) {u : Bu} (hU : BuI M 70 u) (h30 : uN u ≤ 30) : ExV G (d + 1) mX7_moveAll [.ref 49, .int 0, .ref 70] M (fun M' => BuM M' u ∧ Same [49, 50, 51, 52, 53, 54, 55, 72] M M' ∧ ∀ j, j ≠ 3 → j ≠ 4 → j ≠ 34 → M'.1 49 j = M.1 49 j) := by
  refine Ex.of (by decide) (Nat.le_of_ble_eq_true rfl) ?_
  show Go G (d + 1) mX7_moveAll 0 [some (.ref 49), some (.int 0), some (.ref 70)] [] M _
  refine Go.aload_n dX7_moveAll_0 rfl ?_
  refine Go.iconst (v := 0) dX7_moveAll_1 (by decide) ?_
  refine Go.putI dX7_moveAll_2 fpX7_363 (shp hG rfl) rfl rfl rfl ?_
  refine Go.nmM (fun N1 eN1 => ?_)
  refine Go.aload_n dX7_moveAll_5 rfl ?_
  refine Go.getR dX7_moveAll_6 flX7_78 (shp hG rfl) rfl ?_
  refine Go.iconst (v := 0) dX7_moveAll_9 (by decide) ?_
  refine Go.aload_n dX7_moveAll_10 rfl ?_
  refine Go.getI dX7_moveAll_11 flX7_93 (shp hG rfl) rfl ?_
  refine Go.iast dX7_moveAll_14 (shp hG rfl) (vin (i := 0) (by decide) (by decide)) ?_
  refine Go.nmM (fun N2 eN2 => ?_)
  refine Go.aload_n dX7_moveAll_15 rfl ?_
  refine Go.getR dX7_moveAll_16 flX7_78 (shp hG rfl) rfl ?_
  refine Go.iconst (v := 1) dX7_moveAll_19 (by decide) ?_
  refine Go.aload_n dX7_moveAll_20 rfl ?_
  refine Go.getI dX7_moveAll_21 flX7_163 (shp hG rfl) rfl ?_
  refine Go.iast dX7_moveAll_24 (shp hG rfl) (vin (i := 1) (by decide) (by decide)) ?_
  refine Go.nmM (fun N3 eN3 => ?_)
  have h34_0 : N3.1 49 34 = nI 0 := by rw [eN3, rd_ne (by decide), eN2, rd_ne (by decide), eN1, rd_eq]; rfl
  refine Go.aload_n dX7_moveAll_25 rfl ?_
  refine Go.aload_n dX7_moveAll_26 rfl ?_
  refine Go.getR dX7_moveAll_27 flX7_78 (shp hG rfl) rfl ?_
  refine Go.iconst (v := 2) dX7_moveAll_30 (by decide) ?_
  refine Go.iload_n dX7_moveAll_31 rfl ?_
  refine Go.aload_n dX7_moveAll_32 rfl ?_
  refine Go.callVV [] dX7_moveAll_33 lkX7_366 imX7_moveRow seX7_moveRow cbX7_moveRow (m_rowG hG (k := 72) (s := 70) (L := 2) (m0 := 0) (m := 2) (shp hG rfl) (shp hG rfl) (by decide) (by decide) (by decide) (by decide) (by decide) (by decide) h34_0) (shp hG rfl) rfl rfl rfl (Nat.le_of_ble_eq_true rfl) (fun M5 hr4 => ?_)
  obtain ⟨a0, b0, c0, d0⟩ := hr4
  refine Go.aload_n dX7_moveAll_36 rfl ?_
  refine Go.aload_n dX7_moveAll_37 rfl ?_
  refine Go.getR dX7_moveAll_38 flX7_78 (shp hG rfl) rfl ?_
  refine Go.iconst (v := 0) dX7_moveAll_41 (by decide) ?_
  refine Go.iald dX7_moveAll_42 (shp hG rfl) (vin (i := 0) (by decide) (by decide)) ?_
  refine Go.putI dX7_moveAll_43 fpX7_93 (shp hG rfl) rfl rfl rfl ?_
  refine Go.nmM (fun N6 eN6 => ?_)
  refine Go.aload_n dX7_moveAll_46 rfl ?_
  refine Go.aload_n dX7_moveAll_47 rfl ?_
  refine Go.getR dX7_moveAll_48 flX7_78 (shp hG rfl) rfl ?_
  refine Go.iconst (v := 1) dX7_moveAll_51 (by decide) ?_
  refine Go.iald dX7_moveAll_52 (shp hG rfl) (vin (i := 1) (by decide) (by decide)) ?_
  refine Go.putI dX7_moveAll_53 fpX7_163 (shp hG rfl) rfl rfl rfl ?_
  refine Go.nmM (fun N7 eN7 => ?_)
  have h34_1 : N7.1 49 34 = nI 2 := by rw [eN7, rd_eq]; simp only [upd]; simp; rw [eN6, rd_eq]; simp only [upd]; simp; exact c0
  refine Go.aload_n dX7_moveAll_56 rfl ?_
  refine Go.aload_n dX7_moveAll_57 rfl ?_
  refine Go.getR dX7_moveAll_58 flX7_7 (shp hG rfl) rfl ?_
  refine Go.bipush (v := 8) dX7_moveAll_61 (by decide) ?_
  refine Go.iload_n dX7_moveAll_63 rfl ?_
  refine Go.aload_n dX7_moveAll_64 rfl ?_
  refine Go.callVV [] dX7_moveAll_65 lkX7_366 imX7_moveRow seX7_moveRow cbX7_moveRow (m_rowG hG (k := 50) (s := 70) (L := 8) (m0 := 2) (m := 8) (shp hG rfl) (shp hG rfl) (by decide) (by decide) (by decide) (by decide) (by decide) (by decide) h34_1) (shp hG rfl) rfl rfl rfl (Nat.le_of_ble_eq_true rfl) (fun M9 hr8 => ?_)
  obtain ⟨a1, b1, c1, d1⟩ := hr8
  have h34_2 : M9.1 49 34 = nI 10 := c1
  refine Go.aload_n dX7_moveAll_68 rfl ?_
  refine Go.aload_n dX7_moveAll_69 rfl ?_
  refine Go.getR dX7_moveAll_70 flX7_13 (shp hG rfl) rfl ?_
  refine Go.bipush (v := 17) dX7_moveAll_73 (by decide) ?_
  refine Go.iload_n dX7_moveAll_75 rfl ?_
  refine Go.aload_n dX7_moveAll_76 rfl ?_
  refine Go.callVV [] dX7_moveAll_77 lkX7_366 imX7_moveRow seX7_moveRow cbX7_moveRow (m_rowG hG (k := 51) (s := 70) (L := 17) (m0 := 10) (m := 17) (shp hG rfl) (shp hG rfl) (by decide) (by decide) (by decide) (by decide) (by decide) (by decide) h34_2) (shp hG rfl) rfl rfl rfl (Nat.le_of_ble_eq_true rfl) (fun M11 hr10 => ?_)
  obtain ⟨a2, b2, c2, d2⟩ := hr10
  have h34_3 : M11.1 49 34 = nI 27 := c2
  refine Go.aload_n dX7_moveAll_80 rfl ?_
  refine Go.aload_n dX7_moveAll_81 rfl ?_
  refine Go.getR dX7_moveAll_82 flX7_16 (shp hG rfl) rfl ?_
  refine Go.iconst (v := 2) dX7_moveAll_85 (by decide) ?_
  refine Go.iload_n dX7_moveAll_86 rfl ?_
  refine Go.aload_n dX7_moveAll_87 rfl ?_
  refine Go.callVV [] dX7_moveAll_88 lkX7_366 imX7_moveRow seX7_moveRow cbX7_moveRow (m_rowG hG (k := 52) (s := 70) (L := 2) (m0 := 27) (m := 2) (shp hG rfl) (shp hG rfl) (by decide) (by decide) (by decide) (by decide) (by decide) (by decide) h34_3) (shp hG rfl) rfl rfl rfl (Nat.le_of_ble_eq_true rfl) (fun M13 hr12 => ?_)
  obtain ⟨a3, b3, c3, d3⟩ := hr12
  have h34_4 : M13.1 49 34 = nI 29 := c3
  refine Go.aload_n dX7_moveAll_91 rfl ?_
  refine Go.aload_n dX7_moveAll_92 rfl ?_
  refine Go.getR dX7_moveAll_93 flX7_19 (shp hG rfl) rfl ?_
  refine Go.bipush (v := 30) dX7_moveAll_96 (by decide) ?_
  refine Go.iload_n dX7_moveAll_98 rfl ?_
  refine Go.aload_n dX7_moveAll_99 rfl ?_
  refine Go.callVV [] dX7_moveAll_100 lkX7_366 imX7_moveRow seX7_moveRow cbX7_moveRow (m_rowG hG (k := 53) (s := 70) (L := 90) (m0 := 29) (m := 30) (shp hG rfl) (shp hG rfl) (by decide) (by decide) (by decide) (by decide) (by decide) (by decide) h34_4) (shp hG rfl) rfl rfl rfl (Nat.le_of_ble_eq_true rfl) (fun M15 hr14 => ?_)
  obtain ⟨a4, b4, c4, d4⟩ := hr14
  have h34_5 : M15.1 49 34 = nI 59 := c4
  refine Go.aload_n dX7_moveAll_103 rfl ?_
  refine Go.aload_n dX7_moveAll_104 rfl ?_
  refine Go.getR dX7_moveAll_105 flX7_22 (shp hG rfl) rfl ?_
  refine Go.bipush (v := 30) dX7_moveAll_108 (by decide) ?_
  refine Go.iload_n dX7_moveAll_110 rfl ?_
  refine Go.aload_n dX7_moveAll_111 rfl ?_
  refine Go.callVV [] dX7_moveAll_112 lkX7_366 imX7_moveRow seX7_moveRow cbX7_moveRow (m_rowG hG (k := 54) (s := 70) (L := 90) (m0 := 59) (m := 30) (shp hG rfl) (shp hG rfl) (by decide) (by decide) (by decide) (by decide) (by decide) (by decide) h34_5) (shp hG rfl) rfl rfl rfl (Nat.le_of_ble_eq_true rfl) (fun M17 hr16 => ?_)
  obtain ⟨a5, b5, c5, d5⟩ := hr16
  have h34_6 : M17.1 49 34 = nI 89 := c5
  refine Go.aload_n dX7_moveAll_115 rfl ?_
  refine Go.aload_n dX7_moveAll_116 rfl ?_
  refine Go.getR dX7_moveAll_117 flX7_25 (shp hG rfl) rfl ?_
  refine Go.bipush (v := 30) dX7_moveAll_120 (by decide) ?_
  refine Go.iload_n dX7_moveAll_122 rfl ?_
  refine Go.aload_n dX7_moveAll_123 rfl ?_
  refine Go.callVV [] dX7_moveAll_124 lkX7_366 imX7_moveRow seX7_moveRow cbX7_moveRow (m_rowG hG (k := 55) (s := 70) (L := 90) (m0 := 89) (m := 30) (shp hG rfl) (shp hG rfl) (by decide) (by decide) (by decide) (by decide) (by decide) (by decide) h34_6) (shp hG rfl) rfl rfl rfl (Nat.le_of_ble_eq_true rfl) (fun M19 hr18 => ?_)
  obtain ⟨a6, b6, c6, d6⟩ := hr18
  refine Go.vret dX7_moveAll_127 rfl ?_
  have x1 : N3.1 49 = upd (M.1 49) 34 0 := by rw [eN3, rd_ne (by decide), eN2, rd_ne (by decide), eN1, rd_eq]
  have x72a : N3.1 72 0 = M.1 49 4 := by rw [eN3, rd_eq]; simp only [upd]; simp; rw [eN2, rd_eq]; simp only [upd]; simp; simp [eN1, upi, seti, upd]
  have x72b : N3.1 72 1 = M.1 49 3 := by rw [eN3, rd_eq]; simp only [upd]; simp; simp [eN2, eN1, upi, seti, upd]
  have x0 : ∀ a, a ≠ 49 → a ≠ 72 → N3.1 a = M.1 a := fun a q1 q2 => by rw [eN3, rd_ne q2, eN2, rd_ne q2, eN1, rd_ne q1]
  have y1 : ∀ a, a ≠ 49 → N7.1 a = M5.1 a := fun a q => by rw [eN7, rd_ne q, eN6, rd_ne q]
  have y4 : N7.1 49 4 = M5.1 72 0 := by rw [eN7, rd_eq]; simp only [upd]; simp; rw [eN6, rd_eq]; simp only [upd]; simp
  have y3 : N7.1 49 3 = M5.1 72 1 := by rw [eN7, rd_eq]; simp only [upd]; simp; rw [eN6, rd_ne (by decide)]
  have y9 : ∀ j, j ≠ 3 → j ≠ 4 → N7.1 49 j = M5.1 49 j := fun j q3 q4 => by rw [eN7, rd_eq]; simp only [upd]; rw [if_neg q3, eN6, rd_eq]; simp only [upd]; rw [if_neg q4]
  have t0 : N3.1 70 = M.1 70 := x0 70 (by decide) (by decide)
  have t1 : N7.1 70 = M.1 70 := by rw [y1 70 (by decide), a0.1 70 (by decide), t0]
  have t2 : M9.1 70 = M.1 70 := by rw [a1.1 70 (by decide), t1]
  have t3 : M11.1 70 = M.1 70 := by rw [a2.1 70 (by decide), t2]
  have t4 : M13.1 70 = M.1 70 := by rw [a3.1 70 (by decide), t3]
  have t5 : M15.1 70 = M.1 70 := by rw [a4.1 70 (by decide), t4]
  have t6 : M17.1 70 = M.1 70 := by rw [a5.1 70 (by decide), t5]
  have v4 : N7.1 49 4 = M.1 70 0 := by rw [y4]; exact (d0 0 (by decide)).trans (by rw [t0])
  have v3 : N7.1 49 3 = M.1 70 1 := by rw [y3]; exact (d0 1 (by decide)).trans (by rw [t0])
  have g1 : ∀ j, j < 8 → M19.1 50 j = M.1 70 (2 + j) := fun j hj => by rw [a6.1 50 (by decide), a5.1 50 (by decide), a4.1 50 (by decide), a3.1 50 (by decide), a2.1 50 (by decide), d1 j hj, t1]
  have g2 : ∀ j, j < 17 → M19.1 51 j = M.1 70 (10 + j) := fun j hj => by rw [a6.1 51 (by decide), a5.1 51 (by decide), a4.1 51 (by decide), a3.1 51 (by decide), d2 j hj, t2]
  have g3 : ∀ j, j < 2 → M19.1 52 j = M.1 70 (27 + j) := fun j hj => by rw [a6.1 52 (by decide), a5.1 52 (by decide), a4.1 52 (by decide), d3 j hj, t3]
  have g4 : ∀ j, j < 30 → M19.1 53 j = M.1 70 (29 + j) := fun j hj => by rw [a6.1 53 (by decide), a5.1 53 (by decide), d4 j hj, t4]
  have g5 : ∀ j, j < 30 → M19.1 54 j = M.1 70 (59 + j) := fun j hj => by rw [a6.1 54 (by decide), d5 j hj, t5]
  have g6 : ∀ j, j < 30 → M19.1 55 j = M.1 70 (89 + j) := fun j hj => by rw [d6 j hj, t6]
  have u9 : ∀ j, j ≠ 34 → M19.1 49 j = N7.1 49 j := fun j hj => by rw [b6 j hj, b5 j hj, b4 j hj, b3 j hj, b2 j hj, b1 j hj]
  obtain ⟨h1, h2, h3, h4, h5, h6, h7, h8, h9⟩ := hU
  refine ⟨rfl, ⟨fun t ht => by rw [g1 t ht]; exact h1 t ht, fun t ht => by rw [g2 t (by omega)]; exact h2 t ht, fun t ht => by rw [g2 (8 + t) (by omega), show 10 + (8 + t) = 18 + t by omega]; exact h3 t ht, fun t ht => by rw [g2 (13 + t) (by omega), show 10 + (13 + t) = 23 + t by omega]; exact h4 t ht, by rw [u9 4 (by decide), v4]; exact h5, by rw [g3 0 (by decide)]; exact h6, by rw [g3 1 (by decide)]; exact h7, by rw [u9 3 (by decide), v3]; exact h8, fun e he => ?_⟩, ?_, fun j q3 q4 hj => ?_⟩
  · rw [g4 e (by omega), g5 e (by omega), g6 e (by omega)]; exact h9 e he
  · refine ⟨fun a ha => ?_, ?_⟩
    · simp at ha
      rw [a6.1 a (by simp [ha]), a5.1 a (by simp [ha]), a4.1 a (by simp [ha]), a3.1 a (by simp [ha]), a2.1 a (by simp [ha]), a1.1 a (by simp [ha]), y1 a ha.1, a0.1 a (by simp [ha]), x0 a ha.1 ha.2.2.2.2.2.2.2]
    · rw [a6.2, a5.2, a4.2, a3.2, a2.2, a1.2, eN7, rd_l, eN6, rd_l, a0.2, eN3, rd_l, eN2, rd_l, eN1, rd_l]
  · rw [u9 j hj, y9 j q3 q4, b0 j hj, x1]
    simp [upd, hj]
set_option maxRecDepth 20000 in
theorem m_allG71 {G : Gt} {d : Nat} {M : Mm} (hG : gS G = SHAPE) {u : Bu} (hU : BuI M 71 u) (h30 : uN u ≤ 30) : ExV G (d + 1) mX7_moveAll [.ref 49, .int 0, .ref 71] M (fun M' => BuM M' u ∧ Same [49, 50, 51, 52, 53, 54, 55, 72] M M' ∧ ∀ j, j ≠ 3 → j ≠ 4 → j ≠ 34 → M'.1 49 j = M.1 49 j) := by
  refine Ex.of (by decide) (Nat.le_of_ble_eq_true rfl) ?_
  show Go G (d + 1) mX7_moveAll 0 [some (.ref 49), some (.int 0), some (.ref 71)] [] M _
  refine Go.aload_n dX7_moveAll_0 rfl ?_
  refine Go.iconst (v := 0) dX7_moveAll_1 (by decide) ?_
  refine Go.putI dX7_moveAll_2 fpX7_363 (shp hG rfl) rfl rfl rfl ?_
  refine Go.nmM (fun N1 eN1 => ?_)
  refine Go.aload_n dX7_moveAll_5 rfl ?_
  refine Go.getR dX7_moveAll_6 flX7_78 (shp hG rfl) rfl ?_
  refine Go.iconst (v := 0) dX7_moveAll_9 (by decide) ?_
  refine Go.aload_n dX7_moveAll_10 rfl ?_
  refine Go.getI dX7_moveAll_11 flX7_93 (shp hG rfl) rfl ?_
  refine Go.iast dX7_moveAll_14 (shp hG rfl) (vin (i := 0) (by decide) (by decide)) ?_
  refine Go.nmM (fun N2 eN2 => ?_)
  refine Go.aload_n dX7_moveAll_15 rfl ?_
  refine Go.getR dX7_moveAll_16 flX7_78 (shp hG rfl) rfl ?_
  refine Go.iconst (v := 1) dX7_moveAll_19 (by decide) ?_
  refine Go.aload_n dX7_moveAll_20 rfl ?_
  refine Go.getI dX7_moveAll_21 flX7_163 (shp hG rfl) rfl ?_
  refine Go.iast dX7_moveAll_24 (shp hG rfl) (vin (i := 1) (by decide) (by decide)) ?_
  refine Go.nmM (fun N3 eN3 => ?_)
  have h34_0 : N3.1 49 34 = nI 0 := by rw [eN3, rd_ne (by decide), eN2, rd_ne (by decide), eN1, rd_eq]; rfl
  refine Go.aload_n dX7_moveAll_25 rfl ?_
  refine Go.aload_n dX7_moveAll_26 rfl ?_
  refine Go.getR dX7_moveAll_27 flX7_78 (shp hG rfl) rfl ?_
  refine Go.iconst (v := 2) dX7_moveAll_30 (by decide) ?_
  refine Go.iload_n dX7_moveAll_31 rfl ?_
  refine Go.aload_n dX7_moveAll_32 rfl ?_
  refine Go.callVV [] dX7_moveAll_33 lkX7_366 imX7_moveRow seX7_moveRow cbX7_moveRow (m_rowG hG (k := 72) (s := 71) (L := 2) (m0 := 0) (m := 2) (shp hG rfl) (shp hG rfl) (by decide) (by decide) (by decide) (by decide) (by decide) (by decide) h34_0) (shp hG rfl) rfl rfl rfl (Nat.le_of_ble_eq_true rfl) (fun M5 hr4 => ?_)
  obtain ⟨a0, b0, c0, d0⟩ := hr4
  refine Go.aload_n dX7_moveAll_36 rfl ?_
  refine Go.aload_n dX7_moveAll_37 rfl ?_
  refine Go.getR dX7_moveAll_38 flX7_78 (shp hG rfl) rfl ?_
  refine Go.iconst (v := 0) dX7_moveAll_41 (by decide) ?_
  refine Go.iald dX7_moveAll_42 (shp hG rfl) (vin (i := 0) (by decide) (by decide)) ?_
  refine Go.putI dX7_moveAll_43 fpX7_93 (shp hG rfl) rfl rfl rfl ?_
  refine Go.nmM (fun N6 eN6 => ?_)
  refine Go.aload_n dX7_moveAll_46 rfl ?_
  refine Go.aload_n dX7_moveAll_47 rfl ?_
  refine Go.getR dX7_moveAll_48 flX7_78 (shp hG rfl) rfl ?_
  refine Go.iconst (v := 1) dX7_moveAll_51 (by decide) ?_
  refine Go.iald dX7_moveAll_52 (shp hG rfl) (vin (i := 1) (by decide) (by decide)) ?_
  refine Go.putI dX7_moveAll_53 fpX7_163 (shp hG rfl) rfl rfl rfl ?_
  refine Go.nmM (fun N7 eN7 => ?_)
  have h34_1 : N7.1 49 34 = nI 2 := by rw [eN7, rd_eq]; simp only [upd]; simp; rw [eN6, rd_eq]; simp only [upd]; simp; exact c0
  refine Go.aload_n dX7_moveAll_56 rfl ?_
  refine Go.aload_n dX7_moveAll_57 rfl ?_
  refine Go.getR dX7_moveAll_58 flX7_7 (shp hG rfl) rfl ?_
  refine Go.bipush (v := 8) dX7_moveAll_61 (by decide) ?_
  refine Go.iload_n dX7_moveAll_63 rfl ?_
  refine Go.aload_n dX7_moveAll_64 rfl ?_
  refine Go.callVV [] dX7_moveAll_65 lkX7_366 imX7_moveRow seX7_moveRow cbX7_moveRow (m_rowG hG (k := 50) (s := 71) (L := 8) (m0 := 2) (m := 8) (shp hG rfl) (shp hG rfl) (by decide) (by decide) (by decide) (by decide) (by decide) (by decide) h34_1) (shp hG rfl) rfl rfl rfl (Nat.le_of_ble_eq_true rfl) (fun M9 hr8 => ?_)
  obtain ⟨a1, b1, c1, d1⟩ := hr8
  have h34_2 : M9.1 49 34 = nI 10 := c1
  refine Go.aload_n dX7_moveAll_68 rfl ?_
  refine Go.aload_n dX7_moveAll_69 rfl ?_
  refine Go.getR dX7_moveAll_70 flX7_13 (shp hG rfl) rfl ?_
  refine Go.bipush (v := 17) dX7_moveAll_73 (by decide) ?_
  refine Go.iload_n dX7_moveAll_75 rfl ?_
  refine Go.aload_n dX7_moveAll_76 rfl ?_
  refine Go.callVV [] dX7_moveAll_77 lkX7_366 imX7_moveRow seX7_moveRow cbX7_moveRow (m_rowG hG (k := 51) (s := 71) (L := 17) (m0 := 10) (m := 17) (shp hG rfl) (shp hG rfl) (by decide) (by decide) (by decide) (by decide) (by decide) (by decide) h34_2) (shp hG rfl) rfl rfl rfl (Nat.le_of_ble_eq_true rfl) (fun M11 hr10 => ?_)
  obtain ⟨a2, b2, c2, d2⟩ := hr10
  have h34_3 : M11.1 49 34 = nI 27 := c2
  refine Go.aload_n dX7_moveAll_80 rfl ?_
  refine Go.aload_n dX7_moveAll_81 rfl ?_
  refine Go.getR dX7_moveAll_82 flX7_16 (shp hG rfl) rfl ?_
  refine Go.iconst (v := 2) dX7_moveAll_85 (by decide) ?_
  refine Go.iload_n dX7_moveAll_86 rfl ?_
  refine Go.aload_n dX7_moveAll_87 rfl ?_
  refine Go.callVV [] dX7_moveAll_88 lkX7_366 imX7_moveRow seX7_moveRow cbX7_moveRow (m_rowG hG (k := 52) (s := 71) (L := 2) (m0 := 27) (m := 2) (shp hG rfl) (shp hG rfl) (by decide) (by decide) (by decide) (by decide) (by decide) (by decide) h34_3) (shp hG rfl) rfl rfl rfl (Nat.le_of_ble_eq_true rfl) (fun M13 hr12 => ?_)
  obtain ⟨a3, b3, c3, d3⟩ := hr12
  have h34_4 : M13.1 49 34 = nI 29 := c3
  refine Go.aload_n dX7_moveAll_91 rfl ?_
  refine Go.aload_n dX7_moveAll_92 rfl ?_
  refine Go.getR dX7_moveAll_93 flX7_19 (shp hG rfl) rfl ?_
  refine Go.bipush (v := 30) dX7_moveAll_96 (by decide) ?_
  refine Go.iload_n dX7_moveAll_98 rfl ?_
  refine Go.aload_n dX7_moveAll_99 rfl ?_
  refine Go.callVV [] dX7_moveAll_100 lkX7_366 imX7_moveRow seX7_moveRow cbX7_moveRow (m_rowG hG (k := 53) (s := 71) (L := 90) (m0 := 29) (m := 30) (shp hG rfl) (shp hG rfl) (by decide) (by decide) (by decide) (by decide) (by decide) (by decide) h34_4) (shp hG rfl) rfl rfl rfl (Nat.le_of_ble_eq_true rfl) (fun M15 hr14 => ?_)
  obtain ⟨a4, b4, c4, d4⟩ := hr14
  have h34_5 : M15.1 49 34 = nI 59 := c4
  refine Go.aload_n dX7_moveAll_103 rfl ?_
  refine Go.aload_n dX7_moveAll_104 rfl ?_
  refine Go.getR dX7_moveAll_105 flX7_22 (shp hG rfl) rfl ?_
  refine Go.bipush (v := 30) dX7_moveAll_108 (by decide) ?_
  refine Go.iload_n dX7_moveAll_110 rfl ?_
  refine Go.aload_n dX7_moveAll_111 rfl ?_
  refine Go.callVV [] dX7_moveAll_112 lkX7_366 imX7_moveRow seX7_moveRow cbX7_moveRow (m_rowG hG (k := 54) (s := 71) (L := 90) (m0 := 59) (m := 30) (shp hG rfl) (shp hG rfl) (by decide) (by decide) (by decide) (by decide) (by decide) (by decide) h34_5) (shp hG rfl) rfl rfl rfl (Nat.le_of_ble_eq_true rfl) (fun M17 hr16 => ?_)
  obtain ⟨a5, b5, c5, d5⟩ := hr16
  have h34_6 : M17.1 49 34 = nI 89 := c5
  refine Go.aload_n dX7_moveAll_115 rfl ?_
  refine Go.aload_n dX7_moveAll_116 rfl ?_
  refine Go.getR dX7_moveAll_117 flX7_25 (shp hG rfl) rfl ?_
  refine Go.bipush (v := 30) dX7_moveAll_120 (by decide) ?_
  refine Go.iload_n dX7_moveAll_122 rfl ?_
  refine Go.aload_n dX7_moveAll_123 rfl ?_
  refine Go.callVV [] dX7_moveAll_124 lkX7_366 imX7_moveRow seX7_moveRow cbX7_moveRow (m_rowG hG (k := 55) (s := 71) (L := 90) (m0 := 89) (m := 30) (shp hG rfl) (shp hG rfl) (by decide) (by decide) (by decide) (by decide) (by decide) (by decide) h34_6) (shp hG rfl) rfl rfl rfl (Nat.le_of_ble_eq_true rfl) (fun M19 hr18 => ?_)
  obtain ⟨a6, b6, c6, d6⟩ := hr18
  refine Go.vret dX7_moveAll_127 rfl ?_
  have x1 : N3.1 49 = upd (M.1 49) 34 0 := by rw [eN3, rd_ne (by decide), eN2, rd_ne (by decide), eN1, rd_eq]
  have x72a : N3.1 72 0 = M.1 49 4 := by rw [eN3, rd_eq]; simp only [upd]; simp; rw [eN2, rd_eq]; simp only [upd]; simp; simp [eN1, upi, seti, upd]
  have x72b : N3.1 72 1 = M.1 49 3 := by rw [eN3, rd_eq]; simp only [upd]; simp; simp [eN2, eN1, upi, seti, upd]
  have x0 : ∀ a, a ≠ 49 → a ≠ 72 → N3.1 a = M.1 a := fun a q1 q2 => by rw [eN3, rd_ne q2, eN2, rd_ne q2, eN1, rd_ne q1]
  have y1 : ∀ a, a ≠ 49 → N7.1 a = M5.1 a := fun a q => by rw [eN7, rd_ne q, eN6, rd_ne q]
  have y4 : N7.1 49 4 = M5.1 72 0 := by rw [eN7, rd_eq]; simp only [upd]; simp; rw [eN6, rd_eq]; simp only [upd]; simp
  have y3 : N7.1 49 3 = M5.1 72 1 := by rw [eN7, rd_eq]; simp only [upd]; simp; rw [eN6, rd_ne (by decide)]
  have y9 : ∀ j, j ≠ 3 → j ≠ 4 → N7.1 49 j = M5.1 49 j := fun j q3 q4 => by rw [eN7, rd_eq]; simp only [upd]; rw [if_neg q3, eN6, rd_eq]; simp only [upd]; rw [if_neg q4]
  have t0 : N3.1 71 = M.1 71 := x0 71 (by decide) (by decide)
  have t1 : N7.1 71 = M.1 71 := by rw [y1 71 (by decide), a0.1 71 (by decide), t0]
  have t2 : M9.1 71 = M.1 71 := by rw [a1.1 71 (by decide), t1]
  have t3 : M11.1 71 = M.1 71 := by rw [a2.1 71 (by decide), t2]
  have t4 : M13.1 71 = M.1 71 := by rw [a3.1 71 (by decide), t3]
  have t5 : M15.1 71 = M.1 71 := by rw [a4.1 71 (by decide), t4]
  have t6 : M17.1 71 = M.1 71 := by rw [a5.1 71 (by decide), t5]
  have v4 : N7.1 49 4 = M.1 71 0 := by rw [y4]; exact (d0 0 (by decide)).trans (by rw [t0])
  have v3 : N7.1 49 3 = M.1 71 1 := by rw [y3]; exact (d0 1 (by decide)).trans (by rw [t0])
  have g1 : ∀ j, j < 8 → M19.1 50 j = M.1 71 (2 + j) := fun j hj => by rw [a6.1 50 (by decide), a5.1 50 (by decide), a4.1 50 (by decide), a3.1 50 (by decide), a2.1 50 (by decide), d1 j hj, t1]
  have g2 : ∀ j, j < 17 → M19.1 51 j = M.1 71 (10 + j) := fun j hj => by rw [a6.1 51 (by decide), a5.1 51 (by decide), a4.1 51 (by decide), a3.1 51 (by decide), d2 j hj, t2]
  have g3 : ∀ j, j < 2 → M19.1 52 j = M.1 71 (27 + j) := fun j hj => by rw [a6.1 52 (by decide), a5.1 52 (by decide), a4.1 52 (by decide), d3 j hj, t3]
  have g4 : ∀ j, j < 30 → M19.1 53 j = M.1 71 (29 + j) := fun j hj => by rw [a6.1 53 (by decide), a5.1 53 (by decide), d4 j hj, t4]
  have g5 : ∀ j, j < 30 → M19.1 54 j = M.1 71 (59 + j) := fun j hj => by rw [a6.1 54 (by decide), d5 j hj, t5]
  have g6 : ∀ j, j < 30 → M19.1 55 j = M.1 71 (89 + j) := fun j hj => by rw [d6 j hj, t6]
  have u9 : ∀ j, j ≠ 34 → M19.1 49 j = N7.1 49 j := fun j hj => by rw [b6 j hj, b5 j hj, b4 j hj, b3 j hj, b2 j hj, b1 j hj]
  obtain ⟨h1, h2, h3, h4, h5, h6, h7, h8, h9⟩ := hU
  refine ⟨rfl, ⟨fun t ht => by rw [g1 t ht]; exact h1 t ht, fun t ht => by rw [g2 t (by omega)]; exact h2 t ht, fun t ht => by rw [g2 (8 + t) (by omega), show 10 + (8 + t) = 18 + t by omega]; exact h3 t ht, fun t ht => by rw [g2 (13 + t) (by omega), show 10 + (13 + t) = 23 + t by omega]; exact h4 t ht, by rw [u9 4 (by decide), v4]; exact h5, by rw [g3 0 (by decide)]; exact h6, by rw [g3 1 (by decide)]; exact h7, by rw [u9 3 (by decide), v3]; exact h8, fun e he => ?_⟩, ?_, fun j q3 q4 hj => ?_⟩
  · rw [g4 e (by omega), g5 e (by omega), g6 e (by omega)]; exact h9 e he
  · refine ⟨fun a ha => ?_, ?_⟩
    · simp at ha
      rw [a6.1 a (by simp [ha]), a5.1 a (by simp [ha]), a4.1 a (by simp [ha]), a3.1 a (by simp [ha]), a2.1 a (by simp [ha]), a1.1 a (by simp [ha]), y1 a ha.1, a0.1 a (by simp [ha]), x0 a ha.1 ha.2.2.2.2.2.2.2]
    · rw [a6.2, a5.2, a4.2, a3.2, a2.2, a1.2, eN7, rd_l, eN6, rd_l, a0.2, eN3, rd_l, eN2, rd_l, eN1, rd_l]
  · rw [u9 j hj, y9 j q3 q4, b0 j hj, x1]
    simp [upd, hj]
