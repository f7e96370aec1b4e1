def Pz6 (G : Gt) (b : Nat) (ws : va_W) : Prop := ∃ (q1 q2 q3 q4 q5 q6 q9 q10 q11 q12 : Nat → Nat) (N1 N2 N3 N4 N5 N6 N9 N10 N11 N12 : Mm) (q8 q7 : Nat) (fS : Nat → Option Nat), Ftz1 N1 ∧ Ftz1 N2 ∧ Ftz1 N3 ∧ Ftz2 N4 ∧ Ftz5 N6 ∧ Ftz4 N9 ∧ Ftz4 N10 ∧ Ftz4 N11 ∧ Ftz4 N12 ∧ (∀ j, fS j = if j = 0 then some (q9 0) else if j = 1 then some (q10 0) else if j = 2 then some (q11 0) else if j = 3 then some (q12 0) else none) ∧ ws = (b, .inr (6, [.ref (q1 0), .ref (q2 0), .ref (q3 0), .int 0, .ref (q4 0), .ref (q5 0), .ref (q6 0), .ref q7, .ref q8])) :: (q12 0, .inr (4, [.int (N12.1 0 0), .int (N12.1 0 1), .ref (q12 1)])) :: (q12 1, .inl (gA G 2, 40, .inr (.inl (N12.2 1)))) :: (q11 0, .inr (4, [.int (N11.1 0 0), .int (N11.1 0 1), .ref (q11 1)])) :: (q11 1, .inl (gA G 2, 40, .inr (.inl (N11.2 1)))) :: (q10 0, .inr (4, [.int (N10.1 0 0), .int (N10.1 0 1), .ref (q10 1)])) :: (q10 1, .inl (gA G 2, 40, .inr (.inl (N10.2 1)))) :: (q9 0, .inr (4, [.int (N9.1 0 0), .int (N9.1 0 1), .ref (q9 1)])) :: (q9 1, .inl (gA G 2, 40, .inr (.inl (N9.2 1)))) :: (q8, .inl (gA G 0, 7, .inl (fun _ => 0))) :: (q7, .inl (gA G 3, 4, .inr (.inr (.inr (.inr (fS)))))) :: (wlR q6 (gA G) N6 Sz5 ++ (wlR q5 (gA G) N5 Sz3 ++ (wlR q4 (gA G) N4 Sz2 ++ (wlR q3 (gA G) N3 Sz1 ++ (wlR q2 (gA G) N2 Sz1 ++ (wlR q1 (gA G) N1 Sz1 ++ []))))))
theorem shf4 {x0 x1 x2 x3 : Option Nat} (j : Nat) : va_up (va_up (va_up (va_up (fun _ => none) (Int32.toNatClampNeg 0) x0) (Int32.toNatClampNeg 1) x1) (Int32.toNatClampNeg 2) x2) (Int32.toNatClampNeg 3) x3 j = if j = 0 then x0 else if j = 1 then x1 else if j = 2 then x2 else if j = 3 then x3 else none := by
  show (if j = 3 then x3 else if j = 2 then x2 else if j = 1 then x1 else if j = 0 then x0 else none) = _
  by_cases h0 : j = 0
  · subst h0; rfl
  by_cases h1 : j = 1
  · subst h1; rfl
  by_cases h2 : j = 2
  · subst h2; rfl
  by_cases h3 : j = 3
  · subst h3; rfl
  simp [h0, h1, h2, h3]
set_option maxRecDepth 20000 in
set_option maxHeartbeats 2000000 in
theorem n_X6 {G : Gt} : Cn G mX6_init 6 [.null, .null, .null, .int 0, .null, .null, .null, .null, .null] 3 60 48 2279 (Pz6 G) := by
  refine Cn.of (by decide) (by decide) rfl (fun b => ?_)
  refine Bo.aload_n (j := 0) dX6_init_0 rfl rfl ?_
  refine Bo.objInit dX6_init_1 kOi6 (by decide) (by decide) (Nat.le_of_ble_eq_true rfl) ?_
  refine Bo.aload_n (j := 0) dX6_init_4 rfl rfl ?_
  refine Bo.newc (mt' := mX1_init) (ci := 1) (ty := tyX1) dX6_init_5 dX6_init_8 dX6_init_9 kClX6_9 kIn1 lkX6_11 imX1_init cbX1_init rfl rfl rfl tyX1_ok (dfX1) n_X1 (by decide) (by decide) (Nat.le_of_ble_eq_true rfl) (Nat.le_of_ble_eq_true rfl) (Nat.le_of_ble_eq_true rfl) (fun b1 w1 h1 => ?_)
  obtain ⟨q1, N1, rfl, f1, rfl⟩ := h1
  rw [wl_eq Sz1_ok.1 Sz1_ok.2]
  refine Bo.fin (ty := .object "NewDishes$Bureau") (fs' := [.ref (q1 0), .null, .null, .int 0, .null, .null, .null, .null, .null]) dX6_init_12 rfl flX6_12 (fun C T N h => by cases h; exact ⟨rfl, rfl, by decide +kernel⟩) rfl rfl (Nat.le_of_ble_eq_true rfl) rfl ?_
  refine Bo.aload_n (j := 0) dX6_init_15 rfl rfl ?_
  refine Bo.newc (mt' := mX1_init) (ci := 1) (ty := tyX1) dX6_init_16 dX6_init_19 dX6_init_20 kClX6_9 kIn1 lkX6_11 imX1_init cbX1_init rfl rfl rfl tyX1_ok (dfX1) n_X1 (by decide) (by decide) (Nat.le_of_ble_eq_true rfl) (Nat.le_of_ble_eq_true rfl) (Nat.le_of_ble_eq_true rfl) (fun b2 w2 h2 => ?_)
  obtain ⟨q2, N2, rfl, f2, rfl⟩ := h2
  rw [wl_eq Sz1_ok.1 Sz1_ok.2]
  refine Bo.fin (ty := .object "NewDishes$Bureau") (fs' := [.ref (q1 0), .ref (q2 0), .null, .int 0, .null, .null, .null, .null, .null]) dX6_init_23 rfl flX6_16 (fun C T N h => by cases h; exact ⟨rfl, rfl, by decide +kernel⟩) rfl rfl (Nat.le_of_ble_eq_true rfl) rfl ?_
  refine Bo.aload_n (j := 0) dX6_init_26 rfl rfl ?_
  refine Bo.newc (mt' := mX1_init) (ci := 1) (ty := tyX1) dX6_init_27 dX6_init_30 dX6_init_31 kClX6_9 kIn1 lkX6_11 imX1_init cbX1_init rfl rfl rfl tyX1_ok (dfX1) n_X1 (by decide) (by decide) (Nat.le_of_ble_eq_true rfl) (Nat.le_of_ble_eq_true rfl) (Nat.le_of_ble_eq_true rfl) (fun b3 w3 h3 => ?_)
  obtain ⟨q3, N3, rfl, f3, rfl⟩ := h3
  rw [wl_eq Sz1_ok.1 Sz1_ok.2]
  refine Bo.fin (ty := .object "NewDishes$Bureau") (fs' := [.ref (q1 0), .ref (q2 0), .ref (q3 0), .int 0, .null, .null, .null, .null, .null]) dX6_init_34 rfl flX6_19 (fun C T N h => by cases h; exact ⟨rfl, rfl, by decide +kernel⟩) rfl rfl (Nat.le_of_ble_eq_true rfl) rfl ?_
  refine Bo.aload_n (j := 0) dX6_init_37 rfl rfl ?_
  refine Bo.iconst (v := 0) dX6_init_38 (by decide) ?_
  refine Bo.put (fs' := [.ref (q1 0), .ref (q2 0), .ref (q3 0), .int 0, .null, .null, .null, .null, .null]) dX6_init_39 fpX6_22 rfl rfl (Nat.le_of_ble_eq_true rfl) rfl ?_
  refine Bo.aload_n (j := 0) dX6_init_42 rfl rfl ?_
  refine Bo.newc (mt' := mX2_init) (ci := 2) (ty := tyX2) dX6_init_43 dX6_init_46 dX6_init_47 kClX6_26 kIn2 lkX6_28 imX2_init cbX2_init rfl rfl rfl tyX2_ok (dfX2) n_X2 (by decide) (by decide) (Nat.le_of_ble_eq_true rfl) (Nat.le_of_ble_eq_true rfl) (Nat.le_of_ble_eq_true rfl) (fun b4 w4 h4 => ?_)
  obtain ⟨q4, N4, rfl, f4, rfl⟩ := h4
  rw [wl_eq Sz2_ok.1 Sz2_ok.2]
  refine Bo.fin (ty := .object "NewDishes$Kitchen") (fs' := [.ref (q1 0), .ref (q2 0), .ref (q3 0), .int 0, .ref (q4 0), .null, .null, .null, .null]) dX6_init_50 rfl flX6_29 (fun C T N h => by cases h; exact ⟨rfl, rfl, by decide +kernel⟩) rfl rfl (Nat.le_of_ble_eq_true rfl) rfl ?_
  refine Bo.aload_n (j := 0) dX6_init_53 rfl rfl ?_
  refine Bo.newc (mt' := mX3_init) (ci := 3) (ty := tyX3) dX6_init_54 dX6_init_57 dX6_init_58 kClX6_33 kIn3 lkX6_35 imX3_init cbX3_init rfl rfl rfl tyX3_ok (dfX3) n_X3 (by decide) (by decide) (Nat.le_of_ble_eq_true rfl) (Nat.le_of_ble_eq_true rfl) (Nat.le_of_ble_eq_true rfl) (fun b5 w5 h5 => ?_)
  obtain ⟨q5, N5, rfl, f5, rfl⟩ := h5
  rw [wl_eq Sz3_ok.1 Sz3_ok.2]
  refine Bo.fin (ty := .object "NewDishes$Paths") (fs' := [.ref (q1 0), .ref (q2 0), .ref (q3 0), .int 0, .ref (q4 0), .ref (q5 0), .null, .null, .null]) dX6_init_61 rfl flX6_36 (fun C T N h => by cases h; exact ⟨rfl, rfl, by decide +kernel⟩) rfl rfl (Nat.le_of_ble_eq_true rfl) rfl ?_
  refine Bo.aload_n (j := 0) dX6_init_64 rfl rfl ?_
  refine Bo.newc (mt' := mX5_init) (ci := 5) (ty := tyX5) dX6_init_65 dX6_init_68 dX6_init_69 kClX6_40 kIn5 lkX6_42 imX5_init cbX5_init rfl rfl rfl tyX5_ok (dfX5) n_X5 (by decide) (by decide) (Nat.le_of_ble_eq_true rfl) (Nat.le_of_ble_eq_true rfl) (Nat.le_of_ble_eq_true rfl) (fun b6 w6 h6 => ?_)
  obtain ⟨q6, N6, rfl, f6, rfl⟩ := h6
  rw [wl_eq Sz5_ok.1 Sz5_ok.2]
  refine Bo.fin (ty := .object "NewDishes$Tape") (fs' := [.ref (q1 0), .ref (q2 0), .ref (q3 0), .int 0, .ref (q4 0), .ref (q5 0), .ref (q6 0), .null, .null]) dX6_init_72 rfl flX6_43 (fun C T N h => by cases h; exact ⟨rfl, rfl, by decide +kernel⟩) rfl rfl (Nat.le_of_ble_eq_true rfl) rfl ?_
  refine Bo.aload_n (j := 0) dX6_init_75 rfl rfl ?_
  refine Bo.iconst (v := 4) dX6_init_76 (by decide) ?_
  refine Bo.newq (N := 4) dX6_init_77 kClX6_47 (by decide) (by decide) (by decide) (Nat.le_of_ble_eq_true rfl) (Nat.le_of_ble_eq_true rfl) (fun q7 => ?_)
  refine Bo.fin (ty := .array (.object "NewDishes$Sheet")) (fs' := [.ref (q1 0), .ref (q2 0), .ref (q3 0), .int 0, .ref (q4 0), .ref (q5 0), .ref (q6 0), .ref q7, .null]) dX6_init_80 rfl flX6_49 (fun C T N h => by cases h; exact ⟨rfl, rfl, by decide +kernel⟩) rfl rfl (Nat.le_of_ble_eq_true rfl) rfl ?_
  refine Bo.aload_n (j := 0) dX6_init_83 rfl rfl ?_
  refine Bo.bipush (v := 7) dX6_init_84 (by decide) ?_
  refine Bo.newA (t0 := 0) (a0 := (7, .inl (fun _ => 0))) dX6_init_86 rfl kAi rfl (fun _ h => h) (fun _ => rfl) (by decide) (by decide) (by decide) (Nat.le_of_ble_eq_true rfl) (Nat.le_of_ble_eq_true rfl) (fun q8 => ?_)
  refine Bo.fin (ty := .array .int) (fs' := [.ref (q1 0), .ref (q2 0), .ref (q3 0), .int 0, .ref (q4 0), .ref (q5 0), .ref (q6 0), .ref q7, .ref q8]) dX6_init_88 rfl flX6_53 (fun C T N h => by cases h; exact ⟨rfl, rfl, by decide +kernel⟩) rfl rfl (Nat.le_of_ble_eq_true rfl) rfl ?_
  refine Bo.eq (ws' := (b, .inr (6, [.ref (q1 0), .ref (q2 0), .ref (q3 0), .int 0, .ref (q4 0), .ref (q5 0), .ref (q6 0), .ref q7, .ref q8])) :: (q8, .inl (gA G 0, 7, .inl (fun _ => 0))) :: (q7, .inl (gA G 3, 4, .inr (.inr (.inr (.inr (fun _ => none)))))) :: (wlR q6 (gA G) N6 Sz5 ++ (wlR q5 (gA G) N5 Sz3 ++ (wlR q4 (gA G) N4 Sz2 ++ (wlR q3 (gA G) N3 Sz1 ++ (wlR q2 (gA G) N2 Sz1 ++ (wlR q1 (gA G) N1 Sz1 ++ []))))))) rfl ?_
  refine Bo.iconst (v := 0) dX6_init_91 (by decide) ?_
  refine Bo.istore_n (lv' := [(1, .int 0), (0, .ref b)]) dX6_init_92 rfl (by decide) rfl ?_
  refine Bo.iload_n (j := 0) dX6_init_93 rfl rfl ?_
  refine Bo.iconst (v := 4) dX6_init_94 (by decide) ?_
  refine Bo.icmp_geF 117 dX6_init_95 rfl (by decide) ?_
  refine Bo.aload_n (j := 1) dX6_init_98 rfl rfl ?_
  refine Bo.get (r := q7) dX6_init_99 flX6_49 rfl ?_
  refine Bo.iload_n (j := 0) dX6_init_102 rfl rfl ?_
  refine Bo.newc (mt' := mX4_init) (ci := 4) (ty := tyX4) dX6_init_103 dX6_init_106 dX6_init_107 kClX6_47 kIn4 lkX6_57 imX4_init cbX4_init rfl rfl rfl tyX4_ok (dfX4) n_X4 (by decide) (by decide) (Nat.le_of_ble_eq_true rfl) (Nat.le_of_ble_eq_true rfl) (Nat.le_of_ble_eq_true rfl) (fun b9 w9 h9 => ?_)
  obtain ⟨q9, N9, rfl, f9, rfl⟩ := h9
  rw [wl_eq Sz4_ok.1 Sz4_ok.2]
  refine Bo.eq (ws' := (b, .inr (6, [.ref (q1 0), .ref (q2 0), .ref (q3 0), .int 0, .ref (q4 0), .ref (q5 0), .ref (q6 0), .ref q7, .ref q8])) :: (q9 0, .inr (4, [.int (N9.1 0 0), .int (N9.1 0 1), .ref (q9 1)])) :: (q9 1, .inl (gA G 2, 40, .inr (.inl (N9.2 1)))) :: (q8, .inl (gA G 0, 7, .inl (fun _ => 0))) :: (q7, .inl (gA G 3, 4, .inr (.inr (.inr (.inr (fun _ => none)))))) :: (wlR q6 (gA G) N6 Sz5 ++ (wlR q5 (gA G) N5 Sz3 ++ (wlR q4 (gA G) N4 Sz2 ++ (wlR q3 (gA G) N3 Sz1 ++ (wlR q2 (gA G) N2 Sz1 ++ (wlR q1 (gA G) N1 Sz1 ++ []))))))) rfl ?_
  refine Bo.astq 4 1 (ws' := (b, .inr (6, [.ref (q1 0), .ref (q2 0), .ref (q3 0), .int 0, .ref (q4 0), .ref (q5 0), .ref (q6 0), .ref q7, .ref q8])) :: (q9 0, .inr (4, [.int (N9.1 0 0), .int (N9.1 0 1), .ref (q9 1)])) :: (q9 1, .inl (gA G 2, 40, .inr (.inl (N9.2 1)))) :: (q8, .inl (gA G 0, 7, .inl (fun _ => 0))) :: (q7, .inl (gA G 3, 4, .inr (.inr (.inr (.inr (va_up (fun _ => none) (Int32.toNatClampNeg 0) (some (q9 0)))))))) :: (wlR q6 (gA G) N6 Sz5 ++ (wlR q5 (gA G) N5 Sz3 ++ (wlR q4 (gA G) N4 Sz2 ++ (wlR q3 (gA G) N3 Sz1 ++ (wlR q2 (gA G) N2 Sz1 ++ (wlR q1 (gA G) N1 Sz1 ++ []))))))) dX6_init_110 rfl rfl (by unfold vp_in; decide) rfl ?_
  refine Bo.iinc (k := 0) (v := 1) (lv' := [(1, .int 1), (0, .ref b)]) dX6_init_111 rfl (by decide) (by decide) rfl ?_
  refine Bo.goto 93 dX6_init_114 rfl ?_
  refine Bo.iload_n (j := 0) dX6_init_93 rfl rfl ?_
  refine Bo.iconst (v := 4) dX6_init_94 (by decide) ?_
  refine Bo.icmp_geF 117 dX6_init_95 rfl (by decide) ?_
  refine Bo.aload_n (j := 1) dX6_init_98 rfl rfl ?_
  refine Bo.get (r := q7) dX6_init_99 flX6_49 rfl ?_
  refine Bo.iload_n (j := 0) dX6_init_102 rfl rfl ?_
  refine Bo.newc (mt' := mX4_init) (ci := 4) (ty := tyX4) dX6_init_103 dX6_init_106 dX6_init_107 kClX6_47 kIn4 lkX6_57 imX4_init cbX4_init rfl rfl rfl tyX4_ok (dfX4) n_X4 (by decide) (by decide) (Nat.le_of_ble_eq_true rfl) (Nat.le_of_ble_eq_true rfl) (Nat.le_of_ble_eq_true rfl) (fun b10 w10 h10 => ?_)
  obtain ⟨q10, N10, rfl, f10, rfl⟩ := h10
  rw [wl_eq Sz4_ok.1 Sz4_ok.2]
  refine Bo.eq (ws' := (b, .inr (6, [.ref (q1 0), .ref (q2 0), .ref (q3 0), .int 0, .ref (q4 0), .ref (q5 0), .ref (q6 0), .ref q7, .ref q8])) :: (q10 0, .inr (4, [.int (N10.1 0 0), .int (N10.1 0 1), .ref (q10 1)])) :: (q10 1, .inl (gA G 2, 40, .inr (.inl (N10.2 1)))) :: (q9 0, .inr (4, [.int (N9.1 0 0), .int (N9.1 0 1), .ref (q9 1)])) :: (q9 1, .inl (gA G 2, 40, .inr (.inl (N9.2 1)))) :: (q8, .inl (gA G 0, 7, .inl (fun _ => 0))) :: (q7, .inl (gA G 3, 4, .inr (.inr (.inr (.inr (va_up (fun _ => none) (Int32.toNatClampNeg 0) (some (q9 0)))))))) :: (wlR q6 (gA G) N6 Sz5 ++ (wlR q5 (gA G) N5 Sz3 ++ (wlR q4 (gA G) N4 Sz2 ++ (wlR q3 (gA G) N3 Sz1 ++ (wlR q2 (gA G) N2 Sz1 ++ (wlR q1 (gA G) N1 Sz1 ++ []))))))) rfl ?_
  refine Bo.astq 6 1 (ws' := (b, .inr (6, [.ref (q1 0), .ref (q2 0), .ref (q3 0), .int 0, .ref (q4 0), .ref (q5 0), .ref (q6 0), .ref q7, .ref q8])) :: (q10 0, .inr (4, [.int (N10.1 0 0), .int (N10.1 0 1), .ref (q10 1)])) :: (q10 1, .inl (gA G 2, 40, .inr (.inl (N10.2 1)))) :: (q9 0, .inr (4, [.int (N9.1 0 0), .int (N9.1 0 1), .ref (q9 1)])) :: (q9 1, .inl (gA G 2, 40, .inr (.inl (N9.2 1)))) :: (q8, .inl (gA G 0, 7, .inl (fun _ => 0))) :: (q7, .inl (gA G 3, 4, .inr (.inr (.inr (.inr (va_up (va_up (fun _ => none) (Int32.toNatClampNeg 0) (some (q9 0))) (Int32.toNatClampNeg 1) (some (q10 0)))))))) :: (wlR q6 (gA G) N6 Sz5 ++ (wlR q5 (gA G) N5 Sz3 ++ (wlR q4 (gA G) N4 Sz2 ++ (wlR q3 (gA G) N3 Sz1 ++ (wlR q2 (gA G) N2 Sz1 ++ (wlR q1 (gA G) N1 Sz1 ++ []))))))) dX6_init_110 rfl rfl (by unfold vp_in; decide) rfl ?_
  refine Bo.iinc (k := 0) (v := 2) (lv' := [(1, .int 2), (0, .ref b)]) dX6_init_111 rfl (by decide) (by decide) rfl ?_
  refine Bo.goto 93 dX6_init_114 rfl ?_
  refine Bo.iload_n (j := 0) dX6_init_93 rfl rfl ?_
  refine Bo.iconst (v := 4) dX6_init_94 (by decide) ?_
  refine Bo.icmp_geF 117 dX6_init_95 rfl (by decide) ?_
  refine Bo.aload_n (j := 1) dX6_init_98 rfl rfl ?_
  refine Bo.get (r := q7) dX6_init_99 flX6_49 rfl ?_
  refine Bo.iload_n (j := 0) dX6_init_102 rfl rfl ?_
  refine Bo.newc (mt' := mX4_init) (ci := 4) (ty := tyX4) dX6_init_103 dX6_init_106 dX6_init_107 kClX6_47 kIn4 lkX6_57 imX4_init cbX4_init rfl rfl rfl tyX4_ok (dfX4) n_X4 (by decide) (by decide) (Nat.le_of_ble_eq_true rfl) (Nat.le_of_ble_eq_true rfl) (Nat.le_of_ble_eq_true rfl) (fun b11 w11 h11 => ?_)
  obtain ⟨q11, N11, rfl, f11, rfl⟩ := h11
  rw [wl_eq Sz4_ok.1 Sz4_ok.2]
  refine Bo.eq (ws' := (b, .inr (6, [.ref (q1 0), .ref (q2 0), .ref (q3 0), .int 0, .ref (q4 0), .ref (q5 0), .ref (q6 0), .ref q7, .ref q8])) :: (q11 0, .inr (4, [.int (N11.1 0 0), .int (N11.1 0 1), .ref (q11 1)])) :: (q11 1, .inl (gA G 2, 40, .inr (.inl (N11.2 1)))) :: (q10 0, .inr (4, [.int (N10.1 0 0), .int (N10.1 0 1), .ref (q10 1)])) :: (q10 1, .inl (gA G 2, 40, .inr (.inl (N10.2 1)))) :: (q9 0, .inr (4, [.int (N9.1 0 0), .int (N9.1 0 1), .ref (q9 1)])) :: (q9 1, .inl (gA G 2, 40, .inr (.inl (N9.2 1)))) :: (q8, .inl (gA G 0, 7, .inl (fun _ => 0))) :: (q7, .inl (gA G 3, 4, .inr (.inr (.inr (.inr (va_up (va_up (fun _ => none) (Int32.toNatClampNeg 0) (some (q9 0))) (Int32.toNatClampNeg 1) (some (q10 0)))))))) :: (wlR q6 (gA G) N6 Sz5 ++ (wlR q5 (gA G) N5 Sz3 ++ (wlR q4 (gA G) N4 Sz2 ++ (wlR q3 (gA G) N3 Sz1 ++ (wlR q2 (gA G) N2 Sz1 ++ (wlR q1 (gA G) N1 Sz1 ++ []))))))) rfl ?_
  refine Bo.astq 8 1 (ws' := (b, .inr (6, [.ref (q1 0), .ref (q2 0), .ref (q3 0), .int 0, .ref (q4 0), .ref (q5 0), .ref (q6 0), .ref q7, .ref q8])) :: (q11 0, .inr (4, [.int (N11.1 0 0), .int (N11.1 0 1), .ref (q11 1)])) :: (q11 1, .inl (gA G 2, 40, .inr (.inl (N11.2 1)))) :: (q10 0, .inr (4, [.int (N10.1 0 0), .int (N10.1 0 1), .ref (q10 1)])) :: (q10 1, .inl (gA G 2, 40, .inr (.inl (N10.2 1)))) :: (q9 0, .inr (4, [.int (N9.1 0 0), .int (N9.1 0 1), .ref (q9 1)])) :: (q9 1, .inl (gA G 2, 40, .inr (.inl (N9.2 1)))) :: (q8, .inl (gA G 0, 7, .inl (fun _ => 0))) :: (q7, .inl (gA G 3, 4, .inr (.inr (.inr (.inr (va_up (va_up (va_up (fun _ => none) (Int32.toNatClampNeg 0) (some (q9 0))) (Int32.toNatClampNeg 1) (some (q10 0))) (Int32.toNatClampNeg 2) (some (q11 0)))))))) :: (wlR q6 (gA G) N6 Sz5 ++ (wlR q5 (gA G) N5 Sz3 ++ (wlR q4 (gA G) N4 Sz2 ++ (wlR q3 (gA G) N3 Sz1 ++ (wlR q2 (gA G) N2 Sz1 ++ (wlR q1 (gA G) N1 Sz1 ++ []))))))) dX6_init_110 rfl rfl (by unfold vp_in; decide) rfl ?_
  refine Bo.iinc (k := 0) (v := 3) (lv' := [(1, .int 3), (0, .ref b)]) dX6_init_111 rfl (by decide) (by decide) rfl ?_
  refine Bo.goto 93 dX6_init_114 rfl ?_
  refine Bo.iload_n (j := 0) dX6_init_93 rfl rfl ?_
  refine Bo.iconst (v := 4) dX6_init_94 (by decide) ?_
  refine Bo.icmp_geF 117 dX6_init_95 rfl (by decide) ?_
  refine Bo.aload_n (j := 1) dX6_init_98 rfl rfl ?_
  refine Bo.get (r := q7) dX6_init_99 flX6_49 rfl ?_
  refine Bo.iload_n (j := 0) dX6_init_102 rfl rfl ?_
  refine Bo.newc (mt' := mX4_init) (ci := 4) (ty := tyX4) dX6_init_103 dX6_init_106 dX6_init_107 kClX6_47 kIn4 lkX6_57 imX4_init cbX4_init rfl rfl rfl tyX4_ok (dfX4) n_X4 (by decide) (by decide) (Nat.le_of_ble_eq_true rfl) (Nat.le_of_ble_eq_true rfl) (Nat.le_of_ble_eq_true rfl) (fun b12 w12 h12 => ?_)
  obtain ⟨q12, N12, rfl, f12, rfl⟩ := h12
  rw [wl_eq Sz4_ok.1 Sz4_ok.2]
  refine Bo.eq (ws' := (b, .inr (6, [.ref (q1 0), .ref (q2 0), .ref (q3 0), .int 0, .ref (q4 0), .ref (q5 0), .ref (q6 0), .ref q7, .ref q8])) :: (q12 0, .inr (4, [.int (N12.1 0 0), .int (N12.1 0 1), .ref (q12 1)])) :: (q12 1, .inl (gA G 2, 40, .inr (.inl (N12.2 1)))) :: (q11 0, .inr (4, [.int (N11.1 0 0), .int (N11.1 0 1), .ref (q11 1)])) :: (q11 1, .inl (gA G 2, 40, .inr (.inl (N11.2 1)))) :: (q10 0, .inr (4, [.int (N10.1 0 0), .int (N10.1 0 1), .ref (q10 1)])) :: (q10 1, .inl (gA G 2, 40, .inr (.inl (N10.2 1)))) :: (q9 0, .inr (4, [.int (N9.1 0 0), .int (N9.1 0 1), .ref (q9 1)])) :: (q9 1, .inl (gA G 2, 40, .inr (.inl (N9.2 1)))) :: (q8, .inl (gA G 0, 7, .inl (fun _ => 0))) :: (q7, .inl (gA G 3, 4, .inr (.inr (.inr (.inr (va_up (va_up (va_up (fun _ => none) (Int32.toNatClampNeg 0) (some (q9 0))) (Int32.toNatClampNeg 1) (some (q10 0))) (Int32.toNatClampNeg 2) (some (q11 0)))))))) :: (wlR q6 (gA G) N6 Sz5 ++ (wlR q5 (gA G) N5 Sz3 ++ (wlR q4 (gA G) N4 Sz2 ++ (wlR q3 (gA G) N3 Sz1 ++ (wlR q2 (gA G) N2 Sz1 ++ (wlR q1 (gA G) N1 Sz1 ++ []))))))) rfl ?_
  refine Bo.astq 10 1 (ws' := (b, .inr (6, [.ref (q1 0), .ref (q2 0), .ref (q3 0), .int 0, .ref (q4 0), .ref (q5 0), .ref (q6 0), .ref q7, .ref q8])) :: (q12 0, .inr (4, [.int (N12.1 0 0), .int (N12.1 0 1), .ref (q12 1)])) :: (q12 1, .inl (gA G 2, 40, .inr (.inl (N12.2 1)))) :: (q11 0, .inr (4, [.int (N11.1 0 0), .int (N11.1 0 1), .ref (q11 1)])) :: (q11 1, .inl (gA G 2, 40, .inr (.inl (N11.2 1)))) :: (q10 0, .inr (4, [.int (N10.1 0 0), .int (N10.1 0 1), .ref (q10 1)])) :: (q10 1, .inl (gA G 2, 40, .inr (.inl (N10.2 1)))) :: (q9 0, .inr (4, [.int (N9.1 0 0), .int (N9.1 0 1), .ref (q9 1)])) :: (q9 1, .inl (gA G 2, 40, .inr (.inl (N9.2 1)))) :: (q8, .inl (gA G 0, 7, .inl (fun _ => 0))) :: (q7, .inl (gA G 3, 4, .inr (.inr (.inr (.inr (va_up (va_up (va_up (va_up (fun _ => none) (Int32.toNatClampNeg 0) (some (q9 0))) (Int32.toNatClampNeg 1) (some (q10 0))) (Int32.toNatClampNeg 2) (some (q11 0))) (Int32.toNatClampNeg 3) (some (q12 0)))))))) :: (wlR q6 (gA G) N6 Sz5 ++ (wlR q5 (gA G) N5 Sz3 ++ (wlR q4 (gA G) N4 Sz2 ++ (wlR q3 (gA G) N3 Sz1 ++ (wlR q2 (gA G) N2 Sz1 ++ (wlR q1 (gA G) N1 Sz1 ++ []))))))) dX6_init_110 rfl rfl (by unfold vp_in; decide) rfl ?_
  refine Bo.iinc (k := 0) (v := 4) (lv' := [(1, .int 4), (0, .ref b)]) dX6_init_111 rfl (by decide) (by decide) rfl ?_
  refine Bo.goto 93 dX6_init_114 rfl ?_
  refine Bo.iload_n (j := 0) dX6_init_93 rfl rfl ?_
  refine Bo.iconst (v := 4) dX6_init_94 (by decide) ?_
  refine Bo.icmp_geT 117 dX6_init_95 rfl (by decide) ?_
  exact Bo.ret dX6_init_117 (Nat.le_of_ble_eq_true rfl) (Nat.le_of_ble_eq_true rfl) ⟨q1, q2, q3, q4, q5, q6, q9, q10, q11, q12, N1, N2, N3, N4, N5, N6, N9, N10, N11, N12, q8, q7, _, f1, f2, f3, f4, f6, f9, f10, f11, f12, shf4, rfl⟩
