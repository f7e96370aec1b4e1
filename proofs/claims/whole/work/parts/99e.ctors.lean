theorem dfX0 : ∀ j, j < 2 → defaultValue (tyX0 j) = vp_V [.null, .null] j := by
  intro j hj
  match j, hj with
  | 0, _ => rfl
  | 1, _ => rfl
  | j + 2, h => exact absurd h (by omega)
theorem dfX1 : ∀ j, j < 10 → defaultValue (tyX1 j) = vp_V [.null, .null, .null, .null, .null, .null, .null, .int 0, .int 0, .int 0] j := by
  intro j hj
  match j, hj with
  | 0, _ => rfl
  | 1, _ => rfl
  | 2, _ => rfl
  | 3, _ => rfl
  | 4, _ => rfl
  | 5, _ => rfl
  | 6, _ => rfl
  | 7, _ => rfl
  | 8, _ => rfl
  | 9, _ => rfl
  | j + 10, h => exact absurd h (by omega)
theorem dfX2 : ∀ j, j < 7 → defaultValue (tyX2 j) = vp_V [.null, .null, .int 0, .null, .null, .null, .null] j := by
  intro j hj
  match j, hj with
  | 0, _ => rfl
  | 1, _ => rfl
  | 2, _ => rfl
  | 3, _ => rfl
  | 4, _ => rfl
  | 5, _ => rfl
  | 6, _ => rfl
  | j + 7, h => exact absurd h (by omega)
theorem dfX3 : ∀ j, j < 2 → defaultValue (tyX3 j) = vp_V [.null, .null] j := by
  intro j hj
  match j, hj with
  | 0, _ => rfl
  | 1, _ => rfl
  | j + 2, h => exact absurd h (by omega)
theorem dfX4 : ∀ j, j < 3 → defaultValue (tyX4 j) = vp_V [.int 0, .int 0, .null] j := by
  intro j hj
  match j, hj with
  | 0, _ => rfl
  | 1, _ => rfl
  | 2, _ => rfl
  | j + 3, h => exact absurd h (by omega)
theorem dfX5 : ∀ j, j < 6 → defaultValue (tyX5 j) = vp_V [.int 0, .null, .int 0, .int 0, .int 0, .int 0] j := by
  intro j hj
  match j, hj with
  | 0, _ => rfl
  | 1, _ => rfl
  | 2, _ => rfl
  | 3, _ => rfl
  | 4, _ => rfl
  | 5, _ => rfl
  | j + 6, h => exact absurd h (by omega)
theorem dfX6 : ∀ j, j < 9 → defaultValue (tyX6 j) = vp_V [.null, .null, .null, .int 0, .null, .null, .null, .null, .null] j := by
  intro j hj
  match j, hj with
  | 0, _ => rfl
  | 1, _ => rfl
  | 2, _ => rfl
  | 3, _ => rfl
  | 4, _ => rfl
  | 5, _ => rfl
  | 6, _ => rfl
  | 7, _ => rfl
  | 8, _ => rfl
  | j + 9, h => exact absurd h (by omega)
theorem dfX7 : ∀ j, j < 36 → defaultValue (tyX7 j) = vp_V [.null, .null, .null, .int 0, .int 0, .null, .null, .null, .null, .null, .null, .null, .null, .null, .int 0, .null, .null, .null, .int 0, .null, .int 0, .int 0, .int 0, .int 0, .long 0, .int 0, .int 0, .null, .null, .null, .null, .null, .null, .int 0, .int 0, .null] j := by
  intro j hj
  match j, hj with
  | 0, _ => rfl
  | 1, _ => rfl
  | 2, _ => rfl
  | 3, _ => rfl
  | 4, _ => rfl
  | 5, _ => rfl
  | 6, _ => rfl
  | 7, _ => rfl
  | 8, _ => rfl
  | 9, _ => rfl
  | 10, _ => rfl
  | 11, _ => rfl
  | 12, _ => rfl
  | 13, _ => rfl
  | 14, _ => rfl
  | 15, _ => rfl
  | 16, _ => rfl
  | 17, _ => rfl
  | 18, _ => rfl
  | 19, _ => rfl
  | 20, _ => rfl
  | 21, _ => rfl
  | 22, _ => rfl
  | 23, _ => rfl
  | 24, _ => rfl
  | 25, _ => rfl
  | 26, _ => rfl
  | 27, _ => rfl
  | 28, _ => rfl
  | 29, _ => rfl
  | 30, _ => rfl
  | 31, _ => rfl
  | 32, _ => rfl
  | 33, _ => rfl
  | 34, _ => rfl
  | 35, _ => rfl
  | j + 36, h => exact absurd h (by omega)
def Sz0 : List Sh := [.inr (0, [.inl (some 2), .inl (some 1)]), .inl (0, 256, []), .inl (0, 256, [])]
theorem Sz0_ok : Sz0.all shB = true ∧ Sz0.length ≤ 1000 := by decide +kernel
def Ftz0 : Mm → Prop := fun _ => True
set_option maxRecDepth 20000 in
set_option maxHeartbeats 1000000 in
theorem n_X0 {G : Gt} : Cn G mX0_init 0 [.null, .null] 1 20 2 512 (Pw G Sz0 Ftz0) := by
  refine Cn.of (by decide) (by decide) rfl (fun b => ?_)
  refine Bo.aload_n (j := 0) dX0_init_0 rfl rfl ?_
  refine Bo.objInit dX0_init_1 kOi0 (by decide) (by decide) (Nat.le_of_ble_eq_true rfl) ?_
  refine Bo.aload_n (j := 0) dX0_init_4 rfl rfl ?_
  refine Bo.sipush (v := 256) dX0_init_5 (by decide) ?_
  refine Bo.newA (t0 := 0) (a0 := (256, .inl (fun _ => 0))) dX0_init_8 rfl kAi rfl (fun _ h => h) (fun _ => rfl) (by decide) (by decide) (by decide) (Nat.le_of_ble_eq_true rfl) (Nat.le_of_ble_eq_true rfl) (fun q1 => ?_)
  refine Bo.fin (ty := .array .int) (fs' := [.ref q1, .null]) dX0_init_10 rfl flX0_9 (fun C T N h => by cases h; exact ⟨rfl, rfl, by decide +kernel⟩) rfl rfl (Nat.le_of_ble_eq_true rfl) rfl ?_
  refine Bo.aload_n (j := 0) dX0_init_13 rfl rfl ?_
  refine Bo.sipush (v := 256) dX0_init_14 (by decide) ?_
  refine Bo.newA (t0 := 0) (a0 := (256, .inl (fun _ => 0))) dX0_init_17 rfl kAi rfl (fun _ h => h) (fun _ => rfl) (by decide) (by decide) (by decide) (Nat.le_of_ble_eq_true rfl) (Nat.le_of_ble_eq_true rfl) (fun q2 => ?_)
  refine Bo.fin (ty := .array .int) (fs' := [.ref q1, .ref q2]) dX0_init_19 rfl flX0_15 (fun C T N h => by cases h; exact ⟨rfl, rfl, by decide +kernel⟩) rfl rfl (Nat.le_of_ble_eq_true rfl) rfl ?_
  exact Bo.ret dX0_init_22 (Nat.le_of_ble_eq_true rfl) (Nat.le_of_ble_eq_true rfl) ⟨fun k => ([b, q2, q1] : List Nat).getD k 0, (fun k => ([fun j => ([0, 0] : List Int32).getD j 0, fun _ => 0, fun _ => 0] : List (Nat → Int32)).getD k (fun _ => 0), fun _ _ => 0), rfl, trivial, by rw [wl_eq Sz0_ok.1 Sz0_ok.2]; rfl⟩
def Sz3 : List Sh := [.inr (3, [.inl (some 2), .inl (some 1)]), .inl (0, 256, []), .inl (0, 256, [])]
theorem Sz3_ok : Sz3.all shB = true ∧ Sz3.length ≤ 1000 := by decide +kernel
def Ftz3 : Mm → Prop := fun _ => True
set_option maxRecDepth 20000 in
set_option maxHeartbeats 1000000 in
theorem n_X3 {G : Gt} : Cn G mX3_init 3 [.null, .null] 1 20 2 512 (Pw G Sz3 Ftz3) := by
  refine Cn.of (by decide) (by decide) rfl (fun b => ?_)
  refine Bo.aload_n (j := 0) dX3_init_0 rfl rfl ?_
  refine Bo.objInit dX3_init_1 kOi3 (by decide) (by decide) (Nat.le_of_ble_eq_true rfl) ?_
  refine Bo.aload_n (j := 0) dX3_init_4 rfl rfl ?_
  refine Bo.sipush (v := 256) dX3_init_5 (by decide) ?_
  refine Bo.newA (t0 := 0) (a0 := (256, .inl (fun _ => 0))) dX3_init_8 rfl kAi rfl (fun _ h => h) (fun _ => rfl) (by decide) (by decide) (by decide) (Nat.le_of_ble_eq_true rfl) (Nat.le_of_ble_eq_true rfl) (fun q1 => ?_)
  refine Bo.fin (ty := .array .int) (fs' := [.ref q1, .null]) dX3_init_10 rfl flX3_9 (fun C T N h => by cases h; exact ⟨rfl, rfl, by decide +kernel⟩) rfl rfl (Nat.le_of_ble_eq_true rfl) rfl ?_
  refine Bo.aload_n (j := 0) dX3_init_13 rfl rfl ?_
  refine Bo.sipush (v := 256) dX3_init_14 (by decide) ?_
  refine Bo.newA (t0 := 0) (a0 := (256, .inl (fun _ => 0))) dX3_init_17 rfl kAi rfl (fun _ h => h) (fun _ => rfl) (by decide) (by decide) (by decide) (Nat.le_of_ble_eq_true rfl) (Nat.le_of_ble_eq_true rfl) (fun q2 => ?_)
  refine Bo.fin (ty := .array .int) (fs' := [.ref q1, .ref q2]) dX3_init_19 rfl flX3_15 (fun C T N h => by cases h; exact ⟨rfl, rfl, by decide +kernel⟩) rfl rfl (Nat.le_of_ble_eq_true rfl) rfl ?_
  exact Bo.ret dX3_init_22 (Nat.le_of_ble_eq_true rfl) (Nat.le_of_ble_eq_true rfl) ⟨fun k => ([b, q2, q1] : List Nat).getD k 0, (fun k => ([fun j => ([0, 0] : List Int32).getD j 0, fun _ => 0, fun _ => 0] : List (Nat → Int32)).getD k (fun _ => 0), fun _ _ => 0), rfl, trivial, by rw [wl_eq Sz3_ok.1 Sz3_ok.2]; rfl⟩
def Sz4 : List Sh := [.inr (4, [.inr true, .inr true, .inl (some 1)]), .inl (2, 40, [])]
theorem Sz4_ok : Sz4.all shB = true ∧ Sz4.length ≤ 1000 := by decide +kernel
def Ftz4 : Mm → Prop := fun N => N.1 0 0 = 0 ∧ N.1 0 1 = 0 ∧ ∀ i, i < 40 → N.2 1 i = 0
set_option maxRecDepth 20000 in
set_option maxHeartbeats 1000000 in
theorem n_X4 {G : Gt} : Cn G mX4_init 4 [.int 0, .int 0, .null] 1 20 1 40 (Pw G Sz4 Ftz4) := by
  refine Cn.of (by decide) (by decide) rfl (fun b => ?_)
  refine Bo.aload_n (j := 0) dX4_init_0 rfl rfl ?_
  refine Bo.objInit dX4_init_1 kOi4 (by decide) (by decide) (Nat.le_of_ble_eq_true rfl) ?_
  refine Bo.aload_n (j := 0) dX4_init_4 rfl rfl ?_
  refine Bo.iconst (v := 0) dX4_init_5 (by decide) ?_
  refine Bo.put (fs' := [.int 0, .int 0, .null]) dX4_init_6 fpX4_9 rfl rfl (Nat.le_of_ble_eq_true rfl) rfl ?_
  refine Bo.aload_n (j := 0) dX4_init_9 rfl rfl ?_
  refine Bo.iconst (v := 0) dX4_init_10 (by decide) ?_
  refine Bo.put (fs' := [.int 0, .int 0, .null]) dX4_init_11 fpX4_15 rfl rfl (Nat.le_of_ble_eq_true rfl) rfl ?_
  refine Bo.aload_n (j := 0) dX4_init_14 rfl rfl ?_
  refine Bo.bipush (v := 40) dX4_init_15 (by decide) ?_
  refine Bo.newA (t0 := 2) (a0 := (40, .inr (.inl (fun _ => 0)))) dX4_init_17 rfl kAl rfl (fun _ h => h) (fun _ => rfl) (by decide) (by decide) (by decide) (Nat.le_of_ble_eq_true rfl) (Nat.le_of_ble_eq_true rfl) (fun q1 => ?_)
  refine Bo.fin (ty := .array .long) (fs' := [.int 0, .int 0, .ref q1]) dX4_init_19 rfl flX4_18 (fun C T N h => by cases h; exact ⟨rfl, rfl, by decide +kernel⟩) rfl rfl (Nat.le_of_ble_eq_true rfl) rfl ?_
  exact Bo.ret dX4_init_22 (Nat.le_of_ble_eq_true rfl) (Nat.le_of_ble_eq_true rfl) ⟨fun k => ([b, q1] : List Nat).getD k 0, (fun k => ([fun j => ([0, 0, 0] : List Int32).getD j 0, fun _ => 0] : List (Nat → Int32)).getD k (fun _ => 0), fun k => ([fun _ => 0, fun _ => 0] : List (Nat → Int64)).getD k (fun _ => 0)), rfl, ⟨rfl, rfl, fun _ _ => rfl⟩, by rw [wl_eq Sz4_ok.1 Sz4_ok.2]; rfl⟩
def Sz5 : List Sh := [.inr (5, [.inr true, .inl (some 1), .inr true, .inr true, .inr true, .inr true]), .inl (0, 120, [])]
theorem Sz5_ok : Sz5.all shB = true ∧ Sz5.length ≤ 1000 := by decide +kernel
def Ftz5 : Mm → Prop := fun N => N.1 0 0 = 0
set_option maxRecDepth 20000 in
set_option maxHeartbeats 1000000 in
theorem n_X5 {G : Gt} : Cn G mX5_init 5 [.int 0, .null, .int 0, .int 0, .int 0, .int 0] 1 20 1 120 (Pw G Sz5 Ftz5) := by
  refine Cn.of (by decide) (by decide) rfl (fun b => ?_)
  refine Bo.aload_n (j := 0) dX5_init_0 rfl rfl ?_
  refine Bo.objInit dX5_init_1 kOi5 (by decide) (by decide) (Nat.le_of_ble_eq_true rfl) ?_
  refine Bo.aload_n (j := 0) dX5_init_4 rfl rfl ?_
  refine Bo.iconst (v := 0) dX5_init_5 (by decide) ?_
  refine Bo.put (fs' := [.int 0, .null, .int 0, .int 0, .int 0, .int 0]) dX5_init_6 fpX5_9 rfl rfl (Nat.le_of_ble_eq_true rfl) rfl ?_
  refine Bo.aload_n (j := 0) dX5_init_9 rfl rfl ?_
  refine Bo.bipush (v := 120) dX5_init_10 (by decide) ?_
  refine Bo.newA (t0 := 0) (a0 := (120, .inl (fun _ => 0))) dX5_init_12 rfl kAi rfl (fun _ h => h) (fun _ => rfl) (by decide) (by decide) (by decide) (Nat.le_of_ble_eq_true rfl) (Nat.le_of_ble_eq_true rfl) (fun q1 => ?_)
  refine Bo.fin (ty := .array .int) (fs' := [.int 0, .ref q1, .int 0, .int 0, .int 0, .int 0]) dX5_init_14 rfl flX5_15 (fun C T N h => by cases h; exact ⟨rfl, rfl, by decide +kernel⟩) rfl rfl (Nat.le_of_ble_eq_true rfl) rfl ?_
  refine Bo.aload_n (j := 0) dX5_init_17 rfl rfl ?_
  refine Bo.iconst (v := 0) dX5_init_18 (by decide) ?_
  refine Bo.put (fs' := [.int 0, .ref q1, .int 0, .int 0, .int 0, .int 0]) dX5_init_19 fpX5_19 rfl rfl (Nat.le_of_ble_eq_true rfl) rfl ?_
  refine Bo.aload_n (j := 0) dX5_init_22 rfl rfl ?_
  refine Bo.iconst (v := 0) dX5_init_23 (by decide) ?_
  refine Bo.put (fs' := [.int 0, .ref q1, .int 0, .int 0, .int 0, .int 0]) dX5_init_24 fpX5_22 rfl rfl (Nat.le_of_ble_eq_true rfl) rfl ?_
  refine Bo.aload_n (j := 0) dX5_init_27 rfl rfl ?_
  refine Bo.iconst (v := 0) dX5_init_28 (by decide) ?_
  refine Bo.put (fs' := [.int 0, .ref q1, .int 0, .int 0, .int 0, .int 0]) dX5_init_29 fpX5_25 rfl rfl (Nat.le_of_ble_eq_true rfl) rfl ?_
  refine Bo.aload_n (j := 0) dX5_init_32 rfl rfl ?_
  refine Bo.iconst (v := 0) dX5_init_33 (by decide) ?_
  refine Bo.put (fs' := [.int 0, .ref q1, .int 0, .int 0, .int 0, .int 0]) dX5_init_34 fpX5_28 rfl rfl (Nat.le_of_ble_eq_true rfl) rfl ?_
  exact Bo.ret dX5_init_37 (Nat.le_of_ble_eq_true rfl) (Nat.le_of_ble_eq_true rfl) ⟨fun k => ([b, q1] : List Nat).getD k 0, (fun k => ([fun j => ([0, 0, 0, 0, 0, 0] : List Int32).getD j 0, fun _ => 0] : List (Nat → Int32)).getD k (fun _ => 0), fun _ _ => 0), rfl, rfl, by rw [wl_eq Sz5_ok.1 Sz5_ok.2]; rfl⟩
def Sz1 : List Sh := [.inr (1, [.inl (some 7), .inl (some 6), .inl (some 5), .inl (some 4), .inl (some 3), .inl (some 2), .inl (some 1), .inr true, .inr true, .inr true]), .inl (0, 30, []), .inl (0, 30, []), .inl (0, 30, []), .inl (0, 4, []), .inl (0, 5, []), .inl (0, 8, []), .inl (0, 8, [])]
theorem Sz1_ok : Sz1.all shB = true ∧ Sz1.length ≤ 1000 := by decide +kernel
def Ftz1 : Mm → Prop := fun N => (∀ t, t < 8 → N.1 7 t = 5) ∧ (∀ t, t < 8 → N.1 6 t = 0) ∧ (∀ t, t < 5 → N.1 5 t = 0) ∧ (∀ t, t < 4 → N.1 4 t = 0) ∧ N.1 0 7 = 0 ∧ N.1 0 8 = 3 ∧ N.1 0 9 = 0
set_option maxRecDepth 20000 in
set_option maxHeartbeats 1000000 in
theorem n_X1 {G : Gt} : Cn G mX1_init 1 [.null, .null, .null, .null, .null, .null, .null, .int 0, .int 0, .int 0] 1 40 7 115 (Pw G Sz1 Ftz1) := by
  refine Cn.of (by decide) (by decide) rfl (fun b => ?_)
  refine Bo.aload_n (j := 0) dX1_init_0 rfl rfl ?_
  refine Bo.objInit dX1_init_1 kOi1 (by decide) (by decide) (Nat.le_of_ble_eq_true rfl) ?_
  refine Bo.aload_n (j := 0) dX1_init_4 rfl rfl ?_
  refine Bo.bipush (v := 8) dX1_init_5 (by decide) ?_
  refine Bo.newA (t0 := 0) (a0 := (8, .inl (fun _ => 0))) dX1_init_7 rfl kAi rfl (fun _ h => h) (fun _ => rfl) (by decide) (by decide) (by decide) (Nat.le_of_ble_eq_true rfl) (Nat.le_of_ble_eq_true rfl) (fun q1 => ?_)
  refine Bo.fin (ty := .array .int) (fs' := [.ref q1, .null, .null, .null, .null, .null, .null, .int 0, .int 0, .int 0]) dX1_init_9 rfl flX1_9 (fun C T N h => by cases h; exact ⟨rfl, rfl, by decide +kernel⟩) rfl rfl (Nat.le_of_ble_eq_true rfl) rfl ?_
  refine Bo.aload_n (j := 0) dX1_init_12 rfl rfl ?_
  refine Bo.bipush (v := 8) dX1_init_13 (by decide) ?_
  refine Bo.newA (t0 := 0) (a0 := (8, .inl (fun _ => 0))) dX1_init_15 rfl kAi rfl (fun _ h => h) (fun _ => rfl) (by decide) (by decide) (by decide) (Nat.le_of_ble_eq_true rfl) (Nat.le_of_ble_eq_true rfl) (fun q2 => ?_)
  refine Bo.fin (ty := .array .int) (fs' := [.ref q1, .ref q2, .null, .null, .null, .null, .null, .int 0, .int 0, .int 0]) dX1_init_17 rfl flX1_15 (fun C T N h => by cases h; exact ⟨rfl, rfl, by decide +kernel⟩) rfl rfl (Nat.le_of_ble_eq_true rfl) rfl ?_
  refine Bo.aload_n (j := 0) dX1_init_20 rfl rfl ?_
  refine Bo.iconst (v := 5) dX1_init_21 (by decide) ?_
  refine Bo.newA (t0 := 0) (a0 := (5, .inl (fun _ => 0))) dX1_init_22 rfl kAi rfl (fun _ h => h) (fun _ => rfl) (by decide) (by decide) (by decide) (Nat.le_of_ble_eq_true rfl) (Nat.le_of_ble_eq_true rfl) (fun q3 => ?_)
  refine Bo.fin (ty := .array .int) (fs' := [.ref q1, .ref q2, .ref q3, .null, .null, .null, .null, .int 0, .int 0, .int 0]) dX1_init_24 rfl flX1_18 (fun C T N h => by cases h; exact ⟨rfl, rfl, by decide +kernel⟩) rfl rfl (Nat.le_of_ble_eq_true rfl) rfl ?_
  refine Bo.aload_n (j := 0) dX1_init_27 rfl rfl ?_
  refine Bo.iconst (v := 4) dX1_init_28 (by decide) ?_
  refine Bo.newA (t0 := 0) (a0 := (4, .inl (fun _ => 0))) dX1_init_29 rfl kAi rfl (fun _ h => h) (fun _ => rfl) (by decide) (by decide) (by decide) (Nat.le_of_ble_eq_true rfl) (Nat.le_of_ble_eq_true rfl) (fun q4 => ?_)
  refine Bo.fin (ty := .array .int) (fs' := [.ref q1, .ref q2, .ref q3, .ref q4, .null, .null, .null, .int 0, .int 0, .int 0]) dX1_init_31 rfl flX1_21 (fun C T N h => by cases h; exact ⟨rfl, rfl, by decide +kernel⟩) rfl rfl (Nat.le_of_ble_eq_true rfl) rfl ?_
  refine Bo.aload_n (j := 0) dX1_init_34 rfl rfl ?_
  refine Bo.bipush (v := 30) dX1_init_35 (by decide) ?_
  refine Bo.newA (t0 := 0) (a0 := (30, .inl (fun _ => 0))) dX1_init_37 rfl kAi rfl (fun _ h => h) (fun _ => rfl) (by decide) (by decide) (by decide) (Nat.le_of_ble_eq_true rfl) (Nat.le_of_ble_eq_true rfl) (fun q5 => ?_)
  refine Bo.fin (ty := .array .int) (fs' := [.ref q1, .ref q2, .ref q3, .ref q4, .ref q5, .null, .null, .int 0, .int 0, .int 0]) dX1_init_39 rfl flX1_24 (fun C T N h => by cases h; exact ⟨rfl, rfl, by decide +kernel⟩) rfl rfl (Nat.le_of_ble_eq_true rfl) rfl ?_
  refine Bo.aload_n (j := 0) dX1_init_42 rfl rfl ?_
  refine Bo.bipush (v := 30) dX1_init_43 (by decide) ?_
  refine Bo.newA (t0 := 0) (a0 := (30, .inl (fun _ => 0))) dX1_init_45 rfl kAi rfl (fun _ h => h) (fun _ => rfl) (by decide) (by decide) (by decide) (Nat.le_of_ble_eq_true rfl) (Nat.le_of_ble_eq_true rfl) (fun q6 => ?_)
  refine Bo.fin (ty := .array .int) (fs' := [.ref q1, .ref q2, .ref q3, .ref q4, .ref q5, .ref q6, .null, .int 0, .int 0, .int 0]) dX1_init_47 rfl flX1_27 (fun C T N h => by cases h; exact ⟨rfl, rfl, by decide +kernel⟩) rfl rfl (Nat.le_of_ble_eq_true rfl) rfl ?_
  refine Bo.aload_n (j := 0) dX1_init_50 rfl rfl ?_
  refine Bo.bipush (v := 30) dX1_init_51 (by decide) ?_
  refine Bo.newA (t0 := 0) (a0 := (30, .inl (fun _ => 0))) dX1_init_53 rfl kAi rfl (fun _ h => h) (fun _ => rfl) (by decide) (by decide) (by decide) (Nat.le_of_ble_eq_true rfl) (Nat.le_of_ble_eq_true rfl) (fun q7 => ?_)
  refine Bo.fin (ty := .array .int) (fs' := [.ref q1, .ref q2, .ref q3, .ref q4, .ref q5, .ref q6, .ref q7, .int 0, .int 0, .int 0]) dX1_init_55 rfl flX1_30 (fun C T N h => by cases h; exact ⟨rfl, rfl, by decide +kernel⟩) rfl rfl (Nat.le_of_ble_eq_true rfl) rfl ?_
  refine Bo.aload_n (j := 0) dX1_init_58 rfl rfl ?_
  refine Bo.iconst (v := 0) dX1_init_59 (by decide) ?_
  refine Bo.put (fs' := [.ref q1, .ref q2, .ref q3, .ref q4, .ref q5, .ref q6, .ref q7, .int 0, .int 0, .int 0]) dX1_init_60 fpX1_33 rfl rfl (Nat.le_of_ble_eq_true rfl) rfl ?_
  refine Bo.aload_n (j := 0) dX1_init_63 rfl rfl ?_
  refine Bo.iconst (v := 3) dX1_init_64 (by decide) ?_
  refine Bo.put (fs' := [.ref q1, .ref q2, .ref q3, .ref q4, .ref q5, .ref q6, .ref q7, .int 0, .int 3, .int 0]) dX1_init_65 fpX1_37 rfl rfl (Nat.le_of_ble_eq_true rfl) rfl ?_
  refine Bo.aload_n (j := 0) dX1_init_68 rfl rfl ?_
  refine Bo.iconst (v := 0) dX1_init_69 (by decide) ?_
  refine Bo.put (fs' := [.ref q1, .ref q2, .ref q3, .ref q4, .ref q5, .ref q6, .ref q7, .int 0, .int 3, .int 0]) dX1_init_70 fpX1_40 rfl rfl (Nat.le_of_ble_eq_true rfl) rfl ?_
  refine Bo.tail Sz1 (fun k => ([b, q7, q6, q5, q4, q3, q2, q1] : List Nat).getD k 0) (fun k => ([fun j => ([0, 0, 0, 0, 0, 0, 0, 0, 3, 0] : List Int32).getD j 0, fun _ => 0, fun _ => 0, fun _ => 0, fun _ => 0, fun _ => 0, fun _ => 0, fun _ => 0] : List (Nat → Int32)).getD k (fun _ => 0), fun _ _ => 0) 1 [some (.ref 0)] (t_bureau (q := 0) (r := 7) (d := 0) rfl rfl) Sz1_ok rfl rfl (l2z (n := 0) (List.mem_cons_self)) (by decide) (by decide) (Nat.le_of_ble_eq_true rfl) (Nat.le_of_ble_eq_true rfl) (fun M' hM => ?_)
  subst hM
  exact ⟨_, _, rfl, ⟨fun t ht => if_pos ht, fun _ _ => rfl, fun _ _ => rfl, fun _ _ => rfl, rfl, rfl, rfl⟩, rfl⟩
def Sz2 : List Sh := [.inr (2, [.inl (some 8), .inl (some 5), .inr true, .inl (some 4), .inl (some 3), .inl (some 2), .inl (some 1)]), .inl (0, 256, []), .inl (0, 20, []), .inl (0, 20, []), .inl (0, 256, []), .inr (0, [.inl (some 7), .inl (some 6)]), .inl (0, 256, []), .inl (0, 256, []), .inl (0, 8, [])]
theorem Sz2_ok : Sz2.all shB = true ∧ Sz2.length ≤ 1000 := by decide +kernel
def Ftz2 : Mm → Prop := fun N => ∀ s, s < 256 → N.1 1 s = 1048575
set_option maxRecDepth 20000 in
set_option maxHeartbeats 1000000 in
theorem n_X2 {G : Gt} : Cn G mX2_init 2 [.null, .null, .int 0, .null, .null, .null, .null] 2 40 8 1074 (Pw G Sz2 Ftz2) := by
  refine Cn.of (by decide) (by decide) rfl (fun b => ?_)
  refine Bo.aload_n (j := 0) dX2_init_0 rfl rfl ?_
  refine Bo.objInit dX2_init_1 kOi2 (by decide) (by decide) (Nat.le_of_ble_eq_true rfl) ?_
  refine Bo.aload_n (j := 0) dX2_init_4 rfl rfl ?_
  refine Bo.bipush (v := 8) dX2_init_5 (by decide) ?_
  refine Bo.newA (t0 := 0) (a0 := (8, .inl (fun _ => 0))) dX2_init_7 rfl kAi rfl (fun _ h => h) (fun _ => rfl) (by decide) (by decide) (by decide) (Nat.le_of_ble_eq_true rfl) (Nat.le_of_ble_eq_true rfl) (fun q1 => ?_)
  refine Bo.fin (ty := .array .int) (fs' := [.ref q1, .null, .int 0, .null, .null, .null, .null]) dX2_init_9 rfl flX2_9 (fun C T N h => by cases h; exact ⟨rfl, rfl, by decide +kernel⟩) rfl rfl (Nat.le_of_ble_eq_true rfl) rfl ?_
  refine Bo.aload_n (j := 0) dX2_init_12 rfl rfl ?_
  refine Bo.newc (mt' := mX0_init) (ci := 0) (ty := tyX0) dX2_init_13 dX2_init_16 dX2_init_17 kClX2_15 kIn0 lkX2_17 imX0_init cbX0_init rfl rfl rfl tyX0_ok (dfX0) n_X0 (by decide) (by decide) (Nat.le_of_ble_eq_true rfl) (Nat.le_of_ble_eq_true rfl) (Nat.le_of_ble_eq_true rfl) (fun b2 w2 h2 => ?_)
  obtain ⟨q2, N2, rfl, f2, rfl⟩ := h2
  rw [wl_eq Sz0_ok.1 Sz0_ok.2]
  refine Bo.fin (ty := .object "NewDishes$Barred") (fs' := [.ref q1, .ref (q2 0), .int 0, .null, .null, .null, .null]) dX2_init_20 rfl flX2_18 (fun C T N h => by cases h; exact ⟨rfl, rfl, by decide +kernel⟩) rfl rfl (Nat.le_of_ble_eq_true rfl) rfl ?_
  refine Bo.aload_n (j := 0) dX2_init_23 rfl rfl ?_
  refine Bo.iconst (v := 0) dX2_init_24 (by decide) ?_
  refine Bo.put (fs' := [.ref q1, .ref (q2 0), .int 0, .null, .null, .null, .null]) dX2_init_25 fpX2_22 rfl rfl (Nat.le_of_ble_eq_true rfl) rfl ?_
  refine Bo.aload_n (j := 0) dX2_init_28 rfl rfl ?_
  refine Bo.sipush (v := 256) dX2_init_29 (by decide) ?_
  refine Bo.newA (t0 := 0) (a0 := (256, .inl (fun _ => 0))) dX2_init_32 rfl kAi rfl (fun _ h => h) (fun _ => rfl) (by decide) (by decide) (by decide) (Nat.le_of_ble_eq_true rfl) (Nat.le_of_ble_eq_true rfl) (fun q3 => ?_)
  refine Bo.fin (ty := .array .int) (fs' := [.ref q1, .ref (q2 0), .int 0, .ref q3, .null, .null, .null]) dX2_init_34 rfl flX2_26 (fun C T N h => by cases h; exact ⟨rfl, rfl, by decide +kernel⟩) rfl rfl (Nat.le_of_ble_eq_true rfl) rfl ?_
  refine Bo.aload_n (j := 0) dX2_init_37 rfl rfl ?_
  refine Bo.bipush (v := 20) dX2_init_38 (by decide) ?_
  refine Bo.newA (t0 := 0) (a0 := (20, .inl (fun _ => 0))) dX2_init_40 rfl kAi rfl (fun _ h => h) (fun _ => rfl) (by decide) (by decide) (by decide) (Nat.le_of_ble_eq_true rfl) (Nat.le_of_ble_eq_true rfl) (fun q4 => ?_)
  refine Bo.fin (ty := .array .int) (fs' := [.ref q1, .ref (q2 0), .int 0, .ref q3, .ref q4, .null, .null]) dX2_init_42 rfl flX2_29 (fun C T N h => by cases h; exact ⟨rfl, rfl, by decide +kernel⟩) rfl rfl (Nat.le_of_ble_eq_true rfl) rfl ?_
  refine Bo.aload_n (j := 0) dX2_init_45 rfl rfl ?_
  refine Bo.bipush (v := 20) dX2_init_46 (by decide) ?_
  refine Bo.newA (t0 := 0) (a0 := (20, .inl (fun _ => 0))) dX2_init_48 rfl kAi rfl (fun _ h => h) (fun _ => rfl) (by decide) (by decide) (by decide) (Nat.le_of_ble_eq_true rfl) (Nat.le_of_ble_eq_true rfl) (fun q5 => ?_)
  refine Bo.fin (ty := .array .int) (fs' := [.ref q1, .ref (q2 0), .int 0, .ref q3, .ref q4, .ref q5, .null]) dX2_init_50 rfl flX2_32 (fun C T N h => by cases h; exact ⟨rfl, rfl, by decide +kernel⟩) rfl rfl (Nat.le_of_ble_eq_true rfl) rfl ?_
  refine Bo.aload_n (j := 0) dX2_init_53 rfl rfl ?_
  refine Bo.sipush (v := 256) dX2_init_54 (by decide) ?_
  refine Bo.newA (t0 := 0) (a0 := (256, .inl (fun _ => 0))) dX2_init_57 rfl kAi rfl (fun _ h => h) (fun _ => rfl) (by decide) (by decide) (by decide) (Nat.le_of_ble_eq_true rfl) (Nat.le_of_ble_eq_true rfl) (fun q6 => ?_)
  refine Bo.fin (ty := .array .int) (fs' := [.ref q1, .ref (q2 0), .int 0, .ref q3, .ref q4, .ref q5, .ref q6]) dX2_init_59 rfl flX2_35 (fun C T N h => by cases h; exact ⟨rfl, rfl, by decide +kernel⟩) rfl rfl (Nat.le_of_ble_eq_true rfl) rfl ?_
  refine Bo.tail Sz2 (fun k => ([b, q6, q5, q4, q3, (q2 0), (q2 1), (q2 2), q1] : List Nat).getD k 0) (fun k => ([fun j => ([0, 0, 0, 0, 0, 0, 0] : List Int32).getD j 0, fun _ => 0, fun _ => 0, fun _ => 0, fun _ => 0, fun j => ([0, 0] : List Int32).getD j 0, N2.1 1, N2.1 2, fun _ => 0] : List (Nat → Int32)).getD k (fun _ => 0), fun _ _ => 0) 1 [some (.ref 0)] (t_kitchen (q := 0) (r := 1) (d := 0) rfl rfl) Sz2_ok rfl rfl (l2z (n := 0) (List.mem_cons_self)) (by decide) (by decide) (Nat.le_of_ble_eq_true rfl) (Nat.le_of_ble_eq_true rfl) (fun M' hM => ?_)
  subst hM
  exact ⟨_, _, rfl, fun t ht => if_pos ht, rfl⟩
