def inI (v a b : Int32) : Bool := decide (a ≤ v) && decide (v ≤ b)
def hasI (a b : Int32) : Bool := decide ((a >>> (b &&& 31)) &&& 1 = 1)
theorem hasI_nI {a i : Nat} (ha : a < 2 ^ 31) (hi : i < 31) : hasI (nI a) (nI i) = a.testBit i := by
  unfold hasI
  rw [pk_shrN ha (nI i &&& 31) i (shr31 i hi)]
  rw [show (1 : Int32) = nI 1 from rfl, fa_and]
  have h1 : a / 2 ^ i &&& 1 = (a / 2 ^ i) % 2 := by
    have := Nat.and_two_pow_sub_one_eq_mod (a / 2 ^ i) 1
    simpa using this
  rw [h1]
  have h2 := nI_inj (a := (a / 2 ^ i) % 2) (b := 1) (by omega) (by decide)
  simp only [h2]
  rw [Nat.testBit_eq_decide_div_mod_eq]
set_option maxRecDepth 20000 in
theorem m_in {G : Gt} {d : Nat} {M : Mm} (v a b : Int32) : ExI G (d) mX7_in [.int v, .int a, .int b] M (fun r M' => r = bi (inI v a b) ∧ M' = M) := by
  refine Ex.of (by decide) (Nat.le_of_ble_eq_true rfl) ?_
  show Go G (d) mX7_in 0 [some (.int v), some (.int a), some (.int b)] [] M _
  refine Go.iload_n dX7_in_0 rfl ?_
  refine Go.iload_n dX7_in_1 rfl ?_
  refine Go.icmp_lt 14 dX7_in_2 rfl (fun h2 => ?_) (fun h2 => ?_)
  · refine Go.iconst (v := 0) dX7_in_14 (by decide) ?_
    refine Go.iret dX7_in_15 rfl (by decide) ?_
    refine ⟨_, rfl, ?_, rfl⟩
    simp only [bi, inI, i_lt, i_le, Bool.and_eq_true, decide_eq_true_eq] at *
    split <;> first | rfl | omega
  · refine Go.iload_n dX7_in_5 rfl ?_
    refine Go.iload_n dX7_in_6 rfl ?_
    refine Go.icmp_gt 14 dX7_in_7 rfl (fun h7 => ?_) (fun h7 => ?_)
    · refine Go.iconst (v := 0) dX7_in_14 (by decide) ?_
      refine Go.iret dX7_in_15 rfl (by decide) ?_
      refine ⟨_, rfl, ?_, rfl⟩
      simp only [bi, inI, i_lt, i_le, Bool.and_eq_true, decide_eq_true_eq] at *
      split <;> first | rfl | omega
    · refine Go.iconst (v := 1) dX7_in_10 (by decide) ?_
      refine Go.goto 15 dX7_in_11 rfl ?_
      refine Go.iret dX7_in_15 rfl (by decide) ?_
      refine ⟨_, rfl, ?_, rfl⟩
      simp only [bi, inI, i_lt, i_le, Bool.and_eq_true, decide_eq_true_eq] at *
      split <;> first | rfl | omega
set_option maxRecDepth 20000 in
theorem m_setOf {G : Gt} {d : Nat} {M : Mm} (a : Int32) : ExI G (d) mX7_setOf [.int a] M (fun r M' => r = iset a ∧ M' = M) := by
  refine Ex.of (by decide) (Nat.le_of_ble_eq_true rfl) ?_
  show Go G (d) mX7_setOf 0 [some (.int a)] [] M _
  refine Go.iload_n dX7_setOf_0 rfl ?_
  refine Go.bipush (v := 20) dX7_setOf_1 (by decide) ?_
  refine Go.idiv dX7_setOf_3 (by decide) ?_
  refine Go.iret dX7_setOf_4 rfl rfl ?_
  exact ⟨_, rfl, rfl, rfl⟩
set_option maxRecDepth 20000 in
theorem m_wayOf {G : Gt} {d : Nat} {M : Mm} (a : Int32) : ExI G (d) mX7_wayOf [.int a] M (fun r M' => r = iway a ∧ M' = M) := by
  refine Ex.of (by decide) (Nat.le_of_ble_eq_true rfl) ?_
  show Go G (d) mX7_wayOf 0 [some (.int a)] [] M _
  refine Go.iload_n dX7_wayOf_0 rfl ?_
  refine Go.bipush (v := 20) dX7_wayOf_1 (by decide) ?_
  refine Go.irem dX7_wayOf_3 (by decide) ?_
  refine Go.iconst (v := 4) dX7_wayOf_4 (by decide) ?_
  refine Go.idiv dX7_wayOf_5 (by decide) ?_
  refine Go.iret dX7_wayOf_6 rfl rfl ?_
  exact ⟨_, rfl, rfl, rfl⟩
set_option maxRecDepth 20000 in
theorem m_sauceOf {G : Gt} {d : Nat} {M : Mm} (a : Int32) : ExI G (d) mX7_sauceOf [.int a] M (fun r M' => r = isau a ∧ M' = M) := by
  refine Ex.of (by decide) (Nat.le_of_ble_eq_true rfl) ?_
  show Go G (d) mX7_sauceOf 0 [some (.int a)] [] M _
  refine Go.iload_n dX7_sauceOf_0 rfl ?_
  refine Go.iconst (v := 4) dX7_sauceOf_1 (by decide) ?_
  refine Go.irem dX7_sauceOf_2 (by decide) ?_
  refine Go.iret dX7_sauceOf_3 rfl rfl ?_
  exact ⟨_, rfl, rfl, rfl⟩
set_option maxRecDepth 20000 in
theorem m_has {G : Gt} {d : Nat} {M : Mm} (a b : Int32) : ExI G (d) mX7_has [.int a, .int b] M (fun r M' => r = bi (hasI a b) ∧ M' = M) := by
  refine Ex.of (by decide) (Nat.le_of_ble_eq_true rfl) ?_
  show Go G (d) mX7_has 0 [some (.int a), some (.int b)] [] M _
  refine Go.iload_n dX7_has_0 rfl ?_
  refine Go.iload_n dX7_has_1 rfl ?_
  refine Go.ishr dX7_has_2 ?_
  refine Go.iconst (v := 1) dX7_has_3 (by decide) ?_
  refine Go.iand dX7_has_4 ?_
  refine Go.iconst (v := 1) dX7_has_5 (by decide) ?_
  refine Go.icmp_ne 13 dX7_has_6 rfl (fun h6 => ?_) (fun h6 => ?_)
  · refine Go.iconst (v := 0) dX7_has_13 (by decide) ?_
    refine Go.iret dX7_has_14 rfl (by decide) ?_
    refine ⟨_, rfl, ?_, rfl⟩
    simp [bi, hasI, h6]
  · refine Go.iconst (v := 1) dX7_has_9 (by decide) ?_
    refine Go.goto 14 dX7_has_10 rfl ?_
    refine Go.iret dX7_has_14 rfl (by decide) ?_
    refine ⟨_, rfl, ?_, rfl⟩
    simp [bi, hasI, h6]
set_option maxRecDepth 20000 in
theorem m_isThing {G : Gt} {d : Nat} {M : Mm} (a : Int32) : ExI G (d + 1) mX7_isThing [.int a] M (fun r M' => r = bi (inI a 0 7) ∧ M' = M) := by
  refine Ex.of (by decide) (Nat.le_of_ble_eq_true rfl) ?_
  show Go G (d + 1) mX7_isThing 0 [some (.int a)] [] M _
  refine Go.iload_n dX7_isThing_0 rfl ?_
  refine Go.iconst (v := 0) dX7_isThing_1 (by decide) ?_
  refine Go.bipush (v := 7) dX7_isThing_2 (by decide) ?_
  refine Go.callSI [] dX7_isThing_4 lkX7_86 stX7_in cbX7_in (m_in a 0 7) rfl rfl (Nat.le_of_ble_eq_true rfl) (fun r1 M2 hr1 => ?_)
  obtain ⟨er1, emr1⟩ := hr1
  rw [emr1]
  clear emr1 M2
  subst er1
  refine Go.iret dX7_isThing_7 rfl (bi_nar _) ?_
  exact ⟨_, rfl, rfl, rfl⟩
set_option maxRecDepth 20000 in
theorem m_isStore {G : Gt} {d : Nat} {M : Mm} (a : Int32) : ExI G (d + 1) mX7_isStore [.int a] M (fun r M' => r = bi (inI a 0 99) ∧ M' = M) := by
  refine Ex.of (by decide) (Nat.le_of_ble_eq_true rfl) ?_
  show Go G (d + 1) mX7_isStore 0 [some (.int a)] [] M _
  refine Go.iload_n dX7_isStore_0 rfl ?_
  refine Go.iconst (v := 0) dX7_isStore_1 (by decide) ?_
  refine Go.bipush (v := 99) dX7_isStore_2 (by decide) ?_
  refine Go.callSI [] dX7_isStore_4 lkX7_86 stX7_in cbX7_in (m_in a 0 99) rfl rfl (Nat.le_of_ble_eq_true rfl) (fun r1 M2 hr1 => ?_)
  obtain ⟨er1, emr1⟩ := hr1
  rw [emr1]
  clear emr1 M2
  subst er1
  refine Go.iret dX7_isStore_7 rfl (bi_nar _) ?_
  exact ⟨_, rfl, rfl, rfl⟩
set_option maxRecDepth 20000 in
theorem m_isKind {G : Gt} {d : Nat} {M : Mm} (a : Int32) : ExI G (d + 1) mX7_isKind [.int a] M (fun r M' => r = bi (inI a 0 5) ∧ M' = M) := by
  refine Ex.of (by decide) (Nat.le_of_ble_eq_true rfl) ?_
  show Go G (d + 1) mX7_isKind 0 [some (.int a)] [] M _
  refine Go.iload_n dX7_isKind_0 rfl ?_
  refine Go.iconst (v := 0) dX7_isKind_1 (by decide) ?_
  refine Go.iconst (v := 5) dX7_isKind_2 (by decide) ?_
  refine Go.callSI [] dX7_isKind_3 lkX7_86 stX7_in cbX7_in (m_in a 0 5) rfl rfl (Nat.le_of_ble_eq_true rfl) (fun r1 M2 hr1 => ?_)
  obtain ⟨er1, emr1⟩ := hr1
  rw [emr1]
  clear emr1 M2
  subst er1
  refine Go.iret dX7_isKind_6 rfl (bi_nar _) ?_
  exact ⟨_, rfl, rfl, rfl⟩
set_option maxRecDepth 20000 in
theorem m_mostOf {G : Gt} {d : Nat} {M : Mm} (a : Int32) : ExI G (d) mX7_mostOf [.int a] M (fun r M' => r = (if a = 0 then 7 else if a = 1 then 4 else 3) ∧ M' = M) := by
  refine Ex.of (by decide) (Nat.le_of_ble_eq_true rfl) ?_
  show Go G (d) mX7_mostOf 0 [some (.int a)] [] M _
  refine Go.iload_n dX7_mostOf_0 rfl ?_
  refine Go.if_ne 9 dX7_mostOf_1 rfl (fun h1 => ?_) (fun h1 => ?_)
  · refine Go.iload_n dX7_mostOf_9 rfl ?_
    refine Go.iconst (v := 1) dX7_mostOf_10 (by decide) ?_
    refine Go.icmp_ne 18 dX7_mostOf_11 rfl (fun h11 => ?_) (fun h11 => ?_)
    · refine Go.iconst (v := 3) dX7_mostOf_18 (by decide) ?_
      refine Go.iret dX7_mostOf_19 rfl rfl ?_
      refine ⟨_, rfl, ?_, rfl⟩
      simp [h1, h11]
    · refine Go.iconst (v := 4) dX7_mostOf_14 (by decide) ?_
      refine Go.goto 19 dX7_mostOf_15 rfl ?_
      refine Go.iret dX7_mostOf_19 rfl rfl ?_
      refine ⟨_, rfl, ?_, rfl⟩
      simp [h1, h11]
  · refine Go.bipush (v := 7) dX7_mostOf_4 (by decide) ?_
    refine Go.goto 19 dX7_mostOf_6 rfl ?_
    refine Go.iret dX7_mostOf_19 rfl rfl ?_
    refine ⟨_, rfl, ?_, rfl⟩
    simp [h1]
set_option maxRecDepth 20000 in
theorem m_likedAt {G : Gt} {d : Nat} {M : Mm} (a b : Int32) : ExI G (d) mX7_likedAt [.int a, .int b] M (fun r M' => r = (if a = 0 then b else if a = 1 then 8 + b else 13 + b) ∧ M' = M) := by
  refine Ex.of (by decide) (Nat.le_of_ble_eq_true rfl) ?_
  show Go G (d) mX7_likedAt 0 [some (.int a), some (.int b)] [] M _
  refine Go.iload_n dX7_likedAt_0 rfl ?_
  refine Go.if_ne 8 dX7_likedAt_1 rfl (fun h1 => ?_) (fun h1 => ?_)
  · refine Go.iload_n dX7_likedAt_8 rfl ?_
    refine Go.iconst (v := 1) dX7_likedAt_9 (by decide) ?_
    refine Go.icmp_ne 20 dX7_likedAt_10 rfl (fun h10 => ?_) (fun h10 => ?_)
    · refine Go.bipush (v := 13) dX7_likedAt_20 (by decide) ?_
      refine Go.iload_n dX7_likedAt_22 rfl ?_
      refine Go.iadd dX7_likedAt_23 ?_
      refine Go.iret dX7_likedAt_24 rfl rfl ?_
      refine ⟨_, rfl, ?_, rfl⟩
      simp [h1, h10]
    · refine Go.bipush (v := 8) dX7_likedAt_13 (by decide) ?_
      refine Go.iload_n dX7_likedAt_15 rfl ?_
      refine Go.iadd dX7_likedAt_16 ?_
      refine Go.goto 24 dX7_likedAt_17 rfl ?_
      refine Go.iret dX7_likedAt_24 rfl rfl ?_
      refine ⟨_, rfl, ?_, rfl⟩
      simp [h1, h10]
  · refine Go.iload_n dX7_likedAt_4 rfl ?_
    refine Go.goto 24 dX7_likedAt_5 rfl ?_
    refine Go.iret dX7_likedAt_24 rfl rfl ?_
    refine ⟨_, rfl, ?_, rfl⟩
    simp [h1]
def pop256 (a : Nat) : Nat := pop8 a
theorem ones_step : ∀ a, a < 256 → 0 < a → (a &&& (a - 1) < a ∧ pop8 (a &&& (a - 1)) + 1 = pop8 a) := by decide +kernel
set_option maxRecDepth 20000 in
theorem l_ones {G : Gt} {d : Nat} {M : Mm} {s : Nat} : ∀ (a : Nat), a < 256 → ∀ n, pop8 s = n + pop8 a → Go G d mX7_ones 4 [some (.int (nI s)), some (.int (nI n)), some (.int (nI a))] [] M (fun v M' => ∃ r, v = some (.int r) ∧ r = nI (pop8 s) ∧ M' = M) := by
  intro a
  induction a using Nat.strongRecOn with
  | _ a ih =>
    intro ha n hT
    by_cases h0 : a = 0
    · subst h0
      have e0 : pop8 0 = 0 := by decide
      rw [e0] at hT
      refine Go.iload_n dX7_ones_4 rfl ?_
      refine Go.if_eq 20 dX7_ones_5 rfl (fun _ => ?_) (fun h5 => absurd (rfl) h5)
      refine Go.iload_n dX7_ones_20 rfl ?_
      refine Go.iret dX7_ones_21 rfl rfl ?_
      exact ⟨_, rfl, by rw [hT]; rfl, rfl⟩
    · have hst := ones_step a ha (by omega)
      refine Go.iload_n dX7_ones_4 rfl ?_
      refine Go.if_eq 20 dX7_ones_5 rfl (fun h5 => absurd h5 (nI_ne0 (by omega) (by omega))) (fun _ => ?_)
      refine Go.iinc (v := nI (n + 1)) (ls' := [some (.int (nI s)), some (.int (nI (n + 1))), some (.int (nI a))]) dX7_ones_8 rfl (nI_1 _) rfl rfl ?_
      refine Go.iload_n dX7_ones_11 rfl ?_
      refine Go.iload_n dX7_ones_12 rfl ?_
      refine Go.iconst (v := 1) dX7_ones_13 (by decide) ?_
      refine Go.isub dX7_ones_14 ?_
      refine Go.eqI (y := nI (a - 1)) (pk_sub (a := a) (b := 1) (by omega)) ?_
      refine Go.iand dX7_ones_15 ?_
      refine Go.eqI (y := nI (a &&& (a - 1))) (fa_and _ _) ?_
      refine Go.istore_n (ls' := [some (.int (nI s)), some (.int (nI (n + 1))), some (.int (nI (a &&& (a - 1))))]) dX7_ones_16 (Nat.le_of_ble_eq_true rfl) rfl rfl ?_
      refine Go.goto 4 dX7_ones_17 rfl ?_
      exact ih (a &&& (a - 1)) (by omega) (by omega) (n + 1) (by omega)
set_option maxRecDepth 20000 in
theorem m_ones {G : Gt} {d : Nat} {M : Mm} {s : Nat} (hs : s < 256) : ExI G (d) mX7_ones [.int (nI s)] M (fun r M' => r = nI (pop8 s) ∧ M' = M) := by
  refine Ex.of (by decide) (Nat.le_of_ble_eq_true rfl) ?_
  show Go G (d) mX7_ones 0 [some (.int (nI s)), none, none] [] M _
  refine Go.iconst (v := 0) dX7_ones_0 (by decide) ?_
  refine Go.istore_n (ls' := [some (.int (nI s)), some (.int 0), none]) dX7_ones_1 (Nat.le_of_ble_eq_true rfl) rfl rfl ?_
  refine Go.iload_n dX7_ones_2 rfl ?_
  refine Go.istore_n (ls' := [some (.int (nI s)), some (.int 0), some (.int (nI s))]) dX7_ones_3 (Nat.le_of_ble_eq_true rfl) rfl rfl ?_
  exact l_ones s hs 0 (by omega)
