/-- a set of bits, by what stands for each -/
def maskN (p : Nat → Bool) : Nat → Nat
  | 0 => 0
  | i + 1 => maskN p i ||| (if p i then 2 ^ i else 0)
def sumN (f : Nat → Nat) : Nat → Nat
  | 0 => 0
  | i + 1 => sumN f i + f i
theorem maskN_bit (p : Nat → Bool) : ∀ n j, (maskN p n).testBit j = (decide (j < n) && p j)
  | 0, j => by simp [maskN]
  | n + 1, j => by
    rw [maskN, Nat.testBit_or, maskN_bit p n j]
    by_cases hp : p n = true
    · rw [if_pos hp, Nat.testBit_two_pow]
      by_cases hj : n = j
      · subst hj; simp [hp]
      · have : decide (j < n + 1) = decide (j < n) := by simp; omega
        simp [hj, this]
    · rw [if_neg hp]
      by_cases hj : j = n
      · subst hj; simp at hp; simp [hp]
      · have : decide (j < n + 1) = decide (j < n) := by simp; omega
        simp [this]
theorem maskN_lt (p : Nat → Bool) (n : Nat) : maskN p n < 2 ^ n := by
  induction n with
  | zero => simp [maskN]
  | succ n ih =>
    rw [maskN]
    apply Nat.or_lt_two_pow
    · exact Nat.lt_of_lt_of_le ih (Nat.pow_le_pow_right (by decide) (by omega))
    · split
      · exact Nat.pow_lt_pow_right (by decide) (by omega)
      · exact Nat.two_pow_pos _
theorem fa_or (a b : Nat) : nI a ||| nI b = nI (a ||| b) := by
  apply Int32.toBitVec_inj.mp
  simp [nI, Int32.toBitVec_or]
theorem fa_and (a b : Nat) : nI a &&& nI b = nI (a &&& b) := by
  apply Int32.toBitVec_inj.mp
  simp [nI, Int32.toBitVec_and]
theorem shl1 : ∀ i, i < 31 → (1 : Int32) <<< (nI i &&& 31) = nI (2 ^ i) := by decide +kernel
theorem vin {i n : Nat} (h : i < n) (hn : n < 2 ^ 31) : vp_in (nI i) n := vp_in_nI h hn
theorem ncl {i : Nat} (h : i < 2 ^ 31) : (nI i).toNatClampNeg = i := nI_clamp h
set_option maxRecDepth 20000 in
theorem l_inStore {G : Gt} {d : Nat} {k : Nat} (hk : (gS G)[k]? = some (.inl (0, 8, []))) {M : Mm} : ∀ (n i : Nat), i + n = 8 → Go G (d) mX6_inStore 4 [some (.ref k), some (.int (nI (maskN (fun t => decide (0 < M.1 k t)) i))), some (.int (nI i))] [] M (fun v M' => ∃ r, v = some (.int r) ∧ r = nI (maskN (fun t => decide (0 < M.1 k t)) 8) ∧ M' = M) := by
  intro n
  induction n with
  | zero =>
    intro i  hin
    refine Go.iload_n dX6_inStore_4 rfl ?_
    refine Go.aload_n dX6_inStore_5 rfl ?_
    refine Go.alenI (v := 8) dX6_inStore_6 hk (by decide) ?_
    refine Go.icmp_ge 28 dX6_inStore_7 rfl (fun _ => ?_) (fun h7 => absurd (nI_le (a := 8) (b := i) (by omega) (by omega)) h7)
    refine Go.iload_n dX6_inStore_28 rfl ?_
    refine Go.iret dX6_inStore_29 rfl rfl ?_
    have h8 : i = 8 := by omega
    subst h8
    exact ⟨_, rfl, rfl, rfl⟩
  | succ n ih =>
    intro i  hin
    have hi : i < 8 := by omega
    refine Go.iload_n dX6_inStore_4 rfl ?_
    refine Go.aload_n dX6_inStore_5 rfl ?_
    refine Go.alenI (v := 8) dX6_inStore_6 hk (by decide) ?_
    refine Go.icmp_ge 28 dX6_inStore_7 rfl (fun h7 => absurd h7 (nI_ge (a := i) (b := 8) (by omega) (by decide))) (fun _ => ?_)
    refine Go.aload_n dX6_inStore_10 rfl ?_
    refine Go.iload_n dX6_inStore_11 rfl ?_
    refine Go.iald dX6_inStore_12 hk (vin hi (by decide)) ?_
    refine Go.if_le 22 dX6_inStore_13 rfl (fun h13 => ?_) (fun h13 => ?_)
    · refine Go.iinc (v := nI (i + 1)) (ls' := [some (.ref k), some (.int (nI (maskN (fun t => decide (0 < M.1 k t)) i))), some (.int (nI (i + 1)))]) dX6_inStore_22 rfl (nI_1 i) rfl rfl ?_
      refine Go.goto 4 dX6_inStore_25 rfl ?_
      have e9 : nI (maskN (fun t => decide (0 < M.1 k t)) i) = nI (maskN (fun t => decide (0 < M.1 k t)) (i + 1)) := by
        have h9 : decide (0 < M.1 k i) = false := by rw [ncl (by omega)] at h13; simpa using h13
        simp [maskN, h9]
      rw [e9]
      exact ih (i + 1) (by omega)
    · refine Go.iload_n dX6_inStore_16 rfl ?_
      refine Go.iconst (v := 1) dX6_inStore_17 (by decide) ?_
      refine Go.iload_n dX6_inStore_18 rfl ?_
      refine Go.ishl dX6_inStore_19 ?_
      refine Go.ior dX6_inStore_20 ?_
      refine Go.nmI (fun x1 ex1 => ?_)
      refine Go.istore_n (ls' := [some (.ref k), some (.int x1), some (.int (nI i))]) dX6_inStore_21 (Nat.le_of_ble_eq_true rfl) rfl rfl ?_
      refine Go.iinc (v := nI (i + 1)) (ls' := [some (.ref k), some (.int x1), some (.int (nI (i + 1)))]) dX6_inStore_22 rfl (nI_1 i) rfl rfl ?_
      refine Go.goto 4 dX6_inStore_25 rfl ?_
      have e9 : x1 = nI (maskN (fun t => decide (0 < M.1 k t)) (i + 1)) := by
        rw [ex1, shl1 i (by omega), fa_or]
        have h9 : decide (0 < M.1 k i) = true := by rw [ncl (by omega)] at h13; simpa using i_nle h13
        simp [maskN, h9]
      rw [e9]
      exact ih (i + 1) (by omega)
set_option maxRecDepth 20000 in
theorem s_inStore {G : Gt} {d : Nat} {M : Mm} {k : Nat} (hk : (gS G)[k]? = some (.inl (0, 8, []))) : ExI G (d) mX6_inStore [.ref k] M (fun r M' => r = nI (maskN (fun t => decide (0 < M.1 k t)) 8) ∧ M' = M) := by
  refine Ex.of (by decide) (Nat.le_of_ble_eq_true rfl) ?_
  show Go G (d) mX6_inStore 0 [some (.ref k), none, none] [] M _
  refine Go.iconst (v := 0) dX6_inStore_0 (by decide) ?_
  refine Go.istore_n (ls' := [some (.ref k), some (.int 0), none]) dX6_inStore_1 (Nat.le_of_ble_eq_true rfl) rfl rfl ?_
  refine Go.iconst (v := 0) dX6_inStore_2 (by decide) ?_
  refine Go.istore_n (ls' := [some (.ref k), some (.int 0), some (.int 0)]) dX6_inStore_3 (Nat.le_of_ble_eq_true rfl) rfl rfl ?_
  exact l_inStore hk 8 0 (by omega)
