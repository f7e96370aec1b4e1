def exN (p : Nat → Bool) : Nat → Bool
  | 0 => false
  | n + 1 => exN p n || p n
theorem exN_iff (p : Nat → Bool) : ∀ n, exN p n = true ↔ ∃ i, i < n ∧ p i = true
  | 0 => ⟨fun h => (by cases h), fun ⟨i, h, _⟩ => (by omega)⟩
  | n + 1 => by
    rw [exN, Bool.or_eq_true, exN_iff p n]
    constructor
    · rintro (⟨i, a, b⟩ | h)
      · exact ⟨i, by omega, b⟩
      · exact ⟨n, by omega, h⟩
    · rintro ⟨i, a, b⟩
      by_cases e : i = n
      · exact Or.inr (e ▸ b)
      · exact Or.inl ⟨i, by omega, b⟩
theorem exN_congr {p q : Nat → Bool} : ∀ n, (∀ i, i < n → p i = q i) → exN p n = exN q n
  | 0, _ => rfl
  | n + 1, h => by rw [exN, exN, exN_congr n (fun i hi => h i (by omega)), h n (by omega)]
def scN (w : Nat) : Nat → Nat
  | 0 => 0
  | i + 1 => scN w i ||| (w / 2 ^ (4 * i) &&& 15)
def alw (w : Nat) : Nat → Nat
  | 0 => 0
  | i + 1 => if w / 2 ^ (4 * i) &&& 15 = 0 then alw w i else alw w i ||| (15 <<< (4 * i))
def omN (w : Nat) : Nat := alw w 5 ||| scN w 5 * 69905
theorem nib_bit (w i j : Nat) : (w / 2 ^ (4 * i) &&& 15).testBit j = (decide (j < 4) && w.testBit (4 * i + j)) := by
  rw [Nat.testBit_and, show (15 : Nat) = 2 ^ 4 - 1 from rfl, Nat.testBit_two_pow_sub_one, ← Nat.shiftRight_eq_div_pow, Nat.testBit_shiftRight, Bool.and_comm]
theorem nib_lt (w i : Nat) : w / 2 ^ (4 * i) &&& 15 < 16 := Nat.lt_of_le_of_lt Nat.and_le_right (by decide)
theorem scN_lt (w : Nat) : ∀ i, scN w i < 16
  | 0 => (by decide : (0 : Nat) < 16)
  | i + 1 => Nat.or_lt_two_pow (n := 4) (scN_lt w i) (nib_lt w i)
theorem scN_bit (w j : Nat) : ∀ i, (scN w i).testBit j = exN (fun i' => decide (j < 4) && w.testBit (4 * i' + j)) i
  | 0 => by simp [scN, exN]
  | i + 1 => by rw [scN, exN, Nat.testBit_or, scN_bit w j i, nib_bit]
theorem f15_bit (i m : Nat) : (15 <<< (4 * i)).testBit m = decide (m / 4 = i) := by
  rw [Nat.testBit_shiftLeft, show (15 : Nat) = 2 ^ 4 - 1 from rfl, Nat.testBit_two_pow_sub_one, Bool.eq_iff_iff]
  simp
  omega
theorem nib_0 (w i : Nat) : w / 2 ^ (4 * i) &&& 15 = 0 ↔ exN (fun j => w.testBit (4 * i + j)) 4 = false := by
  constructor
  · intro h
    cases e : exN (fun j => w.testBit (4 * i + j)) 4 with
    | false => rfl
    | true =>
      obtain ⟨j, h1, h2⟩ := (exN_iff _ _).mp e
      have := nib_bit w i j
      rw [h, decide_eq_true h1, h2] at this
      simp at this
  · intro h
    apply Nat.eq_of_testBit_eq
    intro j
    rw [nib_bit, Nat.zero_testBit]
    by_cases hj : j < 4
    · cases e : w.testBit (4 * i + j) with
      | false => simp
      | true =>
        rw [(exN_iff _ _).mpr ⟨j, hj, e⟩] at h
        cases h
    · simp [hj]
theorem alw_bit (w m : Nat) : ∀ i, (alw w i).testBit m = (decide (m / 4 < i) && exN (fun j => w.testBit (4 * (m / 4) + j)) 4)
  | 0 => by simp [alw]
  | i + 1 => by
    have ih := alw_bit w m i
    rw [alw]
    by_cases h : m / 4 = i
    · have h2 : ¬ m / 4 < i := by omega
      rw [decide_eq_false h2, Bool.false_and] at ih
      split
      · rename_i h0
        rw [ih, h, (nib_0 w i).mp h0, Bool.and_false]
      · rename_i h0
        rw [Nat.testBit_or, ih, f15_bit, decide_eq_true h, h]
        cases e : exN (fun j => w.testBit (4 * i + j)) 4 with
        | false => exact absurd ((nib_0 w i).mpr e) h0
        | true => simp
    · have h3 : decide (m / 4 < i + 1) = decide (m / 4 < i) := by
        rw [Bool.eq_iff_iff]
        simp
        omega
      rw [h3, ← ih]
      split
      · rfl
      · rw [Nat.testBit_or, f15_bit, decide_eq_false h, Bool.or_false]
theorem alw_lt (w : Nat) : ∀ i, i ≤ 5 → alw w i < 2 ^ 20
  | 0, _ => (by decide : (0 : Nat) < 2 ^ 20)
  | i + 1, h => by
    rw [alw]
    split
    · exact alw_lt w i (by omega)
    · refine Nat.or_lt_two_pow (alw_lt w i (by omega)) ?_
      have : ∀ i, i < 5 → 15 <<< (4 * i) < 2 ^ 20 := by decide
      exact this i (by omega)
theorem mul_bit : ∀ s, s < 16 → ∀ m, m < 20 → (s * 69905).testBit m = s.testBit (m % 4) := by decide +kernel
theorem mul_lt : ∀ s, s < 16 → s * 69905 < 2 ^ 20 := by decide
def omB (w m : Nat) : Bool := exN (fun m' => w.testBit m' && (decide (m' / 4 = m / 4) || decide (m' % 4 = m % 4))) 20
theorem omN_lt (w : Nat) : omN w < 2 ^ 20 := Nat.or_lt_two_pow (alw_lt w 5 (by decide)) (mul_lt _ (scN_lt w 5))
theorem omN_bit (w : Nat) {m : Nat} (hm : m < 20) : (omN w).testBit m = omB w m := by
  unfold omN
  rw [Nat.testBit_or, alw_bit, mul_bit _ (scN_lt w 5) m hm, scN_bit, decide_eq_true (show m / 4 < 5 by omega), Bool.true_and, Bool.eq_iff_iff, Bool.or_eq_true, exN_iff, exN_iff]
  unfold omB
  rw [exN_iff]
  constructor
  · rintro (⟨j, h1, h2⟩ | ⟨i, h1, h2⟩)
    · refine ⟨4 * (m / 4) + j, by omega, ?_⟩
      rw [h2, decide_eq_true (show (4 * (m / 4) + j) / 4 = m / 4 by omega)]
      rfl
    · rw [Bool.and_eq_true] at h2
      refine ⟨4 * i + m % 4, by omega, ?_⟩
      rw [h2.2, decide_eq_true (show (4 * i + m % 4) % 4 = m % 4 by omega), Bool.or_true]
      rfl
  · rintro ⟨m', h1, h2⟩
    rw [Bool.and_eq_true, Bool.or_eq_true] at h2
    rcases h2.2 with h3 | h3
    · have h4 := of_decide_eq_true h3
      refine Or.inl ⟨m' % 4, by omega, ?_⟩
      rw [← h4, show 4 * (m' / 4) + m' % 4 = m' by omega]
      exact h2.1
    · have h4 := of_decide_eq_true h3
      refine Or.inr ⟨m' / 4, by omega, ?_⟩
      rw [decide_eq_true (show m % 4 < 4 by omega), ← h4, show 4 * (m' / 4) + m' % 4 = m' by omega, h2.1]
      rfl
theorem shr4 : ∀ i, i < 5 → ((nI (4 * i) &&& 31).toBitVec.smod 32).toNat = 4 * i := by decide +kernel
theorem shl15 : ∀ i, i < 5 → (15 : Int32) <<< (nI (4 * i) &&& 31) = nI (15 <<< (4 * i)) := by decide +kernel
set_option maxRecDepth 20000 in
theorem l_other {G : Gt} {d : Nat} {M : Mm} {w : Nat} (hw : w < 2 ^ 20) : ∀ (n i : Nat) (o4 : Option Value), i + n = 5 → Go G (d) mX3_otherManners 6 [some (.int (nI w)), some (.int (nI (scN w i))), some (.int (nI (alw w i))), some (.int (nI i)), o4] [] M (fun v M' => ∃ r, v = some (.int r) ∧ r = nI (omN w) ∧ M' = M) := by
  intro n
  induction n with
  | zero =>
    intro i o4 hin
    refine Go.iload_n dX3_otherManners_6 rfl ?_
    refine Go.iconst (v := 5) dX3_otherManners_7 (by decide) ?_
    refine Go.icmp_ge 46 dX3_otherManners_8 rfl (fun _ => ?_) (fun h8 => absurd (nI_le (a := 5) (b := i) (by omega) (by omega)) h8)
    refine Go.iload_n dX3_otherManners_46 rfl ?_
    refine Go.iload_n dX3_otherManners_47 rfl ?_
    refine Go.ldc dX3_otherManners_48 kcX3_71 ?_
    refine Go.imul dX3_otherManners_50 ?_
    refine Go.eqI (y := nI (scN w i * 69905)) (pk_mul _ _) ?_
    refine Go.ior dX3_otherManners_51 ?_
    refine Go.eqI (y := nI (alw w i ||| scN w i * 69905)) (fa_or _ _) ?_
    refine Go.iret dX3_otherManners_52 rfl rfl ?_
    have e9 : i = 5 := by omega
    subst e9
    refine ⟨_, rfl, ?_, rfl⟩
    unfold omN
    first | rfl | rw [pk_mul, fa_or]
  | succ n ih =>
    intro i o4 hin
    have hi : i < 5 := by omega
    refine Go.iload_n dX3_otherManners_6 rfl ?_
    refine Go.iconst (v := 5) dX3_otherManners_7 (by decide) ?_
    refine Go.icmp_ge 46 dX3_otherManners_8 rfl (fun h8 => absurd h8 (nI_ge (a := i) (b := 5) (by omega) (by omega))) (fun _ => ?_)
    refine Go.iload_n dX3_otherManners_11 rfl ?_
    refine Go.iconst (v := 4) dX3_otherManners_12 (by decide) ?_
    refine Go.iload_n dX3_otherManners_13 rfl ?_
    refine Go.imul dX3_otherManners_14 ?_
    refine Go.eqI (y := nI (4 * i)) (pk_mul _ _) ?_
    refine Go.ishr dX3_otherManners_15 ?_
    refine Go.eqI (y := nI (w / 2 ^ (4 * i))) (pk_shrN (by omega) _ _ (shr4 i (by omega))) ?_
    refine Go.bipush (v := 15) dX3_otherManners_16 (by decide) ?_
    refine Go.iand dX3_otherManners_18 ?_
    refine Go.eqI (y := nI (w / 2 ^ (4 * i) &&& 15)) (fa_and _ _) ?_
    refine Go.istore (ls' := [some (.int (nI w)), some (.int (nI (scN w i))), some (.int (nI (alw w i))), some (.int (nI i)), some (.int (nI (w / 2 ^ (4 * i) &&& 15)))]) dX3_otherManners_19 (Nat.le_of_ble_eq_true rfl) rfl rfl ?_
    refine Go.iload_n dX3_otherManners_21 rfl ?_
    refine Go.iload dX3_otherManners_22 rfl ?_
    refine Go.ior dX3_otherManners_24 ?_
    refine Go.eqI (y := nI (scN w i ||| w / 2 ^ (4 * i) &&& 15)) (fa_or _ _) ?_
    refine Go.istore_n (ls' := [some (.int (nI w)), some (.int (nI (scN w i ||| w / 2 ^ (4 * i) &&& 15))), some (.int (nI (alw w i))), some (.int (nI i)), some (.int (nI (w / 2 ^ (4 * i) &&& 15)))]) dX3_otherManners_25 (Nat.le_of_ble_eq_true rfl) rfl rfl ?_
    refine Go.iload dX3_otherManners_26 rfl ?_
    refine Go.if_eq 40 dX3_otherManners_28 rfl (fun h28 => ?_) (fun h28 => ?_)
    · refine Go.iinc (v := nI (i + 1)) (ls' := [some (.int (nI w)), some (.int (nI (scN w i ||| w / 2 ^ (4 * i) &&& 15))), some (.int (nI (alw w i))), some (.int (nI (i + 1))), some (.int (nI (w / 2 ^ (4 * i) &&& 15)))]) dX3_otherManners_40 rfl (nI_1 _) rfl rfl ?_
      refine Go.goto 6 dX3_otherManners_43 rfl ?_
      rw [show nI (alw w i) = nI (alw w (i + 1)) from by rw [alw, if_pos ((nI_inj (a := w / 2 ^ (4 * i) &&& 15) (b := 0) (by have := nib_lt w i; omega) (by decide)).mp h28)]]
      exact ih (i + 1) _ (by omega)
    · refine Go.iload_n dX3_otherManners_31 rfl ?_
      refine Go.bipush (v := 15) dX3_otherManners_32 (by decide) ?_
      refine Go.iconst (v := 4) dX3_otherManners_34 (by decide) ?_
      refine Go.iload_n dX3_otherManners_35 rfl ?_
      refine Go.imul dX3_otherManners_36 ?_
      refine Go.eqI (y := nI (4 * i)) (pk_mul _ _) ?_
      refine Go.ishl dX3_otherManners_37 ?_
      refine Go.eqI (y := nI (15 <<< (4 * i))) (shl15 i (by omega)) ?_
      refine Go.ior dX3_otherManners_38 ?_
      refine Go.eqI (y := nI (alw w i ||| 15 <<< (4 * i))) (fa_or _ _) ?_
      refine Go.istore_n (ls' := [some (.int (nI w)), some (.int (nI (scN w i ||| w / 2 ^ (4 * i) &&& 15))), some (.int (nI (alw w i ||| 15 <<< (4 * i)))), some (.int (nI i)), some (.int (nI (w / 2 ^ (4 * i) &&& 15)))]) dX3_otherManners_39 (Nat.le_of_ble_eq_true rfl) rfl rfl ?_
      refine Go.iinc (v := nI (i + 1)) (ls' := [some (.int (nI w)), some (.int (nI (scN w i ||| w / 2 ^ (4 * i) &&& 15))), some (.int (nI (alw w i ||| 15 <<< (4 * i)))), some (.int (nI (i + 1))), some (.int (nI (w / 2 ^ (4 * i) &&& 15)))]) dX3_otherManners_40 rfl (nI_1 _) rfl rfl ?_
      refine Go.goto 6 dX3_otherManners_43 rfl ?_
      rw [show nI (alw w i ||| 15 <<< (4 * i)) = nI (alw w (i + 1)) from by rw [alw, if_neg (fun q => h28 ((nI_inj (a := w / 2 ^ (4 * i) &&& 15) (b := 0) (by have := nib_lt w i; omega) (by decide)).mpr q))]]
      exact ih (i + 1) _ (by omega)
set_option maxRecDepth 20000 in
theorem s_other {G : Gt} {d : Nat} {M : Mm} {w : Nat} (hw : w < 2 ^ 20) : ExI G (d) mX3_otherManners [.int (nI w)] M (fun r M' => r = nI (omN w) ∧ M' = M) := by
  refine Ex.of (by decide) (Nat.le_of_ble_eq_true rfl) ?_
  show Go G (d) mX3_otherManners 0 [some (.int (nI w)), none, none, none, none] [] M _
  refine Go.iconst (v := 0) dX3_otherManners_0 (by decide) ?_
  refine Go.istore_n (ls' := [some (.int (nI w)), some (.int 0), none, none, none]) dX3_otherManners_1 (Nat.le_of_ble_eq_true rfl) rfl rfl ?_
  refine Go.iconst (v := 0) dX3_otherManners_2 (by decide) ?_
  refine Go.istore_n (ls' := [some (.int (nI w)), some (.int 0), some (.int 0), none, none]) dX3_otherManners_3 (Nat.le_of_ble_eq_true rfl) rfl rfl ?_
  refine Go.iconst (v := 0) dX3_otherManners_4 (by decide) ?_
  refine Go.istore_n (ls' := [some (.int (nI w)), some (.int 0), some (.int 0), some (.int 0), none]) dX3_otherManners_5 (Nat.le_of_ble_eq_true rfl) rfl rfl ?_
  exact l_other hw 5 0 _ (by omega)
/-- what is kept for each set, as bits -/
def qM (q : Nat → Bool) (s : Nat) : Nat := maskN (fun m => q (20 * s + m)) 20
theorem qM_lt (q : Nat → Bool) (s : Nat) : qM q s < 2 ^ 20 := maskN_lt _ 20
theorem qM_bit (q : Nat → Bool) (s : Nat) {m : Nat} (hm : m < 20) : (qM q s).testBit m = q (20 * s + m) := by
  unfold qM
  rw [maskN_bit]
  simp [hm]
def frN (q : Nat → Bool) (s : Nat) : Nat → Nat
  | 0 => 0
  | t + 1 => frN q s t ||| qM q (s ^^^ 2 ^ t)
theorem frN_lt (q : Nat → Bool) (s : Nat) : ∀ t, frN q s t < 2 ^ 20
  | 0 => (by decide : (0 : Nat) < 2 ^ 20)
  | t + 1 => Nat.or_lt_two_pow (frN_lt q s t) (qM_lt _ _)
theorem frN_bit (q : Nat → Bool) (s : Nat) {m : Nat} (hm : m < 20) : ∀ t, (frN q s t).testBit m = exN (fun t' => q (20 * (s ^^^ 2 ^ t') + m)) t
  | 0 => by simp [frN, exN]
  | t + 1 => by rw [frN, exN, Nat.testBit_or, frN_bit q s hm t, qM_bit _ _ hm]
theorem xor2 {s t : Nat} (hs : s < 256) (ht : t < 8) : s ^^^ 2 ^ t < 256 := Nat.xor_lt_two_pow (n := 8) hs (Nat.pow_lt_pow_right (by decide) ht)
set_option maxRecDepth 20000 in
theorem l_from {G : Gt} {d : Nat} {M : Mm} (hG : gS G = SHAPE) {q : Nat → Bool} (hB : ∀ s, s < 256 → M.1 36 s = nI (qM q s)) {s : Nat} (hs : s < 256) : ∀ (n i : Nat), i + n = 8 → Go G (d) mX3_fromOtherSets 4 [some (.ref 34), some (.int (nI s)), some (.int (nI (frN q s i))), some (.int (nI i))] [] M (fun v M' => ∃ r, v = some (.int r) ∧ r = nI (frN q s 8) ∧ M' = M) := by
  intro n
  induction n with
  | zero =>
    intro i  hin
    refine Go.iload_n dX3_fromOtherSets_4 rfl ?_
    refine Go.bipush (v := 8) dX3_fromOtherSets_5 (by decide) ?_
    refine Go.icmp_ge 29 dX3_fromOtherSets_7 rfl (fun _ => ?_) (fun h7 => absurd (nI_le (a := 8) (b := i) (by omega) (by omega)) h7)
    refine Go.iload_n dX3_fromOtherSets_29 rfl ?_
    refine Go.iret dX3_fromOtherSets_30 rfl rfl ?_
    have e9 : i = 8 := by omega
    subst e9
    exact ⟨_, rfl, rfl, rfl⟩
  | succ n ih =>
    intro i  hin
    have hi : i < 8 := by omega
    have hx2 := xor2 hs hi
    refine Go.iload_n dX3_fromOtherSets_4 rfl ?_
    refine Go.bipush (v := 8) dX3_fromOtherSets_5 (by decide) ?_
    refine Go.icmp_ge 29 dX3_fromOtherSets_7 rfl (fun h7 => absurd h7 (nI_ge (a := i) (b := 8) (by omega) (by omega))) (fun _ => ?_)
    refine Go.iload_n dX3_fromOtherSets_10 rfl ?_
    refine Go.aload_n dX3_fromOtherSets_11 rfl ?_
    refine Go.getR dX3_fromOtherSets_12 flX3_15 (shp hG rfl) rfl ?_
    refine Go.iload_n dX3_fromOtherSets_15 rfl ?_
    refine Go.iconst (v := 1) dX3_fromOtherSets_16 (by decide) ?_
    refine Go.iload_n dX3_fromOtherSets_17 rfl ?_
    refine Go.ishl dX3_fromOtherSets_18 ?_
    refine Go.eqI (y := nI (2 ^ i)) (shl1 i (by omega)) ?_
    refine Go.ixor dX3_fromOtherSets_19 ?_
    refine Go.eqI (y := nI (s ^^^ 2 ^ i)) (nx_xor _ _) ?_
    refine Go.iald dX3_fromOtherSets_20 (shp hG rfl) (vin hx2 (by decide)) ?_
    refine Go.eqI (y := nI (qM q (s ^^^ 2 ^ i))) (by rw [ncl (by omega)]; exact hB _ hx2) ?_
    refine Go.ior dX3_fromOtherSets_21 ?_
    refine Go.eqI (y := nI (frN q s i ||| qM q (s ^^^ 2 ^ i))) (fa_or _ _) ?_
    refine Go.istore_n (ls' := [some (.ref 34), some (.int (nI s)), some (.int (nI (frN q s i ||| qM q (s ^^^ 2 ^ i)))), some (.int (nI i))]) dX3_fromOtherSets_22 (Nat.le_of_ble_eq_true rfl) rfl rfl ?_
    refine Go.iinc (v := nI (i + 1)) (ls' := [some (.ref 34), some (.int (nI s)), some (.int (nI (frN q s i ||| qM q (s ^^^ 2 ^ i)))), some (.int (nI (i + 1)))]) dX3_fromOtherSets_23 rfl (nI_1 _) rfl rfl ?_
    refine Go.goto 4 dX3_fromOtherSets_26 rfl ?_
    exact ih (i + 1) (by omega)
set_option maxRecDepth 20000 in
theorem s_from {G : Gt} {d : Nat} {M : Mm} (hG : gS G = SHAPE) {q : Nat → Bool} (hB : ∀ s, s < 256 → M.1 36 s = nI (qM q s)) {s : Nat} (hs : s < 256) : ExI G (d) mX3_fromOtherSets [.ref 34, .int (nI s)] M (fun r M' => r = nI (frN q s 8) ∧ M' = M) := by
  refine Ex.of (by decide) (Nat.le_of_ble_eq_true rfl) ?_
  show Go G (d) mX3_fromOtherSets 0 [some (.ref 34), some (.int (nI s)), none, none] [] M _
  refine Go.iconst (v := 0) dX3_fromOtherSets_0 (by decide) ?_
  refine Go.istore_n (ls' := [some (.ref 34), some (.int (nI s)), some (.int 0), none]) dX3_fromOtherSets_1 (Nat.le_of_ble_eq_true rfl) rfl rfl ?_
  refine Go.iconst (v := 0) dX3_fromOtherSets_2 (by decide) ?_
  refine Go.istore_n (ls' := [some (.ref 34), some (.int (nI s)), some (.int 0), some (.int 0)]) dX3_fromOtherSets_3 (Nat.le_of_ble_eq_true rfl) rfl rfl ?_
  exact l_from hG hB hs 8 0 (by omega)
/-- whether one comes to a dish in one step from what is reached -/
def nbB (q : Nat → Bool) (y : Nat) : Bool := exN (fun m' => q (20 * (y / 20) + m') && (decide (m' / 4 = y % 20 / 4) || decide (m' % 4 = y % 20 % 4))) 20 || exN (fun t => q (20 * ((y / 20) ^^^ 2 ^ t) + y % 20)) 8
def Rb (f : Nat → Int32) (c : Nat → Nat) (x : Nat) : Nat → Nat → Bool
  | 0, y => decide (y = x)
  | n + 1, y => Rb f c x n y || (okD y && goodP f c y && nbB (Rb f c x n) y)
theorem nbB_congr {q q' : Nat → Bool} (h : ∀ y, y < 5120 → q y = q' y) {y : Nat} (hy : y < 5120) : nbB q y = nbB q' y := by
  unfold nbB
  rw [exN_congr 20 (fun i hi => by rw [h _ (by omega)]), exN_congr 8 (fun t ht => h _ (by have := xor2 (s := y / 20) (by omega) ht; omega))]
theorem Rb_congr {f f' : Nat → Int32} (h : E8 f f') (c : Nat → Nat) (x : Nat) : ∀ n y, Rb f c x n y = Rb f' c x n y
  | 0, _ => rfl
  | n + 1, y => by
    have e : Rb f c x n = Rb f' c x n := funext (Rb_congr h c x n)
    rw [Rb, Rb, e, goodP_congr h]
theorem Rb_mono {f : Nat → Int32} {c : Nat → Nat} {x n y : Nat} (h : Rb f c x n y = true) : Rb f c x (n + 1) y = true := by rw [Rb, h]; rfl
theorem Rb_le {f : Nat → Int32} {c : Nat → Nat} {x y n : Nat} (h : Rb f c x n y = true) : ∀ k, Rb f c x (n + k) y = true
  | 0 => h
  | k + 1 => Rb_mono (Rb_le h k)
theorem Rb_stable {f : Nat → Int32} {c : Nat → Nat} {x n : Nat} (h : ∀ y, y < 5120 → Rb f c x (n + 1) y = Rb f c x n y) : ∀ k y, y < 5120 → Rb f c x (n + k) y = Rb f c x n y
  | 0, _, _ => rfl
  | k + 1, y, hy => by
    have ih := Rb_stable h k
    rw [show n + (k + 1) = (n + k) + 1 by omega, Rb, ih y hy, nbB_congr (fun z hz => ih z hz) hy]
    exact h y hy
theorem Rb_ok {f : Nat → Int32} {c : Nat → Nat} {x : Nat} (hx : okD x = true) : ∀ n y, Rb f c x n y = true → okD y = true
  | 0, y, h => by rw [of_decide_eq_true h]; exact hx
  | n + 1, y, h => by
    rw [Rb, Bool.or_eq_true, Bool.and_eq_true, Bool.and_eq_true] at h
    rcases h with h | h
    · exact Rb_ok hx n y h
    · exact h.1.1
def Rp (M : Mm) (q : Nat → Bool) : Prop := ∀ s, s < 256 → M.1 35 s = nI (qM q s)
theorem okD_at {s m : Nat} (hm : m < 20) : okD (20 * s + m) = okS s := by
  unfold okD
  rw [show (20 * s + m) / 20 = s by omega]
theorem qM_next {f : Nat → Int32} {c : Nat → Nat} {x n s : Nat} (hs : okS s = true) : qM (Rb f c x (n + 1)) s = qM (Rb f c x n) s ||| (maskN (fun i => (svM f c s).testBit i && !(qM (Rb f c x n) s).testBit i) 20 &&& (omN (qM (Rb f c x n) s) ||| frN (Rb f c x n) s 8)) := by
  apply Nat.eq_of_testBit_eq
  intro m
  by_cases hm : m < 20
  · rw [qM_bit _ _ hm, Nat.testBit_or, Nat.testBit_and, Nat.testBit_or, maskN_bit, omN_bit _ hm, frN_bit _ _ hm, svM_bit _ _ _ _ hm, qM_bit _ _ hm, Rb, okD_at hm, hs, decide_eq_true hm]
    unfold nbB omB
    rw [show (20 * s + m) / 20 = s by omega, show (20 * s + m) % 20 = m by omega]
    rw [exN_congr (p := fun m' => (qM (Rb f c x n) s).testBit m' && (decide (m' / 4 = m / 4) || decide (m' % 4 = m % 4))) (q := fun m' => Rb f c x n (20 * s + m') && (decide (m' / 4 = m / 4) || decide (m' % 4 = m % 4))) 20 (fun i hi => by rw [qM_bit _ _ hi])]
    cases Rb f c x n (20 * s + m) <;> cases goodP f c (20 * s + m) <;> simp
  · have a1 : (qM (Rb f c x (n + 1)) s).testBit m = false := by unfold qM; rw [maskN_bit]; simp [hm]
    have a2 : (qM (Rb f c x n) s).testBit m = false := by unfold qM; rw [maskN_bit]; simp [hm]
    rw [a1, Nat.testBit_or, a2, Nat.testBit_and, maskN_bit, decide_eq_false hm]
    simp
theorem qM_out {f : Nat → Int32} {c : Nat → Nat} {x n s : Nat} (hs : okS s = false) : qM (Rb f c x (n + 1)) s = qM (Rb f c x n) s := by
  refine maskN_congr 20 (fun m hm => ?_)
  rw [Rb, okD_at hm, hs]
  simp
theorem qM_eq {q q' : Nat → Bool} {s : Nat} (h : qM q s = qM q' s) {m : Nat} (hm : m < 20) : q (20 * s + m) = q' (20 * s + m) := by rw [← qM_bit q s hm, h, qM_bit _ _ hm]
