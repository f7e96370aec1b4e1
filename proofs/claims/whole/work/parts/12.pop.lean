/-! ===== how many bits: Integer.bitCount over masks of 20 bits ===== -/
theorem andSplit {a p : Nat} (x q : Nat) (ha : a < 256) (hp : p < 256) : (a + 256 * x) &&& (p + 256 * q) = (a &&& p) + 256 * (x &&& q) := by
  have h1 : ((a + 256 * x) &&& (p + 256 * q)) % 2 ^ 8 = (a &&& p) := by
    rw [Nat.and_mod_two_pow]
    congr 1 <;> omega
  have h2 : ((a + 256 * x) &&& (p + 256 * q)) / 2 ^ 8 = (x &&& q) := by
    rw [Nat.and_div_two_pow]
    congr 1 <;> omega
  have h3 := Nat.div_add_mod ((a + 256 * x) &&& (p + 256 * q)) (2 ^ 8)
  rw [h1, h2] at h3
  omega
def F1 (n : Nat) : Nat := n - ((n / 2) &&& 1431655765)
def F2 (n : Nat) : Nat := (n &&& 858993459) + ((n / 4) &&& 858993459)
def F3 (n : Nat) : Nat := (n + n / 16) &&& 252645135
def F4 (n : Nat) : Nat := n + n / 256
def F5 (n : Nat) : Nat := (n + n / 65536) &&& 63
def pop8 (a : Nat) : Nat := sumN (fun i => if a.testBit i then 1 else 0) 8
theorem q1 : ∀ a, a < 256 → ∀ r, r < 2 → ((a / 2 + 128 * r) &&& 85) = ((a / 2) &&& 85) := by decide +kernel
theorem q2 : ∀ a, a < 256 → ((a / 2) &&& 85) ≤ a ∧ a - ((a / 2) &&& 85) < 256 := by decide +kernel
theorem q3 : ∀ a, a < 256 → ∀ r, r < 4 → ((a / 4 + 64 * r) &&& 51) = ((a / 4) &&& 51) := by decide +kernel
theorem q4 : ∀ a, a < 256 → (((a - ((a / 2) &&& 85)) &&& 51) + (((a - ((a / 2) &&& 85)) / 4) &&& 51)) ≤ 68 ∧ (((a - ((a / 2) &&& 85)) &&& 51) + (((a - ((a / 2) &&& 85)) / 4) &&& 51)) % 16 ≤ 4 := by decide +kernel
theorem q5 : ∀ a, a < 69 → ∀ r, r < 5 → ((a + a / 16 + 16 * r) &&& 15) = ((a + a / 16) &&& 15) := by decide +kernel
theorem q6 : ∀ a, a < 256 → ((((a - ((a / 2) &&& 85)) &&& 51) + (((a - ((a / 2) &&& 85)) / 4) &&& 51)) + (((a - ((a / 2) &&& 85)) &&& 51) + (((a - ((a / 2) &&& 85)) / 4) &&& 51)) / 16) &&& 15 = pop8 a := by decide +kernel
theorem q7 : ∀ a, a < 256 → pop8 a ≤ 8 := by decide +kernel
def A1 (a : Nat) : Nat := a - ((a / 2) &&& 85)
def A2 (a : Nat) : Nat := (A1 a &&& 51) + ((A1 a / 4) &&& 51)
theorem F1_split {a b c : Nat} (ha : a < 256) (hb : b < 256) (hc : c < 16) : F1 (a + 256 * (b + 256 * c)) = A1 a + 256 * (A1 b + 256 * A1 c) := by
  have h1 : (a + 256 * (b + 256 * c)) / 2 = (a / 2 + 128 * (b % 2)) + 256 * ((b / 2 + 128 * (c % 2)) + 256 * (c / 2)) := by omega
  have h2 : (1431655765 : Nat) = 85 + 256 * (85 + 256 * 21845) := by decide
  have h3 : c / 2 &&& 21845 = (c / 2) &&& 85 := by
    have : ∀ c, c < 16 → (c / 2 &&& 21845) = ((c / 2) &&& 85) := by decide +kernel
    exact this c hc
  unfold F1
  rw [h1, h2, andSplit _ _ (by omega) (by decide), andSplit _ _ (by omega) (by decide), q1 a ha _ (by omega), q1 b hb _ (by omega), h3]
  have g1 := (q2 a ha).1
  have g2 := (q2 b hb).1
  have g3 := (q2 c (by omega)).1
  unfold A1
  omega
theorem F2_split {a b c : Nat} (ha : a < 256) (hb : b < 256) (hc : c < 16) : F2 (A1 a + 256 * (A1 b + 256 * A1 c)) = A2 a + 256 * (A2 b + 256 * A2 c) := by
  have g1 := (q2 a ha).2
  have g2 := (q2 b hb).2
  have g3 : A1 c < 16 := by
    have : ∀ c, c < 16 → A1 c < 16 := by decide +kernel
    exact this c hc
  change A1 a < 256 at g1
  change A1 b < 256 at g2
  have h1 : (A1 a + 256 * (A1 b + 256 * A1 c)) / 4 = (A1 a / 4 + 64 * (A1 b % 4)) + 256 * ((A1 b / 4 + 64 * (A1 c % 4)) + 256 * (A1 c / 4)) := by omega
  have h2 : (858993459 : Nat) = 51 + 256 * (51 + 256 * 13107) := by decide
  have h3 : (A1 c / 4 &&& 13107) = ((A1 c / 4) &&& 51) ∧ (A1 c &&& 13107) = (A1 c &&& 51) := by
    have : ∀ c, c < 16 → ((c / 4 &&& 13107) = ((c / 4) &&& 51) ∧ (c &&& 13107) = (c &&& 51)) := by decide +kernel
    exact this _ g3
  unfold F2
  rw [h1, h2, andSplit _ _ g1 (by decide), andSplit _ _ g2 (by decide), andSplit _ _ (by omega) (by decide), andSplit _ _ (by omega) (by decide), q3 _ g1 _ (by omega), q3 _ g2 _ (by omega), h3.1, h3.2]
  unfold A2
  omega
theorem F3_split {a b c : Nat} (ha : a < 256) (hb : b < 256) (hc : c < 16) : F3 (A2 a + 256 * (A2 b + 256 * A2 c)) = pop8 a + 256 * (pop8 b + 256 * pop8 c) := by
  have g1 := q4 a ha
  have g2 := q4 b hb
  have g3 := q4 c (by omega)
  change A2 a ≤ 68 ∧ A2 a % 16 ≤ 4 at g1
  change A2 b ≤ 68 ∧ A2 b % 16 ≤ 4 at g2
  change A2 c ≤ 68 ∧ A2 c % 16 ≤ 4 at g3
  have e1 := q6 a ha
  have e2 := q6 b hb
  have e3 := q6 c (by omega)
  change (A2 a + A2 a / 16) &&& 15 = pop8 a at e1
  change (A2 b + A2 b / 16) &&& 15 = pop8 b at e2
  change (A2 c + A2 c / 16) &&& 15 = pop8 c at e3
  have h1 : (A2 a + 256 * (A2 b + 256 * A2 c)) + (A2 a + 256 * (A2 b + 256 * A2 c)) / 16 = (A2 a + A2 a / 16 + 16 * (A2 b % 16)) + 256 * ((A2 b + A2 b / 16 + 16 * (A2 c % 16)) + 256 * (A2 c + A2 c / 16)) := by omega
  have h2 : (252645135 : Nat) = 15 + 256 * (15 + 256 * 3855) := by decide
  have h3 : (A2 c + A2 c / 16) &&& 3855 = (A2 c + A2 c / 16) &&& 15 := by
    have : ∀ c, c < 100 → (c &&& 3855) = (c &&& 15) := by decide +kernel
    exact this _ (by omega)
  unfold F3
  rw [h1, h2, andSplit _ _ (by omega) (by decide), andSplit _ _ (by omega) (by decide), q5 _ (by omega) _ (by omega), q5 _ (by omega) _ (by omega), h3, e1, e2, e3]
theorem F45 {p q r : Nat} (hp : p ≤ 8) (hq : q ≤ 8) (hr : r ≤ 8) : F5 (F4 (p + 256 * (q + 256 * r))) = p + q + r := by
  have h1 : F4 (p + 256 * (q + 256 * r)) = (p + q) + 256 * (q + r + 256 * r) := by unfold F4; omega
  unfold F5
  rw [h1]
  have h2 := Nat.and_two_pow_sub_one_eq_mod ((p + q + 256 * (q + r + 256 * r)) + (p + q + 256 * (q + r + 256 * r)) / 65536) 6
  have h3 : (p + q + 256 * (q + r + 256 * r)) / 65536 = r := by omega
  rw [show (63 : Nat) = 2 ^ 6 - 1 from rfl, h2, h3, show (2 : Nat) ^ 6 = 64 from rfl]
  omega
def popN (n : Nat) : Nat := pop8 (n % 256) + pop8 (n / 256 % 256) + pop8 (n / 65536)
theorem pcN {n : Nat} (h : n < 2 ^ 20) : F5 (F4 (F3 (F2 (F1 n)))) = popN n := by
  have e : n = n % 256 + 256 * (n / 256 % 256 + 256 * (n / 65536)) := by omega
  have h1 : n % 256 < 256 := by omega
  have h2 : n / 256 % 256 < 256 := by omega
  have h3 : n / 65536 < 16 := by omega
  conv => lhs; rw [e]
  rw [F1_split h1 h2 h3, F2_split h1 h2 h3, F3_split h1 h2 h3, F45 (q7 _ h1) (q7 _ h2) (q7 _ (by omega))]
  rfl
theorem u1 : (((1 : Int32).toUInt32 &&& Int32.toUInt32 31).toBitVec % 32).toNat = 1 := by decide +kernel
theorem u2 : (((2 : Int32).toUInt32 &&& Int32.toUInt32 31).toBitVec % 32).toNat = 2 := by decide +kernel
theorem u4 : (((4 : Int32).toUInt32 &&& Int32.toUInt32 31).toBitVec % 32).toNat = 4 := by decide +kernel
theorem u8 : (((8 : Int32).toUInt32 &&& Int32.toUInt32 31).toBitVec % 32).toNat = 8 := by decide +kernel
theorem u16 : (((16 : Int32).toUInt32 &&& Int32.toUInt32 31).toBitVec % 32).toNat = 16 := by decide +kernel
theorem pcI_nI {n : Nat} (h : n < 2 ^ 20) : pcI (nI n) = nI (popN n) := by
  have e : n = n % 256 + 256 * (n / 256 % 256 + 256 * (n / 65536)) := by omega
  have h1 : n % 256 < 256 := by omega
  have h2 : n / 256 % 256 < 256 := by omega
  have h3 : n / 65536 < 16 := by omega
  have s1 := F1_split h1 h2 h3
  have s2 := F2_split h1 h2 h3
  have s3 := F3_split h1 h2 h3
  rw [← e] at s1
  rw [← s1] at s2
  rw [← s2] at s3
  have k1 : F1 n < 2 ^ 21 := by unfold F1; omega
  have k2 : F2 (F1 n) < 2 ^ 22 := by
    have a1 : F1 n &&& 858993459 ≤ F1 n := Nat.and_le_left
    have a2 : F1 n / 4 &&& 858993459 ≤ F1 n / 4 := Nat.and_le_left
    unfold F2
    omega
  have k3 : F3 (F2 (F1 n)) < 2 ^ 23 := by
    have a1 : (F2 (F1 n) + F2 (F1 n) / 16) &&& 252645135 ≤ F2 (F1 n) + F2 (F1 n) / 16 := Nat.and_le_left
    unfold F3
    omega
  have k4 : F4 (F3 (F2 (F1 n))) < 2 ^ 24 := by unfold F4; omega
  have hsub : (n / 2 &&& 1431655765) ≤ n := Nat.le_trans Nat.and_le_left (Nat.div_le_self _ _)
  have t1 : nI n - (((nI n).toUInt32 >>> ((1 : Int32).toUInt32 &&& Int32.toUInt32 31)).toInt32 &&& 1431655765) = nI (F1 n) := by
    rw [pk_ushrN (by omega) 1 1 u1, show (1431655765 : Int32) = nI 1431655765 from rfl, fa_and, pk_sub hsub]
    rfl
  have t2 : (nI (F1 n) &&& 858993459) + (((nI (F1 n)).toUInt32 >>> ((2 : Int32).toUInt32 &&& Int32.toUInt32 31)).toInt32 &&& 858993459) = nI (F2 (F1 n)) := by
    rw [pk_ushrN (by omega) 2 2 u2, show (858993459 : Int32) = nI 858993459 from rfl, fa_and, fa_and, nI_add]
    rfl
  have t3 : (nI (F2 (F1 n)) + ((nI (F2 (F1 n))).toUInt32 >>> ((4 : Int32).toUInt32 &&& Int32.toUInt32 31)).toInt32) &&& 252645135 = nI (F3 (F2 (F1 n))) := by
    rw [pk_ushrN (by omega) 4 4 u4, show (252645135 : Int32) = nI 252645135 from rfl, nI_add, fa_and]
    rfl
  have t4 : nI (F3 (F2 (F1 n))) + ((nI (F3 (F2 (F1 n)))).toUInt32 >>> ((8 : Int32).toUInt32 &&& Int32.toUInt32 31)).toInt32 = nI (F4 (F3 (F2 (F1 n)))) := by
    rw [pk_ushrN (by omega) 8 8 u8, nI_add]
    rfl
  have t5 : (nI (F4 (F3 (F2 (F1 n)))) + ((nI (F4 (F3 (F2 (F1 n))))).toUInt32 >>> ((16 : Int32).toUInt32 &&& Int32.toUInt32 31)).toInt32) &&& 63 = nI (F5 (F4 (F3 (F2 (F1 n))))) := by
    rw [pk_ushrN (by omega) 16 16 u16, show (63 : Int32) = nI 63 from rfl, nI_add, fa_and]
    rfl
  unfold pcI
  simp only [t1, t2, t3, t4, t5]
  rw [pcN h]
theorem popN_bits {n : Nat} (h : n < 2 ^ 20) : popN n = sumN (fun i => if n.testBit i then 1 else 0) 20 := by
  have b1 : ∀ i, i < 8 → (n % 256).testBit i = n.testBit i := fun i hi => by
    have := Nat.testBit_mod_two_pow n 8 i
    simpa [hi] using this
  have b2 : ∀ i, i < 8 → (n / 256 % 256).testBit i = n.testBit (8 + i) := fun i hi => by
    have := Nat.testBit_mod_two_pow (n / 256) 8 i
    have h9 : (n / 2 ^ 8).testBit i = n.testBit (i + 8) := by rw [Nat.testBit_div_two_pow]
    rw [show (256 : Nat) = 2 ^ 8 from rfl] at this ⊢
    rw [this, h9]
    simp [hi, Nat.add_comm]
  have b3 : ∀ i, (n / 65536).testBit i = n.testBit (16 + i) := fun i => by
    rw [show (65536 : Nat) = 2 ^ 16 from rfl, Nat.testBit_div_two_pow, Nat.add_comm]
  have b4 : ∀ i, 20 ≤ i → n.testBit i = false := fun i hi => Nat.testBit_lt_two_pow (Nat.lt_of_lt_of_le h (Nat.pow_le_pow_right (by decide) hi))
  simp only [popN, pop8, sumN, b1 0 (by decide), b1 1 (by decide), b1 2 (by decide), b1 3 (by decide), b1 4 (by decide), b1 5 (by decide), b1 6 (by decide), b1 7 (by decide), b2 0 (by decide), b2 1 (by decide), b2 2 (by decide), b2 3 (by decide), b2 4 (by decide), b2 5 (by decide), b2 6 (by decide), b2 7 (by decide), b3, b4 (16 + 4) (by decide), b4 (16 + 5) (by decide), b4 (16 + 6) (by decide), b4 (16 + 7) (by decide)]
  simp [Nat.add_assoc]
theorem sumN_congr {f g : Nat → Nat} : ∀ n, (∀ i, i < n → f i = g i) → sumN f n = sumN g n
  | 0, _ => rfl
  | n + 1, h => by rw [sumN, sumN, sumN_congr n (fun i hi => h i (by omega)), h n (by omega)]
theorem pop_mask (p : Nat → Bool) : popN (maskN p 20) = sumN (fun m => if p m then 1 else 0) 20 := by
  rw [popN_bits (maskN_lt p 20)]
  apply sumN_congr
  intro i hi
  rw [maskN_bit]
  simp [hi]
