/-! ===== the dishes as plain numbers: what bars what ===== -/
def setsN : List Nat := [1, 2, 3, 4, 5, 6, 7, 8, 9, 10, 11, 12, 13, 14, 16, 17, 18, 19, 20, 21, 22, 24, 25, 26, 28, 32, 33, 34, 35, 36, 37, 38, 40, 41, 42, 44, 48, 49, 50, 52, 56, 64, 65, 66, 67, 68, 69, 70, 72, 73, 74, 76, 80, 81, 82, 84, 88, 96, 97, 98, 100, 104, 112, 128, 129, 130, 131, 132, 133, 134, 136, 137, 138, 140, 144, 145, 146, 148, 152, 160, 161, 162, 164, 168, 176, 192, 193, 194, 196, 200, 208, 224]
def sN (i : Nat) : Nat := setsN.getD i 0
def okS (s : Nat) : Bool := setsN.contains s
def okD (x : Nat) : Bool := okS (x / 20)
theorem okS_lt {s : Nat} (h : okS s = true) : s < 256 ∧ 0 < s := by
  have h1 : s ∈ setsN := by simpa [okS] using h
  have h2 : ∀ q ∈ setsN, q < 256 ∧ 0 < q := by decide
  exact h2 s h1
theorem okD_lt {x : Nat} (h : okD x = true) : x < 5120 ∧ 20 ≤ x := by
  have := okS_lt h
  omega
theorem setsF_nI : ∀ j, j < 92 → setsF j = nI (sN j) := by decide +kernel
theorem setsN_ok : ∀ j, j < 92 → okS (sN j) = true := by decide +kernel
theorem setsN_inc : ∀ j, j < 91 → sN j < sN (j + 1) := by decide +kernel
theorem isSetI_nI : ∀ s, s < 256 → isSetI (nI s) = okS s := by decide +kernel
theorem nI_inj {a b : Nat} (ha : a < 2 ^ 31) (hb : b < 2 ^ 31) : nI a = nI b ↔ a = b := nI_eq ha hb
theorem isSetI_ok {a : Int32} (h : isSetI a = true) : ∃ s, s < 256 ∧ a = nI s ∧ okS s = true := by
  have h1 : 0 < a ∧ a < 256 := by
    simp only [isSetI, Bool.and_eq_true, decide_eq_true_eq] at h
    exact h.1
  obtain ⟨j, hj, e⟩ := nI_of (x := a) (by rw [i_lt] at h1 ⊢; omega)
  have hj2 : j < 256 := by
    have := h1.2
    rw [e] at this
    exact (nI_ltI hj (by decide)).mp this
  refine ⟨j, hj2, e, ?_⟩
  rw [← isSetI_nI j hj2, ← e]
  exact h
theorem iset_nI {x : Nat} (h : x < 2 ^ 31) : iset (nI x) = nI (x / 20) := pk_div h (by decide) (by decide)
theorem iman_nI {x : Nat} (h : x < 2 ^ 31) : iman (nI x) = nI (x % 20) := pk_rem h (by decide) (by decide)
theorem iway_nI {x : Nat} (h : x < 2 ^ 31) : iway (nI x) = nI (x % 20 / 4) := by
  have e : iway (nI x) = iman (nI x) / 4 := rfl
  rw [e, iman_nI h]
  exact pk_div (by omega) (by decide) (by decide)
theorem isau_nI {x : Nat} (h : x < 2 ^ 31) : isau (nI x) = nI (x % 4) := pk_rem h (by decide) (by decide)
theorem isDishI_nI {x : Nat} (h : x < 2 ^ 31) : isDishI (nI x) = okD x := by
  unfold isDishI
  rw [iset_nI h]
  have h0 : decide (0 ≤ nI x) = true := by simpa using nI_pos' h
  rw [h0, Bool.true_and]
  by_cases h2 : x / 20 < 256
  · rw [isSetI_nI _ h2]
    rfl
  · have a : okD x = false := by
      cases e : okD x with
      | false => rfl
      | true => have := okS_lt e; omega
    rw [a]
    have b : decide (nI (x / 20) < 256) = false := by
      simp only [decide_eq_false_iff_not]
      intro h3
      have := (nI_ltI (a := x / 20) (b := 256) (by omega) (by decide)).mp h3
      omega
    simp [isSetI, b]
theorem isDishI_ok {a : Int32} (h : isDishI a = true) : ∃ x, x < 5120 ∧ a = nI x ∧ okD x = true := by
  have h0 : 0 ≤ a := by
    simp only [isDishI, Bool.and_eq_true, decide_eq_true_eq] at h
    exact h.1
  obtain ⟨j, hj, e⟩ := nI_of (x := a) (i_le_n h0)
  rw [e, isDishI_nI hj] at h
  exact ⟨j, (okD_lt h).1, e, h⟩
def askN (k m m' ed : Nat) : Bool :=
  match k with
  | 0 => (decide (ed / 2 = 0) || decide (m / 4 = m' / 4)) && (decide (ed % 2 = 0) || decide (m % 4 = m' % 4))
  | 1 => (decide (ed / 2 = 0) || decide (m / 4 = m' / 4)) && (decide (ed % 2 = 0) || decide (m % 4 = m' % 4))
  | 2 => false
  | 3 => decide (m / 4 = m' / 4) && decide (m % 4 = m' % 4)
  | 4 => true
  | _ => decide (m / 4 = m' / 4)
def partN (a b : Nat) : Bool := decide (a &&& b = a) || decide (a &&& b = b)
def psetN (k a b : Nat) : Bool := if k = 1 ∨ k = 4 then partN a b else decide (a = b)
def mbN (k m ed : Nat) : Nat := maskN (fun m' => askN k m m' ed) 20
def barsN (k own x ed : Nat) : Bool := psetN k (own / 20) (x / 20) && askN k (own % 20) (x % 20) ed
theorem imb_nI : ∀ k, k < 6 → ∀ m, m < 20 → ∀ ed, ed < 4 → imb (nI k) (nI m) (nI ed) = nI (mbN k m ed) := by decide +kernel
theorem partI_nI {a b : Nat} (ha : a < 2 ^ 31) (hb : b < 2 ^ 31) : partI (nI a) (nI b) = partN a b := by
  have h : a &&& b < 2 ^ 31 := Nat.lt_of_le_of_lt Nat.and_le_left ha
  unfold partI partN
  rw [fa_and]
  have e1 := nI_inj h ha
  have e2 := nI_inj h hb
  simp only [e1, e2]
theorem partsI_nI : ∀ k, k < 6 → partsI (nI k) = decide (k = 1 ∨ k = 4) := by decide +kernel
theorem bsetI_nI {k a b : Nat} (hk : k < 6) (ha : a < 2 ^ 31) (hb : b < 2 ^ 31) : bsetI (nI k) (nI a) (nI b) = psetN k a b := by
  unfold bsetI psetN
  rw [partsI_nI k hk, partI_nI ha hb]
  have e := nI_inj ha hb
  simp only [e]
  by_cases h : k = 1 ∨ k = 4 <;> simp [h]
theorem shr31 : ∀ i, i < 31 → ((nI i &&& 31).toBitVec.smod 32).toNat = i := by decide +kernel
theorem bitI_nI {a i : Nat} (ha : a < 2 ^ 31) (hi : i < 31) : bitI (nI a) (nI i) = a.testBit i := by
  unfold bitI
  rw [pk_shrN ha (nI i &&& 31) i (shr31 i hi)]
  rw [show (1 : Int32) = nI 1 from rfl, fa_and]
  have h1 : a / 2 ^ i &&& 1 = (a / 2 ^ i) % 2 := by
    have := Nat.and_two_pow_sub_one_eq_mod (a / 2 ^ i) 1
    simpa using this
  rw [h1]
  rw [show (0 : Int32) = nI 0 from rfl]
  have h2 := nI_inj (a := (a / 2 ^ i) % 2) (b := 0) (by omega) (by decide)
  simp only [h2]
  rw [Nat.testBit_eq_decide_div_mod_eq]
  by_cases h3 : a / 2 ^ i % 2 = 0
  · simp [h3]
  · have : a / 2 ^ i % 2 = 1 := by omega
    simp [this]
theorem bdishI_nI {k own x ed : Nat} (hk : k < 6) (ho : own < 5120) (hx : x < 5120) (he : ed < 4) : bdishI (nI k) (nI own) (nI x) (nI ed) = barsN k own x ed := by
  unfold bdishI barsN
  rw [iset_nI (by omega), iset_nI (by omega), iman_nI (by omega), iman_nI (by omega), bsetI_nI hk (by omega) (by omega), imb_nI k hk _ (by omega) ed he]
  have hm : mbN k (own % 20) ed < 2 ^ 31 := Nat.lt_trans (maskN_lt _ 20) (by decide)
  rw [bitI_nI hm (by omega)]
  unfold mbN
  rw [maskN_bit]
  simp [Nat.mod_lt]
