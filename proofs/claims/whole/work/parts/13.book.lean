/-! ===== a book, as plain numbers ===== -/
def allN (p : Nat → Bool) : Nat → Bool
  | 0 => true
  | n + 1 => allN p n && p n
theorem allN_iff (p : Nat → Bool) : ∀ n, allN p n = true ↔ ∀ i, i < n → p i = true
  | 0 => by simp [allN]
  | n + 1 => by
    rw [allN, Bool.and_eq_true, allN_iff p n]
    constructor
    · intro ⟨h1, h2⟩ i hi
      by_cases h : i = n
      · rw [h]; exact h2
      · exact h1 i (by omega)
    · intro h
      exact ⟨fun i hi => h i (by omega), h n (by omega)⟩
/-- the first one from i on, of n -/
def fstF (p : Nat → Bool) : Nat → Nat → Option Nat
  | _, 0 => none
  | i, n + 1 => if p i then some i else fstF p (i + 1) n
theorem fstF_some {p : Nat → Bool} : ∀ {n i j : Nat}, fstF p i n = some j → i ≤ j ∧ j < i + n ∧ p j = true ∧ ∀ k, i ≤ k → k < j → p k = false
  | 0, i, j, h => by simp [fstF] at h
  | n + 1, i, j, h => by
    rw [fstF] at h
    by_cases hp : p i = true
    · rw [if_pos hp] at h
      cases h
      exact ⟨Nat.le_refl _, by omega, hp, fun k h1 h2 => by omega⟩
    · rw [if_neg hp] at h
      obtain ⟨a, b, c, e⟩ := fstF_some h
      refine ⟨by omega, by omega, c, fun k h1 h2 => ?_⟩
      by_cases hk : k = i
      · rw [hk]; simpa using hp
      · exact e k (by omega) h2
theorem fstF_none {p : Nat → Bool} : ∀ {n i : Nat}, fstF p i n = none → ∀ k, i ≤ k → k < i + n → p k = false
  | 0, i, _, k, h1, h2 => by omega
  | n + 1, i, h, k, h1, h2 => by
    rw [fstF] at h
    by_cases hp : p i = true
    · rw [if_pos hp] at h; cases h
    · rw [if_neg hp] at h
      by_cases hk : k = i
      · rw [hk]; simpa using hp
      · exact fstF_none h k (by omega) (by omega)
theorem fstF_congr {p q : Nat → Bool} : ∀ (n i : Nat), (∀ k, i ≤ k → k < i + n → p k = q k) → fstF p i n = fstF q i n
  | 0, _, _ => rfl
  | n + 1, i, h => by
    rw [fstF, fstF, h i (Nat.le_refl _) (by omega), fstF_congr n (i + 1) (fun k h1 h2 => h k (by omega) (by omega))]
def optI (d : Int32) : Option Nat → Int32
  | some i => nI i
  | none => d
def posN (f : Nat → Int32) (t : Nat) : Bool := decide (0 < f t)
/-- all things of a set are in store -/
def canN (f : Nat → Int32) (s : Nat) : Bool := allN (fun t => !s.testBit t || posN f t) 8
theorem bv_nI (n i : Nat) (hi : i < 32) : (nI n).toBitVec.getLsbD i = n.testBit i := by
  show (BitVec.ofNat 32 n).getLsbD i = _
  rw [BitVec.getLsbD_ofNat]
  simp [hi]
theorem andnot {s m : Nat} (hs : s < 2 ^ 31) : (nI s &&& (nI m ^^^ (-1))) = 0 ↔ s &&& m = s := by
  have key : ∀ i, i < 32 → (nI s &&& (nI m ^^^ (-1))).toBitVec.getLsbD i = (s.testBit i && !m.testBit i) := by
    intro i hi
    rw [Int32.toBitVec_and, Int32.toBitVec_xor, BitVec.getLsbD_and, BitVec.getLsbD_xor, bv_nI _ _ hi, bv_nI _ _ hi]
    have : (-1 : Int32).toBitVec.getLsbD i = true := by
      have h9 : ∀ i, i < 32 → (-1 : Int32).toBitVec.getLsbD i = true := by decide +kernel
      exact h9 i hi
    rw [this]
    simp
  constructor
  · intro h
    apply Nat.eq_of_testBit_eq
    intro i
    rw [Nat.testBit_and]
    by_cases hi : i < 32
    · have := key i hi
      rw [h] at this
      have z : (0 : Int32).toBitVec.getLsbD i = false := by simp
      rw [z] at this
      revert this
      cases s.testBit i <;> cases m.testBit i <;> simp
    · have : s.testBit i = false := Nat.testBit_lt_two_pow (Nat.lt_of_lt_of_le hs (Nat.pow_le_pow_right (by decide) (by omega)))
      rw [this]
      simp
  · intro h
    apply Int32.toBitVec_inj.mp
    apply BitVec.eq_of_getLsbD_eq
    intro i hi
    rw [key i hi]
    have h2 : (s &&& m).testBit i = s.testBit i := by rw [h]
    rw [Nat.testBit_and] at h2
    have z : (0 : Int32).toBitVec.getLsbD i = false := by simp
    rw [z]
    revert h2
    cases s.testBit i <;> cases m.testBit i <;> simp
theorem canN_mask {f : Nat → Int32} {s : Nat} (hs : s < 256) : (s &&& maskN (posN f) 8 = s) ↔ canN f s = true := by
  rw [canN, allN_iff]
  constructor
  · intro h t ht
    have h2 : (s &&& maskN (posN f) 8).testBit t = s.testBit t := by rw [h]
    rw [Nat.testBit_and, maskN_bit] at h2
    revert h2
    cases s.testBit t <;> simp [ht]
  · intro h
    apply Nat.eq_of_testBit_eq
    intro t
    rw [Nat.testBit_and, maskN_bit]
    by_cases ht : t < 8
    · have := h t ht
      revert this
      cases s.testBit t <;> simp [ht]
    · have : s.testBit t = false := Nat.testBit_lt_two_pow (Nat.lt_of_lt_of_le hs (Nat.pow_le_pow_right (n := 2) (i := 8) (by decide) (by omega)))
      rw [this]
      simp
def likF (lt : Nat → Int32) (c : Int32) (s : Nat) : Nat → Int32
  | 0 => c
  | t + 1 => likF lt c s t + (if s.testBit t then lt t else 0)
/-- how much a dish is liked -/
def likD (lt lw ls : Nat → Int32) (x : Nat) : Int32 := likF lt (lw (x % 20 / 4) + ls (x % 4)) (x / 20) 8
def Bk (M : Mm) (b n : Nat) (K X : Nat → Nat) (ed : Nat) : Prop :=
  n ≤ 30 ∧ ed < 4 ∧ M.1 b 7 = nI n ∧ M.1 b 8 = nI ed ∧ ∀ e, e < n → K e < 6 ∧ okD (X e) = true ∧ M.1 (b + 5) e = nI (K e) ∧ M.1 (b + 6) e = nI (X e)
def barB (K X : Nat → Nat) (ed x : Nat) (e : Nat) : Bool := barsN (K e) (X e) x ed
/-- nothing but these cells' ints changes -/
def Same (S : List Nat) (M M' : Mm) : Prop := (∀ a, a ∉ S → M'.1 a = M.1 a) ∧ M'.2 = M.2
theorem Same.refl (S : List Nat) (M : Mm) : Same S M M := ⟨fun _ _ => rfl, rfl⟩
theorem Same.trans {S : List Nat} {M N L : Mm} (h1 : Same S M N) (h2 : Same S N L) : Same S M L := ⟨fun a ha => (h2.1 a ha).trans (h1.1 a ha), h2.2.trans h1.2⟩
theorem Same.mono {S T : List Nat} {M N : Mm} (h : Same S M N) (hs : ∀ a, a ∈ S → a ∈ T) : Same T M N := ⟨fun a ha => h.1 a (fun q => ha (hs a q)), h.2⟩
theorem Same.seti (M : Mm) (k : Nat) (f : Nat → Int32) {S : List Nat} (h : k ∈ S) : Same S M (seti M k f) := ⟨fun a ha => by
  have : a ≠ k := fun e => ha (e ▸ h)
  simp [Pilot.CNewDishesLaw_law_r9143_bfd54f.seti, this], rfl⟩
theorem Same.upi (M : Mm) (k j : Nat) (x : Int32) {S : List Nat} (h : k ∈ S) : Same S M (upi M k j x) := Same.seti M k _ h
theorem rd_ne {M : Mm} {k j a : Nat} {x : Int32} (h : a ≠ k) : (upi M k j x).1 a = M.1 a := by simp [Pilot.CNewDishesLaw_law_r9143_bfd54f.upi, Pilot.CNewDishesLaw_law_r9143_bfd54f.seti, h]
theorem rd_eq {M : Mm} {k j : Nat} {x : Int32} : (upi M k j x).1 k = upd (M.1 k) j x := by simp [Pilot.CNewDishesLaw_law_r9143_bfd54f.upi, Pilot.CNewDishesLaw_law_r9143_bfd54f.seti]
theorem rd_l {M : Mm} {k j : Nat} {x : Int32} : (upi M k j x).2 = M.2 := rfl
