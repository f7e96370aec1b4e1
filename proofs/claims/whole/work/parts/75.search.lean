/-- one dish from another by one change -/
def adjB (x y : Nat) : Prop := (y / 20 = x / 20 ∧ (x % 20 / 4 = y % 20 / 4 ∨ x % 20 % 4 = y % 20 % 4)) ∨ ∃ t, t < 8 ∧ y / 20 = x / 20 ^^^ 2 ^ t ∧ y % 20 = x % 20
theorem xor_back (a b : Nat) : a ^^^ b ^^^ b = a := by rw [Nat.xor_assoc, Nat.xor_self, Nat.xor_zero]
theorem nb_iff {q : Nat → Bool} {y : Nat} : nbB q y = true ↔ ∃ x, q x = true ∧ adjB x y := by
  unfold nbB
  rw [Bool.or_eq_true, exN_iff, exN_iff]
  constructor
  · rintro (⟨m, h1, h2⟩ | ⟨t, h1, h2⟩)
    · rw [Bool.and_eq_true, Bool.or_eq_true] at h2
      refine ⟨_, h2.1, Or.inl ⟨by omega, ?_⟩⟩
      rcases h2.2 with h3 | h3
      · have := of_decide_eq_true h3
        left
        omega
      · have := of_decide_eq_true h3
        right
        omega
    · refine ⟨_, h2, Or.inr ⟨t, h1, ?_, by omega⟩⟩
      rw [show (20 * (y / 20 ^^^ 2 ^ t) + y % 20) / 20 = y / 20 ^^^ 2 ^ t by omega, xor_back]
  · rintro ⟨x, h1, ⟨h2, h3⟩ | ⟨t, h2, h3, h4⟩⟩
    · left
      refine ⟨x % 20, by omega, ?_⟩
      rw [show 20 * (y / 20) + x % 20 = x by omega, h1, Bool.true_and, Bool.or_eq_true]
      rcases h3 with h3 | h3
      · exact Or.inl (decide_eq_true h3)
      · exact Or.inr (decide_eq_true h3)
    · right
      refine ⟨t, h2, ?_⟩
      have e : y / 20 ^^^ 2 ^ t = x / 20 := by rw [h3, xor_back]
      rw [e, h4, show 20 * (x / 20) + x % 20 = x by omega]
      exact h1
/-- how far each place is; the row; how many are in it -/
abbrev Bf : Type := (Nat → Option Nat) × (Nat → Nat) × Nat
def bD (S : Bf) : Nat → Option Nat := S.1
def bW (S : Bf) : Nat → Nat := S.2.1
def bM (S : Bf) : Nat := S.2.2
def leO (o : Option Nat) (n : Nat) : Bool := match o with
  | some e => decide (e ≤ n)
  | none => false
def cmS (gd : Nat → Bool) (S : Bf) (p e : Nat) : Bf := if bD S p = none ∧ gd p = true then (fun z => if z = p then some e else bD S z, fun j => if j = bM S then p else bW S j, bM S + 1) else S
def Wf (S : Bf) : Prop := bM S ≤ 1840 ∧ (∀ j, j < bM S → bW S j < 1840 ∧ ∃ e, bD S (bW S j) = some e ∧ e ≤ j) ∧ (∀ p, p < 1840 → ∀ e, bD S p = some e → ∃ j, j < bM S ∧ bW S j = p) ∧ (∀ i j e e', i ≤ j → j < bM S → bD S (bW S i) = some e → bD S (bW S j) = some e' → e ≤ e') ∧ ∀ n, cntN (fun j => leO (bD S (bW S j)) n) (bM S) = cntN (fun p => leO (bD S p) n) 1840
/-- while one place of the row is gone from -/
def Iv (S : Bf) (k e0 : Nat) : Prop := Wf S ∧ k < bM S ∧ bD S (bW S k) = some e0 ∧ ∀ j, j < bM S → ∀ e, bD S (bW S j) = some e → e ≤ e0 + 1
def Ext (S S' : Bf) : Prop := bM S ≤ bM S' ∧ (∀ j, j < bM S → bW S' j = bW S j) ∧ ∀ p e, bD S p = some e → bD S' p = some e
def Snd (gd : Nat → Bool) (S S' : Bf) (p0 e0 : Nat) : Prop := ∀ p e, bD S' p = some e → bD S p = some e ∨ (gd p = true ∧ e = e0 + 1 ∧ adjB (dishN p0) (dishN p))
theorem Ext.refl (S : Bf) : Ext S S := ⟨Nat.le_refl _, fun _ _ => rfl, fun _ _ h => h⟩
theorem Ext.trans {S T U : Bf} (h1 : Ext S T) (h2 : Ext T U) : Ext S U := ⟨Nat.le_trans h1.1 h2.1, fun j hj => by rw [h2.2.1 j (Nat.lt_of_lt_of_le hj h1.1), h1.2.1 j hj], fun p e h => h2.2.2 p e (h1.2.2 p e h)⟩
theorem cnt_lt {p : Nat → Bool} {z : Nat} (hz : p z = false) : ∀ n, z < n → cntN p n < n
  | n + 1, h => by
    rw [cnt_s]
    by_cases e : z = n
    · subst e
      have := cnt_le p z
      rw [if_neg (by rw [hz]; decide)]
      omega
    · have := cnt_lt hz n (by omega)
      split <;> omega
theorem cnt_up {p p' : Nat → Bool} {z : Nat} (hz : p z = false) (ho : ∀ i, i ≠ z → p' i = p i) : ∀ n, cntN p' n = cntN p n + (if z < n ∧ p' z = true then 1 else 0)
  | 0 => by simp [cntN, sumN]
  | n + 1 => by
    have ih := cnt_up hz ho n
    rw [cnt_s, cnt_s, ih]
    by_cases e : z = n
    · subst e
      rw [hz, if_neg (show ¬ (z < z ∧ p' z = true) by omega)]
      cases h : p' z <;> simp
    · rw [ho n (fun q => e q.symm)]
      by_cases h : z < n
      · have h2 : z < n + 1 := by omega
        simp only [h, h2, true_and]
        omega
      · have h2 : ¬ z < n + 1 := by omega
        simp only [h, h2, false_and, if_false]
        omega
theorem Wf.full {S : Bf} (h : Wf S) {p : Nat} (hp : p < 1840) (hd : bD S p = none) : bM S < 1840 := by
  have h1 := h.2.2.2.2 1840
  have h2 : cntN (fun j => leO (bD S (bW S j)) 1840) (bM S) = bM S := by
    have := cnt_not (fun j => leO (bD S (bW S j)) 1840) (bM S)
    have h3 : cntN (fun j => !leO (bD S (bW S j)) 1840) (bM S) = 0 := by
      unfold cntN
      refine sumN_0 _ (fun j hj => ?_)
      obtain ⟨e, h4, h5⟩ := (h.2.1 j hj).2
      have h6 := h.1
      simp only [h4, leO]
      rw [decide_eq_true (by omega)]
      rfl
    omega
  have h3 := cnt_lt (p := fun q => leO (bD S q) 1840) (z := p) (by simp only [hd, leO]) 1840 hp
  omega
theorem cm_no {gd : Nat → Bool} {S : Bf} {p e : Nat} (h : ¬ (bD S p = none ∧ gd p = true)) : cmS gd S p e = S := if_neg h
theorem cm_yes {gd : Nat → Bool} {S : Bf} {p e : Nat} (h : bD S p = none ∧ gd p = true) : cmS gd S p e = (fun z => if z = p then some e else bD S z, fun j => if j = bM S then p else bW S j, bM S + 1) := if_pos h
theorem cm_ext {gd : Nat → Bool} {S : Bf} {p e : Nat} : Ext S (cmS gd S p e) := by
  by_cases h : bD S p = none ∧ gd p = true
  · rw [cm_yes h]
    refine ⟨by show bM S ≤ bM S + 1; omega, fun j hj => ?_, fun q e' hq => ?_⟩
    · show (if j = bM S then p else bW S j) = bW S j
      rw [if_neg (by omega)]
    · show (if q = p then some e else bD S q) = some e'
      by_cases z : q = p
      · rw [z, h.1] at hq; cases hq
      · rw [if_neg z]; exact hq
  · rw [cm_no h]
    exact Ext.refl S
theorem cm_done {gd : Nat → Bool} {S : Bf} {p k e0 : Nat} (hI : Iv S k e0) (hp : p < 1840) (hg : gd p = true) : ∃ e, bD (cmS gd S p (e0 + 1)) p = some e ∧ e ≤ e0 + 1 := by
  by_cases h : bD S p = none ∧ gd p = true
  · rw [cm_yes h]
    exact ⟨e0 + 1, if_pos rfl, Nat.le_refl _⟩
  · rw [cm_no h]
    cases hd : bD S p with
    | none => exact absurd ⟨hd, hg⟩ h
    | some e =>
      obtain ⟨j, h1, h2⟩ := hI.1.2.2.1 p hp e hd
      exact ⟨e, rfl, hI.2.2.2 j h1 e (by rw [h2]; exact hd)⟩
theorem cm_snd {gd : Nat → Bool} {S0 S : Bf} {p p0 e0 : Nat} (h : Snd gd S0 S p0 e0) (ha : adjB (dishN p0) (dishN p)) : Snd gd S0 (cmS gd S p (e0 + 1)) p0 e0 := by
  intro q e hq
  by_cases hc : bD S p = none ∧ gd p = true
  · rw [cm_yes hc] at hq
    have hq' : (if q = p then some (e0 + 1) else bD S q) = some e := hq
    by_cases z : q = p
    · rw [if_pos z] at hq'
      cases hq'
      rw [z]
      exact Or.inr ⟨hc.2, rfl, ha⟩
    · rw [if_neg z] at hq'
      exact h q e hq'
  · rw [cm_no hc] at hq
    exact h q e hq
theorem cm_inv {gd : Nat → Bool} {S : Bf} {p k e0 : Nat} (hI : Iv S k e0) (hp : p < 1840) : Iv (cmS gd S p (e0 + 1)) k e0 := by
  by_cases hc : bD S p = none ∧ gd p = true
  · obtain ⟨hW, hk, hd, hb⟩ := hI
    have hm := hW.full hp hc.1
    have hek : e0 ≤ k := by
      obtain ⟨e, a, b⟩ := (hW.2.1 k hk).2
      rw [hd] at a
      cases a
      exact b
    have hne : ∀ j, j < bM S → bW S j ≠ p := fun j hj z => by
      obtain ⟨e, a, b⟩ := (hW.2.1 j hj).2
      rw [z, hc.1] at a
      cases a
    rw [cm_yes hc]
    have dW : ∀ j, j < bM S → (fun z => if z = p then some (e0 + 1) else bD S z) ((fun j => if j = bM S then p else bW S j) j) = bD S (bW S j) := fun j hj => by
      show (if (if j = bM S then p else bW S j) = p then some (e0 + 1) else bD S (if j = bM S then p else bW S j)) = _
      rw [if_neg (show ¬ j = bM S by omega), if_neg (hne j hj)]
    have dM : (fun z => if z = p then some (e0 + 1) else bD S z) ((fun j => if j = bM S then p else bW S j) (bM S)) = some (e0 + 1) := by
      show (if (if bM S = bM S then p else bW S (bM S)) = p then some (e0 + 1) else _) = _
      rw [if_pos rfl, if_pos rfl]
    refine ⟨⟨by show bM S + 1 ≤ 1840; omega, fun j hj => ?_, fun q hq e he => ?_, fun i j e e' hij hj h1 h2 => ?_, fun n => ?_⟩, by show k < bM S + 1; omega, (dW k hk).trans hd, fun j hj e he => ?_⟩
    · have hj' : j < bM S + 1 := hj
      by_cases z : j = bM S
      · subst z
        refine ⟨?_, e0 + 1, dM, by omega⟩
        show (if bM S = bM S then p else bW S (bM S)) < 1840
        rw [if_pos rfl]
        exact hp
      · obtain ⟨a, e, b, c⟩ := hW.2.1 j (by omega)
        refine ⟨?_, e, (dW j (by omega)).trans b, c⟩
        show (if j = bM S then p else bW S j) < 1840
        rw [if_neg z]
        exact a
    · have he' : (if q = p then some (e0 + 1) else bD S q) = some e := he
      by_cases z : q = p
      · exact ⟨bM S, by show bM S < bM S + 1; omega, by show (if bM S = bM S then p else bW S (bM S)) = q; rw [if_pos rfl, z]⟩
      · rw [if_neg z] at he'
        obtain ⟨j, a, b⟩ := hW.2.2.1 q hq e he'
        exact ⟨j, by show j < bM S + 1; omega, by show (if j = bM S then p else bW S j) = q; rw [if_neg (by omega)]; exact b⟩
    · have hj' : j < bM S + 1 := hj
      by_cases z : j = bM S
      · subst z
        have e2 := dM.symm.trans h2
        cases e2
        by_cases z2 : i = bM S
        · subst z2
          have e3 := dM.symm.trans h1
          cases e3
          omega
        · have := hb i (by omega) e ((dW i (by omega)).symm.trans h1)
          omega
      · exact hW.2.2.2.1 i j e e' hij (by omega) ((dW i (by omega)).symm.trans h1) ((dW j (by omega)).symm.trans h2)
    · show cntN _ (bM S + 1) = _
      rw [cnt_s]
      have a1 := cnt_congr (p := fun j => leO ((fun z => if z = p then some (e0 + 1) else bD S z) ((fun j => if j = bM S then p else bW S j) j)) n) (q := fun j => leO (bD S (bW S j)) n) (bM S) (fun j hj => by
        show leO ((fun z => if z = p then some (e0 + 1) else bD S z) ((fun j => if j = bM S then p else bW S j) j)) n = _
        rw [dW j hj])
      have a2 := cnt_up (p := fun q => leO (bD S q) n) (p' := fun q => leO (if q = p then some (e0 + 1) else bD S q) n) (z := p) (by simp only [hc.1, leO]) (fun i hi => by simp only [if_neg hi]) 1840
      have a3 := hW.2.2.2.2 n
      have a4 : (if leO ((fun z => if z = p then some (e0 + 1) else bD S z) ((fun j => if j = bM S then p else bW S j) (bM S))) n = true then 1 else 0) = (if p < 1840 ∧ (fun q => leO (if q = p then some (e0 + 1) else bD S q) n) p = true then 1 else 0) := by
        rw [dM]
        simp only [if_true, hp, true_and]
      have e1 : cntN (fun j => leO (bD (fun z => if z = p then some (e0 + 1) else bD S z, fun j => if j = bM S then p else bW S j, bM S + 1) (bW (fun z => if z = p then some (e0 + 1) else bD S z, fun j => if j = bM S then p else bW S j, bM S + 1) j)) n) (bM S) = cntN (fun j => leO (bD S (bW S j)) n) (bM S) := a1
      have e2 : cntN (fun q => leO (bD (fun z => if z = p then some (e0 + 1) else bD S z, fun j => if j = bM S then p else bW S j, bM S + 1) q) n) 1840 = cntN (fun q => leO (if q = p then some (e0 + 1) else bD S q) n) 1840 := rfl
      rw [e1, e2, a2, a3]
      exact congrArg _ a4
    · have hj' : j < bM S + 1 := hj
      by_cases z : j = bM S
      · subst z
        have e3 := dM.symm.trans he
        cases e3
        omega
      · exact hb j (by omega) e ((dW j (by omega)).symm.trans he)
  · rw [cm_no hc]
    exact hI
theorem Iv.at {S S' : Bf} {k e0 : Nat} (h : Iv S k e0) (hx : Ext S S') : bW S' k = bW S k := hx.2.1 k h.2.1
/-- all that a search keeps between two places of its row -/
def Oi (F : Nat → Int32) (c : Nat → Nat) (x : Nat) (gd : Nat → Bool) (S : Bf) (k : Nat) : Prop := Wf S ∧ k ≤ bM S ∧ (∀ e0, k < bM S → bD S (bW S k) = some e0 → ∀ j, j < bM S → ∀ e, bD S (bW S j) = some e → e ≤ e0 + 1) ∧ (∀ j, j < k → ∀ e, bD S (bW S j) = some e → ∀ p, p < 1840 → gd p = true → adjB (dishN (bW S j)) (dishN p) → ∃ e', bD S p = some e' ∧ e' ≤ e + 1) ∧ (∀ p, p < 1840 → ∀ e, bD S p = some e → Rb F c x e (dishN p) = true) ∧ bD S (plN x) = some 0
theorem Oi.next {F : Nat → Int32} {c : Nat → Nat} {x : Nat} {gd : Nat → Bool} {S S' : Bf} {k e0 : Nat} (hgd : ∀ p, p < 1840 → gd p = goodP F c (dishN p)) (h : Oi F c x gd S k) (hk : k < bM S) (hd : bD S (bW S k) = some e0) (hI : Iv S' k e0) (hx : Ext S S') (hs : Snd gd S S' (bW S k) e0) (hdn : ∀ p, p < 1840 → gd p = true → adjB (dishN (bW S k)) (dishN p) → ∃ e', bD S' p = some e' ∧ e' ≤ e0 + 1) : Oi F c x gd S' (k + 1) := by
  obtain ⟨o1, o2, o3, o4, o5, o6⟩ := h
  refine ⟨hI.1, hI.2.1, fun e1 hk1 hd1 j hj e he => ?_, fun j hj e he p hp hg ha => ?_, fun p hp e he => ?_, hx.2.2 _ _ o6⟩
  · have a := hI.2.2.2 j hj e he
    have b := hI.1.2.2.2.1 k (k + 1) e0 e1 (by omega) hk1 hI.2.2.1 hd1
    omega
  · by_cases z : j = k
    · subst z
      rw [hx.2.1 j hk] at he ha
      rw [hx.2.2 _ _ hd] at he
      cases he
      exact hdn p hp hg ha
    · have hj2 : j < bM S := by omega
      rw [hx.2.1 j hj2] at he ha
      obtain ⟨e2, h2, _⟩ := (o1.2.1 j hj2).2
      rw [hx.2.2 _ _ h2] at he
      cases he
      obtain ⟨e', a, b⟩ := o4 j (by omega) e h2 p hp hg ha
      exact ⟨e', hx.2.2 _ _ a, b⟩
  · rcases hs p e he with h1 | ⟨h1, h2, h3⟩
    · exact o5 p hp e h1
    · subst h2
      have hw := (o1.2.1 k hk).1
      rw [Rb, Bool.or_eq_true, Bool.and_eq_true, Bool.and_eq_true]
      right
      exact ⟨⟨dishN_ok hp, by rw [← hgd p hp]; exact h1⟩, nb_iff.mpr ⟨_, o5 _ hw e0 hd, h3⟩⟩
/-- at its end: how far each place is, just as the steps tell it -/
theorem Oi.fin {F : Nat → Int32} {c : Nat → Nat} {x : Nat} {gd : Nat → Bool} {S : Bf} (hx : okD x = true) (hgd : ∀ p, p < 1840 → gd p = goodP F c (dishN p)) (h : Oi F c x gd S (bM S)) : ∀ n p, p < 1840 → leO (bD S p) n = Rb F c x n (dishN p) := by
  obtain ⟨o1, o2, o3, o4, o5, o6⟩ := h
  have hto : ∀ n p, p < 1840 → Rb F c x n (dishN p) = true → leO (bD S p) n = true := by
    intro n
    induction n with
    | zero =>
      intro p hp hr
      have e : dishN p = x := of_decide_eq_true hr
      have e2 : plN x = p := by rw [← e]; exact plN_dishN hp
      rw [← e2, o6]
      rfl
    | succ n ih =>
      intro p hp hr
      rw [Rb, Bool.or_eq_true, Bool.and_eq_true, Bool.and_eq_true] at hr
      rcases hr with hr | ⟨⟨_, h2⟩, h3⟩
      · have := ih p hp hr
        cases hd : bD S p with
        | none => rw [hd] at this; cases this
        | some e =>
          rw [hd] at this
          have := of_decide_eq_true this
          exact decide_eq_true (by omega)
      · obtain ⟨y, h4, h5⟩ := nb_iff.mp h3
        have hy := Rb_ok hx n y h4
        have hpy := plN_lt hy
        have h6 := ih (plN y) hpy.1 (by rw [hpy.2]; exact h4)
        cases hd : bD S (plN y) with
        | none => rw [hd] at h6; cases h6
        | some e =>
          rw [hd] at h6
          have h7 : e ≤ n := of_decide_eq_true h6
          obtain ⟨j, h8, h9⟩ := o1.2.2.1 _ hpy.1 e hd
          obtain ⟨e', h10, h11⟩ := o4 j h8 e (by rw [h9]; exact hd) p hp (by rw [hgd p hp]; exact h2) (by rw [h9, hpy.2]; exact h5)
          rw [h10]
          exact decide_eq_true (by omega)
  intro n p hp
  cases hr : Rb F c x n (dishN p) with
  | true => exact hto n p hp hr
  | false =>
    cases hd : bD S p with
    | none => rfl
    | some e =>
      show decide (e ≤ n) = false
      refine decide_eq_false (fun z => ?_)
      have := Rb_le (o5 p hp e hd) (n - e)
      rw [show e + (n - e) = n by omega, hr] at this
      cases this
