def srt (T : Nat) : Nat := if T = 0 then 0 else if T = 1 then 1 else if T = 2 then 2 else 3
theorem srt_le (T : Nat) : srt T ≤ 3 := by
  unfold srt
  split
  · omega
  · split
    · omega
    · split <;> omega
theorem srt_1 {T : Nat} : srt T = 1 ↔ T = 1 := by
  unfold srt
  constructor
  · intro h
    by_cases a : T = 0
    · rw [if_pos a] at h; cases h
    · rw [if_neg a] at h
      by_cases c : T = 1
      · exact c
      · rw [if_neg c] at h
        split at h <;> cases h
  · intro h
    rw [h]
    rfl
theorem srt_2 {T : Nat} : srt T = 2 ↔ T = 2 := by
  unfold srt
  constructor
  · intro h
    by_cases a : T = 0
    · rw [if_pos a] at h; cases h
    · rw [if_neg a] at h
      by_cases c : T = 1
      · rw [if_pos c] at h; cases h
      · rw [if_neg c] at h
        by_cases e : T = 2
        · exact e
        · rw [if_neg e] at h; cases h
  · intro h
    rw [h]
    rfl
theorem srt_0 {T : Nat} : srt T = 0 ↔ T = 0 := by
  unfold srt
  constructor
  · intro h
    by_cases a : T = 0
    · exact a
    · rw [if_neg a] at h
      split at h
      · cases h
      · split at h <;> cases h
  · intro h
    rw [h]
    rfl
def cdW (b : Nat → Int32) (s : Nat) : Nat → Int64
  | 0 => 0
  | n + 1 => if n < 12 then 27 * cdW b s n + (b (s + n)).toInt64 - 96 else -1
def byt (L : Nat) (b : Nat → Int32) (k : Nat) : Int32 := if k < L then b k else -1
def Byt (L : Nat) (b : Nat → Int32) : Prop := ∀ i, i < L → 0 ≤ (b i).toInt ∧ (b i).toInt ≤ 255
def TpM (M : Mm) (L : Nat) (b : Nat → Int32) : Prop := M.1 49 20 = nI L ∧ L ≤ 120 ∧ (∀ i, i < L → M.1 65 i = b i) ∧ Byt L b
def MTok (M : Mm) (L : Nat) (b : Nat → Int32) (e : Nat) : Prop := M.1 49 21 = nI (srt (tT L b e)) ∧ M.1 49 22 = nI (tS L b e) ∧ M.1 49 23 = nI (tE L b e) ∧ (tT L b e = 2 → M.1 49 25 = nI (tV L b e)) ∧ (tT L b e ≠ 2 → M.1 49 25 = byt L b (tS L b e)) ∧ (tT L b e = 1 → M.2 49 24 = cdW b (tS L b e) (tE L b e - tS L b e))
/-- what a step of the tokens leaves as it was -/
def FmA (M M' : Mm) : Prop := (∀ a, a ≠ 49 → M'.1 a = M.1 a ∧ M'.2 a = M.2 a) ∧ ∀ j, j ≠ 21 → j ≠ 22 → j ≠ 23 → j ≠ 25 → M'.1 49 j = M.1 49 j
theorem FmA.refl (M : Mm) : FmA M M := ⟨fun _ _ => ⟨rfl, rfl⟩, fun _ _ _ _ _ => rfl⟩
theorem FmA.trans {M N K : Mm} (h1 : FmA M N) (h2 : FmA N K) : FmA M K := ⟨fun a ha => ⟨(h2.1 a ha).1.trans (h1.1 a ha).1, (h2.1 a ha).2.trans (h1.1 a ha).2⟩, fun j a b c d => (h2.2 j a b c d).trans (h1.2 j a b c d)⟩
theorem FmA.up (M : Mm) {j : Nat} (x : Int32) (hj : j = 21 ∨ j = 22 ∨ j = 23 ∨ j = 25) : FmA M (upi M 49 j x) := ⟨fun a ha => ⟨rd_ne ha, rfl⟩, fun i a b c d => by rw [rd_eq]; unfold upd; rw [if_neg (by omega)]⟩
theorem fma_upl (M : Mm) (x : Int64) : FmA M (upl M 49 24 x) := ⟨fun a ha => ⟨rfl, rl_ne ha⟩, fun _ _ _ _ _ => rfl⟩
theorem TpM.keep {M M' : Mm} {L : Nat} {b : Nat → Int32} (h : TpM M L b) (hf : FmA M M') : TpM M' L b := ⟨by rw [hf.2 20 (by decide) (by decide) (by decide) (by decide)]; exact h.1, h.2.1, fun i hi => by rw [(hf.1 65 (by decide)).1]; exact h.2.2.1 i hi, h.2.2.2⟩
theorem tyI_1 {x : Int32} : tyI x = 1 ↔ inI x 97 122 = true := by
  unfold tyI inI
  rw [Bool.and_eq_true, decide_eq_true_eq, decide_eq_true_eq]
  constructor
  · intro h
    by_cases a : 97 ≤ x ∧ x ≤ 122
    · exact a
    · rw [if_neg a] at h
      split at h
      · cases h
      · split at h
        · cases h
        · split at h <;> cases h
  · intro h
    rw [if_pos h]
theorem tyI_2 {x : Int32} : tyI x = 2 ↔ inI x 48 57 = true := by
  unfold tyI inI
  rw [Bool.and_eq_true, decide_eq_true_eq, decide_eq_true_eq]
  constructor
  · intro h
    by_cases a : 97 ≤ x ∧ x ≤ 122
    · rw [if_pos a] at h; cases h
    · rw [if_neg a] at h
      by_cases c : 48 ≤ x ∧ x ≤ 57
      · exact c
      · rw [if_neg c] at h
        split at h
        · cases h
        · split at h <;> cases h
  · intro h
    have a : ¬ (97 ≤ x ∧ x ≤ 122) := fun z => by
      have z1 := z.1
      have h2 := h.2
      rw [i_le] at z1 h2
      have e1 : ((97 : Int32)).toInt = 97 := by decide
      have e2 : ((57 : Int32)).toInt = 57 := by decide
      omega
    rw [if_neg a, if_pos h]
theorem tyI_4 {x : Int32} : tyI x = 4 ↔ x = 32 := by
  constructor
  · intro h
    unfold tyI at h
    split at h
    · cases h
    · split at h
      · cases h
      · split at h
        · cases h
        · split at h
          · rename_i e; exact e
          · cases h
  · intro h
    rw [h]
    decide
theorem tyI_3 {x : Int32} : tyI x = 3 ↔ x = 59 := by
  constructor
  · intro h
    unfold tyI at h
    split at h
    · cases h
    · split at h
      · cases h
      · split at h
        · rename_i e; exact e
        · split at h <;> cases h
  · intro h
    rw [h]
    decide
theorem byt_4 {L : Nat} {b : Nat → Int32} {k : Nat} : byt L b k = 32 ↔ typ L b k = 4 := by
  unfold byt typ
  by_cases h : k < L
  · rw [if_pos h, if_pos h]
    exact tyI_4.symm
  · rw [if_neg h, if_neg h]
    exact ⟨fun q => absurd q (by decide), fun q => by cases q⟩
theorem byt_let {L : Nat} {b : Nat → Int32} {k : Nat} : inI (byt L b k) 97 122 = decide (typ L b k = 1) := by
  unfold byt typ
  by_cases h : k < L
  · rw [if_pos h, if_pos h, Bool.eq_iff_iff, decide_eq_true_eq]
    exact tyI_1.symm
  · rw [if_neg h, if_neg h]
    decide
theorem byt_dig {L : Nat} {b : Nat → Int32} {k : Nat} : inI (byt L b k) 48 57 = decide (typ L b k = 2) := by
  unfold byt typ
  by_cases h : k < L
  · rw [if_pos h, if_pos h, Bool.eq_iff_iff, decide_eq_true_eq]
    exact tyI_2.symm
  · rw [if_neg h, if_neg h]
    decide
theorem byt_neg {L : Nat} {b : Nat → Int32} {k : Nat} (hb : Byt L b) : byt L b k < 0 ↔ typ L b k = 0 := by
  rw [typ_0]
  unfold byt
  by_cases h : k < L
  · rw [if_pos h, i_lt0]
    have := hb k h
    omega
  · rw [if_neg h]
    exact ⟨fun _ => by omega, fun _ => by decide⟩
set_option maxRecDepth 20000 in
theorem m_byteAt {G : Gt} {d : Nat} {M : Mm} (hG : gS G = SHAPE) {L : Nat} {b : Nat → Int32} (hT : TpM M L b) {k : Nat} (hk : k ≤ 200) : ExI G (d) mX7_byteAt [.ref 49, .int (nI k)] M (fun r M' => r = byt L b k ∧ M' = M) := by
  refine Ex.of (by decide) (Nat.le_of_ble_eq_true rfl) ?_
  show Go G (d) mX7_byteAt 0 [some (.ref 49), some (.int (nI k))] [] M _
  have hL := hT.2.1
  refine Go.iload_n dX7_byteAt_0 rfl ?_
  refine Go.aload_n dX7_byteAt_1 rfl ?_
  refine Go.getI dX7_byteAt_2 flX7_222 (shp hG rfl) rfl ?_
  refine Go.eqI (y := nI L) (hT.1) ?_
  refine Go.icmp_ge 17 dX7_byteAt_5 rfl (fun h5 => ?_) (fun h5 => ?_)
  · have n5 : L ≤ k := (nI_leI (a := L) (b := k) (by omega) (by omega)).mp h5
    refine Go.iconst (v := -1) dX7_byteAt_17 (by decide) ?_
    refine Go.iret dX7_byteAt_18 rfl rfl ?_
    refine ⟨_, rfl, ?_, rfl⟩
    unfold byt
    rw [if_neg (by omega)]
  · have n5 : ¬ L ≤ k := fun q => h5 ((nI_leI (a := L) (b := k) (by omega) (by omega)).mpr q)
    refine Go.aload_n dX7_byteAt_8 rfl ?_
    refine Go.getR dX7_byteAt_9 flX7_56 (shp hG rfl) rfl ?_
    refine Go.iload_n dX7_byteAt_12 rfl ?_
    refine Go.iald dX7_byteAt_13 (shp hG rfl) (vin (by omega) (by decide)) ?_
    refine Go.goto 18 dX7_byteAt_14 rfl ?_
    refine Go.iret dX7_byteAt_18 rfl rfl ?_
    refine ⟨_, rfl, ?_, rfl⟩
    unfold byt
    rw [if_pos (by omega), ncl (by omega)]
    exact hT.2.2.1 k (by omega)
set_option maxRecDepth 20000 in
theorem m_isLetter {G : Gt} {d : Nat} {M : Mm} (a : Int32) : ExI G (d + 1) mX7_isLetter [.int a] M (fun r M' => r = bi (inI a 97 122) ∧ M' = M) := by
  refine Ex.of (by decide) (Nat.le_of_ble_eq_true rfl) ?_
  show Go G (d + 1) mX7_isLetter 0 [some (.int a)] [] M _
  refine Go.iload_n dX7_isLetter_0 rfl ?_
  refine Go.bipush (v := 97) dX7_isLetter_1 (by decide) ?_
  refine Go.bipush (v := 122) dX7_isLetter_3 (by decide) ?_
  refine Go.callSI [] dX7_isLetter_5 lkX7_86 stX7_in cbX7_in (m_in a 97 122) rfl rfl (Nat.le_of_ble_eq_true rfl) (fun r1 M2 hr1 => ?_)
  obtain ⟨er1, emr1⟩ := hr1
  rw [emr1]
  clear emr1 M2
  subst er1
  refine Go.iret dX7_isLetter_8 rfl (bi_nar _) ?_
  exact ⟨_, rfl, rfl, rfl⟩
set_option maxRecDepth 20000 in
theorem m_isDigit {G : Gt} {d : Nat} {M : Mm} (a : Int32) : ExI G (d + 1) mX7_isDigit [.int a] M (fun r M' => r = bi (inI a 48 57) ∧ M' = M) := by
  refine Ex.of (by decide) (Nat.le_of_ble_eq_true rfl) ?_
  show Go G (d + 1) mX7_isDigit 0 [some (.int a)] [] M _
  refine Go.iload_n dX7_isDigit_0 rfl ?_
  refine Go.bipush (v := 48) dX7_isDigit_1 (by decide) ?_
  refine Go.bipush (v := 57) dX7_isDigit_3 (by decide) ?_
  refine Go.callSI [] dX7_isDigit_5 lkX7_86 stX7_in cbX7_in (m_in a 48 57) rfl rfl (Nat.le_of_ble_eq_true rfl) (fun r1 M2 hr1 => ?_)
  obtain ⟨er1, emr1⟩ := hr1
  rw [emr1]
  clear emr1 M2
  subst er1
  refine Go.iret dX7_isDigit_8 rfl (bi_nar _) ?_
  exact ⟨_, rfl, rfl, rfl⟩
set_option maxRecDepth 20000 in
theorem l_ma1 {G : Gt} {d : Nat} {M : Mm} (hG : gS G = SHAPE) {L : Nat} {b : Nat → Int32} {e : Nat} {post : Option Value → Mm → Prop} {o1 : Option Value} (hout : ∀ N, TpM N L b → FmA M N → N.1 49 22 = nI (tS L b e) → Go G (d + 2) mX7_advance 34 [some (.ref 49), o1] [] N post) : ∀ (n i : Nat) (N : Mm), i + n = L → TpM N L b → FmA M N → N.1 49 22 = nI i → tS L b e = skp L b n i → Go G (d + 2) mX7_advance 8 [some (.ref 49), o1] [] N post := by
  intro n
  induction n with
  | zero =>
    intro i N hin hN hSm h22 hk
    have hL := hN.2.1
    refine Go.aload_n dX7_advance_8 rfl ?_
    refine Go.aload_n dX7_advance_9 rfl ?_
    refine Go.getI dX7_advance_10 flX7_228 (shp hG rfl) rfl ?_
    refine Go.eqI (y := nI i) (h22) ?_
    refine Go.callVI [] dX7_advance_13 lkX7_231 imX7_byteAt seX7_byteAt cbX7_byteAt (m_byteAt hG hN (k := i) (by omega)) (shp hG rfl) rfl rfl rfl (Nat.le_of_ble_eq_true rfl) (fun r1 M2 hr1 => ?_)
    obtain ⟨er1, emr1⟩ := hr1
    rw [emr1]
    clear emr1 M2
    subst er1
    refine Go.bipush (v := 32) dX7_advance_16 (by decide) ?_
    refine Go.icmp_ne 34 dX7_advance_18 rfl (fun _ => ?_) (fun h18 => absurd h18 (fun q => by have := byt_4.mp q; rw [typ_0.mpr (by omega)] at this; cases this))
    exact hout N hN hSm (by rw [h22, hk]; rfl)
  | succ n ih =>
    intro i N hin hN hSm h22 hk
    have hi : i < L := by omega
    have hL := hN.2.1
    refine Go.aload_n dX7_advance_8 rfl ?_
    refine Go.aload_n dX7_advance_9 rfl ?_
    refine Go.getI dX7_advance_10 flX7_228 (shp hG rfl) rfl ?_
    refine Go.eqI (y := nI i) (h22) ?_
    refine Go.callVI [] dX7_advance_13 lkX7_231 imX7_byteAt seX7_byteAt cbX7_byteAt (m_byteAt hG hN (k := i) (by omega)) (shp hG rfl) rfl rfl rfl (Nat.le_of_ble_eq_true rfl) (fun r1 M2 hr1 => ?_)
    obtain ⟨er1, emr1⟩ := hr1
    rw [emr1]
    clear emr1 M2
    subst er1
    refine Go.bipush (v := 32) dX7_advance_16 (by decide) ?_
    refine Go.icmp_ne 34 dX7_advance_18 rfl (fun h18 => ?_) (fun h18 => ?_)
    · exact hout N hN hSm (by rw [h22, hk, skp, if_neg (fun z => h18 (byt_4.mpr z))])
    · refine Go.aload_n dX7_advance_21 rfl ?_
      refine Go.dup dX7_advance_22 rfl ?_
      refine Go.getI dX7_advance_23 flX7_228 (shp hG rfl) rfl ?_
      refine Go.eqI (y := nI i) (h22) ?_
      refine Go.iconst (v := 1) dX7_advance_26 (by decide) ?_
      refine Go.iadd dX7_advance_27 ?_
      refine Go.eqI (y := nI (i + 1)) (nI_add _ _) ?_
      refine Go.putI dX7_advance_28 fpX7_228 (shp hG rfl) rfl rfl rfl ?_
      refine Go.nmM (fun N3 eN3 => ?_)
      refine Go.goto 8 dX7_advance_31 rfl ?_
      have hup : FmA N N3 := by rw [eN3]; exact FmA.up N _ (by decide)
      exact ih (i + 1) N3 (by omega) (hN.keep hup) (hSm.trans hup) (by rw [eN3, rd_eq]; simp [upd]) (by rw [hk, skp, if_pos (byt_4.mp h18)])
