def nOk (L : Nat) (b : Nat → Int32) (p m : Nat) : Bool := decide (tT L b p = 2) && decide (tV L b p ≤ m)
def thC (L : Nat) (b : Nat → Int32) : Nat → Nat → Nat → Nat × Nat
  | 0, set, p => (set, p)
  | r + 1, set, p => if r ≠ 2 ∧ tT L b p ≠ 2 then (set, p) else if tT L b p = 2 ∧ tV L b p < 8 ∧ set.testBit (tV L b p) = false then thC L b r (set ||| 2 ^ tV L b p) (tE L b p) else (0, p)
def pWay (L : Nat) (b : Nat → Int32) (k : Nat) (u : Bu) (set p : Nat) : Bool × Nat × Bu := if isWP L b p 6 then (if nOk L b (tE L b p) 4 then (if isWP L b (tE L b (tE L b p)) 7 then (if nOk L b (tE L b (tE L b (tE L b p))) 3 then (true, tE L b (tE L b (tE L b (tE L b p))), entU u k (20 * set + 4 * tV L b (tE L b p) + tV L b (tE L b (tE L b (tE L b p))))) else (false, tE L b (tE L b (tE L b p)), u)) else (false, tE L b (tE L b p), u)) else (false, tE L b p, u)) else (false, p, u)
def pEntry (L : Nat) (b : Nat → Int32) (k : Nat) (u : Bu) (p : Nat) : Bool × Nat × Bu := if uN u = 30 then (false, p, u) else if (thC L b 3 0 (tE L b p)).1 = 0 then (false, (thC L b 3 0 (tE L b p)).2, u) else pWay L b k u (thC L b 3 0 (tE L b p)).1 (thC L b 3 0 (tE L b p)).2
def pStore (L : Nat) (b : Nat → Int32) (u : Bu) (p : Nat) : Bool × Nat × Bu := if nOk L b p 7 then (if nOk L b (tE L b p) 99 then (true, tE L b (tE L b p), stS u (tV L b p) (nI (tV L b (tE L b p)))) else (false, tE L b p, u)) else (false, p, u)
def whtF (L : Nat) (b : Nat → Int32) (p : Nat) : Option Nat := if isWP L b p 10 then some 0 else if isWP L b p 6 then some 1 else if isWP L b p 7 then some 2 else none
def lkv (s : Bool) (v : Nat) : Int32 := if s then nI v else 0 - nI v
def pLik (L : Nat) (b : Nat → Int32) (s : Bool) (u : Bu) (p : Nat) : Bool × Nat × Bu := match whtF L b p with
  | none => (false, p, u)
  | some w => if nOk L b (tE L b p) (lenL w - 1) then (if nOk L b (tE L b (tE L b p)) 9 then (true, tE L b (tE L b (tE L b p)), likU u w (tV L b (tE L b p)) (lkv s (tV L b (tE L b (tE L b p))))) else (false, tE L b (tE L b p), u)) else (false, tE L b p, u)
def pOn (L : Nat) (b : Nat → Int32) (u : Bu) (w p : Nat) : Bool × Nat × Bu := if isWP L b p 15 then (true, tE L b p, edU u w true) else if isWP L b p 16 then (true, tE L b p, edU u w false) else (false, p, u)
def pEd (L : Nat) (b : Nat → Int32) (u : Bu) (p : Nat) : Bool × Nat × Bu := if isWP L b p 13 then pOn L b u 0 (tE L b p) else if isWP L b p 14 then pOn L b u 1 (tE L b p) else (false, p, u)
def dayU (u : Bu) (y : Int32) : Bu := (uS u, uT u, uW u, uC u, uN u, uK u, uX u, uD u, uE u, y)
def pDay (L : Nat) (b : Nat → Int32) (u : Bu) (p : Nat) : Bool × Nat × Bu := if nOk L b p 9999 then (true, tE L b p, dayU u (nI (tV L b p))) else (false, p, u)
def pRest (L : Nat) (b : Nat → Int32) (u : Bu) (p : Nat) : Bool × Nat × Bu := if isWP L b p 8 then pStore L b u (tE L b p) else if isWP L b p 9 then pLik L b true u (tE L b p) else if isWP L b p 11 then pLik L b false u (tE L b p) else if isWP L b p 12 then pEd L b u (tE L b p) else if isWP L b p 17 then pDay L b u (tE L b p) else (false, p, u)
def pItem (L : Nat) (b : Nat → Int32) (u : Bu) (p : Nat) : Bool × Nat × Bu := match fstF (isWP L b p) 0 6 with
  | some k => pEntry L b k u p
  | none => pRest L b u p
theorem tV_le {L : Nat} {b : Nat → Int32} {p : Nat} (hp : p ≤ L) (h : tT L b p = 2) : tV L b p ≤ 10000 := by
  have he := tE_spec (b := b) hp
  refine vF_le _ _ _ (fun i h1 h2 => ?_)
  obtain ⟨d, a1, a2, a3⟩ := dig (L := L) (b := b) (i := i) (by rw [he.2.2.2 (Or.inr h) i h1 (by omega)]; exact h)
  omega
theorem nOk_f {L : Nat} {b : Nat → Int32} {p m : Nat} (h : ¬ (tT L b p = 2 ∧ tV L b p ≤ m)) : nOk L b p m = false := by
  cases hz : nOk L b p m with
  | false => rfl
  | true =>
    unfold nOk at hz
    rw [Bool.and_eq_true] at hz
    exact absurd ⟨of_decide_eq_true hz.1, of_decide_eq_true hz.2⟩ h
theorem nOk_t {L : Nat} {b : Nat → Int32} {p m : Nat} (h1 : tT L b p = 2) (h2 : tV L b p ≤ m) : nOk L b p m = true := by
  unfold nOk
  rw [decide_eq_true h1, decide_eq_true h2]
  rfl
theorem nOk_le {L : Nat} {b : Nat → Int32} {p m : Nat} (h : nOk L b p m = true) : tT L b p = 2 ∧ tV L b p ≤ m := by
  unfold nOk at h
  rw [Bool.and_eq_true] at h
  exact ⟨of_decide_eq_true h.1, of_decide_eq_true h.2⟩
/-- the class's tape at a token -/
def At (M : Mm) (L : Nat) (b : Nat → Int32) (p : Nat) : Prop := TpC M L b ∧ CTok M L b p ∧ p ≤ L
theorem At.le {M : Mm} {L : Nat} {b : Nat → Int32} {p : Nat} (h : At M L b p) : tE L b p ≤ L := (tE_spec h.2.2).2.1
theorem At.same {M M' : Mm} {L : Nat} {b : Nat → Int32} {p : Nat} (h : At M L b p) (h1 : M'.1 37 = M.1 37) (h2 : M'.1 38 = M.1 38) : At M' L b p := by
  refine ⟨h.1.same (by rw [h1]) h2, ?_, h.2.2⟩
  unfold CTok
  rw [h1]
  exact h.2.1
theorem a_adv {G : Gt} {d : Nat} {M : Mm} (hG : gS G = SHAPE) {L : Nat} {b : Nat → Int32} {p : Nat} (hA : At M L b p) : ExV G (d + 1) mX5_advance [.ref 37] M (fun M' => At M' L b (tE L b p) ∧ Same [37] M M') := (s_adv hG hA.1 hA.le hA.2.1.2.2.1).mono (fun M' ⟨a, b, c⟩ => ⟨⟨a, b, hA.le⟩, c⟩)
set_option maxRecDepth 20000 in
theorem a_takeWord {G : Gt} {d : Nat} {M : Mm} (hG : gS G = SHAPE) {L : Nat} {b : Nat → Int32} {p : Nat} (hA : At M L b p) {k : Nat} (hk18 : k < 18) : ExI G (d + 5) mX5_takeWord [.ref 37, .ref (2000 + k)] M (fun r M' => (isWP L b p k = true ∧ r = 1 ∧ At M' L b (tE L b p) ∧ Same [37] M M') ∨ (isWP L b p k = false ∧ r = 0 ∧ At M' L b p ∧ Same [37] M M')) := by
  refine Ex.of (by decide) (Nat.le_of_ble_eq_true rfl) ?_
  show Go G (d + 5) mX5_takeWord 0 [some (.ref 37), some (.ref (2000 + k)), none] [] M _
  refine Go.aload_n dX5_takeWord_0 rfl ?_
  refine Go.aload_n dX5_takeWord_1 rfl ?_
  refine Go.callVI [] dX5_takeWord_2 lkX5_74 imX5_isWord seX5_isWord cbX5_isWord (s_isWord hG hA.1 hA.2.2 hA.2.1 (k := k) hk18) (shp hG rfl) rfl rfl rfl (Nat.le_of_ble_eq_true rfl) (fun r1 M2 hr1 => ?_)
  obtain ⟨er1, emr1⟩ := hr1
  rw [emr1]
  clear emr1 M2
  subst er1
  refine Go.istore_n (ls' := [some (.ref 37), some (.ref (2000 + k)), some (.int (bi (isWP L b p k)))]) dX5_takeWord_5 (Nat.le_of_ble_eq_true rfl) rfl rfl ?_
  refine Go.iload_n dX5_takeWord_6 rfl ?_
  refine Go.if_eq 14 dX5_takeWord_7 rfl (fun h7 => ?_) (fun h7 => ?_)
  · refine Go.iload_n dX5_takeWord_14 rfl ?_
    refine Go.iret dX5_takeWord_15 rfl (bi_nar _) ?_
    refine ⟨_, rfl, Or.inr ⟨bi_0.mp h7, ?_, hA, Same.refl _ _⟩⟩
    rw [bi_0.mp h7]
    rfl
  · refine Go.aload_n dX5_takeWord_10 rfl ?_
    refine Go.callVV [] dX5_takeWord_11 lkX5_31 imX5_advance seX5_advance cbX5_advance (a_adv hG hA) (shp hG rfl) rfl rfl rfl (Nat.le_of_ble_eq_true rfl) (fun M4 hr3 => ?_)
    obtain ⟨hA2, hs2⟩ := hr3
    refine Go.iload_n dX5_takeWord_14 rfl ?_
    refine Go.iret dX5_takeWord_15 rfl (bi_nar _) ?_
    refine ⟨_, rfl, Or.inl ⟨bi_n0.mp h7, ?_, hA2, hs2⟩⟩
    rw [bi_n0.mp h7]
    rfl
set_option maxRecDepth 20000 in
theorem a_takeNumber {G : Gt} {d : Nat} {M : Mm} (hG : gS G = SHAPE) {L : Nat} {b : Nat → Int32} {p : Nat} (hA : At M L b p) {m : Nat} (hm : m ≤ 10000) : ExI G (d + 2) mX5_takeNumber [.ref 37, .int (nI m)] M (fun r M' => (nOk L b p m = true ∧ r = nI (tV L b p) ∧ At M' L b (tE L b p) ∧ Same [37] M M') ∨ (nOk L b p m = false ∧ r = -1 ∧ At M' L b p ∧ Same [37] M M')) := by
  refine Ex.of (by decide) (Nat.le_of_ble_eq_true rfl) ?_
  show Go G (d + 2) mX5_takeNumber 0 [some (.ref 37), some (.int (nI m)), none] [] M _
  have hval := hA.2.1.2.2.2
  have ht5 : tT L b p ≤ 5 := typ_le L b (tS L b p)
  refine Go.aload_n dX5_takeNumber_0 rfl ?_
  refine Go.getI dX5_takeNumber_1 flX5_19 (shp hG rfl) rfl ?_
  refine Go.eqI (y := nI (tT L b p)) (hA.2.1.1) ?_
  refine Go.iconst (v := 2) dX5_takeNumber_4 (by decide) ?_
  refine Go.icmp_ne 16 dX5_takeNumber_5 rfl (fun h5 => ?_) (fun h5 => ?_)
  · have n5 : ¬ (tT L b p) = 2 := fun q => h5 ((nI_inj (a := (tT L b p)) (b := 2) (by omega) (by omega)).mpr q)
    refine Go.iconst (v := -1) dX5_takeNumber_16 (by decide) ?_
    refine Go.iret dX5_takeNumber_17 rfl rfl ?_
    exact ⟨_, rfl, Or.inr ⟨nOk_f (fun z => n5 z.1), rfl, hA, Same.refl _ _⟩⟩
  · have n5 : (tT L b p) = 2 := (nI_inj (a := (tT L b p)) (b := 2) (by omega) (by omega)).mp h5
    rw [if_pos n5] at hval
    have hv4 := tV_le (b := b) hA.2.2 n5
    refine Go.aload_n dX5_takeNumber_8 rfl ?_
    refine Go.getI dX5_takeNumber_9 flX5_28 (shp hG rfl) rfl ?_
    refine Go.eqI (y := nI (tV L b p)) (hval) ?_
    refine Go.iload_n dX5_takeNumber_12 rfl ?_
    refine Go.icmp_le 18 dX5_takeNumber_13 rfl (fun h13 => ?_) (fun h13 => ?_)
    · have n13 : (tV L b p) ≤ m := (nI_leI (a := (tV L b p)) (b := m) (by omega) (by omega)).mp h13
      refine Go.aload_n dX5_takeNumber_18 rfl ?_
      refine Go.getI dX5_takeNumber_19 flX5_28 (shp hG rfl) rfl ?_
      refine Go.eqI (y := nI (tV L b p)) (hval) ?_
      refine Go.istore_n (ls' := [some (.ref 37), some (.int (nI m)), some (.int (nI (tV L b p)))]) dX5_takeNumber_22 (Nat.le_of_ble_eq_true rfl) rfl rfl ?_
      refine Go.aload_n dX5_takeNumber_23 rfl ?_
      refine Go.callVV [] dX5_takeNumber_24 lkX5_31 imX5_advance seX5_advance cbX5_advance (a_adv hG hA) (shp hG rfl) rfl rfl rfl (Nat.le_of_ble_eq_true rfl) (fun M2 hr1 => ?_)
      obtain ⟨hA2, hs2⟩ := hr1
      refine Go.iload_n dX5_takeNumber_27 rfl ?_
      refine Go.iret dX5_takeNumber_28 rfl rfl ?_
      exact ⟨_, rfl, Or.inl ⟨nOk_t n5 n13, rfl, hA2, hs2⟩⟩
    · have n13 : ¬ (tV L b p) ≤ m := fun q => h13 ((nI_leI (a := (tV L b p)) (b := m) (by omega) (by omega)).mpr q)
      refine Go.iconst (v := -1) dX5_takeNumber_16 (by decide) ?_
      refine Go.iret dX5_takeNumber_17 rfl rfl ?_
      exact ⟨_, rfl, Or.inr ⟨nOk_f (fun z => n13 z.2), rfl, hA, Same.refl _ _⟩⟩
set_option maxRecDepth 20000 in
theorem a_kindNamed {G : Gt} {d : Nat} {M : Mm} (hG : gS G = SHAPE) {L : Nat} {b : Nat → Int32} {p : Nat} (hA : At M L b p) : ExI G (d + 5) mX5_kindNamed [.ref 37] M (fun r M' => r = optI (-1) (fstF (isWP L b p) 0 6) ∧ M' = M) := by
  refine Ex.of (by decide) (Nat.le_of_ble_eq_true rfl) ?_
  show Go G (d + 5) mX5_kindNamed 0 [some (.ref 37)] [] M _
  refine Go.aload_n dX5_kindNamed_0 rfl ?_
  refine Go.ldcS 0 (by decide) dX5_kindNamed_1 rfl rfl ?_
  refine Go.callVI [] dX5_kindNamed_3 lkX5_74 imX5_isWord seX5_isWord cbX5_isWord (s_isWord hG hA.1 hA.2.2 hA.2.1 (k := 0) (by decide)) (shp hG rfl) rfl rfl rfl (Nat.le_of_ble_eq_true rfl) (fun r1 M2 hr1 => ?_)
  obtain ⟨er1, emr1⟩ := hr1
  rw [emr1]
  clear emr1 M2
  subst er1
  refine Go.if_eq 11 dX5_kindNamed_6 rfl (fun h6 => ?_) (fun h6 => ?_)
  · refine Go.aload_n dX5_kindNamed_11 rfl ?_
    refine Go.ldcS 1 (by decide) dX5_kindNamed_12 rfl rfl ?_
    refine Go.callVI [] dX5_kindNamed_14 lkX5_74 imX5_isWord seX5_isWord cbX5_isWord (s_isWord hG hA.1 hA.2.2 hA.2.1 (k := 1) (by decide)) (shp hG rfl) rfl rfl rfl (Nat.le_of_ble_eq_true rfl) (fun r3 M4 hr3 => ?_)
    obtain ⟨er3, emr3⟩ := hr3
    rw [emr3]
    clear emr3 M4
    subst er3
    refine Go.if_eq 22 dX5_kindNamed_17 rfl (fun h17 => ?_) (fun h17 => ?_)
    · refine Go.aload_n dX5_kindNamed_22 rfl ?_
      refine Go.ldcS 2 (by decide) dX5_kindNamed_23 rfl rfl ?_
      refine Go.callVI [] dX5_kindNamed_25 lkX5_74 imX5_isWord seX5_isWord cbX5_isWord (s_isWord hG hA.1 hA.2.2 hA.2.1 (k := 2) (by decide)) (shp hG rfl) rfl rfl rfl (Nat.le_of_ble_eq_true rfl) (fun r5 M6 hr5 => ?_)
      obtain ⟨er5, emr5⟩ := hr5
      rw [emr5]
      clear emr5 M6
      subst er5
      refine Go.if_eq 33 dX5_kindNamed_28 rfl (fun h28 => ?_) (fun h28 => ?_)
      · refine Go.aload_n dX5_kindNamed_33 rfl ?_
        refine Go.ldcS 3 (by decide) dX5_kindNamed_34 rfl rfl ?_
        refine Go.callVI [] dX5_kindNamed_36 lkX5_74 imX5_isWord seX5_isWord cbX5_isWord (s_isWord hG hA.1 hA.2.2 hA.2.1 (k := 3) (by decide)) (shp hG rfl) rfl rfl rfl (Nat.le_of_ble_eq_true rfl) (fun r7 M8 hr7 => ?_)
        obtain ⟨er7, emr7⟩ := hr7
        rw [emr7]
        clear emr7 M8
        subst er7
        refine Go.if_eq 44 dX5_kindNamed_39 rfl (fun h39 => ?_) (fun h39 => ?_)
        · refine Go.aload_n dX5_kindNamed_44 rfl ?_
          refine Go.ldcS 4 (by decide) dX5_kindNamed_45 rfl rfl ?_
          refine Go.callVI [] dX5_kindNamed_47 lkX5_74 imX5_isWord seX5_isWord cbX5_isWord (s_isWord hG hA.1 hA.2.2 hA.2.1 (k := 4) (by decide)) (shp hG rfl) rfl rfl rfl (Nat.le_of_ble_eq_true rfl) (fun r9 M10 hr9 => ?_)
          obtain ⟨er9, emr9⟩ := hr9
          rw [emr9]
          clear emr9 M10
          subst er9
          refine Go.if_eq 55 dX5_kindNamed_50 rfl (fun h50 => ?_) (fun h50 => ?_)
          · refine Go.aload_n dX5_kindNamed_55 rfl ?_
            refine Go.ldcS 5 (by decide) dX5_kindNamed_56 rfl rfl ?_
            refine Go.callVI [] dX5_kindNamed_58 lkX5_74 imX5_isWord seX5_isWord cbX5_isWord (s_isWord hG hA.1 hA.2.2 hA.2.1 (k := 5) (by decide)) (shp hG rfl) rfl rfl rfl (Nat.le_of_ble_eq_true rfl) (fun r11 M12 hr11 => ?_)
            obtain ⟨er11, emr11⟩ := hr11
            rw [emr11]
            clear emr11 M12
            subst er11
            refine Go.if_eq 68 dX5_kindNamed_61 rfl (fun h61 => ?_) (fun h61 => ?_)
            · refine Go.iconst (v := -1) dX5_kindNamed_68 (by decide) ?_
              refine Go.iret dX5_kindNamed_69 rfl rfl ?_
              refine ⟨_, rfl, ?_, rfl⟩
              simp only [fstF, bi_0.mp h6, bi_0.mp h17, bi_0.mp h28, bi_0.mp h39, bi_0.mp h50, bi_0.mp h61, if_true, Bool.false_eq_true, if_false]
              rfl
            · refine Go.iconst (v := 5) dX5_kindNamed_64 (by decide) ?_
              refine Go.goto 69 dX5_kindNamed_65 rfl ?_
              refine Go.iret dX5_kindNamed_69 rfl rfl ?_
              refine ⟨_, rfl, ?_, rfl⟩
              simp only [fstF, bi_0.mp h6, bi_0.mp h17, bi_0.mp h28, bi_0.mp h39, bi_0.mp h50, bi_n0.mp h61, if_true, Bool.false_eq_true, if_false]
              rfl
          · refine Go.iconst (v := 4) dX5_kindNamed_53 (by decide) ?_
            refine Go.iret dX5_kindNamed_54 rfl rfl ?_
            refine ⟨_, rfl, ?_, rfl⟩
            simp only [fstF, bi_0.mp h6, bi_0.mp h17, bi_0.mp h28, bi_0.mp h39, bi_n0.mp h50, if_true, Bool.false_eq_true, if_false]
            rfl
        · refine Go.iconst (v := 3) dX5_kindNamed_42 (by decide) ?_
          refine Go.iret dX5_kindNamed_43 rfl rfl ?_
          refine ⟨_, rfl, ?_, rfl⟩
          simp only [fstF, bi_0.mp h6, bi_0.mp h17, bi_0.mp h28, bi_n0.mp h39, if_true, Bool.false_eq_true, if_false]
          rfl
      · refine Go.iconst (v := 2) dX5_kindNamed_31 (by decide) ?_
        refine Go.iret dX5_kindNamed_32 rfl rfl ?_
        refine ⟨_, rfl, ?_, rfl⟩
        simp only [fstF, bi_0.mp h6, bi_0.mp h17, bi_n0.mp h28, if_true, Bool.false_eq_true, if_false]
        rfl
    · refine Go.iconst (v := 1) dX5_kindNamed_20 (by decide) ?_
      refine Go.iret dX5_kindNamed_21 rfl rfl ?_
      refine ⟨_, rfl, ?_, rfl⟩
      simp only [fstF, bi_0.mp h6, bi_n0.mp h17, if_true, Bool.false_eq_true, if_false]
      rfl
  · refine Go.iconst (v := 0) dX5_kindNamed_9 (by decide) ?_
    refine Go.iret dX5_kindNamed_10 rfl rfl ?_
    refine ⟨_, rfl, ?_, rfl⟩
    simp only [fstF, bi_n0.mp h6, if_true, Bool.false_eq_true, if_false]
    rfl
set_option maxRecDepth 20000 in
theorem a_whatNamed {G : Gt} {d : Nat} {M : Mm} (hG : gS G = SHAPE) {L : Nat} {b : Nat → Int32} {p : Nat} (hA : At M L b p) : ExI G (d + 5) mX5_whatNamed [.ref 37] M (fun r M' => r = optI (-1) (whtF L b p) ∧ M' = M) := by
  refine Ex.of (by decide) (Nat.le_of_ble_eq_true rfl) ?_
  show Go G (d + 5) mX5_whatNamed 0 [some (.ref 37)] [] M _
  refine Go.aload_n dX5_whatNamed_0 rfl ?_
  refine Go.ldcS 10 (by decide) dX5_whatNamed_1 rfl rfl ?_
  refine Go.callVI [] dX5_whatNamed_3 lkX5_74 imX5_isWord seX5_isWord cbX5_isWord (s_isWord hG hA.1 hA.2.2 hA.2.1 (k := 10) (by decide)) (shp hG rfl) rfl rfl rfl (Nat.le_of_ble_eq_true rfl) (fun r1 M2 hr1 => ?_)
  obtain ⟨er1, emr1⟩ := hr1
  rw [emr1]
  clear emr1 M2
  subst er1
  refine Go.if_eq 11 dX5_whatNamed_6 rfl (fun h6 => ?_) (fun h6 => ?_)
  · refine Go.aload_n dX5_whatNamed_11 rfl ?_
    refine Go.ldcS 6 (by decide) dX5_whatNamed_12 rfl rfl ?_
    refine Go.callVI [] dX5_whatNamed_14 lkX5_74 imX5_isWord seX5_isWord cbX5_isWord (s_isWord hG hA.1 hA.2.2 hA.2.1 (k := 6) (by decide)) (shp hG rfl) rfl rfl rfl (Nat.le_of_ble_eq_true rfl) (fun r3 M4 hr3 => ?_)
    obtain ⟨er3, emr3⟩ := hr3
    rw [emr3]
    clear emr3 M4
    subst er3
    refine Go.if_eq 22 dX5_whatNamed_17 rfl (fun h17 => ?_) (fun h17 => ?_)
    · refine Go.aload_n dX5_whatNamed_22 rfl ?_
      refine Go.ldcS 7 (by decide) dX5_whatNamed_23 rfl rfl ?_
      refine Go.callVI [] dX5_whatNamed_25 lkX5_74 imX5_isWord seX5_isWord cbX5_isWord (s_isWord hG hA.1 hA.2.2 hA.2.1 (k := 7) (by decide)) (shp hG rfl) rfl rfl rfl (Nat.le_of_ble_eq_true rfl) (fun r5 M6 hr5 => ?_)
      obtain ⟨er5, emr5⟩ := hr5
      rw [emr5]
      clear emr5 M6
      subst er5
      refine Go.if_eq 35 dX5_whatNamed_28 rfl (fun h28 => ?_) (fun h28 => ?_)
      · refine Go.iconst (v := -1) dX5_whatNamed_35 (by decide) ?_
        refine Go.iret dX5_whatNamed_36 rfl rfl ?_
        refine ⟨_, rfl, ?_, rfl⟩
        simp only [whtF, bi_0.mp h6, bi_0.mp h17, bi_0.mp h28, if_true, Bool.false_eq_true, if_false]
        rfl
      · refine Go.iconst (v := 2) dX5_whatNamed_31 (by decide) ?_
        refine Go.goto 36 dX5_whatNamed_32 rfl ?_
        refine Go.iret dX5_whatNamed_36 rfl rfl ?_
        refine ⟨_, rfl, ?_, rfl⟩
        simp only [whtF, bi_0.mp h6, bi_0.mp h17, bi_n0.mp h28, if_true, Bool.false_eq_true, if_false]
        rfl
    · refine Go.iconst (v := 1) dX5_whatNamed_20 (by decide) ?_
      refine Go.iret dX5_whatNamed_21 rfl rfl ?_
      refine ⟨_, rfl, ?_, rfl⟩
      simp only [whtF, bi_0.mp h6, bi_n0.mp h17, if_true, Bool.false_eq_true, if_false]
      rfl
  · refine Go.iconst (v := 0) dX5_whatNamed_9 (by decide) ?_
    refine Go.iret dX5_whatNamed_10 rfl rfl ?_
    refine ⟨_, rfl, ?_, rfl⟩
    simp only [whtF, bi_n0.mp h6, if_true, Bool.false_eq_true, if_false]
    rfl
set_option maxRecDepth 20000 in
theorem l_things {G : Gt} {d : Nat} {M0 : Mm} (hG : gS G = SHAPE) {L : Nat} {b : Nat → Int32} {T : Nat × Nat} : ∀ (n i : Nat) (N : Mm) (set p : Nat), i + n = 3 → set < 256 → At N L b p → Same [37] M0 N → T = thC L b n set p → Go G (d + 2) mX5_takeThings 4 [some (.ref 37), some (.int (nI set)), some (.int (nI i))] [] N (fun v M' => ∃ r, v = some (.int r) ∧ r = nI T.1 ∧ At M' L b T.2 ∧ Same [37] M0 M') := by
  intro n
  induction n with
  | zero =>
    intro i N set p hin hset hA hSm hT
    refine Go.iload_n dX5_takeThings_4 rfl ?_
    refine Go.iconst (v := 3) dX5_takeThings_5 (by decide) ?_
    refine Go.icmp_ge 72 dX5_takeThings_6 rfl (fun _ => ?_) (fun h6 => absurd (nI_le (a := 3) (b := i) (by omega) (by omega)) h6)
    refine Go.iload_n dX5_takeThings_72 rfl ?_
    refine Go.iret dX5_takeThings_73 rfl rfl ?_
    exact ⟨_, rfl, by rw [hT]; rfl, by rw [hT]; exact hA, hSm⟩
  | succ n ih =>
    intro i N set p hin hset hA hSm hT
    have hi : i < 3 := by omega
    have ht5 : tT L b p ≤ 5 := typ_le L b (tS L b p)
    refine Go.iload_n dX5_takeThings_4 rfl ?_
    refine Go.iconst (v := 3) dX5_takeThings_5 (by decide) ?_
    refine Go.icmp_ge 72 dX5_takeThings_6 rfl (fun h6 => absurd h6 (nI_ge (a := i) (b := 3) (by omega) (by omega))) (fun _ => ?_)
    refine Go.iload_n dX5_takeThings_9 rfl ?_
    refine Go.if_le 23 dX5_takeThings_10 rfl (fun h10 => ?_) (fun h10 => ?_)
    · have n10 : i ≤ 0 := (nI_leI (a := i) (b := 0) (by omega) (by omega)).mp h10
      refine Go.aload_n dX5_takeThings_23 rfl ?_
      refine Go.getI dX5_takeThings_24 flX5_19 (shp hG rfl) rfl ?_
      refine Go.eqI (y := nI (tT L b p)) (hA.2.1.1) ?_
      refine Go.iconst (v := 2) dX5_takeThings_27 (by decide) ?_
      refine Go.icmp_ne 51 dX5_takeThings_28 rfl (fun h28 => ?_) (fun h28 => ?_)
      · have n28 : ¬ (tT L b p) = 2 := fun q => h28 ((nI_inj (a := (tT L b p)) (b := 2) (by omega) (by omega)).mpr q)
        refine Go.iconst (v := 0) dX5_takeThings_51 (by decide) ?_
        refine Go.iret dX5_takeThings_52 rfl rfl ?_
        refine ⟨_, rfl, ?_⟩
        rw [hT, thC, if_neg (fun z => z.1 (by omega)), if_neg (fun z => n28 z.1)]
        exact ⟨rfl, hA, hSm⟩
      · have n28 : (tT L b p) = 2 := (nI_inj (a := (tT L b p)) (b := 2) (by omega) (by omega)).mp h28
        have hval := hA.2.1.2.2.2
        rw [if_pos n28] at hval
        have hv4 := tV_le (b := b) hA.2.2 n28
        refine Go.aload_n dX5_takeThings_31 rfl ?_
        refine Go.getI dX5_takeThings_32 flX5_28 (shp hG rfl) rfl ?_
        refine Go.eqI (y := nI (tV L b p)) (hval) ?_
        refine Go.bipush (v := 8) dX5_takeThings_35 (by decide) ?_
        refine Go.icmp_ge 51 dX5_takeThings_37 rfl (fun h37 => ?_) (fun h37 => ?_)
        · have n37 : 8 ≤ (tV L b p) := (nI_leI (a := 8) (b := (tV L b p)) (by omega) (by omega)).mp h37
          refine Go.iconst (v := 0) dX5_takeThings_51 (by decide) ?_
          refine Go.iret dX5_takeThings_52 rfl rfl ?_
          refine ⟨_, rfl, ?_⟩
          rw [hT, thC, if_neg (fun z => z.1 (by omega)), if_neg (fun z => absurd z.2.1 (by omega))]
          exact ⟨rfl, hA, hSm⟩
        · have n37 : ¬ 8 ≤ (tV L b p) := fun q => h37 ((nI_leI (a := 8) (b := (tV L b p)) (by omega) (by omega)).mpr q)
          refine Go.iload_n dX5_takeThings_40 rfl ?_
          refine Go.aload_n dX5_takeThings_41 rfl ?_
          refine Go.getI dX5_takeThings_42 flX5_28 (shp hG rfl) rfl ?_
          refine Go.eqI (y := nI (tV L b p)) (hval) ?_
          refine Go.callSI [] dX5_takeThings_45 lkX5_112 stX6_hasBit cbX6_hasBit (s_hasBit (nI set) (nI (tV L b p))) rfl rfl (Nat.le_of_ble_eq_true rfl) (fun r1 M2 hr1 => ?_)
          obtain ⟨er1, emr1⟩ := hr1
          rw [emr1]
          clear emr1 M2
          subst er1
          refine Go.eqI (y := bi (set.testBit (tV L b p))) (by rw [bitI_nI (by omega) (by omega)]) ?_
          refine Go.if_eq 53 dX5_takeThings_48 rfl (fun h48 => ?_) (fun h48 => ?_)
          · refine Go.iload_n dX5_takeThings_53 rfl ?_
            refine Go.iconst (v := 1) dX5_takeThings_54 (by decide) ?_
            refine Go.aload_n dX5_takeThings_55 rfl ?_
            refine Go.getI dX5_takeThings_56 flX5_28 (shp hG rfl) rfl ?_
            refine Go.eqI (y := nI (tV L b p)) (hval) ?_
            refine Go.ishl dX5_takeThings_59 ?_
            refine Go.eqI (y := nI (2 ^ tV L b p)) (shl1 _ (by omega)) ?_
            refine Go.ior dX5_takeThings_60 ?_
            refine Go.eqI (y := nI (set ||| (2 ^ tV L b p))) (fa_or _ _) ?_
            refine Go.istore_n (ls' := [some (.ref 37), some (.int (nI (set ||| (2 ^ tV L b p)))), some (.int (nI i))]) dX5_takeThings_61 (Nat.le_of_ble_eq_true rfl) rfl rfl ?_
            refine Go.aload_n dX5_takeThings_62 rfl ?_
            refine Go.callVV [] dX5_takeThings_63 lkX5_31 imX5_advance seX5_advance cbX5_advance (a_adv hG hA) (shp hG rfl) rfl rfl rfl (Nat.le_of_ble_eq_true rfl) (fun M4 hr3 => ?_)
            obtain ⟨hA2, hs2⟩ := hr3
            refine Go.iinc (v := nI (i + 1)) (ls' := [some (.ref 37), some (.int (nI (set ||| (2 ^ tV L b p)))), some (.int (nI (i + 1)))]) dX5_takeThings_66 rfl (nI_1 _) rfl rfl ?_
            refine Go.goto 4 dX5_takeThings_69 rfl ?_
            have h2v : 2 ^ tV L b p < 256 := show 2 ^ tV L b p < 2 ^ 8 from Nat.pow_lt_pow_right (by decide) (by omega)
            exact ih (i + 1) M4 (set ||| 2 ^ tV L b p) (tE L b p) (by omega) (Nat.or_lt_two_pow (n := 8) hset h2v) hA2 (hSm.trans hs2) (by rw [hT, thC, if_neg (fun z => z.1 (by omega)), if_pos ⟨n28, by omega, bi_0.mp h48⟩])
          · refine Go.iconst (v := 0) dX5_takeThings_51 (by decide) ?_
            refine Go.iret dX5_takeThings_52 rfl rfl ?_
            refine ⟨_, rfl, ?_⟩
            rw [hT, thC, if_neg (fun z => z.1 (by omega)), if_neg (fun z => by rw [bi_n0.mp h48] at z; cases z.2.2)]
            exact ⟨rfl, hA, hSm⟩
    · have n10 : ¬ i ≤ 0 := fun q => h10 ((nI_leI (a := i) (b := 0) (by omega) (by omega)).mpr q)
      refine Go.aload_n dX5_takeThings_13 rfl ?_
      refine Go.getI dX5_takeThings_14 flX5_19 (shp hG rfl) rfl ?_
      refine Go.eqI (y := nI (tT L b p)) (hA.2.1.1) ?_
      refine Go.iconst (v := 2) dX5_takeThings_17 (by decide) ?_
      refine Go.icmp_eq 23 dX5_takeThings_18 rfl (fun h18 => ?_) (fun h18 => ?_)
      · have n18 : (tT L b p) = 2 := (nI_inj (a := (tT L b p)) (b := 2) (by omega) (by omega)).mp h18
        refine Go.aload_n dX5_takeThings_23 rfl ?_
        refine Go.getI dX5_takeThings_24 flX5_19 (shp hG rfl) rfl ?_
        refine Go.eqI (y := nI (tT L b p)) (hA.2.1.1) ?_
        refine Go.iconst (v := 2) dX5_takeThings_27 (by decide) ?_
        refine Go.icmp_ne 51 dX5_takeThings_28 rfl (fun h28 => ?_) (fun h28 => ?_)
        · have n28 : ¬ (tT L b p) = 2 := fun q => h28 ((nI_inj (a := (tT L b p)) (b := 2) (by omega) (by omega)).mpr q)
          refine Go.iconst (v := 0) dX5_takeThings_51 (by decide) ?_
          refine Go.iret dX5_takeThings_52 rfl rfl ?_
          refine ⟨_, rfl, ?_⟩
          rw [hT, thC, if_neg (fun z => z.2 n18), if_neg (fun z => n28 z.1)]
          exact ⟨rfl, hA, hSm⟩
        · have n28 : (tT L b p) = 2 := (nI_inj (a := (tT L b p)) (b := 2) (by omega) (by omega)).mp h28
          have hval := hA.2.1.2.2.2
          rw [if_pos n28] at hval
          have hv4 := tV_le (b := b) hA.2.2 n28
          refine Go.aload_n dX5_takeThings_31 rfl ?_
          refine Go.getI dX5_takeThings_32 flX5_28 (shp hG rfl) rfl ?_
          refine Go.eqI (y := nI (tV L b p)) (hval) ?_
          refine Go.bipush (v := 8) dX5_takeThings_35 (by decide) ?_
          refine Go.icmp_ge 51 dX5_takeThings_37 rfl (fun h37 => ?_) (fun h37 => ?_)
          · have n37 : 8 ≤ (tV L b p) := (nI_leI (a := 8) (b := (tV L b p)) (by omega) (by omega)).mp h37
            refine Go.iconst (v := 0) dX5_takeThings_51 (by decide) ?_
            refine Go.iret dX5_takeThings_52 rfl rfl ?_
            refine ⟨_, rfl, ?_⟩
            rw [hT, thC, if_neg (fun z => z.2 n18), if_neg (fun z => absurd z.2.1 (by omega))]
            exact ⟨rfl, hA, hSm⟩
          · have n37 : ¬ 8 ≤ (tV L b p) := fun q => h37 ((nI_leI (a := 8) (b := (tV L b p)) (by omega) (by omega)).mpr q)
            refine Go.iload_n dX5_takeThings_40 rfl ?_
            refine Go.aload_n dX5_takeThings_41 rfl ?_
            refine Go.getI dX5_takeThings_42 flX5_28 (shp hG rfl) rfl ?_
            refine Go.eqI (y := nI (tV L b p)) (hval) ?_
            refine Go.callSI [] dX5_takeThings_45 lkX5_112 stX6_hasBit cbX6_hasBit (s_hasBit (nI set) (nI (tV L b p))) rfl rfl (Nat.le_of_ble_eq_true rfl) (fun r5 M6 hr5 => ?_)
            obtain ⟨er5, emr5⟩ := hr5
            rw [emr5]
            clear emr5 M6
            subst er5
            refine Go.eqI (y := bi (set.testBit (tV L b p))) (by rw [bitI_nI (by omega) (by omega)]) ?_
            refine Go.if_eq 53 dX5_takeThings_48 rfl (fun h48 => ?_) (fun h48 => ?_)
            · refine Go.iload_n dX5_takeThings_53 rfl ?_
              refine Go.iconst (v := 1) dX5_takeThings_54 (by decide) ?_
              refine Go.aload_n dX5_takeThings_55 rfl ?_
              refine Go.getI dX5_takeThings_56 flX5_28 (shp hG rfl) rfl ?_
              refine Go.eqI (y := nI (tV L b p)) (hval) ?_
              refine Go.ishl dX5_takeThings_59 ?_
              refine Go.eqI (y := nI (2 ^ tV L b p)) (shl1 _ (by omega)) ?_
              refine Go.ior dX5_takeThings_60 ?_
              refine Go.eqI (y := nI (set ||| (2 ^ tV L b p))) (fa_or _ _) ?_
              refine Go.istore_n (ls' := [some (.ref 37), some (.int (nI (set ||| (2 ^ tV L b p)))), some (.int (nI i))]) dX5_takeThings_61 (Nat.le_of_ble_eq_true rfl) rfl rfl ?_
              refine Go.aload_n dX5_takeThings_62 rfl ?_
              refine Go.callVV [] dX5_takeThings_63 lkX5_31 imX5_advance seX5_advance cbX5_advance (a_adv hG hA) (shp hG rfl) rfl rfl rfl (Nat.le_of_ble_eq_true rfl) (fun M8 hr7 => ?_)
              obtain ⟨hA2, hs2⟩ := hr7
              refine Go.iinc (v := nI (i + 1)) (ls' := [some (.ref 37), some (.int (nI (set ||| (2 ^ tV L b p)))), some (.int (nI (i + 1)))]) dX5_takeThings_66 rfl (nI_1 _) rfl rfl ?_
              refine Go.goto 4 dX5_takeThings_69 rfl ?_
              have h2v : 2 ^ tV L b p < 256 := show 2 ^ tV L b p < 2 ^ 8 from Nat.pow_lt_pow_right (by decide) (by omega)
              exact ih (i + 1) M8 (set ||| 2 ^ tV L b p) (tE L b p) (by omega) (Nat.or_lt_two_pow (n := 8) hset h2v) hA2 (hSm.trans hs2) (by rw [hT, thC, if_neg (fun z => z.2 n18), if_pos ⟨n28, by omega, bi_0.mp h48⟩])
            · refine Go.iconst (v := 0) dX5_takeThings_51 (by decide) ?_
              refine Go.iret dX5_takeThings_52 rfl rfl ?_
              refine ⟨_, rfl, ?_⟩
              rw [hT, thC, if_neg (fun z => z.2 n18), if_neg (fun z => by rw [bi_n0.mp h48] at z; cases z.2.2)]
              exact ⟨rfl, hA, hSm⟩
      · have n18 : ¬ (tT L b p) = 2 := fun q => h18 ((nI_inj (a := (tT L b p)) (b := 2) (by omega) (by omega)).mpr q)
        refine Go.iload_n dX5_takeThings_21 rfl ?_
        refine Go.iret dX5_takeThings_22 rfl rfl ?_
        refine ⟨_, rfl, ?_⟩
        rw [hT, thC, if_pos ⟨by omega, n18⟩]
        exact ⟨rfl, hA, hSm⟩
set_option maxRecDepth 20000 in
theorem a_things {G : Gt} {d : Nat} {M : Mm} (hG : gS G = SHAPE) {L : Nat} {b : Nat → Int32} {p : Nat} (hA : At M L b p) : ExI G (d + 2) mX5_takeThings [.ref 37] M (fun r M' => r = nI (thC L b 3 0 p).1 ∧ At M' L b (thC L b 3 0 p).2 ∧ Same [37] M M') := by
  refine Ex.of (by decide) (Nat.le_of_ble_eq_true rfl) ?_
  show Go G (d + 2) mX5_takeThings 0 [some (.ref 37), none, none] [] M _
  refine Go.iconst (v := 0) dX5_takeThings_0 (by decide) ?_
  refine Go.istore_n (ls' := [some (.ref 37), some (.int 0), none]) dX5_takeThings_1 (Nat.le_of_ble_eq_true rfl) rfl rfl ?_
  refine Go.iconst (v := 0) dX5_takeThings_2 (by decide) ?_
  refine Go.istore_n (ls' := [some (.ref 37), some (.int 0), some (.int 0)]) dX5_takeThings_3 (Nat.le_of_ble_eq_true rfl) rfl rfl ?_
  exact l_things hG 3 0 M 0 p (by omega) (by decide) hA (Same.refl _ _) rfl
