set_option maxRecDepth 20000 in
theorem l_firstBy {G : Gt} {d : Nat} {M : Mm} (hG : gS G = SHAPE) {n9 : Nat} {K X : Nat → Nat} {ed : Nat} (hB : BkM M n9 K X ed) {x : Nat} (hx : okD x = true) : ∀ (n i : Nat), i + n = n9 → fstF (barB K X ed x) 0 n9 = fstF (barB K X ed x) i n → Go G (d + 2) mX7_firstBy 2 [some (.ref 49), some (.int (nI x)), some (.int (nI i))] [] M (fun v M' => ∃ r, v = some (.int r) ∧ r = optI (-1000000004) (fstF (barB K X ed x) 0 n9) ∧ M' = M) := by
  intro n
  induction n with
  | zero =>
    intro i  hin hf
    have hn := hB.1
    refine Go.iload_n dX7_firstBy_2 rfl ?_
    refine Go.aload_n dX7_firstBy_3 rfl ?_
    refine Go.getI dX7_firstBy_4 flX7_93 (shp hG rfl) rfl ?_
    refine Go.eqI (y := nI n9) (hB.2.2.1) ?_
    refine Go.icmp_ge 27 dX7_firstBy_7 rfl (fun _ => ?_) (fun h7 => absurd (nI_le (a := n9) (b := i) (by omega) (by omega)) h7)
    refine Go.ldc dX7_firstBy_27 kcX7_127 ?_
    refine Go.iret dX7_firstBy_29 rfl rfl ?_
    exact ⟨_, rfl, by rw [hf]; rfl, rfl⟩
  | succ n ih =>
    intro i  hin hf
    have hi : i < n9 := by omega
    have hn := hB.1
    refine Go.iload_n dX7_firstBy_2 rfl ?_
    refine Go.aload_n dX7_firstBy_3 rfl ?_
    refine Go.getI dX7_firstBy_4 flX7_93 (shp hG rfl) rfl ?_
    refine Go.eqI (y := nI n9) (hB.2.2.1) ?_
    refine Go.icmp_ge 27 dX7_firstBy_7 rfl (fun h7 => absurd h7 (nI_ge (a := i) (b := n9) (by omega) (by omega))) (fun _ => ?_)
    refine Go.aload_n dX7_firstBy_10 rfl ?_
    refine Go.iload_n dX7_firstBy_11 rfl ?_
    refine Go.iload_n dX7_firstBy_12 rfl ?_
    refine Go.callVI [] dX7_firstBy_13 lkX7_124 imX7_barsIt seX7_barsIt cbX7_barsIt (m_barsIt hG hB (e := i) (x := x) (by omega) hx) (shp hG rfl) rfl rfl rfl (Nat.le_of_ble_eq_true rfl) (fun r1 M2 hr1 => ?_)
    obtain ⟨er1, emr1⟩ := hr1
    rw [emr1]
    clear emr1 M2
    subst er1
    refine Go.if_eq 21 dX7_firstBy_16 rfl (fun h16 => ?_) (fun h16 => ?_)
    · refine Go.iinc (v := nI (i + 1)) (ls' := [some (.ref 49), some (.int (nI x)), some (.int (nI (i + 1)))]) dX7_firstBy_21 rfl (nI_1 _) rfl rfl ?_
      refine Go.goto 2 dX7_firstBy_24 rfl ?_
      exact ih (i + 1) (by omega) (by rw [hf, fstF, if_neg (by rw [bi_0.mp h16]; decide)])
    · refine Go.iload_n dX7_firstBy_19 rfl ?_
      refine Go.iret dX7_firstBy_20 rfl rfl ?_
      exact ⟨_, rfl, by rw [hf, fstF, if_pos (bi_n0.mp h16)]; rfl, rfl⟩
set_option maxRecDepth 20000 in
theorem m_firstBy {G : Gt} {d : Nat} {M : Mm} (hG : gS G = SHAPE) {n9 : Nat} {K X : Nat → Nat} {ed : Nat} (hB : BkM M n9 K X ed) {x : Nat} (hx : okD x = true) : ExI G (d + 2) mX7_firstBy [.ref 49, .int (nI x)] M (fun r M' => r = optI (-1000000004) (fstF (barB K X ed x) 0 n9) ∧ M' = M) := by
  refine Ex.of (by decide) (Nat.le_of_ble_eq_true rfl) ?_
  show Go G (d + 2) mX7_firstBy 0 [some (.ref 49), some (.int (nI x)), none] [] M _
  refine Go.iconst (v := 0) dX7_firstBy_0 (by decide) ?_
  refine Go.istore_n (ls' := [some (.ref 49), some (.int (nI x)), some (.int 0)]) dX7_firstBy_1 (Nat.le_of_ble_eq_true rfl) rfl rfl ?_
  exact l_firstBy hG hB hx n9 0 (by omega) rfl
theorem optN_neg {o : Option Nat} (h : ∀ i, o = some i → i < 2 ^ 31) : (optI (-1000000004) o < 0 ↔ o = none) ∧ (0 ≤ optI (-1000000004) o ↔ ¬ o = none) := by
  cases o with
  | none => simp [optI]
  | some i =>
    have := h i rfl
    simp [optI, nI_pos this, nI_pos' this]
theorem fst_lt9 {p : Nat → Bool} {n : Nat} (hn : n ≤ 90) : ∀ i, fstF p 0 n = some i → i < 2 ^ 31 := fun i h => by have := (fstF_some h).2.1; omega
set_option maxRecDepth 20000 in
theorem m_isNew {G : Gt} {d : Nat} {M : Mm} (hG : gS G = SHAPE) {n9 : Nat} {K X : Nat → Nat} {ed : Nat} (hB : BkM M n9 K X ed) {x : Nat} (hx : okD x = true) : ExI G (d + 3) mX7_isNew [.ref 49, .int (nI x)] M (fun r M' => r = bi (newN n9 K X ed x) ∧ M' = M) := by
  have hn := hB.1
  refine Ex.of (by decide) (Nat.le_of_ble_eq_true rfl) ?_
  show Go G (d + 3) mX7_isNew 0 [some (.ref 49), some (.int (nI x))] [] M _
  refine Go.aload_n dX7_isNew_0 rfl ?_
  refine Go.iload_n dX7_isNew_1 rfl ?_
  refine Go.callVI [] dX7_isNew_2 lkX7_128 imX7_firstBy seX7_firstBy cbX7_firstBy (m_firstBy hG hB (x := x) hx) (shp hG rfl) rfl rfl rfl (Nat.le_of_ble_eq_true rfl) (fun r1 M2 hr1 => ?_)
  obtain ⟨er1, emr1⟩ := hr1
  rw [emr1]
  clear emr1 M2
  subst er1
  refine Go.if_ge 12 dX7_isNew_5 rfl (fun h5 => ?_) (fun h5 => ?_)
  · refine Go.iconst (v := 0) dX7_isNew_12 (by decide) ?_
    refine Go.iret dX7_isNew_13 rfl (by decide) ?_
    refine ⟨_, rfl, ?_, rfl⟩
    have h9 := optN_neg (fst_lt9 (p := barB K X ed x) hn)
    have h8 := h9.2.mp h5
    simp [newN, bi, Option.isNone_iff_eq_none, h8]
  · refine Go.iconst (v := 1) dX7_isNew_8 (by decide) ?_
    refine Go.goto 13 dX7_isNew_9 rfl ?_
    refine Go.iret dX7_isNew_13 rfl (by decide) ?_
    refine ⟨_, rfl, ?_, rfl⟩
    have h9 := optN_neg (fst_lt9 (p := barB K X ed x) hn)
    have h8 := h9.1.mp (i_nle h5)
    simp [newN, bi, h8]
theorem nx_xor (a b : Nat) : nI a ^^^ nI b = nI (a ^^^ b) := by
  apply Int32.toBitVec_inj.mp
  simp [nI, Int32.toBitVec_xor]
theorem pop8N {a : Nat} (h : a < 256) : popN a = pop8 a := by
  unfold popN
  have e0 : pop8 0 = 0 := by decide
  rw [Nat.mod_eq_of_lt h, show a / 256 % 256 = 0 by omega, show a / 65536 = 0 by omega, e0]
  rfl
theorem xor256 {a b : Nat} (ha : a < 256) (hb : b < 256) : a ^^^ b < 256 := Nat.xor_lt_two_pow (n := 8) ha hb
set_option maxRecDepth 20000 in
theorem m_nearOf {G : Gt} {d : Nat} {M : Mm} {a b : Nat} (ha : okD a = true) (hb : okD b = true) : ExI G (d + 1) mX7_nearOf [.int (nI a), .int (nI b)] M (fun r M' => r = nearI (nI a) (nI b) ∧ M' = M) := by
  have ha5 := okD_lt ha
  have hb5 := okD_lt hb
  have has := (okS_lt ha).1
  have hbs := (okS_lt hb).1
  refine Ex.of (by decide) (Nat.le_of_ble_eq_true rfl) ?_
  show Go G (d + 1) mX7_nearOf 0 [some (.int (nI a)), some (.int (nI b))] [] M _
  refine Go.iload_n dX7_nearOf_0 rfl ?_
  refine Go.callSI [] dX7_nearOf_1 lkX7_90 stX7_setOf cbX7_setOf (m_setOf (nI a)) rfl rfl (Nat.le_of_ble_eq_true rfl) (fun r1 M2 hr1 => ?_)
  obtain ⟨er1, emr1⟩ := hr1
  rw [emr1]
  clear emr1 M2
  subst er1
  refine Go.eqI (y := nI (a / 20)) (iset_nI (by omega)) ?_
  refine Go.iload_n dX7_nearOf_4 rfl ?_
  refine Go.callSI [.int (nI (a / 20))] dX7_nearOf_5 lkX7_90 stX7_setOf cbX7_setOf (m_setOf (nI b)) rfl rfl (Nat.le_of_ble_eq_true rfl) (fun r3 M4 hr3 => ?_)
  obtain ⟨er3, emr3⟩ := hr3
  rw [emr3]
  clear emr3 M4
  subst er3
  refine Go.eqI (y := nI (b / 20)) (iset_nI (by omega)) ?_
  refine Go.ixor dX7_nearOf_8 ?_
  refine Go.eqI (y := nI (a / 20 ^^^ b / 20)) (nx_xor _ _) ?_
  refine Go.callSI [] dX7_nearOf_9 lkX7_81 stX7_ones cbX7_ones (m_ones (s := a / 20 ^^^ b / 20) (xor256 has hbs)) rfl rfl (Nat.le_of_ble_eq_true rfl) (fun r5 M6 hr5 => ?_)
  obtain ⟨er5, emr5⟩ := hr5
  rw [emr5]
  clear emr5 M6
  subst er5
  refine Go.iload_n dX7_nearOf_12 rfl ?_
  refine Go.callSI [.int (nI (pop8 (a / 20 ^^^ b / 20)))] dX7_nearOf_13 lkX7_114 stX7_wayOf cbX7_wayOf (m_wayOf (nI a)) rfl rfl (Nat.le_of_ble_eq_true rfl) (fun r7 M8 hr7 => ?_)
  obtain ⟨er7, emr7⟩ := hr7
  rw [emr7]
  clear emr7 M8
  subst er7
  refine Go.iload_n dX7_nearOf_16 rfl ?_
  refine Go.callSI [.int (iway (nI a)), .int (nI (pop8 (a / 20 ^^^ b / 20)))] dX7_nearOf_17 lkX7_114 stX7_wayOf cbX7_wayOf (m_wayOf (nI b)) rfl rfl (Nat.le_of_ble_eq_true rfl) (fun r9 M10 hr9 => ?_)
  obtain ⟨er9, emr9⟩ := hr9
  rw [emr9]
  clear emr9 M10
  subst er9
  refine Go.icmp_eq 27 dX7_nearOf_20 rfl (fun h20 => ?_) (fun h20 => ?_)
  · refine Go.iconst (v := 0) dX7_nearOf_27 (by decide) ?_
    refine Go.iadd dX7_nearOf_28 ?_
    refine Go.eqI (y := nI (pop8 (a / 20 ^^^ b / 20) + 0)) (nI_add _ _) ?_
    refine Go.iload_n dX7_nearOf_29 rfl ?_
    refine Go.callSI [.int (nI (pop8 (a / 20 ^^^ b / 20) + 0))] dX7_nearOf_30 lkX7_117 stX7_sauceOf cbX7_sauceOf (m_sauceOf (nI a)) rfl rfl (Nat.le_of_ble_eq_true rfl) (fun r11 M12 hr11 => ?_)
    obtain ⟨er11, emr11⟩ := hr11
    rw [emr11]
    clear emr11 M12
    subst er11
    refine Go.iload_n dX7_nearOf_33 rfl ?_
    refine Go.callSI [.int (isau (nI a)), .int (nI (pop8 (a / 20 ^^^ b / 20) + 0))] dX7_nearOf_34 lkX7_117 stX7_sauceOf cbX7_sauceOf (m_sauceOf (nI b)) rfl rfl (Nat.le_of_ble_eq_true rfl) (fun r13 M14 hr13 => ?_)
    obtain ⟨er13, emr13⟩ := hr13
    rw [emr13]
    clear emr13 M14
    subst er13
    refine Go.icmp_eq 44 dX7_nearOf_37 rfl (fun h37 => ?_) (fun h37 => ?_)
    · refine Go.iconst (v := 0) dX7_nearOf_44 (by decide) ?_
      refine Go.iadd dX7_nearOf_45 ?_
      refine Go.eqI (y := nI (pop8 (a / 20 ^^^ b / 20) + 0 + 0)) (nI_add _ _) ?_
      refine Go.iret dX7_nearOf_46 rfl rfl ?_
      refine ⟨_, rfl, ?_, rfl⟩
      unfold nearI
      rw [iset_nI (by omega), iset_nI (by omega), nx_xor, pcI_nI (Nat.lt_trans (xor256 has hbs) (by decide)), pop8N (xor256 has hbs)]
      simp [nI_succ, h20, h37]
    · refine Go.iconst (v := 1) dX7_nearOf_40 (by decide) ?_
      refine Go.goto 45 dX7_nearOf_41 rfl ?_
      refine Go.iadd dX7_nearOf_45 ?_
      refine Go.eqI (y := nI (pop8 (a / 20 ^^^ b / 20) + 0 + 1)) (nI_add _ _) ?_
      refine Go.iret dX7_nearOf_46 rfl rfl ?_
      refine ⟨_, rfl, ?_, rfl⟩
      unfold nearI
      rw [iset_nI (by omega), iset_nI (by omega), nx_xor, pcI_nI (Nat.lt_trans (xor256 has hbs) (by decide)), pop8N (xor256 has hbs)]
      simp [nI_succ, h20, h37]
  · refine Go.iconst (v := 1) dX7_nearOf_23 (by decide) ?_
    refine Go.goto 28 dX7_nearOf_24 rfl ?_
    refine Go.iadd dX7_nearOf_28 ?_
    refine Go.eqI (y := nI (pop8 (a / 20 ^^^ b / 20) + 1)) (nI_add _ _) ?_
    refine Go.iload_n dX7_nearOf_29 rfl ?_
    refine Go.callSI [.int (nI (pop8 (a / 20 ^^^ b / 20) + 1))] dX7_nearOf_30 lkX7_117 stX7_sauceOf cbX7_sauceOf (m_sauceOf (nI a)) rfl rfl (Nat.le_of_ble_eq_true rfl) (fun r15 M16 hr15 => ?_)
    obtain ⟨er15, emr15⟩ := hr15
    rw [emr15]
    clear emr15 M16
    subst er15
    refine Go.iload_n dX7_nearOf_33 rfl ?_
    refine Go.callSI [.int (isau (nI a)), .int (nI (pop8 (a / 20 ^^^ b / 20) + 1))] dX7_nearOf_34 lkX7_117 stX7_sauceOf cbX7_sauceOf (m_sauceOf (nI b)) rfl rfl (Nat.le_of_ble_eq_true rfl) (fun r17 M18 hr17 => ?_)
    obtain ⟨er17, emr17⟩ := hr17
    rw [emr17]
    clear emr17 M18
    subst er17
    refine Go.icmp_eq 44 dX7_nearOf_37 rfl (fun h37 => ?_) (fun h37 => ?_)
    · refine Go.iconst (v := 0) dX7_nearOf_44 (by decide) ?_
      refine Go.iadd dX7_nearOf_45 ?_
      refine Go.eqI (y := nI (pop8 (a / 20 ^^^ b / 20) + 1 + 0)) (nI_add _ _) ?_
      refine Go.iret dX7_nearOf_46 rfl rfl ?_
      refine ⟨_, rfl, ?_, rfl⟩
      unfold nearI
      rw [iset_nI (by omega), iset_nI (by omega), nx_xor, pcI_nI (Nat.lt_trans (xor256 has hbs) (by decide)), pop8N (xor256 has hbs)]
      simp [nI_succ, h20, h37]
    · refine Go.iconst (v := 1) dX7_nearOf_40 (by decide) ?_
      refine Go.goto 45 dX7_nearOf_41 rfl ?_
      refine Go.iadd dX7_nearOf_45 ?_
      refine Go.eqI (y := nI (pop8 (a / 20 ^^^ b / 20) + 1 + 1)) (nI_add _ _) ?_
      refine Go.iret dX7_nearOf_46 rfl rfl ?_
      refine ⟨_, rfl, ?_, rfl⟩
      unfold nearI
      rw [iset_nI (by omega), iset_nI (by omega), nx_xor, pcI_nI (Nat.lt_trans (xor256 has hbs) (by decide)), pop8N (xor256 has hbs)]
      simp [nI_succ, h20, h37]
/-- the reference's marks: which dishes are barred -/
def MarkIs (M : Mm) (c : Nat → Nat) : Prop := ∀ p, p < 1840 → M.1 59 p = bi (decide (1 ≤ c (dishN p)))
theorem MarkIs.same {M M' : Mm} {c : Nat → Nat} (h : MarkIs M c) (h1 : M'.1 59 = M.1 59) : MarkIs M' c := fun p hp => by rw [h1]; exact h p hp
/-- marked up to a place -/
def MarkTo (M : Mm) (c c' : Nat → Nat) (q : Nat) : Prop := ∀ p, p < 1840 → M.1 59 p = bi (decide (1 ≤ (if p < q then c' else c) (dishN p)))
theorem MarkTo.step {M : Mm} {c : Nat → Nat} {k x ed q : Nat} (h : MarkTo M c (addC c k x ed) q) (hq : q < 1840) (b : Bool) (hb : b = (decide (1 ≤ c (dishN q)) || barsN k x (dishN q) ed)) : MarkTo (upi M 59 q (bi b)) c (addC c k x ed) (q + 1) := by
  intro p hp
  rw [rd_eq]
  unfold upd
  by_cases e : p = q
  · subst e
    rw [if_pos rfl, if_pos (by omega), hb]
    congr 1
    unfold addC
    rw [dishN_ok hq]
    cases barsN k x (dishN p) ed <;> simp
  · rw [if_neg e, h p hp]
    by_cases e2 : p < q
    · rw [if_pos e2, if_pos (by omega)]
    · rw [if_neg e2, if_neg (by omega)]
theorem MarkTo.skip {M : Mm} {c : Nat → Nat} {k x ed i : Nat} (h : MarkTo M c (addC c k x ed) (20 * i)) (hi : i < 92) (hp : partN (x / 20) (sN i) = false) : MarkTo M c (addC c k x ed) (20 * (i + 1)) := by
  intro p hpp
  rw [h p hpp]
  by_cases e : p < 20 * i
  · rw [if_pos e, if_pos (by omega)]
  · rw [if_neg e]
    by_cases e2 : p < 20 * (i + 1)
    · rw [if_pos e2]
      have e3 : p / 20 = i := by omega
      have : barsN k x (dishN p) ed = false := by
        unfold barsN psetN
        have e4 : dishN p / 20 = sN i := by
          have : dishN p = 20 * sN (p / 20) + p % 20 := rfl
          rw [this, e3]; omega
        rw [e4]
        split
        · rw [hp]; rfl
        · have : ¬ x / 20 = sN i := fun q => by
            rw [q] at hp
            simp [partN] at hp
          simp [this]
      simp [addC, this]
    · rw [if_neg e2]
