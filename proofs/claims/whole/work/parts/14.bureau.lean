set_option maxRecDepth 20000 in
theorem s_isBarredBy {G : Gt} {d : Nat} {M : Mm} (hG : gS G = SHAPE) {n : Nat} {K X : Nat → Nat} {ed : Nat} (hB : Bk M 1 n K X ed) {e x : Nat} (he : e < n) (hx : okD x = true) : ExI G (d + 3) mX1_isBarredBy [.ref 1, .int (nI e), .int (nI x)] M (fun r M' => r = bi (barB K X ed x e) ∧ M' = M) := by
  have hn := hB.1
  have hed := hB.2.1
  refine Ex.of (by decide) (Nat.le_of_ble_eq_true rfl) ?_
  show Go G (d + 3) mX1_isBarredBy 0 [some (.ref 1), some (.int (nI e)), some (.int (nI x))] [] M _
  refine Go.aload_n dX1_isBarredBy_0 rfl ?_
  refine Go.getR dX1_isBarredBy_1 flX1_24 (shp hG rfl) rfl ?_
  refine Go.iload_n dX1_isBarredBy_4 rfl ?_
  refine Go.iald dX1_isBarredBy_5 (shp hG rfl) (vin (by omega) (by decide)) ?_
  refine Go.eqI (y := nI (K e)) (by rw [ncl (by omega)]; exact (hB.2.2.2.2 e he).2.2.1) ?_
  refine Go.aload_n dX1_isBarredBy_6 rfl ?_
  refine Go.getR dX1_isBarredBy_7 flX1_27 (shp hG rfl) rfl ?_
  refine Go.iload_n dX1_isBarredBy_10 rfl ?_
  refine Go.iald dX1_isBarredBy_11 (shp hG rfl) (vin (by omega) (by decide)) ?_
  refine Go.eqI (y := nI (X e)) (by rw [ncl (by omega)]; exact (hB.2.2.2.2 e he).2.2.2) ?_
  refine Go.iload_n dX1_isBarredBy_12 rfl ?_
  refine Go.aload_n dX1_isBarredBy_13 rfl ?_
  refine Go.getI dX1_isBarredBy_14 flX1_37 (shp hG rfl) rfl ?_
  refine Go.eqI (y := nI ed) (hB.2.2.2.1) ?_
  refine Go.callSI [] dX1_isBarredBy_17 lkX1_91 stX6_barsDish cbX6_barsDish (s_barsDish (nI (K e)) (nI (X e)) (nI x) (nI ed)) rfl rfl (Nat.le_of_ble_eq_true rfl) (fun r1 M2 hr1 => ?_)
  obtain ⟨er1, emr1⟩ := hr1
  rw [emr1]
  clear emr1 M2
  subst er1
  refine Go.eqI (y := bi (barB K X ed x e)) (by rw [bdishI_nI (hB.2.2.2.2 e he).1 (okD_lt (hB.2.2.2.2 e he).2.1).1 (okD_lt hx).1 hB.2.1]; rfl) ?_
  refine Go.iret dX1_isBarredBy_20 rfl (bi_nar _) ?_
  exact ⟨_, rfl, rfl, rfl⟩
set_option maxRecDepth 20000 in
theorem l_firstBarring {G : Gt} {d : Nat} {M : Mm} (hG : gS G = SHAPE) {n : Nat} {K X : Nat → Nat} {ed : Nat} (hB : Bk M 1 n K X ed) {x a : Nat} (hx : okD x = true) (ha : a ≤ n) : ∀ (m i : Nat), i + m = a → fstF (barB K X ed x) 0 a = fstF (barB K X ed x) i m → Go G (d + 4) mX1_firstBarring 2 [some (.ref 1), some (.int (nI x)), some (.int (nI a)), some (.int (nI i))] [] M (fun v M' => ∃ r, v = some (.int r) ∧ r = optI (-1) (fstF (barB K X ed x) 0 a) ∧ M' = M) := by
  have hn := hB.1
  have hed := hB.2.1
  intro m
  induction m with
  | zero =>
    intro i hin hf
    refine Go.iload_n dX1_firstBarring_2 rfl ?_
    refine Go.iload_n dX1_firstBarring_3 rfl ?_
    refine Go.icmp_ge 32 dX1_firstBarring_4 rfl (fun _ => ?_) (fun h4 => absurd (nI_le (a := a) (b := i) (by omega) (by omega)) h4)
    refine Go.iconst (v := -1) dX1_firstBarring_32 (by decide) ?_
    refine Go.iret dX1_firstBarring_33 rfl rfl ?_
    exact ⟨_, rfl, by rw [hf]; rfl, rfl⟩
  | succ m ih =>
    intro i hin hf
    have hi : i < a := by omega
    refine Go.iload_n dX1_firstBarring_2 rfl ?_
    refine Go.iload_n dX1_firstBarring_3 rfl ?_
    refine Go.icmp_ge 32 dX1_firstBarring_4 rfl (fun h4 => absurd h4 (nI_ge (a := i) (b := a) (by omega) (by omega))) (fun _ => ?_)
    refine Go.iload_n dX1_firstBarring_7 rfl ?_
    refine Go.aload_n dX1_firstBarring_8 rfl ?_
    refine Go.getI dX1_firstBarring_9 flX1_33 (shp hG rfl) rfl ?_
    refine Go.eqI (y := nI n) (hB.2.2.1) ?_
    refine Go.icmp_ge 32 dX1_firstBarring_12 rfl (fun h12 => absurd h12 (nI_ge (a := i) (b := n) (by omega) (by omega))) (fun _ => ?_)
    refine Go.aload_n dX1_firstBarring_15 rfl ?_
    refine Go.iload_n dX1_firstBarring_16 rfl ?_
    refine Go.iload_n dX1_firstBarring_17 rfl ?_
    refine Go.callVI [] dX1_firstBarring_18 lkX1_95 imX1_isBarredBy seX1_isBarredBy cbX1_isBarredBy (s_isBarredBy hG hB (e := i) (x := x) (by omega) hx) (shp hG rfl) rfl rfl rfl (Nat.le_of_ble_eq_true rfl) (fun r1 M2 hr1 => ?_)
    obtain ⟨er1, emr1⟩ := hr1
    rw [emr1]
    clear emr1 M2
    subst er1
    refine Go.if_eq 26 dX1_firstBarring_21 rfl (fun h21 => ?_) (fun h21 => ?_)
    · refine Go.iinc (v := nI (i + 1)) (ls' := [some (.ref 1), some (.int (nI x)), some (.int (nI a)), some (.int (nI (i + 1)))]) dX1_firstBarring_26 rfl (nI_1 _) rfl rfl ?_
      refine Go.goto 2 dX1_firstBarring_29 rfl ?_
      exact ih (i + 1) (by omega) (by rw [hf, fstF, if_neg (by rw [bi_0.mp h21]; decide)])
    · refine Go.iload_n dX1_firstBarring_24 rfl ?_
      refine Go.iret dX1_firstBarring_25 rfl rfl ?_
      exact ⟨_, rfl, by rw [hf, fstF, if_pos (bi_n0.mp h21)]; rfl, rfl⟩
set_option maxRecDepth 20000 in
theorem s_firstBarring {G : Gt} {d : Nat} {M : Mm} (hG : gS G = SHAPE) {n : Nat} {K X : Nat → Nat} {ed : Nat} (hB : Bk M 1 n K X ed) {x a : Nat} (hx : okD x = true) (ha : a ≤ n) : ExI G (d + 4) mX1_firstBarring [.ref 1, .int (nI x), .int (nI a)] M (fun r M' => r = optI (-1) (fstF (barB K X ed x) 0 a) ∧ M' = M) := by
  have hn := hB.1
  have hed := hB.2.1
  refine Ex.of (by decide) (Nat.le_of_ble_eq_true rfl) ?_
  show Go G (d + 4) mX1_firstBarring 0 [some (.ref 1), some (.int (nI x)), some (.int (nI a)), none] [] M _
  refine Go.iconst (v := 0) dX1_firstBarring_0 (by decide) ?_
  refine Go.istore_n (ls' := [some (.ref 1), some (.int (nI x)), some (.int (nI a)), some (.int 0)]) dX1_firstBarring_1 (Nat.le_of_ble_eq_true rfl) rfl rfl ?_
  exact l_firstBarring hG hB hx ha a 0 (by omega) rfl
theorem optI_neg {o : Option Nat} (h : ∀ i, o = some i → i < 2 ^ 31) : (optI (-1) o < 0 ↔ o = none) ∧ (0 ≤ optI (-1) o ↔ ¬ o = none) := by
  cases o with
  | none => simp [optI]
  | some i =>
    have := h i rfl
    simp [optI, nI_pos this, nI_pos' this]
theorem fst_lt {p : Nat → Bool} {n : Nat} (hn : n ≤ 30) : ∀ i, fstF p 0 n = some i → i < 2 ^ 31 := fun i h => by have := (fstF_some h).2.1; omega
def newN (n : Nat) (K X : Nat → Nat) (ed x : Nat) : Bool := (fstF (barB K X ed x) 0 n).isNone
set_option maxRecDepth 20000 in
theorem s_isNew {G : Gt} {d : Nat} {M : Mm} (hG : gS G = SHAPE) {n : Nat} {K X : Nat → Nat} {ed : Nat} (hB : Bk M 1 n K X ed) {x : Nat} (hx : okD x = true) : ExI G (d + 5) mX1_isNew [.ref 1, .int (nI x)] M (fun r M' => r = bi (newN n K X ed x) ∧ M' = M) := by
  have hn := hB.1
  have hed := hB.2.1
  refine Ex.of (by decide) (Nat.le_of_ble_eq_true rfl) ?_
  show Go G (d + 5) mX1_isNew 0 [some (.ref 1), some (.int (nI x))] [] M _
  refine Go.aload_n dX1_isNew_0 rfl ?_
  refine Go.iload_n dX1_isNew_1 rfl ?_
  refine Go.aload_n dX1_isNew_2 rfl ?_
  refine Go.getI dX1_isNew_3 flX1_33 (shp hG rfl) rfl ?_
  refine Go.eqI (y := nI n) (hB.2.2.1) ?_
  refine Go.callVI [] dX1_isNew_6 lkX1_73 imX1_firstBarring seX1_firstBarring cbX1_firstBarring (s_firstBarring hG hB (x := x) (a := n) hx (by omega)) (shp hG rfl) rfl rfl rfl (Nat.le_of_ble_eq_true rfl) (fun r1 M2 hr1 => ?_)
  obtain ⟨er1, emr1⟩ := hr1
  rw [emr1]
  clear emr1 M2
  subst er1
  refine Go.if_ge 16 dX1_isNew_9 rfl (fun h9 => ?_) (fun h9 => ?_)
  · refine Go.iconst (v := 0) dX1_isNew_16 (by decide) ?_
    refine Go.iret dX1_isNew_17 rfl (by decide) ?_
    refine ⟨_, rfl, ?_, rfl⟩
    have h9 := optI_neg (fst_lt (p := barB K X ed x) hn)
    first | (have h8 := h9.2.mp (by assumption); simp [newN, bi, Option.isNone_iff_eq_none, h8]; done) | (have h8 := h9.1.mp (i_nle (by assumption)); simp [newN, bi, h8]; done)
  · refine Go.iconst (v := 1) dX1_isNew_12 (by decide) ?_
    refine Go.goto 17 dX1_isNew_13 rfl ?_
    refine Go.iret dX1_isNew_17 rfl (by decide) ?_
    refine ⟨_, rfl, ?_, rfl⟩
    have h9 := optI_neg (fst_lt (p := barB K X ed x) hn)
    first | (have h8 := h9.2.mp (by assumption); simp [newN, bi, Option.isNone_iff_eq_none, h8]; done) | (have h8 := h9.1.mp (i_nle (by assumption)); simp [newN, bi, h8]; done)
set_option maxRecDepth 20000 in
theorem s_canBe {G : Gt} {d : Nat} {M : Mm} (hG : gS G = SHAPE) {x : Nat} (hx : okD x = true) : ExI G (d + 1) mX1_canBe [.ref 1, .int (nI x)] M (fun r M' => r = bi (canN (M.1 2) (x / 20)) ∧ M' = M) := by
  refine Ex.of (by decide) (Nat.le_of_ble_eq_true rfl) ?_
  show Go G (d + 1) mX1_canBe 0 [some (.ref 1), some (.int (nI x))] [] M _
  refine Go.iload_n dX1_canBe_0 rfl ?_
  refine Go.callSI [] dX1_canBe_1 lkX1_66 stX6_setOf cbX6_setOf (s_setOf (nI x)) rfl rfl (Nat.le_of_ble_eq_true rfl) (fun r1 M2 hr1 => ?_)
  obtain ⟨er1, emr1⟩ := hr1
  rw [emr1]
  clear emr1 M2
  subst er1
  refine Go.aload_n dX1_canBe_4 rfl ?_
  refine Go.getR dX1_canBe_5 flX1_9 (shp hG rfl) rfl ?_
  refine Go.callSI [.int (iset (nI x))] dX1_canBe_8 lkX1_69 stX6_inStore cbX6_inStore (s_inStore (shp hG rfl)) rfl rfl (Nat.le_of_ble_eq_true rfl) (fun r3 M4 hr3 => ?_)
  obtain ⟨er3, emr3⟩ := hr3
  rw [emr3]
  clear emr3 M4
  subst er3
  refine Go.iconst (v := -1) dX1_canBe_11 (by decide) ?_
  refine Go.ixor dX1_canBe_12 ?_
  refine Go.iand dX1_canBe_13 ?_
  refine Go.if_ne 21 dX1_canBe_14 rfl (fun h14 => ?_) (fun h14 => ?_)
  · refine Go.iconst (v := 0) dX1_canBe_21 (by decide) ?_
    refine Go.iret dX1_canBe_22 rfl (by decide) ?_
    refine ⟨_, rfl, ?_, rfl⟩
    have h8 := (andnot (s := x / 20) (m := maskN (posN (M.1 2)) 8) (by have := okD_lt hx; omega)).trans (canN_mask (f := M.1 2) (okS_lt hx).1)
    rw [iset_nI (by have := okD_lt hx; omega)] at h14
    have h7 : canN (M.1 2) (x / 20) = false := by
      cases h6 : canN (M.1 2) (x / 20) with
      | false => rfl
      | true => exact absurd (h8.mpr h6) h14
    simp [bi, h7]
  · refine Go.iconst (v := 1) dX1_canBe_17 (by decide) ?_
    refine Go.goto 22 dX1_canBe_18 rfl ?_
    refine Go.iret dX1_canBe_22 rfl (by decide) ?_
    refine ⟨_, rfl, ?_, rfl⟩
    have h8 := (andnot (s := x / 20) (m := maskN (posN (M.1 2)) 8) (by have := okD_lt hx; omega)).trans (canN_mask (f := M.1 2) (okS_lt hx).1)
    rw [iset_nI (by have := okD_lt hx; omega)] at h14
    have h7 := h8.mp h14
    simp [bi, h7]
