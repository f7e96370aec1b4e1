def addM (M : Mm) (n : Nat) (k x dy : Int32) : Mm := upi (upi (upi (upi M 53 n k) 54 n x) 55 n dy) 49 4 (nI (n + 1))
theorem tkM_f2 {M : Mm} {k s i : Nat} (h : s.testBit i = false) : upi (tkM M k s i) k i ((tkM M k s i).1 k i - 0) = tkM M k s (i + 1) := by
  rw [← tkM_f h]
  unfold upi
  rw [Int32.sub_zero]
  have : upd ((tkM M k s i).1 k) i ((tkM M k s i).1 k i) = (tkM M k s i).1 k := by
    funext j
    unfold upd
    split
    · rename_i e; rw [e]
    · rfl
  rw [this, seti_self]
set_option maxRecDepth 20000 in
theorem m_addEntry {G : Gt} {d : Nat} {M : Mm} (hG : gS G = SHAPE) {n : Nat} (hn : M.1 49 4 = nI n) (h90 : n < 90) (k x dy : Int32) : ExV G (d) mX7_addEntry [.ref 49, .int k, .int x, .int dy] M (fun M' => M' = addM M n k x dy) := by
  refine Ex.of (by decide) (Nat.le_of_ble_eq_true rfl) ?_
  show Go G (d) mX7_addEntry 0 [some (.ref 49), some (.int k), some (.int x), some (.int dy)] [] M _
  refine Go.aload_n dX7_addEntry_0 rfl ?_
  refine Go.getR dX7_addEntry_1 flX7_19 (shp hG rfl) rfl ?_
  refine Go.aload_n dX7_addEntry_4 rfl ?_
  refine Go.getI dX7_addEntry_5 flX7_93 (shp hG rfl) rfl ?_
  refine Go.eqI (y := nI n) (hn) ?_
  refine Go.iload_n dX7_addEntry_8 rfl ?_
  refine Go.iast dX7_addEntry_9 (shp hG rfl) (vin (by omega) (by decide)) ?_
  refine Go.nmM (fun N1 eN1 => ?_)
  refine Go.aload_n dX7_addEntry_10 rfl ?_
  refine Go.getR dX7_addEntry_11 flX7_22 (shp hG rfl) rfl ?_
  refine Go.aload_n dX7_addEntry_14 rfl ?_
  refine Go.getI dX7_addEntry_15 flX7_93 (shp hG rfl) rfl ?_
  refine Go.eqI (y := nI n) (by rw [eN1, rd_ne (by decide)]; exact hn) ?_
  refine Go.iload_n dX7_addEntry_18 rfl ?_
  refine Go.iast dX7_addEntry_19 (shp hG rfl) (vin (by omega) (by decide)) ?_
  refine Go.nmM (fun N2 eN2 => ?_)
  refine Go.aload_n dX7_addEntry_20 rfl ?_
  refine Go.getR dX7_addEntry_21 flX7_25 (shp hG rfl) rfl ?_
  refine Go.aload_n dX7_addEntry_24 rfl ?_
  refine Go.getI dX7_addEntry_25 flX7_93 (shp hG rfl) rfl ?_
  refine Go.eqI (y := nI n) (by rw [eN2, rd_ne (by decide), eN1, rd_ne (by decide)]; exact hn) ?_
  refine Go.iload_n dX7_addEntry_28 rfl ?_
  refine Go.iast dX7_addEntry_29 (shp hG rfl) (vin (by omega) (by decide)) ?_
  refine Go.nmM (fun N3 eN3 => ?_)
  refine Go.aload_n dX7_addEntry_30 rfl ?_
  refine Go.dup dX7_addEntry_31 rfl ?_
  refine Go.getI dX7_addEntry_32 flX7_93 (shp hG rfl) rfl ?_
  refine Go.eqI (y := nI n) (by rw [eN3, rd_ne (by decide), eN2, rd_ne (by decide), eN1, rd_ne (by decide)]; exact hn) ?_
  refine Go.iconst (v := 1) dX7_addEntry_35 (by decide) ?_
  refine Go.iadd dX7_addEntry_36 ?_
  refine Go.eqI (y := nI (n + 1)) (nI_add _ _) ?_
  refine Go.putI dX7_addEntry_37 fpX7_93 (shp hG rfl) rfl rfl rfl ?_
  refine Go.nmM (fun N4 eN4 => ?_)
  refine Go.vret dX7_addEntry_40 rfl ?_
  refine ⟨rfl, ?_⟩
  rw [eN4, eN3, eN2, eN1, ncl (by omega)]
  rfl
set_option maxRecDepth 20000 in
theorem l_eats {G : Gt} {d : Nat} {N : Mm} (hG : gS G = SHAPE) {k dy : Int32} {x : Nat} (hx5 : x < 5120) : ∀ (n i : Nat), i + n = 8 → Go G (d + 1) mX7_eats 10 [some (.ref 49), some (.int k), some (.int (nI x)), some (.int dy), some (.int (nI i))] [] (tkM N 50 (x / 20) i) (fun v M' => v = none ∧ M' = tkM N 50 (x / 20) 8) := by
  intro n
  induction n with
  | zero =>
    intro i  hin
    refine Go.iload dX7_eats_10 rfl ?_
    refine Go.bipush (v := 8) dX7_eats_12 (by decide) ?_
    refine Go.icmp_ge 50 dX7_eats_14 rfl (fun _ => ?_) (fun h14 => absurd (nI_le (a := 8) (b := i) (by omega) (by omega)) h14)
    refine Go.vret dX7_eats_50 rfl ?_
    have e9 : i = 8 := by omega
    subst e9
    exact ⟨rfl, rfl⟩
  | succ n ih =>
    intro i  hin
    have hi : i < 8 := by omega
    refine Go.iload dX7_eats_10 rfl ?_
    refine Go.bipush (v := 8) dX7_eats_12 (by decide) ?_
    refine Go.icmp_ge 50 dX7_eats_14 rfl (fun h14 => absurd h14 (nI_ge (a := i) (b := 8) (by omega) (by omega))) (fun _ => ?_)
    refine Go.aload_n dX7_eats_17 rfl ?_
    refine Go.getR dX7_eats_18 flX7_7 (shp hG rfl) rfl ?_
    refine Go.iload dX7_eats_21 rfl ?_
    refine Go.dup2 dX7_eats_23 rfl rfl ?_
    refine Go.iald dX7_eats_24 (shp hG rfl) (vin (by omega) (by decide)) ?_
    refine Go.iload_n dX7_eats_25 rfl ?_
    refine Go.callSI [.int (((tkM N 50 (x / 20) i)).1 50 (Int32.toNatClampNeg (nI i))), .int (nI i), .ref 50] dX7_eats_26 lkX7_90 stX7_setOf cbX7_setOf (m_setOf (nI x)) rfl rfl (Nat.le_of_ble_eq_true rfl) (fun r1 M2 hr1 => ?_)
    obtain ⟨er1, emr1⟩ := hr1
    rw [emr1]
    clear emr1 M2
    subst er1
    refine Go.iload dX7_eats_29 rfl ?_
    refine Go.callSI [.int (((tkM N 50 (x / 20) i)).1 50 (Int32.toNatClampNeg (nI i))), .int (nI i), .ref 50] dX7_eats_31 lkX7_120 stX7_has cbX7_has (m_has (iset (nI x)) (nI i)) rfl rfl (Nat.le_of_ble_eq_true rfl) (fun r3 M4 hr3 => ?_)
    obtain ⟨er3, emr3⟩ := hr3
    rw [emr3]
    clear emr3 M4
    subst er3
    refine Go.eqI (y := bi ((x / 20).testBit i)) (by rw [iset_nI (by omega), hasI_nI (by omega) (by omega)]) ?_
    refine Go.if_eq 41 dX7_eats_34 rfl (fun h34 => ?_) (fun h34 => ?_)
    · refine Go.iconst (v := 0) dX7_eats_41 (by decide) ?_
      refine Go.isub dX7_eats_42 ?_
      refine Go.iast dX7_eats_43 (shp hG rfl) (vin (by omega) (by decide)) ?_
      refine Go.nmM (fun N5 eN5 => ?_)
      refine Go.iinc (v := nI (i + 1)) (ls' := [some (.ref 49), some (.int k), some (.int (nI x)), some (.int dy), some (.int (nI (i + 1)))]) dX7_eats_44 rfl (nI_1 _) rfl rfl ?_
      refine Go.goto 10 dX7_eats_47 rfl ?_
      rw [show N5 = tkM N 50 (x / 20) (i + 1) from by rw [eN5, ncl (by omega)]; exact tkM_f2 (bi_0.mp h34)]
      exact ih (i + 1) (by omega)
    · refine Go.iconst (v := 1) dX7_eats_37 (by decide) ?_
      refine Go.goto 42 dX7_eats_38 rfl ?_
      refine Go.isub dX7_eats_42 ?_
      refine Go.iast dX7_eats_43 (shp hG rfl) (vin (by omega) (by decide)) ?_
      refine Go.nmM (fun N6 eN6 => ?_)
      refine Go.iinc (v := nI (i + 1)) (ls' := [some (.ref 49), some (.int k), some (.int (nI x)), some (.int dy), some (.int (nI (i + 1)))]) dX7_eats_44 rfl (nI_1 _) rfl rfl ?_
      refine Go.goto 10 dX7_eats_47 rfl ?_
      rw [show N6 = tkM N 50 (x / 20) (i + 1) from by rw [eN6, ncl (by omega)]; exact tkM_t (bi_n0.mp h34)]
      exact ih (i + 1) (by omega)
set_option maxRecDepth 20000 in
theorem m_eats {G : Gt} {d : Nat} {M : Mm} (hG : gS G = SHAPE) {n : Nat} (hn : M.1 49 4 = nI n) (h90 : n < 90) (k : Int32) {x : Nat} (hx5 : x < 5120) (dy : Int32) : ExV G (d + 1) mX7_eats [.ref 49, .int k, .int (nI x), .int dy] M (fun M' => M' = tkM (addM M n k (nI x) dy) 50 (x / 20) 8) := by
  refine Ex.of (by decide) (Nat.le_of_ble_eq_true rfl) ?_
  show Go G (d + 1) mX7_eats 0 [some (.ref 49), some (.int k), some (.int (nI x)), some (.int dy), none] [] M _
  refine Go.aload_n dX7_eats_0 rfl ?_
  refine Go.iload_n dX7_eats_1 rfl ?_
  refine Go.iload_n dX7_eats_2 rfl ?_
  refine Go.iload_n dX7_eats_3 rfl ?_
  refine Go.callVV [] dX7_eats_4 lkX7_166 imX7_addEntry seX7_addEntry cbX7_addEntry (m_addEntry hG hn (by omega) k (nI x) dy) (shp hG rfl) rfl rfl rfl (Nat.le_of_ble_eq_true rfl) (fun M2 hr1 => ?_)
  refine Go.iconst (v := 0) dX7_eats_7 (by decide) ?_
  refine Go.istore (ls' := [some (.ref 49), some (.int k), some (.int (nI x)), some (.int dy), some (.int 0)]) dX7_eats_8 (Nat.le_of_ble_eq_true rfl) rfl rfl ?_
  have h9 := l_eats (d := d) (N := M2) (k := k) (dy := dy) hG hx5 8 0 (by omega)
  rw [tkM_0] at h9
  rw [← hr1]
  exact h9
/-- what meals that are only tried leave as it was in the reference -/
def MS (n0 : Nat) (M M' : Mm) : Prop := Same [49, 50, 53, 54, 55, 59] M M' ∧ (∀ j, j ≠ 4 → M'.1 49 j = M.1 49 j) ∧ (∀ e, e < n0 → M'.1 53 e = M.1 53 e ∧ M'.1 54 e = M.1 54 e ∧ M'.1 55 e = M.1 55 e) ∧ ∀ t, 8 ≤ t → M'.1 50 t = M.1 50 t
theorem MS.refl (n0 : Nat) (M : Mm) : MS n0 M M := ⟨Same.refl _ _, fun _ _ => rfl, fun _ _ => ⟨rfl, rfl, rfl⟩, fun _ _ => rfl⟩
theorem MS.trans {n0 : Nat} {M N L : Mm} (h1 : MS n0 M N) (h2 : MS n0 N L) : MS n0 M L := ⟨h1.1.trans h2.1, fun j hj => (h2.2.1 j hj).trans (h1.2.1 j hj), fun e he => ⟨((h2.2.2.1 e he).1).trans (h1.2.2.1 e he).1, ((h2.2.2.1 e he).2.1).trans (h1.2.2.1 e he).2.1, ((h2.2.2.1 e he).2.2).trans (h1.2.2.1 e he).2.2⟩, fun t ht => (h2.2.2.2 t ht).trans (h1.2.2.2 t ht)⟩
theorem MS.mono {n0 n1 : Nat} {M N : Mm} (h : MS n1 M N) (hn : n0 ≤ n1) : MS n0 M N := ⟨h.1, h.2.1, fun e he => h.2.2.1 e (by omega), h.2.2.2⟩
/-- the reference while meals are tried out -/
def Sst (M : Mm) (n : Nat) (f : Nat → Int32) (c : Nat → Nat) (lt lw ls : Nat → Int32) (ed : Nat) : Prop := (∃ K X, BkM M n K X ed) ∧ MdS M ∧ MarkIs M c ∧ M.1 50 = f ∧ M.1 51 = lt ∧ ml8 M = lw ∧ ml13 M = ls
theorem eat_MS (M : Mm) (n : Nat) (k dy : Int32) (x s : Nat) : MS n M (tkM (addM M n k (nI x) dy) 50 s 8) := by
  refine ⟨?_, fun j hj => ?_, fun e he => ⟨?_, ?_, ?_⟩, fun t ht => ?_⟩
  · exact (((Same.upi M 53 n _ (by decide)).trans (Same.upi _ 54 n _ (by decide))).trans ((Same.upi _ 55 n _ (by decide)).trans (Same.upi _ 49 4 _ (by decide)))).trans (Same.seti _ 50 _ (by decide))
  · simp [tkM, addM, upi, seti, upd, hj]
  · have : ¬ e = n := by omega
    simp [tkM, addM, upi, seti, upd, this]
  · have : ¬ e = n := by omega
    simp [tkM, addM, upi, seti, upd, this]
  · have : ¬ e = n := by omega
    simp [tkM, addM, upi, seti, upd, this]
  · have : ¬ t < 8 := by omega
    simp [tkM, addM, upi, seti, upd, takeF, this]
theorem eat_Bk {M : Mm} {n : Nat} {K X : Nat → Nat} {ed k x s : Nat} {dy : Int32} (h : BkM M n K X ed) (hn : n < 90) (hk : k < 6) (hx : okD x = true) : BkM (tkM (addM M n (nI k) (nI x) dy) 50 s 8) (n + 1) (fun e => if e = n then k else K e) (fun e => if e = n then x else X e) ed := by
  obtain ⟨a, b, c, e1, e2, f⟩ := h
  refine ⟨by omega, b, by simp [tkM, addM, upi, seti, upd], by simp [tkM, addM, upi, seti]; exact e1, by simp [tkM, addM, upi, seti]; exact e2, fun e he => ?_⟩
  by_cases q : e = n
  · subst q
    simp [tkM, addM, upi, seti, upd, hk, hx]
  · have := f e (by omega)
    simp [tkM, addM, upi, seti, upd, q, this]
def GoesM (M M' : Mm) (n : Nat) (f : Nat → Int32) (c : Nat → Nat) (lt lw ls : Nat → Int32) (ed k : Nat) (r : Int32) : Prop := ((r = -1 ∧ bst (okG f c) (likD lt lw ls) = none ∧ M' = M) ∨ ∃ x, r = nI x ∧ x < 5120 ∧ bst (okG f c) (likD lt lw ls) = some x ∧ Sst M' (n + 1) (takeF f (x / 20) 8) (addC c k x ed) lt lw ls ed ∧ MS n M M')
set_option maxRecDepth 20000 in
theorem m_goesOn {G : Gt} {d : Nat} {M : Mm} (hG : gS G = SHAPE) {n : Nat} {f : Nat → Int32} {c : Nat → Nat} {lt lw ls : Nat → Int32} {ed : Nat} (hS0 : Sst M n f c lt lw ls ed) {k : Nat} (hk : k < 6) (h90 : n < 90) : ExI G (d + 3) mX7_goesOn [.ref 49, .int (nI k)] M (fun r M' => GoesM M M' n f c lt lw ls ed k r) := by
  refine Ex.of (by decide) (Nat.le_of_ble_eq_true rfl) ?_
  obtain ⟨⟨K, X, hB⟩, hS, hM, rfl, rfl, rfl, rfl⟩ := hS0
  show Go G (d + 3) mX7_goesOn 0 [some (.ref 49), some (.int (nI k)), none] [] M _
  have j5 : ∀ r : Int32, PlaceB (M.1 50) c (likD (M.1 51) (ml8 M) (ml13 M)) r → Go G (d + 3) mX7_goesOn 5 [some (.ref 49), some (.int (nI k)), some (.int r)] [] M (fun v M' => ∃ x, v = some (.int x) ∧ GoesM M M' n (M.1 50) c (M.1 51) (ml8 M) (ml13 M) ed k x) := by
    intro r hr
    rcases hr with ⟨e, hb⟩ | ⟨p, hp, e, hb⟩
    · rw [e]
      refine Go.iload_n dX7_goesOn_5 rfl ?_
      refine Go.if_ge 11 dX7_goesOn_6 rfl (fun h6 => absurd h6 (by decide)) (fun _ => ?_)
      refine Go.iconst (v := -1) dX7_goesOn_9 (by decide) ?_
      refine Go.iret dX7_goesOn_10 rfl rfl ?_
      exact ⟨_, rfl, Or.inl ⟨rfl, hb, rfl⟩⟩
    · rw [e]
      have hd5 := dishN_lt hp
      have hB2 := eat_Bk (s := dishN p / 20) (dy := 0) hB h90 hk (dishN_ok hp)
      refine Go.iload_n dX7_goesOn_5 rfl ?_
      refine Go.if_ge 11 dX7_goesOn_6 rfl (fun _ => ?_) (fun h6 => absurd (nI_pos' (by omega)) h6)
      refine Go.aload_n dX7_goesOn_11 rfl ?_
      refine Go.iload_n dX7_goesOn_12 rfl ?_
      refine Go.aload_n dX7_goesOn_13 rfl ?_
      refine Go.iload_n dX7_goesOn_14 rfl ?_
      refine Go.callVI [.int (nI k), .ref 49] dX7_goesOn_15 lkX7_150 imX7_dishAt seX7_dishAt cbX7_dishAt (m_dishAt hG hS (p := p) (by omega)) (shp hG rfl) rfl rfl rfl (Nat.le_of_ble_eq_true rfl) (fun r1 M2 hr1 => ?_)
      obtain ⟨er1, emr1⟩ := hr1
      rw [emr1]
      clear emr1 M2
      subst er1
      refine Go.iconst (v := 0) dX7_goesOn_18 (by decide) ?_
      refine Go.callVV [] dX7_goesOn_19 lkX7_188 imX7_eats seX7_eats cbX7_eats (m_eats hG hB.2.2.1 h90 (nI k) (x := dishN p) hd5 0) (shp hG rfl) rfl rfl rfl (Nat.le_of_ble_eq_true rfl) (fun M4 hr3 => ?_)
      refine Go.aload_n dX7_goesOn_22 rfl ?_
      refine Go.aload_n dX7_goesOn_23 rfl ?_
      refine Go.getI dX7_goesOn_24 flX7_93 (shp hG rfl) rfl ?_
      refine Go.eqI (y := nI (n + 1)) (by rw [hr3]; exact hB2.2.2.1) ?_
      refine Go.iconst (v := 1) dX7_goesOn_27 (by decide) ?_
      refine Go.isub dX7_goesOn_28 ?_
      refine Go.eqI (y := nI n) (nI_pred n) ?_
      refine Go.callVV [] dX7_goesOn_29 lkX7_146 imX7_marksBy seX7_marksBy cbX7_marksBy (m_marksBy hG (K := fun e => if e = n then k else K e) (X := fun e => if e = n then dishN p else X e) (by rw [hr3]; exact hB2) (by rw [hr3]; exact hS.same rfl rfl) (c := c) (e := n) (by omega) (by rw [hr3]; exact hM.same rfl)) (shp hG rfl) rfl rfl rfl (Nat.le_of_ble_eq_true rfl) (fun M6 hr5 => ?_)
      refine Go.aload_n dX7_goesOn_32 rfl ?_
      refine Go.iload_n dX7_goesOn_33 rfl ?_
      refine Go.callVI [] dX7_goesOn_34 lkX7_150 imX7_dishAt seX7_dishAt cbX7_dishAt (m_dishAt hG (hS.same (by rw [hr5.2.1 57 (by decide), hr3]; rfl) (by rw [hr5.2.1 58 (by decide), hr3]; rfl)) (p := p) (by omega)) (shp hG rfl) rfl rfl rfl (Nat.le_of_ble_eq_true rfl) (fun r7 M8 hr7 => ?_)
      obtain ⟨er7, emr7⟩ := hr7
      rw [emr7]
      clear emr7 M8
      subst er7
      refine Go.iret dX7_goesOn_37 rfl rfl ?_
      have hk2 := hr5
      rw [hr3] at hk2
      exact ⟨_, rfl, Or.inr ⟨dishN p, rfl, hd5, hb, ⟨⟨_, _, hB2.same (by rw [hk2.2.1 49 (by decide)]) (hk2.2.1 52 (by decide)) (hk2.2.1 53 (by decide)) (hk2.2.1 54 (by decide))⟩, hS.same (hk2.2.1 57 (by decide)) (hk2.2.1 58 (by decide)), by simpa using hk2.1, by rw [hk2.2.1 50 (by decide)]; simp [tkM, addM, upi, seti], by rw [hk2.2.1 51 (by decide)]; rfl, by unfold ml8; rw [hk2.2.1 51 (by decide)]; rfl, by unfold ml13; rw [hk2.2.1 51 (by decide)]; rfl⟩, (eat_MS M n (nI k) 0 (dishN p) _).trans ⟨hk2.2.mono (by decide), fun j hj => by rw [hk2.2.1 49 (by decide)], fun e he => ⟨by rw [hk2.2.1 53 (by decide)], by rw [hk2.2.1 54 (by decide)], by rw [hk2.2.1 55 (by decide)]⟩, fun t ht => by rw [hk2.2.1 50 (by decide)]⟩⟩⟩
  refine Go.aload_n dX7_goesOn_0 rfl ?_
  refine Go.callVI [] dX7_goesOn_1 lkX7_184 imX7_bestPlace seX7_bestPlace cbX7_bestPlace (m_bestPlace hG hS hM) (shp hG rfl) rfl rfl rfl (Nat.le_of_ble_eq_true rfl) (fun r1 M2 hr1 => ?_)
  obtain ⟨hr1, emr1⟩ := hr1
  rw [emr1]
  clear emr1 M2
  refine Go.istore_n (ls' := [some (.ref 49), some (.int (nI k)), some (.int r1)]) dX7_goesOn_4 (Nat.le_of_ble_eq_true rfl) rfl rfl ?_
  exact j5 _ hr1
