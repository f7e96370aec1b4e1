theorem le_tE {L : Nat} {b : Nat → Int32} {q : Nat} (h : q ≤ L) : q ≤ tE L b q ∧ tE L b q ≤ L := by
  have a := tE_spec (b := b) h
  have c := tS_spec (b := b) h
  omega
def GdR (L : Nat) (p : Nat) (r : Bool × Nat × Bu) : Prop := r.1 = true → p ≤ r.2.1 ∧ r.2.1 ≤ L ∧ BuOk r.2.2
theorem GdR.no (L p q : Nat) (u : Bu) : GdR L p (false, q, u) := fun h => by cases h
theorem GdR.yes {L p q : Nat} {u : Bu} (h1 : p ≤ q) (h2 : q ≤ L) (h3 : BuOk u) : GdR L p (true, q, u) := fun _ => ⟨h1, h2, h3⟩
theorem GdR.mono {L p q : Nat} {r : Bool × Nat × Bu} (h : GdR L q r) (hp : p ≤ q) : GdR L p r := fun z => by
  have := h z
  exact ⟨by omega, this.2⟩
theorem nI_tI {v m : Nat} (h : v ≤ m) (hm : m ≤ 10000) : 0 ≤ (nI v).toInt ∧ (nI v).toInt ≤ m := by
  rw [nI_toInt (by omega)]
  omega
theorem g_way {L : Nat} {b : Nat → Int32} {k : Nat} {u : Bu} {set p : Nat} (hp : p ≤ L) (hu : BuOk u) (hn : uN u < 30) (hk : k < 6) (hd : ∀ way sau, way ≤ 4 → sau ≤ 3 → okD (20 * set + 4 * way + sau) = true) : GdR L p (pWay L b k u set p) := by
  have h1 := le_tE (b := b) hp
  have h2 := le_tE (b := b) h1.2
  have h3 := le_tE (b := b) h2.2
  have h4 := le_tE (b := b) h3.2
  unfold pWay
  split
  · split
    · rename_i q1
      split
      · split
        · rename_i q2
          exact GdR.yes (by omega) h4.2 (entU_ok hu hn hk (hd _ _ (nOk_le q1).2 (nOk_le q2).2))
        · exact GdR.no _ _ _ _
      · exact GdR.no _ _ _ _
    · exact GdR.no _ _ _ _
  · exact GdR.no _ _ _ _
theorem g_entry {L : Nat} {b : Nat → Int32} {k : Nat} {u : Bu} {p : Nat} (hp : p ≤ L) (hu : BuOk u) (hk : k < 6) : GdR L (tE L b p) (pEntry L b k u p) := by
  have h1 := le_tE (b := b) hp
  have ht := thC_ok L b 3 0 (tE L b p) (by decide) h1.2
  unfold pEntry
  split
  · exact GdR.no _ _ _ _
  · rename_i h30
    split
    · exact GdR.no _ _ _ _
    · rename_i h0
      exact (g_way ht.2.2.1 hu (by have := hu.1; omega) hk (fun w s hw hs => th_dish h1.2 h0 hw hs)).mono ht.2.1
theorem g_store {L : Nat} {b : Nat → Int32} {u : Bu} {p : Nat} (hp : p ≤ L) (hu : BuOk u) : GdR L p (pStore L b u p) := by
  have h1 := le_tE (b := b) hp
  have h2 := le_tE (b := b) h1.2
  unfold pStore
  split
  · split
    · exact GdR.yes (by omega) h2.2 hu
    · exact GdR.no _ _ _ _
  · exact GdR.no _ _ _ _
theorem lkv_9 : ∀ v, v < 10 → ∀ s : Bool, -9 ≤ (lkv s v).toInt ∧ (lkv s v).toInt ≤ 9 := by decide +kernel
theorem g_lik {L : Nat} {b : Nat → Int32} {s : Bool} {u : Bu} {p : Nat} (hp : p ≤ L) (hu : BuOk u) : GdR L p (pLik L b s u p) := by
  have h1 := le_tE (b := b) hp
  have h2 := le_tE (b := b) h1.2
  have h3 := le_tE (b := b) h2.2
  unfold pLik
  split
  · exact GdR.no _ _ _ _
  · split
    · split
      · rename_i q2
        exact GdR.yes (by omega) h3.2 (likU_ok hu (lkv_9 _ (by have := (nOk_le q2).2; omega) s))
      · exact GdR.no _ _ _ _
    · exact GdR.no _ _ _ _
theorem g_on {L : Nat} {b : Nat → Int32} {u : Bu} {w p : Nat} (hw : w < 2) (hp : p ≤ L) (hu : BuOk u) : GdR L p (pOn L b u w p) := by
  have h1 := le_tE (b := b) hp
  unfold pOn
  split
  · exact GdR.yes (by omega) h1.2 (edU_ok hu hw)
  · split
    · exact GdR.yes (by omega) h1.2 (edU_ok hu hw)
    · exact GdR.no _ _ _ _
theorem g_ed {L : Nat} {b : Nat → Int32} {u : Bu} {p : Nat} (hp : p ≤ L) (hu : BuOk u) : GdR L p (pEd L b u p) := by
  have h1 := le_tE (b := b) hp
  unfold pEd
  split
  · exact (g_on (by decide) h1.2 hu).mono h1.1
  · split
    · exact (g_on (by decide) h1.2 hu).mono h1.1
    · exact GdR.no _ _ _ _
theorem g_day {L : Nat} {b : Nat → Int32} {u : Bu} {p : Nat} (hp : p ≤ L) (hu : BuOk u) : GdR L p (pDay L b u p) := by
  have h1 := le_tE (b := b) hp
  unfold pDay
  split
  · rename_i q
    obtain ⟨a1, a2, a3, a4, a5, a6, a7, a8⟩ := hu
    have hv := nI_tI (nOk_le q).2 (by decide)
    exact GdR.yes (by omega) h1.2 ⟨a1, a2, a3, a4, a5, a6, hv.1, hv.2⟩
  · exact GdR.no _ _ _ _
theorem isWP_t {L : Nat} {b : Nat → Int32} {p k : Nat} (h : isWP L b p k = true) : tT L b p = 1 := by
  unfold isWP at h
  rw [Bool.and_eq_true] at h
  exact of_decide_eq_true h.1
theorem g_item {L : Nat} {b : Nat → Int32} {u : Bu} {p : Nat} (hp : p ≤ L) (hu : BuOk u) : GdR L (p + 1) (pItem L b u p) := by
  have h1 := le_tE (b := b) hp
  have hs := tS_spec (b := b) hp
  have he := tE_spec (b := b) hp
  have key : ∀ k, isWP L b p k = true → p + 1 ≤ tE L b p := fun k hk => by
    have := he.2.2.1 (by rw [isWP_t hk]; decide)
    omega
  unfold pItem
  split
  · rename_i k hk
    have a := fstF_some hk
    exact (g_entry hp hu (by omega)).mono (key k a.2.2.1)
  · unfold pRest
    split
    · rename_i q
      exact (g_store h1.2 hu).mono (key _ q)
    · split
      · rename_i q
        exact (g_lik h1.2 hu).mono (key _ q)
      · split
        · rename_i q
          exact (g_lik h1.2 hu).mono (key _ q)
        · split
          · rename_i q
            exact (g_ed h1.2 hu).mono (key _ q)
          · split
            · rename_i q
              exact (g_day h1.2 hu).mono (key _ q)
            · exact GdR.no _ _ _ _
def bkN (L : Nat) (b : Nat → Int32) : Nat → Nat → Nat → Bu → Int32 × Option Bu
  | 0, _, _, _ => (-1, none)
  | n + 1, it, e, u => if (pItem L b u e).1 = true then (if tT L b (pItem L b u e).2.1 = 0 then (nI it, some (pItem L b u e).2.2) else if tT L b (pItem L b u e).2.1 = 3 then bkN L b n (it + 1) (tE L b (pItem L b u e).2.1) (pItem L b u e).2.2 else (-1 - nI (tS L b (pItem L b u e).2.1), none)) else (-1 - nI (tS L b (pItem L b u e).2.1), none)
def A_book (g : Sg) : Int32 × Sg := match bkN (gTn g) (gTb g) 120 1 0 (gU g) with
  | (a, some u) => (a, setT (setU g u) 0 (gTb g))
  | (a, none) => (a, setT g 0 (gTb g))
theorem neg_s {s : Nat} (h : s ≤ 120) : (-1 : Int32) - nI s < 0 := by
  rw [i_lt]
  have e1 : ((-1 : Int32)).toInt = -1 := by decide
  have e0 : ((0 : Int32)).toInt = 0 := by decide
  rw [subInt2 (by omega) (by rw [nI_toInt (by omega)]; omega), nI_toInt (by omega)]
  omega
set_option maxRecDepth 20000 in
theorem l_tell {G : Gt} {d : Nat} {M0 : Mm} (hG : gS G = SHAPE) {L : Nat} {b : Nat → Int32} {T : Int32 × Option Bu} : ∀ (n i : Nat) (N : Mm) (e : Nat) (u : Bu), i + n = 120 → TpC N L b → N.1 37 4 = nI e → e ≤ L → 2 * i ≤ e → BuC N 17 u → BuOk u → Same [17, 18, 19, 20, 21, 22, 23, 24, 37] M0 N → T = bkN L b n (i + 1) e u → Go G (d + 8) mX5_tellTo 7 [some (.ref 37), some (.ref 17), some (.int (nI (i + 1)))] [] N (fun v M' => ∃ r, v = some (.int r) ∧ r = T.1 ∧ Same [17, 18, 19, 20, 21, 22, 23, 24, 37] M0 M' ∧ ((0 ≤ r ∧ ∃ u', T.2 = some u' ∧ BuC M' 17 u' ∧ BuOk u') ∨ (r < 0 ∧ T.2 = none))) := by
  intro n
  induction n with
  | zero =>
    intro i N e u hin hN he heL h2i hB hu hSm hT
    exfalso
    have := hN.2.1
    omega
  | succ n ih =>
    intro i N e u hin hN he heL h2i hB hu hSm hT
    have hi : i < 120 := by omega
    refine Go.iload_n dX5_tellTo_7 rfl ?_
    refine Go.bipush (v := 120) dX5_tellTo_8 (by decide) ?_
    refine Go.icmp_gt 54 dX5_tellTo_10 rfl (fun h10 => absurd h10 (i_le_n (nI_le (a := i + 1) (b := 120) (by omega) (by omega)))) (fun _ => ?_)
    refine Go.aload_n dX5_tellTo_13 rfl ?_
    refine Go.callVV [] dX5_tellTo_14 lkX5_31 imX5_advance seX5_advance cbX5_advance (s_adv hG hN heL he) (shp hG rfl) rfl rfl rfl (Nat.le_of_ble_eq_true rfl) (fun M2 hr1 => ?_)
    obtain ⟨hT2, hK2, hs2⟩ := hr1
    refine Go.aload_n dX5_tellTo_17 rfl ?_
    refine Go.aload_n dX5_tellTo_18 rfl ?_
    refine Go.callVI [] dX5_tellTo_19 lkX5_34 imX5_takeItem seX5_takeItem cbX5_takeItem (a_item hG (u := u) ⟨⟨hT2, hK2, heL⟩, hB.s37 hs2⟩ hu) (shp hG rfl) rfl rfl rfl (Nat.le_of_ble_eq_true rfl) (fun r3 M4 hr3 => ?_)
    obtain ⟨er9, hA9, hb9, hs9⟩ := hr3
    rw [er9]
    have hg9 := g_item (b := b) heL hu
    obtain ⟨ok, qq, u2, hPP⟩ : ∃ ok qq u2, pItem L b u e = (ok, qq, u2) := ⟨_, _, _, rfl⟩
    rw [hPP] at hA9 hb9 hg9 ⊢
    simp only [] at hA9 hb9
    have hq5 : tT L b qq ≤ 5 := typ_le L b (tS L b qq)
    have hqs := tS_spec (b := b) hA9.2.2
    have hL9 := hN.2.1
    have hT9 := hT
    rw [bkN, hPP] at hT9
    refine Go.if_ne 28 dX5_tellTo_22 rfl (fun h22 => ?_) (fun h22 => ?_)
    · refine Go.aload_n dX5_tellTo_28 rfl ?_
      refine Go.getI dX5_tellTo_29 flX5_19 (shp hG rfl) rfl ?_
      refine Go.eqI (y := nI (tT L b qq)) (hA9.2.1.1) ?_
      refine Go.if_ne 37 dX5_tellTo_32 rfl (fun h32 => ?_) (fun h32 => ?_)
      · have n32 : ¬ (tT L b qq) = 0 := fun q => h32 ((nI_inj (a := (tT L b qq)) (b := 0) (by omega) (by omega)).mpr q)
        refine Go.aload_n dX5_tellTo_37 rfl ?_
        refine Go.getI dX5_tellTo_38 flX5_19 (shp hG rfl) rfl ?_
        refine Go.eqI (y := nI (tT L b qq)) (hA9.2.1.1) ?_
        refine Go.iconst (v := 3) dX5_tellTo_41 (by decide) ?_
        refine Go.icmp_eq 48 dX5_tellTo_42 rfl (fun h42 => ?_) (fun h42 => ?_)
        · have n42 : (tT L b qq) = 3 := (nI_inj (a := (tT L b qq)) (b := 3) (by omega) (by omega)).mp h42
          refine Go.iinc (v := nI (i + 1 + 1)) (ls' := [some (.ref 37), some (.ref 17), some (.int (nI (i + 1 + 1)))]) dX5_tellTo_48 rfl (nI_1 _) rfl rfl ?_
          refine Go.goto 7 dX5_tellTo_51 rfl ?_
          have hge : e + 1 ≤ qq ∧ qq ≤ L ∧ BuOk u2 := hg9 (bi_n0.mp h22)
          have he9 := (tE_spec (b := b) hA9.2.2).2.2.1 (by rw [n42]; decide)
          have hE9 := (tE_spec (b := b) hA9.2.2).2.1
          exact ih (i + 1) M4 (tE L b qq) u2 (by omega) hA9.1 hA9.2.1.2.2.1 hE9 (by omega) (hb9 (bi_n0.mp h22)) hge.2.2 ((hSm.trans (sm37 hs2)).trans hs9) (by rw [hT9]; exact (if_pos (bi_n0.mp h22)).trans ((if_neg n32).trans (if_pos n42)))
        · have n42 : ¬ (tT L b qq) = 3 := fun q => h42 ((nI_inj (a := (tT L b qq)) (b := 3) (by omega) (by omega)).mpr q)
          refine Go.goto 54 dX5_tellTo_45 rfl ?_
          refine Go.iconst (v := -1) dX5_tellTo_54 (by decide) ?_
          refine Go.aload_n dX5_tellTo_55 rfl ?_
          refine Go.getI dX5_tellTo_56 flX5_22 (shp hG rfl) rfl ?_
          refine Go.eqI (y := nI (tS L b qq)) (hA9.2.1.2.1) ?_
          refine Go.isub dX5_tellTo_59 ?_
          refine Go.iret dX5_tellTo_60 rfl rfl ?_
          have e9 : T = (-1 - nI (tS L b qq), none) := by rw [hT9]; exact (if_pos (bi_n0.mp h22)).trans ((if_neg n32).trans (if_neg n42))
          rw [e9]
          exact ⟨_, rfl, rfl, ((hSm.trans (sm37 hs2)).trans hs9), Or.inr ⟨neg_s (by omega), rfl⟩⟩
      · have n32 : (tT L b qq) = 0 := (nI_inj (a := (tT L b qq)) (b := 0) (by omega) (by omega)).mp h32
        refine Go.iload_n dX5_tellTo_35 rfl ?_
        refine Go.iret dX5_tellTo_36 rfl rfl ?_
        have e9 : T = (nI (i + 1), some u2) := by rw [hT9]; exact (if_pos (bi_n0.mp h22)).trans (if_pos n32)
        rw [e9]
        exact ⟨_, rfl, rfl, ((hSm.trans (sm37 hs2)).trans hs9), Or.inl ⟨nI_pos' (by omega), u2, rfl, hb9 (bi_n0.mp h22), (hg9 (bi_n0.mp h22)).2.2⟩⟩
    · refine Go.goto 54 dX5_tellTo_25 rfl ?_
      refine Go.iconst (v := -1) dX5_tellTo_54 (by decide) ?_
      refine Go.aload_n dX5_tellTo_55 rfl ?_
      refine Go.getI dX5_tellTo_56 flX5_22 (shp hG rfl) rfl ?_
      refine Go.eqI (y := nI (tS L b qq)) (hA9.2.1.2.1) ?_
      refine Go.isub dX5_tellTo_59 ?_
      refine Go.iret dX5_tellTo_60 rfl rfl ?_
      have e9 : T = (-1 - nI (tS L b qq), none) := by rw [hT9]; exact if_neg (by rw [bi_0.mp h22]; decide)
      rw [e9]
      exact ⟨_, rfl, rfl, ((hSm.trans (sm37 hs2)).trans hs9), Or.inr ⟨neg_s (by omega), rfl⟩⟩
set_option maxRecDepth 20000 in
theorem a_tell {G : Gt} {d : Nat} {M : Mm} (hG : gS G = SHAPE) {L : Nat} {b : Nat → Int32} (hT : TpC M L b) {u : Bu} (hB : BuC M 17 u) (hu : BuOk u) : ExI G (d + 8) mX5_tellTo [.ref 37, .ref 17] M (fun r M' => r = (bkN L b 120 1 0 u).1 ∧ Same [17, 18, 19, 20, 21, 22, 23, 24, 37] M M' ∧ ((0 ≤ r ∧ ∃ u', (bkN L b 120 1 0 u).2 = some u' ∧ BuC M' 17 u' ∧ BuOk u') ∨ (r < 0 ∧ (bkN L b 120 1 0 u).2 = none))) := by
  refine Ex.of (by decide) (Nat.le_of_ble_eq_true rfl) ?_
  show Go G (d + 8) mX5_tellTo 0 [some (.ref 37), some (.ref 17), none] [] M _
  refine Go.aload_n dX5_tellTo_0 rfl ?_
  refine Go.iconst (v := 0) dX5_tellTo_1 (by decide) ?_
  refine Go.putI dX5_tellTo_2 fpX5_25 (shp hG rfl) rfl rfl rfl ?_
  refine Go.nmM (fun N1 eN1 => ?_)
  refine Go.iconst (v := 1) dX5_tellTo_5 (by decide) ?_
  refine Go.istore_n (ls' := [some (.ref 37), some (.ref 17), some (.int 1)]) dX5_tellTo_6 (Nat.le_of_ble_eq_true rfl) rfl rfl ?_
  have h37 : Same [17, 18, 19, 20, 21, 22, 23, 24, 37] M N1 := by rw [eN1]; exact Same.upi _ 37 _ _ (by decide)
  refine Go.weak (fun v M9 ⟨r9, a9, b9, c9, d9⟩ => ⟨r9, a9, b9, h37.trans c9, d9⟩) (l_tell hG (L := L) (b := b) 120 0 N1 0 u (by omega) (by rw [eN1]; exact hT.up (by decide)) (by rw [eN1, rd_eq]; simp [upd]; rfl) (by omega) (by omega) (by rw [eN1]; exact hB.s37 (Same.upi _ 37 _ _ (by decide))) hu (Same.refl _ _) rfl)
theorem comp_bk {M M' : Mm} {g : Sg} {u : Bu} (h : CompIs M g) (hs : Same [1, 2, 3, 4, 5, 6, 7, 8, 17, 18, 19, 20, 21, 22, 23, 24, 37] M M') (hu : BuC M' 1 u) (h0 : M'.1 37 0 = 0) : CompIs M' (setT (setU g u) 0 (gTb g)) ∧ MSame M M' := by
  have r : ∀ a, a = 0 ∨ (9 ≤ a ∧ a ≤ 16) ∨ (25 ≤ a ∧ a ≤ 36) ∨ 38 ≤ a → M'.1 a = M.1 a := fun a ha => hs.1 a (by simp; omega)
  obtain ⟨k1, k2, k3, k4, k5, k6, k7, k8⟩ := h
  refine ⟨⟨hu, by rw [r 0 (by decide)]; exact k2, fun k => (k3 k).same (fun j hj => r _ (by omega)), h0, fun i hi => by have : i < 0 := hi; omega, fun s hs4 => ?_, fun j hj => by rw [r 48 (by decide)]; exact k7 j hj, fun s hs4 => by rw [r 33 (by decide)]; exact k8 s hs4⟩, hs.ms (by decide)⟩
  rw [r (40 + s) (by omega), hs.2]
  exact k6 s hs4
theorem setT_setU_self (g : Sg) (b : Nat → Int32) : setT (setU g (gU g)) 0 b = setT g 0 b := rfl
set_option maxRecDepth 20000 in
theorem c_book {G : Gt} {d : Nat} {M : Mm} (hG : gS G = SHAPE) {g : Sg} (hC : CompIs M g) (hg : SgOk g)  : ExI G (d + 9) mX6_book [.ref 0] M (fun r M' => r = (A_book g).1 ∧ CompIs M' (A_book g).2 ∧ MSame M M') := by
  refine Ex.of (by decide) (Nat.le_of_ble_eq_true rfl) ?_
  show Go G (d + 9) mX6_book 0 [some (.ref 0), none] [] M _
  refine Go.aload_n dX6_book_0 rfl ?_
  refine Go.getR dX6_book_1 flX6_19 (shp hG rfl) rfl ?_
  refine Go.aload_n dX6_book_4 rfl ?_
  refine Go.getR dX6_book_5 flX6_12 (shp hG rfl) rfl ?_
  refine Go.callVV [] dX6_book_8 lkX6_241 imX1_become seX1_become cbX1_become (s_become17_1 hG (u := gU g) hC.1 hg.1.1) (shp hG rfl) rfl rfl rfl (Nat.le_of_ble_eq_true rfl) (fun M2 hr1 => ?_)
  obtain ⟨hb17, hs17⟩ := hr1
  have htp : TpC M2 (gTn g) (gTb g) := ⟨by rw [hs17.1 37 (by decide)]; exact hC.2.2.2.1, hg.2.2.1, fun i hi => by rw [hs17.1 38 (by decide)]; exact hC.2.2.2.2.1 i hi⟩
  refine Go.aload_n dX6_book_11 rfl ?_
  refine Go.getR dX6_book_12 flX6_43 (shp hG rfl) rfl ?_
  refine Go.aload_n dX6_book_15 rfl ?_
  refine Go.getR dX6_book_16 flX6_19 (shp hG rfl) rfl ?_
  refine Go.callVI [] dX6_book_19 lkX6_244 imX5_tellTo seX5_tellTo cbX5_tellTo (a_tell hG (L := gTn g) (b := gTb g) (u := gU g) htp hb17 hg.1) (shp hG rfl) rfl rfl rfl (Nat.le_of_ble_eq_true rfl) (fun r3 M4 hr3 => ?_)
  obtain ⟨er9, hsT, hor⟩ := hr3
  refine Go.istore_n (ls' := [some (.ref 0), some (.int r3)]) dX6_book_22 (Nat.le_of_ble_eq_true rfl) rfl rfl ?_
  refine Go.aload_n dX6_book_23 rfl ?_
  refine Go.getR dX6_book_24 flX6_43 (shp hG rfl) rfl ?_
  refine Go.iconst (v := 0) dX6_book_27 (by decide) ?_
  refine Go.putI dX6_book_28 fpX6_234 (shp hG rfl) rfl rfl rfl ?_
  refine Go.nmM (fun N5 eN5 => ?_)
  have hsA : Same [1, 2, 3, 4, 5, 6, 7, 8, 17, 18, 19, 20, 21, 22, 23, 24, 37] M N5 := ((hs17.mono (by decide)).trans (hsT.mono (by decide))).trans (by rw [eN5]; exact Same.upi _ 37 _ _ (by decide))
  have h370 : N5.1 37 0 = 0 := by rw [eN5, rd_eq]; simp [upd]
  rcases hor with ⟨hr0, u9, hT9, hb9, ho9⟩ | ⟨hr0, hT9⟩
  · have hb1 : BuC N5 17 u9 := by rw [eN5]; exact hb9.s37 (Same.upi _ 37 _ _ (by decide))
    refine Go.iload_n dX6_book_31 rfl ?_
    refine Go.if_lt 46 dX6_book_32 rfl (fun h32 => absurd h32 (i_le_n hr0)) (fun _ => ?_)
    refine Go.aload_n dX6_book_35 rfl ?_
    refine Go.getR dX6_book_36 flX6_12 (shp hG rfl) rfl ?_
    refine Go.aload_n dX6_book_39 rfl ?_
    refine Go.getR dX6_book_40 flX6_19 (shp hG rfl) rfl ?_
    refine Go.callVV [] dX6_book_43 lkX6_241 imX1_become seX1_become cbX1_become (s_become1_17 hG (u := u9) hb1 ho9.1) (shp hG rfl) rfl rfl rfl (Nat.le_of_ble_eq_true rfl) (fun M7 hr6 => ?_)
    obtain ⟨hbf, hsf⟩ := hr6
    refine Go.iload_n dX6_book_46 rfl ?_
    refine Go.iret dX6_book_47 rfl rfl ?_
    have hA0 : A_book g = ((bkN (gTn g) (gTb g) 120 1 0 (gU g)).1, setT (setU g u9) 0 (gTb g)) := by
      unfold A_book
      rcases hz : bkN (gTn g) (gTb g) 120 1 0 (gU g) with ⟨a, o⟩
      rw [hz] at hT9
      cases hT9
      rfl
    rw [hA0]
    exact ⟨_, rfl, er9, comp_bk hC (hsA.trans (hsf.mono (by decide))) hbf (by rw [hsf.1 37 (by decide)]; exact h370)⟩
  · skip
    refine Go.iload_n dX6_book_31 rfl ?_
    refine Go.if_lt 46 dX6_book_32 rfl (fun _ => ?_) (fun h32 => absurd (hr0) h32)
    refine Go.iload_n dX6_book_46 rfl ?_
    refine Go.iret dX6_book_47 rfl rfl ?_
    have hA0 : A_book g = ((bkN (gTn g) (gTb g) 120 1 0 (gU g)).1, setT (setU g (gU g)) 0 (gTb g)) := by
      unfold A_book
      rcases hz : bkN (gTn g) (gTb g) 120 1 0 (gU g) with ⟨a, o⟩
      rw [hz] at hT9
      cases hT9
      rfl
    rw [hA0]
    have hsB : Same [17, 18, 19, 20, 21, 22, 23, 24, 37] M N5 := ((hs17.mono (by decide)).trans (hsT.mono (by decide))).trans (by rw [eN5]; exact Same.upi _ 37 _ _ (by decide))
    exact ⟨_, rfl, er9, comp_bk hC hsA (hC.1.same (fun j hj => hsB.1 _ (by simp; omega))) h370⟩
