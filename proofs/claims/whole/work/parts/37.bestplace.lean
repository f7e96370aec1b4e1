def BsP (f : Nat → Int32) (c : Nat → Nat) (g : Nat → Int32) (p0 : Nat) (r q : Int32) : Prop := (r = -1 ∧ ∀ p, p < p0 → goodP f c (dishN p) = false) ∨ ∃ p, p < p0 ∧ r = nI p ∧ q = g (dishN p) ∧ goodP f c (dishN p) = true ∧ ∀ p', p' < p0 → goodP f c (dishN p') = true → p' = p ∨ ahead g (dishN p) (dishN p')
theorem BsP.skip {f : Nat → Int32} {c : Nat → Nat} {g : Nat → Int32} {p0 : Nat} {r q : Int32} (h : BsP f c g p0 r q) (hn : goodP f c (dishN p0) = false) : BsP f c g (p0 + 1) r q := by
  rcases h with ⟨a, b⟩ | ⟨p, a1, a2, a3, a4, a5⟩
  · refine Or.inl ⟨a, fun p hp => ?_⟩
    by_cases e : p = p0
    · rw [e]; exact hn
    · exact b p (by omega)
  · refine Or.inr ⟨p, by omega, a2, a3, a4, fun p' hp' hg => ?_⟩
    by_cases e : p' = p0
    · rw [e, hn] at hg; cases hg
    · exact a5 p' (by omega) hg
theorem BsP.skips {f : Nat → Int32} {c : Nat → Nat} {g : Nat → Int32} {r q : Int32} {p0 : Nat} : ∀ n, BsP f c g p0 r q → (∀ j, j < n → goodP f c (dishN (p0 + j)) = false) → BsP f c g (p0 + n) r q
  | 0, h, _ => h
  | n + 1, h, hn => (BsP.skips n h (fun j hj => hn j (by omega))).skip (hn n (by omega))
theorem BsP.worse {f : Nat → Int32} {c : Nat → Nat} {g : Nat → Int32} {p0 : Nat} {r q : Int32} (h : BsP f c g p0 r q) (hp0 : p0 < 1840) (hr : ¬ r < 0) (hq : g (dishN p0) ≤ q) : BsP f c g (p0 + 1) r q := by
  rcases h with ⟨a, b⟩ | ⟨p, a1, a2, a3, a4, a5⟩
  · rw [a] at hr; exact absurd neg1 hr
  · refine Or.inr ⟨p, by omega, a2, a3, a4, fun p' hp' hg => ?_⟩
    by_cases e : p' = p0
    · subst e
      rw [a3] at hq
      by_cases e2 : g (dishN p) = g (dishN p')
      · exact Or.inr (Or.inr ⟨e2, dishN_mono p p' a1 hp0⟩)
      · refine Or.inr (Or.inl ?_)
        rw [i_le] at hq
        rw [i_eq] at e2
        rw [i_lt]
        omega
    · exact a5 p' (by omega) hg
theorem BsP.take {f : Nat → Int32} {c : Nat → Nat} {g : Nat → Int32} {p0 : Nat} {r q : Int32} (h : BsP f c g p0 r q) (hp0 : p0 < 1840) (hg : goodP f c (dishN p0) = true) (hr : r < 0 ∨ q < g (dishN p0)) : BsP f c g (p0 + 1) (nI p0) (g (dishN p0)) := by
  refine Or.inr ⟨p0, by omega, rfl, rfl, hg, fun p' hp' hg' => ?_⟩
  by_cases e : p' = p0
  · exact Or.inl e
  · refine Or.inr ?_
    rcases h with ⟨a, b⟩ | ⟨p, a1, a2, a3, a4, a5⟩
    · rw [b p' (by omega)] at hg'; cases hg'
    · have hr2 : q < g (dishN p0) := by
        rcases hr with z | z
        · rw [a2] at z; exact absurd z (nI_pos (by omega))
        · exact z
      rw [a3] at hr2
      refine Or.inl ?_
      rcases a5 p' (by omega) hg' with z | z
      · rw [z]; exact hr2
      · have := ahead_le z
        rw [i_le] at this
        rw [i_lt] at hr2 ⊢
        omega
/-- the place of the best one -/
def PlaceB (f : Nat → Int32) (c : Nat → Nat) (g : Nat → Int32) (r : Int32) : Prop := (r = -1 ∧ bst (okG f c) g = none) ∨ ∃ p, p < 1840 ∧ r = nI p ∧ bst (okG f c) g = some (dishN p)
theorem BsP.place {f : Nat → Int32} {c : Nat → Nat} {g : Nat → Int32} {r q : Int32} (h : BsP f c g 1840 r q) : PlaceB f c g r := by
  rcases h with ⟨a, b⟩ | ⟨p, a1, a2, a3, a4, a5⟩
  · refine Or.inl ⟨a, bst_none (fun x hx => ?_)⟩
    have h1 := plN_lt hx.1
    have := b (plN x) h1.1
    rw [h1.2, hx.2] at this
    cases this
  · refine Or.inr ⟨p, a1, a2, bst_some ⟨⟨dishN_ok a1, a4⟩, fun y hy => ?_⟩⟩
    have h1 := plN_lt hy.1
    rcases a5 (plN y) h1.1 (by rw [h1.2]; exact hy.2) with e | e
    · exact Or.inl (by rw [← h1.2, e])
    · rw [h1.2] at e; exact Or.inr e
set_option maxRecDepth 20000 in
theorem l_bestPlace {G : Gt} {d : Nat} {M : Mm} (hG : gS G = SHAPE) (hS : MdS M) {c : Nat → Nat} (hM : MarkIs M c) {i : Nat} (hi : i < 92) (hcan : canN (M.1 50) (sN i) = true) (hout : ∀ (r1 r2 : Int32) (o4 o5 o6 o7 : Option Value), BsP (M.1 50) c (likD (M.1 51) (ml8 M) (ml13 M)) (20 * (i + 1)) r1 r2 → Go G (d + 2) mX7_bestPlace 6 [some (.ref 49), some (.int r1), some (.int r2), some (.int (nI (i + 1))), o4, o5, o6, o7] [] M (fun v M' => ∃ r, v = some (.int r) ∧ PlaceB (M.1 50) c (likD (M.1 51) (ml8 M) (ml13 M)) r ∧ M' = M)) : ∀ (n m : Nat) (r1 r2 : Int32) (o7 : Option Value), m + n = 20 → BsP (M.1 50) c (likD (M.1 51) (ml8 M) (ml13 M)) (20 * i + m) r1 r2 → Go G (d + 2) mX7_bestPlace 34 [some (.ref 49), some (.int r1), some (.int r2), some (.int (nI i)), some (.int (nI (20 * i))), some (.int 1), some (.int (nI (20 * i + m))), o7] [] M (fun v M' => ∃ r, v = some (.int r) ∧ PlaceB (M.1 50) c (likD (M.1 51) (ml8 M) (ml13 M)) r ∧ M' = M) := by
  have hsi := sN_lt hi
  intro n
  induction n with
  | zero =>
    intro m r1 r2 o7 hin hB
    refine Go.iload dX7_bestPlace_34 rfl ?_
    refine Go.iload dX7_bestPlace_36 rfl ?_
    refine Go.bipush (v := 20) dX7_bestPlace_38 (by decide) ?_
    refine Go.iadd dX7_bestPlace_40 ?_
    refine Go.eqI (y := nI (20 * i + 20)) (nI_add _ _) ?_
    refine Go.icmp_ge 107 dX7_bestPlace_41 rfl (fun _ => ?_) (fun h41 => absurd (nI_le (a := 20 * i + 20) (b := 20 * i + m) (by omega) (by omega)) h41)
    refine Go.iinc (v := nI (i + 1)) (ls' := [some (.ref 49), some (.int r1), some (.int r2), some (.int (nI (i + 1))), some (.int (nI (20 * i))), some (.int 1), some (.int (nI (20 * i + m))), o7]) dX7_bestPlace_107 rfl (nI_1 _) rfl rfl ?_
    refine Go.goto 6 dX7_bestPlace_110 rfl ?_
    have e9 : m = 20 := by omega
    exact hout _ _ _ _ _ _ (by rw [show 20 * (i + 1) = 20 * i + m by omega]; exact hB)
  | succ n ih =>
    intro m r1 r2 o7 hin hB
    have hm : m < 20 := by omega
    have hd5 := dishN_lt (show 20 * i + m < 1840 by omega)
    refine Go.iload dX7_bestPlace_34 rfl ?_
    refine Go.iload dX7_bestPlace_36 rfl ?_
    refine Go.bipush (v := 20) dX7_bestPlace_38 (by decide) ?_
    refine Go.iadd dX7_bestPlace_40 ?_
    refine Go.eqI (y := nI (20 * i + 20)) (nI_add _ _) ?_
    refine Go.icmp_ge 107 dX7_bestPlace_41 rfl (fun h41 => absurd h41 (nI_ge (a := 20 * i + m) (b := 20 * i + 20) (by omega) (by omega))) (fun _ => ?_)
    refine Go.iload dX7_bestPlace_44 rfl ?_
    refine Go.if_eq 107 dX7_bestPlace_46 rfl (fun h46 => absurd h46 (by decide)) (fun _ => ?_)
    refine Go.aload_n dX7_bestPlace_49 rfl ?_
    refine Go.getR dX7_bestPlace_50 flX7_37 (shp hG rfl) rfl ?_
    refine Go.iload dX7_bestPlace_53 rfl ?_
    refine Go.zald dX7_bestPlace_55 (shp hG rfl) (vin (by omega) (by decide)) ?_
    refine Go.eqI (y := bi (decide (1 ≤ c (dishN (20 * i + m))))) (by rw [ncl (by omega)]; exact hM _ (by omega)) ?_
    refine Go.if_eq 63 dX7_bestPlace_56 rfl (fun h56 => ?_) (fun h56 => ?_)
    · refine Go.aload_n dX7_bestPlace_63 rfl ?_
      refine Go.aload_n dX7_bestPlace_64 rfl ?_
      refine Go.iload dX7_bestPlace_65 rfl ?_
      refine Go.callVI [.ref 49] dX7_bestPlace_67 lkX7_150 imX7_dishAt seX7_dishAt cbX7_dishAt (m_dishAt hG hS (p := 20 * i + m) (by omega)) (shp hG rfl) rfl rfl rfl (Nat.le_of_ble_eq_true rfl) (fun r1 M2 hr1 => ?_)
      obtain ⟨er1, emr1⟩ := hr1
      rw [emr1]
      clear emr1 M2
      subst er1
      refine Go.callVI [] dX7_bestPlace_70 lkX7_134 imX7_likingOf seX7_likingOf cbX7_likingOf (m_likingOf hG (x := dishN (20 * i + m)) (by omega)) (shp hG rfl) rfl rfl rfl (Nat.le_of_ble_eq_true rfl) (fun r3 M4 hr3 => ?_)
      obtain ⟨er3, emr3⟩ := hr3
      rw [emr3]
      clear emr3 M4
      subst er3
      refine Go.nmI (fun x5 ex5 => ?_)
      refine Go.istore (ls' := [some (.ref 49), some (.int r1), some (.int r2), some (.int (nI i)), some (.int (nI (20 * i))), some (.int 1), some (.int (nI (20 * i + m))), some (.int x5)]) dX7_bestPlace_73 (Nat.le_of_ble_eq_true rfl) rfl rfl ?_
      refine Go.aload_n dX7_bestPlace_75 rfl ?_
      refine Go.getR dX7_bestPlace_76 flX7_37 (shp hG rfl) rfl ?_
      refine Go.iload dX7_bestPlace_79 rfl ?_
      refine Go.zald dX7_bestPlace_81 (shp hG rfl) (vin (by omega) (by decide)) ?_
      refine Go.eqI (y := bi (decide (1 ≤ c (dishN (20 * i + m))))) (by rw [ncl (by omega)]; exact hM _ (by omega)) ?_
      refine Go.if_ne 101 dX7_bestPlace_82 rfl (fun h82 => absurd (h56) h82) (fun _ => ?_)
      refine Go.iload_n dX7_bestPlace_85 rfl ?_
      refine Go.if_lt 95 dX7_bestPlace_86 rfl (fun h86 => ?_) (fun h86 => ?_)
      · refine Go.iload dX7_bestPlace_95 rfl ?_
        refine Go.istore_n (ls' := [some (.ref 49), some (.int (nI (20 * i + m))), some (.int r2), some (.int (nI i)), some (.int (nI (20 * i))), some (.int 1), some (.int (nI (20 * i + m))), some (.int x5)]) dX7_bestPlace_97 (Nat.le_of_ble_eq_true rfl) rfl rfl ?_
        refine Go.iload dX7_bestPlace_98 rfl ?_
        refine Go.istore_n (ls' := [some (.ref 49), some (.int (nI (20 * i + m))), some (.int x5), some (.int (nI i)), some (.int (nI (20 * i))), some (.int 1), some (.int (nI (20 * i + m))), some (.int x5)]) dX7_bestPlace_100 (Nat.le_of_ble_eq_true rfl) rfl rfl ?_
        refine Go.iinc (v := nI (20 * i + m + 1)) (ls' := [some (.ref 49), some (.int (nI (20 * i + m))), some (.int x5), some (.int (nI i)), some (.int (nI (20 * i))), some (.int 1), some (.int (nI (20 * i + m + 1))), some (.int x5)]) dX7_bestPlace_101 rfl (nI_1 _) rfl rfl ?_
        refine Go.goto 34 dX7_bestPlace_104 rfl ?_
        have h9 : ¬ 1 ≤ c (dishN (20 * i + m)) := by simpa using bi_0.mp h56
        have h8 : c (dishN (20 * i + m)) = 0 := by omega
        have hgd : goodP (M.1 50) c (dishN (20 * i + m)) = true := by
          unfold goodP
          rw [show dishN (20 * i + m) / 20 = sN i by rw [dishN_at (by omega)]; omega, hcan, h8]
          rfl
        rw [ex5] at *
        exact ih (m + 1) _ _ _ (by omega) (hB.take (by omega) hgd (Or.inl h86))
      · refine Go.iload dX7_bestPlace_89 rfl ?_
        refine Go.iload_n dX7_bestPlace_91 rfl ?_
        refine Go.icmp_le 101 dX7_bestPlace_92 rfl (fun h92 => ?_) (fun h92 => ?_)
        · refine Go.iinc (v := nI (20 * i + m + 1)) (ls' := [some (.ref 49), some (.int r1), some (.int r2), some (.int (nI i)), some (.int (nI (20 * i))), some (.int 1), some (.int (nI (20 * i + m + 1))), some (.int x5)]) dX7_bestPlace_101 rfl (nI_1 _) rfl rfl ?_
          refine Go.goto 34 dX7_bestPlace_104 rfl ?_
          have h9 : ¬ 1 ≤ c (dishN (20 * i + m)) := by simpa using bi_0.mp h56
          have h8 : c (dishN (20 * i + m)) = 0 := by omega
          have hgd : goodP (M.1 50) c (dishN (20 * i + m)) = true := by
            unfold goodP
            rw [show dishN (20 * i + m) / 20 = sN i by rw [dishN_at (by omega)]; omega, hcan, h8]
            rfl
          rw [ex5] at *
          exact ih (m + 1) _ _ _ (by omega) (hB.worse (by omega) (fun q => i_lt_n q (i_nlt h86)) h92)
        · refine Go.iload dX7_bestPlace_95 rfl ?_
          refine Go.istore_n (ls' := [some (.ref 49), some (.int (nI (20 * i + m))), some (.int r2), some (.int (nI i)), some (.int (nI (20 * i))), some (.int 1), some (.int (nI (20 * i + m))), some (.int x5)]) dX7_bestPlace_97 (Nat.le_of_ble_eq_true rfl) rfl rfl ?_
          refine Go.iload dX7_bestPlace_98 rfl ?_
          refine Go.istore_n (ls' := [some (.ref 49), some (.int (nI (20 * i + m))), some (.int x5), some (.int (nI i)), some (.int (nI (20 * i))), some (.int 1), some (.int (nI (20 * i + m))), some (.int x5)]) dX7_bestPlace_100 (Nat.le_of_ble_eq_true rfl) rfl rfl ?_
          refine Go.iinc (v := nI (20 * i + m + 1)) (ls' := [some (.ref 49), some (.int (nI (20 * i + m))), some (.int x5), some (.int (nI i)), some (.int (nI (20 * i))), some (.int 1), some (.int (nI (20 * i + m + 1))), some (.int x5)]) dX7_bestPlace_101 rfl (nI_1 _) rfl rfl ?_
          refine Go.goto 34 dX7_bestPlace_104 rfl ?_
          have h9 : ¬ 1 ≤ c (dishN (20 * i + m)) := by simpa using bi_0.mp h56
          have h8 : c (dishN (20 * i + m)) = 0 := by omega
          have hgd : goodP (M.1 50) c (dishN (20 * i + m)) = true := by
            unfold goodP
            rw [show dishN (20 * i + m) / 20 = sN i by rw [dishN_at (by omega)]; omega, hcan, h8]
            rfl
          rw [ex5] at *
          exact ih (m + 1) _ _ _ (by omega) (hB.take (by omega) hgd (Or.inr (i_nle h92)))
    · refine Go.iconst (v := 0) dX7_bestPlace_59 (by decide) ?_
      refine Go.goto 73 dX7_bestPlace_60 rfl ?_
      refine Go.istore (ls' := [some (.ref 49), some (.int r1), some (.int r2), some (.int (nI i)), some (.int (nI (20 * i))), some (.int 1), some (.int (nI (20 * i + m))), some (.int 0)]) dX7_bestPlace_73 (Nat.le_of_ble_eq_true rfl) rfl rfl ?_
      refine Go.aload_n dX7_bestPlace_75 rfl ?_
      refine Go.getR dX7_bestPlace_76 flX7_37 (shp hG rfl) rfl ?_
      refine Go.iload dX7_bestPlace_79 rfl ?_
      refine Go.zald dX7_bestPlace_81 (shp hG rfl) (vin (by omega) (by decide)) ?_
      refine Go.eqI (y := bi (decide (1 ≤ c (dishN (20 * i + m))))) (by rw [ncl (by omega)]; exact hM _ (by omega)) ?_
      refine Go.if_ne 101 dX7_bestPlace_82 rfl (fun _ => ?_) (fun h82 => absurd h82 (h56))
      refine Go.iinc (v := nI (20 * i + m + 1)) (ls' := [some (.ref 49), some (.int r1), some (.int r2), some (.int (nI i)), some (.int (nI (20 * i))), some (.int 1), some (.int (nI (20 * i + m + 1))), some (.int 0)]) dX7_bestPlace_101 rfl (nI_1 _) rfl rfl ?_
      refine Go.goto 34 dX7_bestPlace_104 rfl ?_
      have h9 : 1 ≤ c (dishN (20 * i + m)) := by simpa using bi_n0.mp h56
      exact ih (m + 1) _ _ _ (by omega) (hB.skip (by have h8 : ¬ c (dishN (20 * i + m)) = 0 := by omega
                                                     simp [goodP, h8]))
set_option maxRecDepth 20000 in
theorem l_bestPlace2 {G : Gt} {d : Nat} {M : Mm} (hG : gS G = SHAPE) (hS : MdS M) {c : Nat → Nat} (hM : MarkIs M c) : ∀ (n i : Nat) (r1 r2 : Int32) (o4 o5 o6 o7 : Option Value), i + n = 92 → BsP (M.1 50) c (likD (M.1 51) (ml8 M) (ml13 M)) (20 * i) r1 r2 → Go G (d + 2) mX7_bestPlace 6 [some (.ref 49), some (.int r1), some (.int r2), some (.int (nI i)), o4, o5, o6, o7] [] M (fun v M' => ∃ r, v = some (.int r) ∧ PlaceB (M.1 50) c (likD (M.1 51) (ml8 M) (ml13 M)) r ∧ M' = M) := by
  intro n
  induction n with
  | zero =>
    intro i r1 r2 o4 o5 o6 o7 hin hB
    refine Go.iload_n dX7_bestPlace_6 rfl ?_
    refine Go.bipush (v := 92) dX7_bestPlace_7 (by decide) ?_
    refine Go.icmp_ge 113 dX7_bestPlace_9 rfl (fun _ => ?_) (fun h9 => absurd (nI_le (a := 92) (b := i) (by omega) (by omega)) h9)
    refine Go.iload_n dX7_bestPlace_113 rfl ?_
    refine Go.iret dX7_bestPlace_114 rfl rfl ?_
    have e9 : i = 92 := by omega
    subst e9
    exact ⟨_, rfl, hB.place, rfl⟩
  | succ n ih =>
    intro i r1 r2 o4 o5 o6 o7 hin hB
    have hi : i < 92 := by omega
    have hsi := sN_lt hi
    have hd5 := dishN_lt (show 20 * i < 1840 by omega)
    have j34 : Go G (d + 2) mX7_bestPlace 34 [some (.ref 49), some (.int r1), some (.int r2), some (.int (nI i)), some (.int (nI (20 * i))), some (.int (bi (canN (M.1 50) (sN i)))), some (.int (nI (20 * i))), o7] [] M (fun v M' => ∃ r, v = some (.int r) ∧ PlaceB (M.1 50) c (likD (M.1 51) (ml8 M) (ml13 M)) r ∧ M' = M) := by
      cases hcan : canN (M.1 50) (sN i) with
      | true => exact l_bestPlace hG hS hM hi hcan (fun r1 r2 o4 o5 o6 o7 h => ih (i + 1) r1 r2 o4 o5 o6 o7 (by omega) h) 20 0 r1 r2 o7 (by omega) hB
      | false =>
        show Go G (d + 2) mX7_bestPlace 34 [some (.ref 49), some (.int r1), some (.int r2), some (.int (nI i)), some (.int (nI (20 * i))), some (.int 0), some (.int (nI (20 * i))), o7] [] M _
        refine Go.iload dX7_bestPlace_34 rfl ?_
        refine Go.iload dX7_bestPlace_36 rfl ?_
        refine Go.bipush (v := 20) dX7_bestPlace_38 (by decide) ?_
        refine Go.iadd dX7_bestPlace_40 ?_
        refine Go.eqI (y := nI (20 * i + 20)) (nI_add _ _) ?_
        refine Go.icmp_ge 107 dX7_bestPlace_41 rfl (fun h41 => absurd h41 (nI_ge (a := 20 * i) (b := 20 * i + 20) (by omega) (by omega))) (fun _ => ?_)
        refine Go.iload dX7_bestPlace_44 rfl ?_
        refine Go.if_eq 107 dX7_bestPlace_46 rfl (fun _ => ?_) (fun h46 => absurd (rfl) h46)
        refine Go.iinc (v := nI (i + 1)) (ls' := [some (.ref 49), some (.int r1), some (.int r2), some (.int (nI (i + 1))), some (.int (nI (20 * i))), some (.int 0), some (.int (nI (20 * i))), o7]) dX7_bestPlace_107 rfl (nI_1 _) rfl rfl ?_
        refine Go.goto 6 dX7_bestPlace_110 rfl ?_
        refine ih (i + 1) _ _ _ _ _ _ (by omega) ?_
        have h9 := BsP.skips 20 hB (fun j hj => by
          unfold goodP
          rw [show dishN (20 * i + j) / 20 = sN i by rw [dishN_at hj]; omega, hcan]
          rfl)
        rw [show 20 * (i + 1) = 20 * i + 20 by omega]
        exact h9
    refine Go.iload_n dX7_bestPlace_6 rfl ?_
    refine Go.bipush (v := 92) dX7_bestPlace_7 (by decide) ?_
    refine Go.icmp_ge 113 dX7_bestPlace_9 rfl (fun h9 => absurd h9 (nI_ge (a := i) (b := 92) (by omega) (by omega))) (fun _ => ?_)
    refine Go.bipush (v := 20) dX7_bestPlace_12 (by decide) ?_
    refine Go.iload_n dX7_bestPlace_14 rfl ?_
    refine Go.imul dX7_bestPlace_15 ?_
    refine Go.eqI (y := nI (20 * i)) (pk_mul _ _) ?_
    refine Go.istore (ls' := [some (.ref 49), some (.int r1), some (.int r2), some (.int (nI i)), some (.int (nI (20 * i))), o5, o6, o7]) dX7_bestPlace_16 (Nat.le_of_ble_eq_true rfl) rfl rfl ?_
    refine Go.aload_n dX7_bestPlace_18 rfl ?_
    refine Go.aload_n dX7_bestPlace_19 rfl ?_
    refine Go.iload dX7_bestPlace_20 rfl ?_
    refine Go.callVI [.ref 49] dX7_bestPlace_22 lkX7_150 imX7_dishAt seX7_dishAt cbX7_dishAt (m_dishAt hG hS (p := 20 * i) (by omega)) (shp hG rfl) rfl rfl rfl (Nat.le_of_ble_eq_true rfl) (fun r1 M2 hr1 => ?_)
    obtain ⟨er1, emr1⟩ := hr1
    rw [emr1]
    clear emr1 M2
    subst er1
    refine Go.callVI [] dX7_bestPlace_25 lkX7_137 imX7_canBe seX7_canBe cbX7_canBe (m_canBe hG (x := dishN (20 * i)) (by omega)) (shp hG rfl) rfl rfl rfl (Nat.le_of_ble_eq_true rfl) (fun r3 M4 hr3 => ?_)
    obtain ⟨er3, emr3⟩ := hr3
    rw [emr3]
    clear emr3 M4
    subst er3
    refine Go.eqI (y := bi (canN (M.1 50) (sN i))) (by rw [show dishN (20 * i) / 20 = sN i by rw [show 20 * i = 20 * i + 0 by omega, dishN_at (by omega)]; omega]) ?_
    refine Go.nmI (fun x5 ex5 => ?_)
    refine Go.istore (ls' := [some (.ref 49), some (.int r1), some (.int r2), some (.int (nI i)), some (.int (nI (20 * i))), some (.int x5), o6, o7]) dX7_bestPlace_28 (Nat.le_of_ble_eq_true rfl) rfl rfl ?_
    refine Go.iload dX7_bestPlace_30 rfl ?_
    refine Go.istore (ls' := [some (.ref 49), some (.int r1), some (.int r2), some (.int (nI i)), some (.int (nI (20 * i))), some (.int x5), some (.int (nI (20 * i))), o7]) dX7_bestPlace_32 (Nat.le_of_ble_eq_true rfl) rfl rfl ?_
    rw [ex5]
    exact j34
set_option maxRecDepth 20000 in
theorem m_bestPlace {G : Gt} {d : Nat} {M : Mm} (hG : gS G = SHAPE) (hS : MdS M) {c : Nat → Nat} (hM : MarkIs M c) : ExI G (d + 2) mX7_bestPlace [.ref 49] M (fun r M' => PlaceB (M.1 50) c (likD (M.1 51) (ml8 M) (ml13 M)) r ∧ M' = M) := by
  refine Ex.of (by decide) (Nat.le_of_ble_eq_true rfl) ?_
  show Go G (d + 2) mX7_bestPlace 0 [some (.ref 49), none, none, none, none, none, none, none] [] M _
  refine Go.iconst (v := -1) dX7_bestPlace_0 (by decide) ?_
  refine Go.istore_n (ls' := [some (.ref 49), some (.int ((-1))), none, none, none, none, none, none]) dX7_bestPlace_1 (Nat.le_of_ble_eq_true rfl) rfl rfl ?_
  refine Go.iconst (v := 0) dX7_bestPlace_2 (by decide) ?_
  refine Go.istore_n (ls' := [some (.ref 49), some (.int ((-1))), some (.int 0), none, none, none, none, none]) dX7_bestPlace_3 (Nat.le_of_ble_eq_true rfl) rfl rfl ?_
  refine Go.iconst (v := 0) dX7_bestPlace_4 (by decide) ?_
  refine Go.istore_n (ls' := [some (.ref 49), some (.int ((-1))), some (.int 0), some (.int 0), none, none, none, none]) dX7_bestPlace_5 (Nat.le_of_ble_eq_true rfl) rfl rfl ?_
  exact l_bestPlace2 hG hS hM 92 0 (-1) 0 none none none none (by omega) (Or.inl ⟨rfl, fun p hp => by omega⟩)
