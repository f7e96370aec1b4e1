set_option maxRecDepth 20000 in
theorem s_firstFrom {G : Gt} {d : Nat} {M : Mm} (hG : gS G = SHAPE) {c : Nat → Nat} (hO : OnceIs M c) {number : Int32} : ExI G (d + 1) mX2_firstFrom [.ref 25, .int number] M (fun r M' => r = optD (fstF (fromP (M.1 26) c number) 0 1840) ∧ M' = M) := by
  refine Ex.of (by decide) (Nat.le_of_ble_eq_true rfl) ?_
  have hsi : sN 0 < 256 := by decide
  show Go G (d + 1) mX2_firstFrom 0 [some (.ref 25), some (.int number), none, none, none, none, none] [] M _
  refine Go.aload_n dX2_firstFrom_0 rfl ?_
  refine Go.getR dX2_firstFrom_1 flX2_9 (shp hG rfl) rfl ?_
  refine Go.callSI [] dX2_firstFrom_4 lkX2_98 stX6_inStore cbX6_inStore (s_inStore (shp hG rfl)) rfl rfl (Nat.le_of_ble_eq_true rfl) (fun r1 M2 hr1 => ?_)
  obtain ⟨er1, emr1⟩ := hr1
  rw [emr1]
  clear emr1 M2
  subst er1
  refine Go.eqI (y := nI (maskN (posN (M.1 26)) 8)) (rfl) ?_
  refine Go.istore_n (ls' := [some (.ref 25), some (.int number), some (.int (nI (maskN (posN (M.1 26)) 8))), none, none, none, none]) dX2_firstFrom_7 (Nat.le_of_ble_eq_true rfl) rfl rfl ?_
  refine Go.iconst (v := 0) dX2_firstFrom_8 (by decide) ?_
  refine Go.istore_n (ls' := [some (.ref 25), some (.int number), some (.int (nI (maskN (posN (M.1 26)) 8))), some (.int 0), none, none, none]) dX2_firstFrom_9 (Nat.le_of_ble_eq_true rfl) rfl rfl ?_
  refine Go.iload_n dX2_firstFrom_10 rfl ?_
  refine Go.getSets dX2_firstFrom_11 (Or.inr fnX2_75) ?_
  refine Go.setsLen dX2_firstFrom_14 ?_
  refine Go.icmp_ge 87 dX2_firstFrom_15 rfl (fun h15 => absurd h15 (nI_ge (a := 0) (b := 92) (by omega) (by decide))) (fun _ => ?_)
  refine Go.aload_n dX2_firstFrom_18 rfl ?_
  refine Go.getSets dX2_firstFrom_19 (Or.inr fnX2_75) ?_
  refine Go.iload_n dX2_firstFrom_22 rfl ?_
  refine Go.sets dX2_firstFrom_23 (vin (i := 0) (by decide) (by decide)) ?_
  refine Go.eqI (y := nI (sN 0)) (by decide +kernel) ?_
  refine Go.iload_n dX2_firstFrom_24 rfl ?_
  refine Go.callVI [] dX2_firstFrom_25 lkX2_102 imX2_servableManners seX2_servableManners cbX2_servableManners (s_servableManners hG (c := c) (s := sN 0) (by omega) hO) (shp hG rfl) rfl rfl rfl (Nat.le_of_ble_eq_true rfl) (fun r3 M4 hr3 => ?_)
  obtain ⟨er3, emr3⟩ := hr3
  rw [emr3]
  clear emr3 M4
  subst er3
  refine Go.istore (ls' := [some (.ref 25), some (.int number), some (.int (nI (maskN (posN (M.1 26)) 8))), some (.int 0), some (.int (nI (svM (M.1 26) c (sN 0)))), none, none]) dX2_firstFrom_28 (Nat.le_of_ble_eq_true rfl) rfl rfl ?_
  refine Go.bipush (v := 20) dX2_firstFrom_30 (by decide) ?_
  refine Go.getSets dX2_firstFrom_32 (Or.inr fnX2_75) ?_
  refine Go.iload_n dX2_firstFrom_35 rfl ?_
  refine Go.sets dX2_firstFrom_36 (vin (i := 0) (by decide) (by decide)) ?_
  refine Go.eqI (y := nI (sN 0)) (by decide +kernel) ?_
  refine Go.imul dX2_firstFrom_37 ?_
  refine Go.eqI (y := nI (20 * sN 0)) (pk_mul _ _) ?_
  refine Go.istore (ls' := [some (.ref 25), some (.int number), some (.int (nI (maskN (posN (M.1 26)) 8))), some (.int 0), some (.int (nI (svM (M.1 26) c (sN 0)))), some (.int (nI (20 * sN 0))), none]) dX2_firstFrom_38 (Nat.le_of_ble_eq_true rfl) rfl rfl ?_
  refine Go.iconst (v := 0) dX2_firstFrom_40 (by decide) ?_
  refine Go.istore (ls' := [some (.ref 25), some (.int number), some (.int (nI (maskN (posN (M.1 26)) 8))), some (.int 0), some (.int (nI (svM (M.1 26) c (sN 0)))), some (.int (nI (20 * sN 0))), some (.int 0)]) dX2_firstFrom_41 (Nat.le_of_ble_eq_true rfl) rfl rfl ?_
  exact l_firstFrom hG hO (i := 0) (by omega) (fun b4 b5 b6 h => l_firstFrom2 hG hO 91 1 b4 b5 b6 (by omega) h) 20 0 (by omega) rfl
set_option maxRecDepth 20000 in
theorem l_weighSets {G : Gt} {d : Nat} {N : Mm} (hG : gS G = SHAPE) {i : Nat} (hi : i < 92) {post : Option Value → Mm → Prop} (hout : Go G (d + 1) mX2_weighSets 48 [some (.ref 25), some (.ref 3), some (.int (nI i)), some (.int (likF (N.1 3) 0 (sN i) 8)), some (.int (nI 8))] [] N post) : ∀ (n t : Nat), t + n = 8 → Go G (d + 1) mX2_weighSets 15 [some (.ref 25), some (.ref 3), some (.int (nI i)), some (.int (likF (N.1 3) 0 (sN i) t)), some (.int (nI t))] [] N post := by
  have hsi := okS_lt (setsN_ok i hi)
  intro n
  induction n with
  | zero =>
    intro t hin
    refine Go.iload dX2_weighSets_15 rfl ?_
    refine Go.aload_n dX2_weighSets_17 rfl ?_
    refine Go.alenI (v := 8) dX2_weighSets_18 (shp hG rfl) (by decide) ?_
    refine Go.icmp_ge 48 dX2_weighSets_19 rfl (fun _ => ?_) (fun h19 => absurd (nI_le (a := 8) (b := t) (by omega) (by omega)) h19)
    have e9 : t = 8 := by omega
    subst e9
    exact hout
  | succ n ih =>
    intro t hin
    have ht : t < 8 := by omega
    refine Go.iload dX2_weighSets_15 rfl ?_
    refine Go.aload_n dX2_weighSets_17 rfl ?_
    refine Go.alenI (v := 8) dX2_weighSets_18 (shp hG rfl) (by decide) ?_
    refine Go.icmp_ge 48 dX2_weighSets_19 rfl (fun h19 => absurd h19 (nI_ge (a := t) (b := 8) (by omega) (by decide))) (fun _ => ?_)
    refine Go.getSets dX2_weighSets_22 (Or.inr fnX2_75) ?_
    refine Go.iload_n dX2_weighSets_25 rfl ?_
    refine Go.sets dX2_weighSets_26 (vin (by omega) (by decide)) ?_
    refine Go.eqI (y := nI (sN i)) (by rw [ncl (by omega)]; exact setsF_nI i (by omega)) ?_
    refine Go.iload dX2_weighSets_27 rfl ?_
    refine Go.callSI [] dX2_weighSets_29 lkX2_78 stX6_hasBit cbX6_hasBit (s_hasBit (nI (sN i)) (nI t)) rfl rfl (Nat.le_of_ble_eq_true rfl) (fun r1 M2 hr1 => ?_)
    obtain ⟨er1, emr1⟩ := hr1
    rw [emr1]
    clear emr1 M2
    subst er1
    refine Go.eqI (y := bi ((sN i).testBit t)) (by rw [bitI_nI (by omega) (by omega)]) ?_
    refine Go.if_eq 42 dX2_weighSets_32 rfl (fun h32 => ?_) (fun h32 => ?_)
    · refine Go.iinc (v := nI (t + 1)) (ls' := [some (.ref 25), some (.ref 3), some (.int (nI i)), some (.int (likF (N.1 3) 0 (sN i) t)), some (.int (nI (t + 1)))]) dX2_weighSets_42 rfl (nI_1 _) rfl rfl ?_
      refine Go.goto 15 dX2_weighSets_45 rfl ?_
      rw [show likF (N.1 3) 0 (sN i) t = likF (N.1 3) 0 (sN i) (t + 1) from by rw [likF, if_neg (by rw [bi_0.mp h32]; decide), Int32.add_zero]]
      exact ih (t + 1) (by omega)
    · refine Go.iload_n dX2_weighSets_35 rfl ?_
      refine Go.aload_n dX2_weighSets_36 rfl ?_
      refine Go.iload dX2_weighSets_37 rfl ?_
      refine Go.iald dX2_weighSets_39 (shp hG rfl) (vin (by omega) (by decide)) ?_
      refine Go.iadd dX2_weighSets_40 ?_
      refine Go.nmI (fun x3 ex3 => ?_)
      refine Go.istore_n (ls' := [some (.ref 25), some (.ref 3), some (.int (nI i)), some (.int x3), some (.int (nI t))]) dX2_weighSets_41 (Nat.le_of_ble_eq_true rfl) rfl rfl ?_
      refine Go.iinc (v := nI (t + 1)) (ls' := [some (.ref 25), some (.ref 3), some (.int (nI i)), some (.int x3), some (.int (nI (t + 1)))]) dX2_weighSets_42 rfl (nI_1 _) rfl rfl ?_
      refine Go.goto 15 dX2_weighSets_45 rfl ?_
      rw [show x3 = likF (N.1 3) 0 (sN i) (t + 1) from by rw [ex3, ncl (by omega), likF, if_pos (bi_n0.mp h32)]]
      exact ih (t + 1) (by omega)
set_option maxRecDepth 20000 in
theorem l_weighSets2 {G : Gt} {d : Nat} {M : Mm} (hG : gS G = SHAPE) : ∀ (n i : Nat) (N : Mm) (a3 a4 : Int32), i + n = 92 → Same [30] M N → (∀ j, j < i → N.1 30 (sN j) = likF (N.1 3) 0 (sN j) 8) → Go G (d + 1) mX2_weighSets 2 [some (.ref 25), some (.ref 3), some (.int (nI i)), some (.int a3), some (.int a4)] [] N (fun v M' => v = none ∧ Same [30] M M' ∧ ∀ j, j < 92 → M'.1 30 (sN j) = likF (M.1 3) 0 (sN j) 8) := by
  intro n
  induction n with
  | zero =>
    intro i N a3 a4 hin hS hL
    refine Go.iload_n dX2_weighSets_2 rfl ?_
    refine Go.getSets dX2_weighSets_3 (Or.inr fnX2_75) ?_
    refine Go.setsLen dX2_weighSets_6 ?_
    refine Go.icmp_ge 65 dX2_weighSets_7 rfl (fun _ => ?_) (fun h7 => absurd (nI_le (a := 92) (b := i) (by omega) (by omega)) h7)
    refine Go.vret dX2_weighSets_65 rfl ?_
    have e9 : i = 92 := by omega
    subst e9
    exact ⟨rfl, hS, fun j hj => by rw [hL j hj]; rw [hS.1 3 (by decide)]⟩
  | succ n ih =>
    intro i N a3 a4 hin hS hL
    have hi : i < 92 := by omega
    have hsi := okS_lt (setsN_ok i hi)
    refine Go.iload_n dX2_weighSets_2 rfl ?_
    refine Go.getSets dX2_weighSets_3 (Or.inr fnX2_75) ?_
    refine Go.setsLen dX2_weighSets_6 ?_
    refine Go.icmp_ge 65 dX2_weighSets_7 rfl (fun h7 => absurd h7 (nI_ge (a := i) (b := 92) (by omega) (by decide))) (fun _ => ?_)
    refine Go.iconst (v := 0) dX2_weighSets_10 (by decide) ?_
    refine Go.istore_n (ls' := [some (.ref 25), some (.ref 3), some (.int (nI i)), some (.int 0), some (.int a4)]) dX2_weighSets_11 (Nat.le_of_ble_eq_true rfl) rfl rfl ?_
    refine Go.iconst (v := 0) dX2_weighSets_12 (by decide) ?_
    refine Go.istore (ls' := [some (.ref 25), some (.ref 3), some (.int (nI i)), some (.int 0), some (.int 0)]) dX2_weighSets_13 (Nat.le_of_ble_eq_true rfl) rfl rfl ?_
    refine l_weighSets hG hi ?_ 8 0 (by omega)
    refine Go.aload_n dX2_weighSets_48 rfl ?_
    refine Go.getR dX2_weighSets_49 flX2_26 (shp hG rfl) rfl ?_
    refine Go.getSets dX2_weighSets_52 (Or.inr fnX2_75) ?_
    refine Go.iload_n dX2_weighSets_55 rfl ?_
    refine Go.sets dX2_weighSets_56 (vin (by omega) (by decide)) ?_
    refine Go.eqI (y := nI (sN i)) (by rw [ncl (by omega)]; exact setsF_nI i (by omega)) ?_
    refine Go.iload_n dX2_weighSets_57 rfl ?_
    refine Go.iast dX2_weighSets_58 (shp hG rfl) (vin (by omega) (by decide)) ?_
    refine Go.nmM (fun N1 eN1 => ?_)
    refine Go.iinc (v := nI (i + 1)) (ls' := [some (.ref 25), some (.ref 3), some (.int (nI (i + 1))), some (.int (likF (N.1 3) 0 (sN i) 8)), some (.int (nI 8))]) dX2_weighSets_59 rfl (nI_1 _) rfl rfl ?_
    refine Go.goto 2 dX2_weighSets_62 rfl ?_
    refine ih (i + 1) N1 _ _ (by omega) (by rw [eN1]; exact hS.trans (Same.upi _ 30 _ _ (by decide))) (fun j hj => ?_)
    rw [eN1, ncl (by omega)]
    have r9 : ∀ q v, (upi N 30 (sN i) v).1 30 q = if q = sN i then v else N.1 30 q := fun q v => by simp [upi, seti, upd]
    have r8 : ∀ v, (upi N 30 (sN i) v).1 3 = N.1 3 := fun v => by simp [upi, seti]
    rw [r9, r8]
    by_cases hq : sN j = sN i
    · rw [if_pos hq, hq]
    · rw [if_neg hq]
      by_cases hj2 : j = i
      · rw [hj2] at hq; exact absurd rfl hq
      · exact hL j (by omega)
set_option maxRecDepth 20000 in
theorem s_weighSets {G : Gt} {d : Nat} {M : Mm} (hG : gS G = SHAPE) : ExV G (d + 1) mX2_weighSets [.ref 25, .ref 3] M (fun M' => Same [30] M M' ∧ ∀ j, j < 92 → M'.1 30 (sN j) = likF (M.1 3) 0 (sN j) 8) := by
  refine Ex.of (by decide) (Nat.le_of_ble_eq_true rfl) ?_
  have hsi : sN 0 < 256 := by decide
  show Go G (d + 1) mX2_weighSets 0 [some (.ref 25), some (.ref 3), none, none, none] [] M _
  refine Go.iconst (v := 0) dX2_weighSets_0 (by decide) ?_
  refine Go.istore_n (ls' := [some (.ref 25), some (.ref 3), some (.int 0), none, none]) dX2_weighSets_1 (Nat.le_of_ble_eq_true rfl) rfl rfl ?_
  refine Go.iload_n dX2_weighSets_2 rfl ?_
  refine Go.getSets dX2_weighSets_3 (Or.inr fnX2_75) ?_
  refine Go.setsLen dX2_weighSets_6 ?_
  refine Go.icmp_ge 65 dX2_weighSets_7 rfl (fun h7 => absurd h7 (nI_ge (a := 0) (b := 92) (by omega) (by decide))) (fun _ => ?_)
  refine Go.iconst (v := 0) dX2_weighSets_10 (by decide) ?_
  refine Go.istore_n (ls' := [some (.ref 25), some (.ref 3), some (.int 0), some (.int 0), none]) dX2_weighSets_11 (Nat.le_of_ble_eq_true rfl) rfl rfl ?_
  refine Go.iconst (v := 0) dX2_weighSets_12 (by decide) ?_
  refine Go.istore (ls' := [some (.ref 25), some (.ref 3), some (.int 0), some (.int 0), some (.int 0)]) dX2_weighSets_13 (Nat.le_of_ble_eq_true rfl) rfl rfl ?_
  refine l_weighSets (N := M) hG (i := 0) (by omega) ?_ 8 0 (by omega)
  refine Go.aload_n dX2_weighSets_48 rfl ?_
  refine Go.getR dX2_weighSets_49 flX2_26 (shp hG rfl) rfl ?_
  refine Go.getSets dX2_weighSets_52 (Or.inr fnX2_75) ?_
  refine Go.iload_n dX2_weighSets_55 rfl ?_
  refine Go.sets dX2_weighSets_56 (vin (by omega) (by decide)) ?_
  refine Go.eqI (y := nI (sN 0)) (by decide +kernel) ?_
  refine Go.iload_n dX2_weighSets_57 rfl ?_
  refine Go.iast dX2_weighSets_58 (shp hG rfl) (vin (by omega) (by decide)) ?_
  refine Go.nmM (fun N1 eN1 => ?_)
  refine Go.iinc (v := nI (0 + 1)) (ls' := [some (.ref 25), some (.ref 3), some (.int (nI (0 + 1))), some (.int (likF (M.1 3) 0 (sN 0) 8)), some (.int (nI 8))]) dX2_weighSets_59 rfl (nI_1 _) rfl rfl ?_
  refine Go.goto 2 dX2_weighSets_62 rfl ?_
  refine l_weighSets2 hG 91 1 N1 _ _ (by omega) (by rw [eN1]; exact Same.upi _ 30 _ _ (by decide)) (fun j hj => ?_)
  have hj0 : j = 0 := by omega
  subst hj0
  rw [eN1, ncl (by omega)]
  simp [upi, seti, upd]
set_option maxRecDepth 20000 in
theorem l_weighManners {G : Gt} {d : Nat} {M : Mm} (hG : gS G = SHAPE) : ∀ (n i : Nat) (N : Mm), i + n = 20 → Same [31] M N → (∀ m, m < i → N.1 31 m = M.1 4 (m / 4) + M.1 5 (m % 4)) → Go G (d + 1) mX2_weighManners 2 [some (.ref 25), some (.ref 1), some (.int (nI i))] [] N (fun v M' => v = none ∧ Same [31] M M' ∧ ∀ m, m < 20 → M'.1 31 m = M.1 4 (m / 4) + M.1 5 (m % 4)) := by
  intro n
  induction n with
  | zero =>
    intro i N hin hS hL
    refine Go.iload_n dX2_weighManners_2 rfl ?_
    refine Go.bipush (v := 20) dX2_weighManners_3 (by decide) ?_
    refine Go.icmp_ge 39 dX2_weighManners_5 rfl (fun _ => ?_) (fun h5 => absurd (nI_le (a := 20) (b := i) (by omega) (by omega)) h5)
    refine Go.vret dX2_weighManners_39 rfl ?_
    have e9 : i = 20 := by omega
    subst e9
    exact ⟨rfl, hS, hL⟩
  | succ n ih =>
    intro i N hin hS hL
    have hi : i < 20 := by omega
    refine Go.iload_n dX2_weighManners_2 rfl ?_
    refine Go.bipush (v := 20) dX2_weighManners_3 (by decide) ?_
    refine Go.icmp_ge 39 dX2_weighManners_5 rfl (fun h5 => absurd h5 (nI_ge (a := i) (b := 20) (by omega) (by omega))) (fun _ => ?_)
    refine Go.aload_n dX2_weighManners_8 rfl ?_
    refine Go.getR dX2_weighManners_9 flX2_29 (shp hG rfl) rfl ?_
    refine Go.iload_n dX2_weighManners_12 rfl ?_
    refine Go.aload_n dX2_weighManners_13 rfl ?_
    refine Go.getR dX2_weighManners_14 flX2_82 (shp hG rfl) rfl ?_
    refine Go.iload_n dX2_weighManners_17 rfl ?_
    refine Go.callSI [.ref 4, .int (nI i), .ref 31] dX2_weighManners_18 lkX2_85 stX6_wayOf cbX6_wayOf (s_wayOf (nI i)) rfl rfl (Nat.le_of_ble_eq_true rfl) (fun r1 M2 hr1 => ?_)
    obtain ⟨er1, emr1⟩ := hr1
    rw [emr1]
    clear emr1 M2
    subst er1
    refine Go.eqI (y := nI (i / 4)) (by rw [iway_nI (by omega), Nat.mod_eq_of_lt (by omega)]) ?_
    refine Go.iald dX2_weighManners_21 (shp hG rfl) (vin (by omega) (by decide)) ?_
    refine Go.aload_n dX2_weighManners_22 rfl ?_
    refine Go.getR dX2_weighManners_23 flX2_89 (shp hG rfl) rfl ?_
    refine Go.iload_n dX2_weighManners_26 rfl ?_
    refine Go.callSI [.ref 5, .int (N.1 4 (Int32.toNatClampNeg (nI (i / 4)))), .int (nI i), .ref 31] dX2_weighManners_27 lkX2_92 stX6_sauceOf cbX6_sauceOf (s_sauceOf (nI i)) rfl rfl (Nat.le_of_ble_eq_true rfl) (fun r3 M4 hr3 => ?_)
    obtain ⟨er3, emr3⟩ := hr3
    rw [emr3]
    clear emr3 M4
    subst er3
    refine Go.eqI (y := nI (i % 4)) (isau_nI (by omega)) ?_
    refine Go.iald dX2_weighManners_30 (shp hG rfl) (vin (by omega) (by decide)) ?_
    refine Go.iadd dX2_weighManners_31 ?_
    refine Go.iast dX2_weighManners_32 (shp hG rfl) (vin (by omega) (by decide)) ?_
    refine Go.nmM (fun N5 eN5 => ?_)
    refine Go.iinc (v := nI (i + 1)) (ls' := [some (.ref 25), some (.ref 1), some (.int (nI (i + 1)))]) dX2_weighManners_33 rfl (nI_1 _) rfl rfl ?_
    refine Go.goto 2 dX2_weighManners_36 rfl ?_
    refine ih (i + 1) N5 (by omega) (by rw [eN5]; exact hS.trans (Same.upi _ 31 _ _ (by decide))) (fun m hm => ?_)
    rw [eN5, ncl (by omega), ncl (by omega), ncl (by omega)]
    have r9 : ∀ q v, (upi N 31 i v).1 31 q = if q = i then v else N.1 31 q := fun q v => by simp [upi, seti, upd]
    rw [r9]
    by_cases hq : m = i
    · rw [if_pos hq, hq, hS.1 4 (by decide), hS.1 5 (by decide)]
    · rw [if_neg hq]
      exact hL m (by omega)
set_option maxRecDepth 20000 in
theorem s_weighManners {G : Gt} {d : Nat} {M : Mm} (hG : gS G = SHAPE) : ExV G (d + 1) mX2_weighManners [.ref 25, .ref 1] M (fun M' => Same [31] M M' ∧ ∀ m, m < 20 → M'.1 31 m = M.1 4 (m / 4) + M.1 5 (m % 4)) := by
  refine Ex.of (by decide) (Nat.le_of_ble_eq_true rfl) ?_
  show Go G (d + 1) mX2_weighManners 0 [some (.ref 25), some (.ref 1), none] [] M _
  refine Go.iconst (v := 0) dX2_weighManners_0 (by decide) ?_
  refine Go.istore_n (ls' := [some (.ref 25), some (.ref 1), some (.int 0)]) dX2_weighManners_1 (Nat.le_of_ble_eq_true rfl) rfl rfl ?_
  exact l_weighManners hG 20 0 M (by omega) (Same.refl _ _) (fun m hm => by omega)
def ahead (g : Nat → Int32) (a b : Nat) : Prop := g b < g a ∨ (g a = g b ∧ a < b)
def Srt (g : Nat → Int32) (fv : Nat → Nat) (n : Nat) : Prop := (∀ i, i < n → fv i < n) ∧ (∀ m, m < n → ∃ i, i < n ∧ fv i = m) ∧ ∀ i j, i < j → j < n → ahead g (fv i) (fv j)
def insF (fv : Nat → Nat) (p m : Nat) : Nat → Nat := fun i => if i < p then fv i else if i = p then m else fv (i - 1)
theorem ahead_le {g : Nat → Int32} {a b : Nat} (h : ahead g a b) : g b ≤ g a := by
  rcases h with h | h
  · rw [i_lt] at h; rw [i_le]; omega
  · rw [h.1, i_le]; omega
theorem Srt.ins {g : Nat → Int32} {fv : Nat → Nat} {p m : Nat} (h : Srt g fv m) (hp : p ≤ m) (hlo : 0 < p → g m ≤ g (fv (p - 1))) (hhi : ∀ j, p ≤ j → j < m → g (fv j) < g m) : Srt g (insF fv p m) (m + 1) := by
  obtain ⟨h1, h2, h3⟩ := h
  have lo : ∀ i, i < p → g m ≤ g (fv i) := by
    intro i hi
    by_cases e : i = p - 1
    · rw [e]; exact hlo (by omega)
    · have a1 := hlo (by omega)
      have a2 := ahead_le (h3 i (p - 1) (by omega) (by omega))
      rw [i_le] at a1 a2 ⊢
      omega
  have ah : ∀ i, i < p → ahead g (fv i) m := by
    intro i hi
    have a1 := lo i hi
    have a2 := h1 i (by omega)
    by_cases e : g m = g (fv i)
    · exact Or.inr ⟨e.symm, a2⟩
    · refine Or.inl ?_
      rw [i_le] at a1
      rw [i_lt]
      rw [i_eq] at e
      omega
  refine ⟨fun i hi => ?_, fun q hq => ?_, fun i j hij hj => ?_⟩
  · unfold insF
    split
    · have := h1 i (by omega); omega
    · split
      · omega
      · have := h1 (i - 1) (by omega); omega
  · by_cases e : q = m
    · exact ⟨p, by omega, by simp [insF, e]⟩
    · obtain ⟨i, a, b⟩ := h2 q (by omega)
      by_cases hi : i < p
      · exact ⟨i, by omega, by simp [insF, hi, b]⟩
      · exact ⟨i + 1, by omega, by
          have c1 : ¬ i + 1 < p := by omega
          have c2 : ¬ i + 1 = p := by omega
          simp [insF, c1, c2, b]⟩
  · unfold insF
    by_cases a1 : i < p
    · rw [if_pos a1]
      by_cases b1 : j < p
      · rw [if_pos b1]; exact h3 i j hij (by omega)
      · rw [if_neg b1]
        by_cases b2 : j = p
        · rw [if_pos b2]; exact ah i a1
        · rw [if_neg b2]; exact h3 i (j - 1) (by omega) (by omega)
    · rw [if_neg a1, if_neg (by omega : ¬ j < p)]
      by_cases a2 : i = p
      · rw [if_pos a2, if_neg (by omega : ¬ j = p)]
        exact Or.inl (hhi (j - 1) (by omega) (by omega))
      · rw [if_neg a2, if_neg (by omega : ¬ j = p)]
        exact h3 (i - 1) (j - 1) (by omega) (by omega)
