/-- how many dishes an entry bars and no other one does -/
def alN (u : Bu) (e : Nat) : Nat := cntN (fun p => barB (uK u) (uX u) (uE u) (dishN p) e && decide (kc u (dishN p) = 1)) 1840
def kn (F : Nat → Nat) : Nat → Option Nat
  | 0 => none
  | n + 1 => match kn F n with
    | none => some n
    | some b => if F b < F n then some n else some b
theorem kn_lt (F : Nat → Nat) : ∀ n b, kn F n = some b → b < n
  | 0, b, h => by cases h
  | n + 1, b, h => by
    rw [kn] at h
    cases h1 : kn F n with
    | none => rw [h1] at h; cases h; omega
    | some c =>
      rw [h1] at h
      have := kn_lt F n c h1
      simp only [] at h
      split at h <;> cases h <;> omega
def A_keenest (g : Sg) : Int32 × Sg := ornS g (kn (alN (gU g)) (uN (gU g)))
theorem aloM (k x ed : Nat) (c : Nat → Nat) (s : Nat) (hx : x % 20 < 20) : popN (maskN (fun m => (mbN k (x % 20) ed).testBit m && !(agM c s).testBit m) 20) = sumN (fun m => if askN k (x % 20) m ed && !decide (2 ≤ c (20 * s + m)) then 1 else 0) 20 := by
  rw [pop_mask]
  refine sumN_congr 20 (fun m hm => ?_)
  unfold mbN agM
  rw [maskN_bit, maskN_bit]
  simp [hm]
theorem cnt_alone (k x ed : Nat) (c : Nat → Nat) : sumN (fun j => if psetN k (x / 20) (sN j) then popN (maskN (fun m => (mbN k (x % 20) ed).testBit m && !(agM c (sN j)).testBit m) 20) else 0) 92 = cntN (fun p => barsN k x (dishN p) ed && !decide (2 ≤ c (dishN p))) 1840 := by
  unfold cntN
  rw [blk]
  refine sumN_congr 92 (fun i hi => ?_)
  cases h : psetN k (x / 20) (sN i) with
  | false =>
    simp only [h, Bool.false_eq_true, if_false]
    refine (sumN_0 20 (fun m hm => ?_)).symm
    show (if (barsN k x (dishN (20 * i + m)) ed && !decide (2 ≤ c (dishN (20 * i + m)))) = true then 1 else 0) = 0
    rw [dishN_at hm]
    unfold barsN
    rw [show (20 * sN i + m) / 20 = sN i by omega, h]
    rfl
  | true =>
    simp only [h, if_true]
    rw [aloM k x ed c (sN i) (by omega)]
    refine sumN_congr 20 (fun m hm => ?_)
    show _ = (if (barsN k x (dishN (20 * i + m)) ed && !decide (2 ≤ c (dishN (20 * i + m)))) = true then 1 else 0)
    rw [dishN_at hm]
    unfold barsN
    rw [show (20 * sN i + m) / 20 = sN i by omega, h, show (20 * sN i + m) % 20 = m by omega]
    rfl
theorem cnt_pos {p : Nat → Bool} {e : Nat} : ∀ n, e < n → p e = true → 1 ≤ cntN p n
  | n + 1, he, h => by
    rw [cnt_s]
    by_cases q : e = n
    · rw [q] at h; rw [if_pos h]; omega
    · have := cnt_pos n (by omega) h; omega
theorem alN_eq {u : Bu} {e : Nat} (he : e < uN u) : cntN (fun p => barsN (uK u e) (uX u e) (dishN p) (uE u) && !decide (2 ≤ kc u (dishN p))) 1840 = alN u e := by
  refine cnt_congr 1840 (fun p hp => ?_)
  show _ = (barB (uK u) (uX u) (uE u) (dishN p) e && decide (kc u (dishN p) = 1))
  cases h : barB (uK u) (uX u) (uE u) (dishN p) e with
  | false =>
    have h' : barsN (uK u e) (uX u e) (dishN p) (uE u) = false := h
    rw [h']; rfl
  | true =>
    have h' : barsN (uK u e) (uX u e) (dishN p) (uE u) = true := h
    rw [h']
    have h1 : 1 ≤ kc u (dishN p) := by
      unfold kc cB
      rw [if_pos (dishN_ok hp)]
      exact cnt_pos (p := barB (uK u) (uX u) (uE u) (dishN p)) _ he h
    rw [Bool.true_and, Bool.true_and, Bool.eq_iff_iff]
    simp
    omega
set_option maxRecDepth 20000 in
theorem l_alone {G : Gt} {d : Nat} {M : Mm} (hG : gS G = SHAPE) {c : Nat → Nat} {k x ed : Nat} (hk : k < 6) (hx : okD x = true) (he : ed < 4) (hO : OnceIs M c) : ∀ (n i : Nat) (o7 : Option Value), i + n = 92 → Go G (d + 2) mX0_barredAloneBy 17 [some (.ref 27), some (.int (nI k)), some (.int (nI x)), some (.int (nI ed)), some (.int (nI (mbN k (x % 20) ed))), some (.int (nI (sumN (fun j => if psetN k (x / 20) (sN j) then popN (maskN (fun m => (mbN k (x % 20) ed).testBit m && !(agM c (sN j)).testBit m) 20) else 0) i))), some (.int (nI i)), o7] [] M (fun v M' => ∃ r, v = some (.int r) ∧ r = nI (sumN (fun j => if psetN k (x / 20) (sN j) then popN (maskN (fun m => (mbN k (x % 20) ed).testBit m && !(agM c (sN j)).testBit m) 20) else 0) 92) ∧ M' = M) := by
  intro n
  induction n with
  | zero =>
    intro i o7 hin
    have hx5 := okD_lt hx
    refine Go.iload dX0_barredAloneBy_17 rfl ?_
    refine Go.getSets dX0_barredAloneBy_19 (Or.inr fnX0_59) ?_
    refine Go.setsLen dX0_barredAloneBy_22 ?_
    refine Go.icmp_ge 73 dX0_barredAloneBy_23 rfl (fun _ => ?_) (fun h23 => absurd (nI_le (a := 92) (b := i) (by omega) (by omega)) h23)
    refine Go.iload dX0_barredAloneBy_73 rfl ?_
    refine Go.iret dX0_barredAloneBy_75 rfl rfl ?_
    have e9 : i = 92 := by omega
    subst e9
    exact ⟨_, rfl, rfl, rfl⟩
  | succ n ih =>
    intro i o7 hin
    have hi : i < 92 := by omega
    have hx5 := okD_lt hx
    have hsi := okS_lt (setsN_ok i (by omega))
    refine Go.iload dX0_barredAloneBy_17 rfl ?_
    refine Go.getSets dX0_barredAloneBy_19 (Or.inr fnX0_59) ?_
    refine Go.setsLen dX0_barredAloneBy_22 ?_
    refine Go.icmp_ge 73 dX0_barredAloneBy_23 rfl (fun h23 => absurd h23 (nI_ge (a := i) (b := 92) (by omega) (by omega))) (fun _ => ?_)
    refine Go.getSets dX0_barredAloneBy_26 (Or.inr fnX0_59) ?_
    refine Go.iload dX0_barredAloneBy_29 rfl ?_
    refine Go.sets dX0_barredAloneBy_31 (vin (by omega) (by decide)) ?_
    refine Go.eqI (y := nI (sN i)) (by rw [ncl (by omega)]; exact setsF_nI i (by omega)) ?_
    refine Go.istore (ls' := [some (.ref 27), some (.int (nI k)), some (.int (nI x)), some (.int (nI ed)), some (.int (nI (mbN k (x % 20) ed))), some (.int (nI (sumN (fun j => if psetN k (x / 20) (sN j) then popN (maskN (fun m => (mbN k (x % 20) ed).testBit m && !(agM c (sN j)).testBit m) 20) else 0) i))), some (.int (nI i)), some (.int (nI (sN i)))]) dX0_barredAloneBy_32 (Nat.le_of_ble_eq_true rfl) rfl rfl ?_
    refine Go.iload_n dX0_barredAloneBy_34 rfl ?_
    refine Go.iload_n dX0_barredAloneBy_35 rfl ?_
    refine Go.callSI [.int (nI k)] dX0_barredAloneBy_36 lkX0_48 stX6_setOf cbX6_setOf (s_setOf (nI x)) rfl rfl (Nat.le_of_ble_eq_true rfl) (fun r1 M2 hr1 => ?_)
    obtain ⟨er1, emr1⟩ := hr1
    rw [emr1]
    clear emr1 M2
    subst er1
    refine Go.eqI (y := nI (x / 20)) (iset_nI (by omega)) ?_
    refine Go.iload dX0_barredAloneBy_39 rfl ?_
    refine Go.callSI [] dX0_barredAloneBy_41 lkX0_70 stX6_barsSet cbX6_barsSet (s_barsSet (nI k) (nI (x / 20)) (nI (sN i))) rfl rfl (Nat.le_of_ble_eq_true rfl) (fun r3 M4 hr3 => ?_)
    obtain ⟨er3, emr3⟩ := hr3
    rw [emr3]
    clear emr3 M4
    subst er3
    refine Go.eqI (y := bi (psetN k (x / 20) (sN i))) (by rw [bsetI_nI hk (by omega) (by omega)]) ?_
    refine Go.if_eq 67 dX0_barredAloneBy_44 rfl (fun h44 => ?_) (fun h44 => ?_)
    · refine Go.iinc (v := nI (i + 1)) (ls' := [some (.ref 27), some (.int (nI k)), some (.int (nI x)), some (.int (nI ed)), some (.int (nI (mbN k (x % 20) ed))), some (.int (nI (sumN (fun j => if psetN k (x / 20) (sN j) then popN (maskN (fun m => (mbN k (x % 20) ed).testBit m && !(agM c (sN j)).testBit m) 20) else 0) i))), some (.int (nI (i + 1))), some (.int (nI (sN i)))]) dX0_barredAloneBy_67 rfl (nI_1 _) rfl rfl ?_
      refine Go.goto 17 dX0_barredAloneBy_70 rfl ?_
      rw [show nI (sumN (fun j => if psetN k (x / 20) (sN j) then popN (maskN (fun m => (mbN k (x % 20) ed).testBit m && !(agM c (sN j)).testBit m) 20) else 0) i) = nI (sumN (fun j => if psetN k (x / 20) (sN j) then popN (maskN (fun m => (mbN k (x % 20) ed).testBit m && !(agM c (sN j)).testBit m) 20) else 0) (i + 1)) from by rw [sumN, if_neg (by rw [bi_0.mp h44]; decide), Nat.add_zero]]
      exact ih (i + 1) _ (by omega)
    · refine Go.iload dX0_barredAloneBy_47 rfl ?_
      refine Go.iload dX0_barredAloneBy_49 rfl ?_
      refine Go.aload_n dX0_barredAloneBy_51 rfl ?_
      refine Go.getR dX0_barredAloneBy_52 flX0_15 (shp hG rfl) rfl ?_
      refine Go.iload dX0_barredAloneBy_55 rfl ?_
      refine Go.iald dX0_barredAloneBy_57 (shp hG rfl) (vin (by omega) (by decide)) ?_
      refine Go.eqI (y := nI (agM c (sN i))) (by rw [ncl (by omega)]; exact (hO _ (by omega)).2) ?_
      refine Go.iconst (v := -1) dX0_barredAloneBy_58 (by decide) ?_
      refine Go.ixor dX0_barredAloneBy_59 ?_
      refine Go.iand dX0_barredAloneBy_60 ?_
      refine Go.eqI (y := nI (maskN (fun m => (mbN k (x % 20) ed).testBit m && !(agM c (sN i)).testBit m) 20)) (andnotM (maskN_lt _ 20)) ?_
      refine Go.callSI [.int (nI (sumN (fun j => if psetN k (x / 20) (sN j) then popN (maskN (fun m => (mbN k (x % 20) ed).testBit m && !(agM c (sN j)).testBit m) 20) else 0) i))] dX0_barredAloneBy_61 lkX0_74 stJ6_bitCount_0f7a4 cbJ6_bitCount_0f7a4 (s_bitCount (nI (maskN (fun m => (mbN k (x % 20) ed).testBit m && !(agM c (sN i)).testBit m) 20))) rfl rfl (Nat.le_of_ble_eq_true rfl) (fun r5 M6 hr5 => ?_)
      obtain ⟨er5, emr5⟩ := hr5
      rw [emr5]
      clear emr5 M6
      subst er5
      refine Go.eqI (y := nI (popN (maskN (fun m => (mbN k (x % 20) ed).testBit m && !(agM c (sN i)).testBit m) 20))) (pcI_nI (maskN_lt _ 20)) ?_
      refine Go.iadd dX0_barredAloneBy_64 ?_
      refine Go.eqI (y := nI (sumN (fun j => if psetN k (x / 20) (sN j) then popN (maskN (fun m => (mbN k (x % 20) ed).testBit m && !(agM c (sN j)).testBit m) 20) else 0) i + popN (maskN (fun m => (mbN k (x % 20) ed).testBit m && !(agM c (sN i)).testBit m) 20))) (nI_add _ _) ?_
      refine Go.nmI (fun x7 ex7 => ?_)
      refine Go.istore (ls' := [some (.ref 27), some (.int (nI k)), some (.int (nI x)), some (.int (nI ed)), some (.int (nI (mbN k (x % 20) ed))), some (.int x7), some (.int (nI i)), some (.int (nI (sN i)))]) dX0_barredAloneBy_65 (Nat.le_of_ble_eq_true rfl) rfl rfl ?_
      refine Go.iinc (v := nI (i + 1)) (ls' := [some (.ref 27), some (.int (nI k)), some (.int (nI x)), some (.int (nI ed)), some (.int (nI (mbN k (x % 20) ed))), some (.int x7), some (.int (nI (i + 1))), some (.int (nI (sN i)))]) dX0_barredAloneBy_67 rfl (nI_1 _) rfl rfl ?_
      refine Go.goto 17 dX0_barredAloneBy_70 rfl ?_
      rw [ex7]
      rw [show nI (sumN (fun j => if psetN k (x / 20) (sN j) then popN (maskN (fun m => (mbN k (x % 20) ed).testBit m && !(agM c (sN j)).testBit m) 20) else 0) i + popN (maskN (fun m => (mbN k (x % 20) ed).testBit m && !(agM c (sN i)).testBit m) 20)) = nI (sumN (fun j => if psetN k (x / 20) (sN j) then popN (maskN (fun m => (mbN k (x % 20) ed).testBit m && !(agM c (sN j)).testBit m) 20) else 0) (i + 1)) from by rw [sumN, if_pos (bi_n0.mp h44)]]
      exact ih (i + 1) _ (by omega)
set_option maxRecDepth 20000 in
theorem s_alone {G : Gt} {d : Nat} {M : Mm} (hG : gS G = SHAPE) {c : Nat → Nat} {k x ed : Nat} (hk : k < 6) (hx : okD x = true) (he : ed < 4) (hO : OnceIs M c) : ExI G (d + 2) mX0_barredAloneBy [.ref 27, .int (nI k), .int (nI x), .int (nI ed)] M (fun r M' => r = nI (cntN (fun p => barsN k x (dishN p) ed && !decide (2 ≤ c (dishN p))) 1840) ∧ M' = M) := by
  refine Ex.of (by decide) (Nat.le_of_ble_eq_true rfl) ?_
  show Go G (d + 2) mX0_barredAloneBy 0 [some (.ref 27), some (.int (nI k)), some (.int (nI x)), some (.int (nI ed)), none, none, none, none] [] M _
  have hx5 := okD_lt hx
  refine Go.iload_n dX0_barredAloneBy_0 rfl ?_
  refine Go.iload_n dX0_barredAloneBy_1 rfl ?_
  refine Go.callSI [.int (nI k)] dX0_barredAloneBy_2 lkX0_40 stX6_mannerOf cbX6_mannerOf (s_mannerOf (nI x)) rfl rfl (Nat.le_of_ble_eq_true rfl) (fun r1 M2 hr1 => ?_)
  obtain ⟨er1, emr1⟩ := hr1
  rw [emr1]
  clear emr1 M2
  subst er1
  refine Go.eqI (y := nI (x % 20)) (iman_nI (by omega)) ?_
  refine Go.iload_n dX0_barredAloneBy_5 rfl ?_
  refine Go.callSI [] dX0_barredAloneBy_6 lkX0_44 stX6_mannersBarred cbX6_mannersBarred (s_mannersBarred (nI k) (nI (x % 20)) (nI ed)) rfl rfl (Nat.le_of_ble_eq_true rfl) (fun r3 M4 hr3 => ?_)
  obtain ⟨er3, emr3⟩ := hr3
  rw [emr3]
  clear emr3 M4
  subst er3
  refine Go.eqI (y := nI (mbN k (x % 20) ed)) (imb_nI k hk _ (by omega) ed he) ?_
  refine Go.istore (ls' := [some (.ref 27), some (.int (nI k)), some (.int (nI x)), some (.int (nI ed)), some (.int (nI (mbN k (x % 20) ed))), none, none, none]) dX0_barredAloneBy_9 (Nat.le_of_ble_eq_true rfl) rfl rfl ?_
  refine Go.iconst (v := 0) dX0_barredAloneBy_11 (by decide) ?_
  refine Go.istore (ls' := [some (.ref 27), some (.int (nI k)), some (.int (nI x)), some (.int (nI ed)), some (.int (nI (mbN k (x % 20) ed))), some (.int 0), none, none]) dX0_barredAloneBy_12 (Nat.le_of_ble_eq_true rfl) rfl rfl ?_
  refine Go.iconst (v := 0) dX0_barredAloneBy_14 (by decide) ?_
  refine Go.istore (ls' := [some (.ref 27), some (.int (nI k)), some (.int (nI x)), some (.int (nI ed)), some (.int (nI (mbN k (x % 20) ed))), some (.int 0), some (.int 0), none]) dX0_barredAloneBy_15 (Nat.le_of_ble_eq_true rfl) rfl rfl ?_
  rw [← cnt_alone]
  exact l_alone hG hk hx he hO 92 0 _ (by omega)
def knA (F : Nat → Nat) (n : Nat) : Int32 := match kn F n with
  | some b => nI b
  | none => -1
def knM (F : Nat → Nat) (n : Nat) : Int32 := match kn F n with
  | some b => nI (F b)
  | none => -1
theorem kn_gt {F : Nat → Nat} {n : Nat} (hF : ∀ e, F e ≤ 1840) (h : ¬ nI (F n) ≤ knM F n) : knA F (n + 1) = nI n ∧ knM F (n + 1) = nI (F n) := by
  unfold knA knM at *
  rw [kn]
  cases h1 : kn F n with
  | none => exact ⟨rfl, rfl⟩
  | some b =>
    rw [h1] at h
    have h2 : F b < F n := by
      have a := hF b
      have b' := hF n
      have : ¬ F n ≤ F b := fun q => h ((nI_leI (a := F n) (b := F b) (by omega) (by omega)).mpr q)
      omega
    simp only [if_pos h2]
    exact ⟨trivial, trivial⟩
theorem kn_le {F : Nat → Nat} {n : Nat} (hF : ∀ e, F e ≤ 1840) (h : nI (F n) ≤ knM F n) : knA F (n + 1) = knA F n ∧ knM F (n + 1) = knM F n := by
  unfold knA knM at *
  rw [kn]
  cases h1 : kn F n with
  | none =>
    rw [h1] at h
    have h2 : nI (F n) ≤ (-1 : Int32) := h
    rw [i_le, nI_toInt (by have := hF n; omega)] at h2
    have e1 : ((-1 : Int32)).toInt = -1 := by decide
    omega
  | some b =>
    rw [h1] at h
    have h2 : ¬ F b < F n := by
      have a := hF b
      have b' := hF n
      have := (nI_leI (a := F n) (b := F b) (by omega) (by omega)).mp h
      omega
    simp only [if_neg h2]
    exact ⟨trivial, trivial⟩
theorem alN_le (u : Bu) (e : Nat) : alN u e ≤ 1840 := cnt_le _ _
theorem k_alone {G : Gt} {d : Nat} {M : Mm} (hG : gS G = SHAPE) {g : Sg} (hK : KS M (uS (gU g)) (kc (gU g)) (lk (gU g)) (uE (gU g))) (hg : SgOk g) {i : Nat} (hi : i < uN (gU g)) : ExI G (d + 2) mX0_barredAloneBy [.ref 27, .int (nI (uK (gU g) i)), .int (nI (uX (gU g) i)), .int (nI (uE (gU g)))] M (fun r M' => r = nI (alN (gU g) i) ∧ M' = M) := by
  obtain ⟨f', lt, lw, ls, ⟨⟨fv, h1⟩, _⟩, h2, h3⟩ := hK
  rw [← alN_eq hi]
  exact s_alone hG (hg.1.2.2.1 i hi).1 (hg.1.2.2.1 i hi).2 hg.1.2.1 h1.1
set_option maxRecDepth 20000 in
theorem l_keenC {G : Gt} {d : Nat} {M0 M : Mm} (hG : gS G = SHAPE) {g : Sg} (hC : CompIs M g) (hg : SgOk g) (hm : MSame M0 M) (hK : KS M (uS (gU g)) (kc (gU g)) (lk (gU g)) (uE (gU g))) : ∀ (n i : Nat) (o4 : Option Value), i + n = (uN (gU g)) → Go G (d + 3) mX6_keenest 17 [some (.ref 0), some (.int (knA (alN (gU g)) i)), some (.int (knM (alN (gU g)) i)), some (.int (nI i)), o4] [] M (fun v M' => ∃ r, v = some (.int r) ∧ r = (A_keenest g).1 ∧ CompIs M' (A_keenest g).2 ∧ MSame M0 M') := by
  intro n
  induction n with
  | zero =>
    intro i o4 hin
    have hB := hC.1.bk hg.1
    have hn30 := hg.1.1
    refine Go.iload_n dX6_keenest_17 rfl ?_
    refine Go.aload_n dX6_keenest_18 rfl ?_
    refine Go.getR dX6_keenest_19 flX6_12 (shp hG rfl) rfl ?_
    refine Go.getI dX6_keenest_22 flX6_148 (shp hG rfl) rfl ?_
    refine Go.eqI (y := nI (uN (gU g))) (hB.2.2.1) ?_
    refine Go.icmp_ge 82 dX6_keenest_25 rfl (fun _ => ?_) (fun h25 => absurd (nI_le (a := uN (gU g)) (b := i) (by omega) (by omega)) h25)
    refine Go.aload_n dX6_keenest_82 rfl ?_
    refine Go.iload_n dX6_keenest_83 rfl ?_
    refine Go.callVI [] dX6_keenest_84 lkX6_137 imX6_orNone seX6_orNone cbX6_orNone (s_orNone hG (knA (alN (gU g)) i)) (shp hG rfl) rfl rfl rfl (Nat.le_of_ble_eq_true rfl) (fun r1 M2 hr1 => ?_)
    refine Go.iret dX6_keenest_87 rfl rfl ?_
    have e9 : i = uN (gU g) := by omega
    subst e9
    exact ⟨_, rfl, orn_c hm hC (show knA (alN (gU g)) (uN (gU g)) = optI (-1) (kn (alN (gU g)) (uN (gU g))) from by unfold knA; cases kn (alN (gU g)) (uN (gU g)) <;> rfl) (fun b hb => by have := kn_lt _ _ b hb; omega) hr1⟩
  | succ n ih =>
    intro i o4 hin
    have hi : i < (uN (gU g)) := by omega
    have hB := hC.1.bk hg.1
    have hn30 := hg.1.1
    refine Go.iload_n dX6_keenest_17 rfl ?_
    refine Go.aload_n dX6_keenest_18 rfl ?_
    refine Go.getR dX6_keenest_19 flX6_12 (shp hG rfl) rfl ?_
    refine Go.getI dX6_keenest_22 flX6_148 (shp hG rfl) rfl ?_
    refine Go.eqI (y := nI (uN (gU g))) (hB.2.2.1) ?_
    refine Go.icmp_ge 82 dX6_keenest_25 rfl (fun h25 => absurd h25 (nI_ge (a := i) (b := uN (gU g)) (by omega) (by omega))) (fun _ => ?_)
    refine Go.aload_n dX6_keenest_28 rfl ?_
    refine Go.getR dX6_keenest_29 flX6_29 (shp hG rfl) rfl ?_
    refine Go.getR dX6_keenest_32 flX6_122 (shp hG rfl) rfl ?_
    refine Go.aload_n dX6_keenest_35 rfl ?_
    refine Go.getR dX6_keenest_36 flX6_12 (shp hG rfl) rfl ?_
    refine Go.getR dX6_keenest_39 flX6_152 (shp hG rfl) rfl ?_
    refine Go.iload_n dX6_keenest_42 rfl ?_
    refine Go.iald dX6_keenest_43 (shp hG rfl) (vin (by omega) (by decide)) ?_
    refine Go.eqI (y := nI (uK (gU g) i)) (by rw [ncl (by omega)]; exact (hC.1.2.2.2.2.2.2.2 i (by omega)).1) ?_
    refine Go.aload_n dX6_keenest_44 rfl ?_
    refine Go.getR dX6_keenest_45 flX6_12 (shp hG rfl) rfl ?_
    refine Go.getR dX6_keenest_48 flX6_155 (shp hG rfl) rfl ?_
    refine Go.iload_n dX6_keenest_51 rfl ?_
    refine Go.iald dX6_keenest_52 (shp hG rfl) (vin (by omega) (by decide)) ?_
    refine Go.eqI (y := nI (uX (gU g) i)) (by rw [ncl (by omega)]; exact (hC.1.2.2.2.2.2.2.2 i (by omega)).2.1) ?_
    refine Go.aload_n dX6_keenest_53 rfl ?_
    refine Go.getR dX6_keenest_54 flX6_12 (shp hG rfl) rfl ?_
    refine Go.getI dX6_keenest_57 flX6_161 (shp hG rfl) rfl ?_
    refine Go.eqI (y := nI (uE (gU g))) (hB.2.2.2.1) ?_
    refine Go.callVI [] dX6_keenest_60 lkX6_181 imX0_barredAloneBy seX0_barredAloneBy cbX0_barredAloneBy (k_alone hG hK (hg := hg) (i := i) (by omega)) (shp hG rfl) rfl rfl rfl (Nat.le_of_ble_eq_true rfl) (fun r1 M2 hr1 => ?_)
    obtain ⟨er1, emr1⟩ := hr1
    rw [emr1]
    clear emr1 M2
    subst er1
    refine Go.istore (ls' := [some (.ref 0), some (.int (knA (alN (gU g)) i)), some (.int (knM (alN (gU g)) i)), some (.int (nI i)), some (.int (nI (alN (gU g) i)))]) dX6_keenest_63 (Nat.le_of_ble_eq_true rfl) rfl rfl ?_
    refine Go.iload dX6_keenest_65 rfl ?_
    refine Go.iload_n dX6_keenest_67 rfl ?_
    refine Go.icmp_le 76 dX6_keenest_68 rfl (fun h68 => ?_) (fun h68 => ?_)
    · refine Go.iinc (v := nI (i + 1)) (ls' := [some (.ref 0), some (.int (knA (alN (gU g)) i)), some (.int (knM (alN (gU g)) i)), some (.int (nI (i + 1))), some (.int (nI (alN (gU g) i)))]) dX6_keenest_76 rfl (nI_1 _) rfl rfl ?_
      refine Go.goto 17 dX6_keenest_79 rfl ?_
      have h9 := kn_le (alN_le (gU g)) h68
      rw [← h9.1, ← h9.2]
      exact ih (i + 1) _ (by omega)
    · refine Go.iload dX6_keenest_71 rfl ?_
      refine Go.istore_n (ls' := [some (.ref 0), some (.int (knA (alN (gU g)) i)), some (.int (nI (alN (gU g) i))), some (.int (nI i)), some (.int (nI (alN (gU g) i)))]) dX6_keenest_73 (Nat.le_of_ble_eq_true rfl) rfl rfl ?_
      refine Go.iload_n dX6_keenest_74 rfl ?_
      refine Go.istore_n (ls' := [some (.ref 0), some (.int (nI i)), some (.int (nI (alN (gU g) i))), some (.int (nI i)), some (.int (nI (alN (gU g) i)))]) dX6_keenest_75 (Nat.le_of_ble_eq_true rfl) rfl rfl ?_
      refine Go.iinc (v := nI (i + 1)) (ls' := [some (.ref 0), some (.int (nI i)), some (.int (nI (alN (gU g) i))), some (.int (nI (i + 1))), some (.int (nI (alN (gU g) i)))]) dX6_keenest_76 rfl (nI_1 _) rfl rfl ?_
      refine Go.goto 17 dX6_keenest_79 rfl ?_
      have h9 := kn_gt (alN_le (gU g)) h68
      rw [← h9.1, ← h9.2]
      exact ih (i + 1) _ (by omega)
set_option maxRecDepth 20000 in
theorem c_keenest {G : Gt} {d : Nat} {M : Mm} (hG : gS G = SHAPE) {g : Sg} (hC : CompIs M g) (hg : SgOk g)  : ExI G (d + 4) mX6_keenest [.ref 0] M (fun r M' => r = (A_keenest g).1 ∧ CompIs M' (A_keenest g).2 ∧ MSame M M') := by
  refine Ex.of (by decide) (Nat.le_of_ble_eq_true rfl) ?_
  show Go G (d + 4) mX6_keenest 0 [some (.ref 0), none, none, none, none] [] M _
  refine Go.aload_n dX6_keenest_0 rfl ?_
  refine Go.getR dX6_keenest_1 flX6_29 (shp hG rfl) rfl ?_
  refine Go.aload_n dX6_keenest_4 rfl ?_
  refine Go.getR dX6_keenest_5 flX6_12 (shp hG rfl) rfl ?_
  refine Go.callVV [] dX6_keenest_8 lkX6_114 imX2_begin seX2_begin cbX2_begin (k_begin hG hC hg) (shp hG rfl) rfl rfl rfl (Nat.le_of_ble_eq_true rfl) (fun M2 hr1 => ?_)
  obtain ⟨hCk, hmk, hkck, hKk⟩ := hr1
  refine Go.iconst (v := -1) dX6_keenest_11 (by decide) ?_
  refine Go.istore_n (ls' := [some (.ref 0), some (.int ((-1))), none, none, none]) dX6_keenest_12 (Nat.le_of_ble_eq_true rfl) rfl rfl ?_
  refine Go.iconst (v := -1) dX6_keenest_13 (by decide) ?_
  refine Go.istore_n (ls' := [some (.ref 0), some (.int ((-1))), some (.int ((-1))), none, none]) dX6_keenest_14 (Nat.le_of_ble_eq_true rfl) rfl rfl ?_
  refine Go.iconst (v := 0) dX6_keenest_15 (by decide) ?_
  refine Go.istore_n (ls' := [some (.ref 0), some (.int ((-1))), some (.int ((-1))), some (.int 0), none]) dX6_keenest_16 (Nat.le_of_ble_eq_true rfl) rfl rfl ?_
  exact l_keenC hG hCk hg hmk hKk (uN (gU g)) 0 _ (by omega)
