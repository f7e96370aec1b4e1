theorem vin6 {k : Int32} {n : Nat} (h : inb k (nI n) = true) (hn : n < 2 ^ 31 := by decide) : vp_in k n := by
  simp only [inb, Bool.and_eq_true, decide_eq_true_eq] at h
  rw [vp_in_iff]
  have h1 := h.1
  have h2 := h.2
  rw [i_le] at h1
  rw [i_lt, nI_toInt hn] at h2
  exact ⟨h1, h2⟩
set_option maxRecDepth 20000 in
theorem l_isOfKind {G : Gt} {d : Nat} {M : Mm} {kd b : Int32} : ∀ (n i : Nat) (k : Int32), i + n = 6 → upK 6 kd b = upK n k b → Go G (d + 1) mX6_isOfKind 4 [some (.int kd), some (.int b), some (.int k), some (.int (nI i))] [] M (fun v M' => ∃ r, v = some (.int r) ∧ r = bi (upK 6 kd b) ∧ M' = M) := by
  intro n
  induction n with
  | zero =>
    intro i k hin hf
    refine Go.iload_n dX6_isOfKind_4 rfl ?_
    refine Go.bipush (v := 6) dX6_isOfKind_5 (by decide) ?_
    refine Go.icmp_ge 38 dX6_isOfKind_7 rfl (fun _ => ?_) (fun h7 => absurd (nI_le (a := 6) (b := i) (by omega) (by omega)) h7)
    refine Go.iconst (v := 0) dX6_isOfKind_38 (by decide) ?_
    refine Go.iret dX6_isOfKind_39 rfl (by decide) ?_
    exact ⟨_, rfl, by rw [hf]; rfl, rfl⟩
  | succ n ih =>
    intro i k hin hf
    have hi : i < 6 := by omega
    refine Go.iload_n dX6_isOfKind_4 rfl ?_
    refine Go.bipush (v := 6) dX6_isOfKind_5 (by decide) ?_
    refine Go.icmp_ge 38 dX6_isOfKind_7 rfl (fun h7 => absurd h7 (nI_ge (a := i) (b := 6) (by omega) (by decide))) (fun _ => ?_)
    refine Go.iload_n dX6_isOfKind_10 rfl ?_
    refine Go.bipush (v := 6) dX6_isOfKind_11 (by decide) ?_
    refine Go.callSI [] dX6_isOfKind_13 lkX6_58 stX6_isBelow cbX6_isBelow (s_isBelow k 6) rfl rfl (Nat.le_of_ble_eq_true rfl) (fun r1 M2 hr1 => ?_)
    obtain ⟨er1, emr1⟩ := hr1
    rw [emr1]
    clear emr1 M2
    subst er1
    refine Go.if_eq 38 dX6_isOfKind_16 rfl (fun h16 => ?_) (fun h16 => ?_)
    · refine Go.iconst (v := 0) dX6_isOfKind_38 (by decide) ?_
      refine Go.iret dX6_isOfKind_39 rfl (by decide) ?_
      exact ⟨_, rfl, by rw [hf, upK, if_neg (by rw [bi_0.mp h16]; decide)]; rfl, rfl⟩
    · refine Go.iload_n dX6_isOfKind_19 rfl ?_
      refine Go.iload_n dX6_isOfKind_20 rfl ?_
      refine Go.icmp_ne 26 dX6_isOfKind_21 rfl (fun h21 => ?_) (fun h21 => ?_)
      · refine Go.getAbove dX6_isOfKind_26 fsX6_298 ?_
        refine Go.iload_n dX6_isOfKind_29 rfl ?_
        refine Go.above dX6_isOfKind_30 (vin6 (bi_n0.mp h16)) ?_
        refine Go.nmI (fun x3 ex3 => ?_)
        refine Go.istore_n (ls' := [some (.int kd), some (.int b), some (.int x3), some (.int (nI i))]) dX6_isOfKind_31 (Nat.le_of_ble_eq_true rfl) rfl rfl ?_
        refine Go.iinc (v := nI (i + 1)) (ls' := [some (.int kd), some (.int b), some (.int x3), some (.int (nI (i + 1)))]) dX6_isOfKind_32 rfl (nI_1 _) rfl rfl ?_
        refine Go.goto 4 dX6_isOfKind_35 rfl ?_
        rw [ex3] at *
        exact ih (i + 1) _ (by omega) (by rw [hf, upK, if_pos (bi_n0.mp h16), if_neg h21])
      · refine Go.iconst (v := 1) dX6_isOfKind_24 (by decide) ?_
        refine Go.iret dX6_isOfKind_25 rfl (by decide) ?_
        exact ⟨_, rfl, by rw [hf, upK, if_pos (bi_n0.mp h16), if_pos h21]; rfl, rfl⟩
set_option maxRecDepth 20000 in
theorem s_isOfKind {G : Gt} {d : Nat} {M : Mm} (kd b : Int32) : ExI G (d + 1) mX6_isOfKind [.int kd, .int b] M (fun r M' => r = bi (upK 6 kd b) ∧ M' = M) := by
  refine Ex.of (by decide) (Nat.le_of_ble_eq_true rfl) ?_
  show Go G (d + 1) mX6_isOfKind 0 [some (.int kd), some (.int b), none, none] [] M _
  refine Go.iload_n dX6_isOfKind_0 rfl ?_
  refine Go.istore_n (ls' := [some (.int kd), some (.int b), some (.int kd), none]) dX6_isOfKind_1 (Nat.le_of_ble_eq_true rfl) rfl rfl ?_
  refine Go.iconst (v := 0) dX6_isOfKind_2 (by decide) ?_
  refine Go.istore_n (ls' := [some (.int kd), some (.int b), some (.int kd), some (.int 0)]) dX6_isOfKind_3 (Nat.le_of_ble_eq_true rfl) rfl rfl ?_
  exact l_isOfKind 6 0 kd (by omega) rfl
set_option maxRecDepth 20000 in
theorem l_howManyBars {G : Gt} {d : Nat} {M : Mm} {k x ed : Nat} (hk : k < 6) (hx : okD x = true) (he : ed < 4) : ∀ (n i : Nat), i + n = 92 → Go G (d + 2) mX6_howManyBars 5 [some (.int (nI k)), some (.int (nI x)), some (.int (nI ed)), some (.int (nI (cntN (fun j => psetN k (x / 20) (sN j)) i))), some (.int (nI i))] [] M (fun v M' => ∃ r, v = some (.int r) ∧ r = nI (cntN (fun j => psetN k (x / 20) (sN j)) 92 * popN (mbN k (x % 20) ed)) ∧ M' = M) := by
  intro n
  induction n with
  | zero =>
    intro i  hin
    have hx5 := okD_lt hx
    refine Go.iload dX6_howManyBars_5 rfl ?_
    refine Go.getSets dX6_howManyBars_7 (Or.inl fsX6_322) ?_
    refine Go.setsLen dX6_howManyBars_10 ?_
    refine Go.icmp_ge 40 dX6_howManyBars_11 rfl (fun _ => ?_) (fun h11 => absurd (nI_le (a := 92) (b := i) (by omega) (by omega)) h11)
    refine Go.iload_n dX6_howManyBars_40 rfl ?_
    refine Go.iload_n dX6_howManyBars_41 rfl ?_
    refine Go.iload_n dX6_howManyBars_42 rfl ?_
    refine Go.callSI [.int (nI k), .int (nI (cntN (fun j => psetN k (x / 20) (sN j)) i))] dX6_howManyBars_43 lkX6_313 stX6_mannerOf cbX6_mannerOf (s_mannerOf (nI x)) rfl rfl (Nat.le_of_ble_eq_true rfl) (fun r1 M2 hr1 => ?_)
    obtain ⟨er1, emr1⟩ := hr1
    rw [emr1]
    clear emr1 M2
    subst er1
    refine Go.eqI (y := nI (x % 20)) (iman_nI (by omega)) ?_
    refine Go.iload_n dX6_howManyBars_46 rfl ?_
    refine Go.callSI [.int (nI (cntN (fun j => psetN k (x / 20) (sN j)) i))] dX6_howManyBars_47 lkX6_316 stX6_mannersBarred cbX6_mannersBarred (s_mannersBarred (nI k) (nI (x % 20)) (nI ed)) rfl rfl (Nat.le_of_ble_eq_true rfl) (fun r3 M4 hr3 => ?_)
    obtain ⟨er3, emr3⟩ := hr3
    rw [emr3]
    clear emr3 M4
    subst er3
    refine Go.eqI (y := nI (mbN k (x % 20) ed)) (imb_nI k hk _ (by omega) ed he) ?_
    refine Go.callSI [.int (nI (cntN (fun j => psetN k (x / 20) (sN j)) i))] dX6_howManyBars_50 lkX6_293 stJ6_bitCount_0f7a4 cbJ6_bitCount_0f7a4 (s_bitCount (nI (mbN k (x % 20) ed))) rfl rfl (Nat.le_of_ble_eq_true rfl) (fun r5 M6 hr5 => ?_)
    obtain ⟨er5, emr5⟩ := hr5
    rw [emr5]
    clear emr5 M6
    subst er5
    refine Go.eqI (y := nI (popN (mbN k (x % 20) ed))) (pcI_nI (maskN_lt _ 20)) ?_
    refine Go.imul dX6_howManyBars_53 ?_
    refine Go.eqI (y := nI (cntN (fun j => psetN k (x / 20) (sN j)) i * popN (mbN k (x % 20) ed))) (pk_mul _ _) ?_
    refine Go.iret dX6_howManyBars_54 rfl rfl ?_
    have e9 : i = 92 := by omega
    subst e9
    exact ⟨_, rfl, rfl, rfl⟩
  | succ n ih =>
    intro i  hin
    have hi : i < 92 := by omega
    have hx5 := okD_lt hx
    have hsi := okS_lt (setsN_ok i (by omega))
    refine Go.iload dX6_howManyBars_5 rfl ?_
    refine Go.getSets dX6_howManyBars_7 (Or.inl fsX6_322) ?_
    refine Go.setsLen dX6_howManyBars_10 ?_
    refine Go.icmp_ge 40 dX6_howManyBars_11 rfl (fun h11 => absurd h11 (nI_ge (a := i) (b := 92) (by omega) (by omega))) (fun _ => ?_)
    refine Go.iload_n dX6_howManyBars_14 rfl ?_
    refine Go.iload_n dX6_howManyBars_15 rfl ?_
    refine Go.callSI [.int (nI k)] dX6_howManyBars_16 lkX6_89 stX6_setOf cbX6_setOf (s_setOf (nI x)) rfl rfl (Nat.le_of_ble_eq_true rfl) (fun r1 M2 hr1 => ?_)
    obtain ⟨er1, emr1⟩ := hr1
    rw [emr1]
    clear emr1 M2
    subst er1
    refine Go.eqI (y := nI (x / 20)) (iset_nI (by omega)) ?_
    refine Go.getSets dX6_howManyBars_19 (Or.inl fsX6_322) ?_
    refine Go.iload dX6_howManyBars_22 rfl ?_
    refine Go.sets dX6_howManyBars_24 (vin (by omega) (by decide)) ?_
    refine Go.eqI (y := nI (sN i)) (by rw [ncl (by omega)]; exact setsF_nI i (by omega)) ?_
    refine Go.callSI [] dX6_howManyBars_25 lkX6_309 stX6_barsSet cbX6_barsSet (s_barsSet (nI k) (nI (x / 20)) (nI (sN i))) rfl rfl (Nat.le_of_ble_eq_true rfl) (fun r3 M4 hr3 => ?_)
    obtain ⟨er3, emr3⟩ := hr3
    rw [emr3]
    clear emr3 M4
    subst er3
    refine Go.eqI (y := bi (psetN k (x / 20) (sN i))) (by rw [bsetI_nI hk (by omega) (by omega)]) ?_
    refine Go.if_eq 34 dX6_howManyBars_28 rfl (fun h28 => ?_) (fun h28 => ?_)
    · refine Go.iinc (v := nI (i + 1)) (ls' := [some (.int (nI k)), some (.int (nI x)), some (.int (nI ed)), some (.int (nI (cntN (fun j => psetN k (x / 20) (sN j)) i))), some (.int (nI (i + 1)))]) dX6_howManyBars_34 rfl (nI_1 _) rfl rfl ?_
      refine Go.goto 5 dX6_howManyBars_37 rfl ?_
      rw [cnt_f (p := fun j => psetN k (x / 20) (sN j)) (i := i) (bi_0.mp h28)]
      exact ih (i + 1) (by omega)
    · refine Go.iinc (v := nI (cntN (fun j => psetN k (x / 20) (sN j)) i + 1)) (ls' := [some (.int (nI k)), some (.int (nI x)), some (.int (nI ed)), some (.int (nI (cntN (fun j => psetN k (x / 20) (sN j)) i + 1))), some (.int (nI i))]) dX6_howManyBars_31 rfl (nI_1 _) rfl rfl ?_
      refine Go.iinc (v := nI (i + 1)) (ls' := [some (.int (nI k)), some (.int (nI x)), some (.int (nI ed)), some (.int (nI (cntN (fun j => psetN k (x / 20) (sN j)) i + 1))), some (.int (nI (i + 1)))]) dX6_howManyBars_34 rfl (nI_1 _) rfl rfl ?_
      refine Go.goto 5 dX6_howManyBars_37 rfl ?_
      rw [cnt_t (p := fun j => psetN k (x / 20) (sN j)) (i := i) (bi_n0.mp h28)]
      exact ih (i + 1) (by omega)
set_option maxRecDepth 20000 in
theorem s_howManyBars {G : Gt} {d : Nat} {M : Mm} {k x ed : Nat} (hk : k < 6) (hx : okD x = true) (he : ed < 4) : ExI G (d + 2) mX6_howManyBars [.int (nI k), .int (nI x), .int (nI ed)] M (fun r M' => r = nI (cntN (fun j => psetN k (x / 20) (sN j)) 92 * popN (mbN k (x % 20) ed)) ∧ M' = M) := by
  refine Ex.of (by decide) (Nat.le_of_ble_eq_true rfl) ?_
  show Go G (d + 2) mX6_howManyBars 0 [some (.int (nI k)), some (.int (nI x)), some (.int (nI ed)), none, none] [] M _
  refine Go.iconst (v := 0) dX6_howManyBars_0 (by decide) ?_
  refine Go.istore_n (ls' := [some (.int (nI k)), some (.int (nI x)), some (.int (nI ed)), some (.int 0), none]) dX6_howManyBars_1 (Nat.le_of_ble_eq_true rfl) rfl rfl ?_
  refine Go.iconst (v := 0) dX6_howManyBars_2 (by decide) ?_
  refine Go.istore (ls' := [some (.int (nI k)), some (.int (nI x)), some (.int (nI ed)), some (.int 0), some (.int 0)]) dX6_howManyBars_3 (Nat.le_of_ble_eq_true rfl) rfl rfl ?_
  exact l_howManyBars hk hx he 92 0 (by omega)
theorem andnotM {a b : Nat} (ha : a < 2 ^ 20) : (nI a &&& (nI b ^^^ (-1))) = nI (maskN (fun i => a.testBit i && !b.testBit i) 20) := by
  apply Int32.toBitVec_inj.mp
  apply BitVec.eq_of_getLsbD_eq
  intro i hi
  rw [bv_nI _ _ hi, maskN_bit, Int32.toBitVec_and, Int32.toBitVec_xor, BitVec.getLsbD_and, BitVec.getLsbD_xor, bv_nI _ _ hi, bv_nI _ _ hi]
  have : (-1 : Int32).toBitVec.getLsbD i = true := by
    have h9 : ∀ i, i < 32 → (-1 : Int32).toBitVec.getLsbD i = true := by decide +kernel
    exact h9 i hi
  rw [this]
  by_cases h : i < 20
  · simp [h]
  · have : a.testBit i = false := Nat.testBit_lt_two_pow (Nat.lt_of_lt_of_le ha (Nat.pow_le_pow_right (by decide) (by omega)))
    simp [this]
def goodP (f : Nat → Int32) (c : Nat → Nat) (x : Nat) : Bool := canN f (x / 20) && decide (c x = 0)
def svM (f : Nat → Int32) (c : Nat → Nat) (s : Nat) : Nat := if canN f s then maskN (fun m => decide (c (20 * s + m) = 0)) 20 else 0
theorem svM_lt (f : Nat → Int32) (c : Nat → Nat) (s : Nat) : svM f c s < 2 ^ 20 := by
  unfold svM
  split
  · exact maskN_lt _ 20
  · decide
theorem svM_bit (f : Nat → Int32) (c : Nat → Nat) (s m : Nat) (hm : m < 20) : (svM f c s).testBit m = goodP f c (20 * s + m) := by
  unfold svM goodP
  rw [show (20 * s + m) / 20 = s by omega]
  split
  · rename_i h
    rw [maskN_bit, h]
    simp [hm]
  · rename_i h
    have : canN f s = false := by simpa using h
    rw [this]
    simp
theorem svM_eq {c : Nat → Nat} {s : Nat} : (1048575 &&& (nI (onM c s) ^^^ (-1))) = nI (maskN (fun m => decide (c (20 * s + m) = 0)) 20) := by
  rw [show (1048575 : Int32) = nI 1048575 from rfl, andnotM (by decide)]
  congr 1
  apply maskN_congr
  intro i hi
  have h1 : ∀ i, i < 20 → (1048575 : Nat).testBit i = true := by decide +kernel
  rw [h1 i hi]
  unfold onM
  rw [maskN_bit]
  simp only [hi, decide_true, Bool.true_and]
  by_cases h : c (20 * s + i) = 0
  · simp [h]
  · have : 1 ≤ c (20 * s + i) := by omega
    simp [h, this]
theorem can_iff {f : Nat → Int32} {s : Nat} (hs : s < 256) : (nI s &&& (nI (maskN (posN f) 8) ^^^ (-1))) = 0 ↔ canN f s = true := (andnot (by omega)).trans (canN_mask hs)
theorem can_f {f : Nat → Int32} {s : Nat} (hs : s < 256) (h : ¬ (nI s &&& (nI (maskN (posN f) 8) ^^^ (-1))) = 0) : canN f s = false := by
  cases h6 : canN f s with
  | false => rfl
  | true => exact absurd ((can_iff hs).mpr h6) h
set_option maxRecDepth 20000 in
theorem s_servableManners {G : Gt} {d : Nat} {M : Mm} (hG : gS G = SHAPE) {c : Nat → Nat} {s : Nat} (hs : s < 256) (hO : OnceIs M c) : ExI G (d) mX2_servableManners [.ref 25, .int (nI s), .int (nI (maskN (posN (M.1 26)) 8))] M (fun r M' => r = nI (svM (M.1 26) c s) ∧ M' = M) := by
  refine Ex.of (by decide) (Nat.le_of_ble_eq_true rfl) ?_
  show Go G (d) mX2_servableManners 0 [some (.ref 25), some (.int (nI s)), some (.int (nI (maskN (posN (M.1 26)) 8)))] [] M _
  refine Go.iload_n dX2_servableManners_0 rfl ?_
  refine Go.iload_n dX2_servableManners_1 rfl ?_
  refine Go.iconst (v := -1) dX2_servableManners_2 (by decide) ?_
  refine Go.ixor dX2_servableManners_3 ?_
  refine Go.iand dX2_servableManners_4 ?_
  refine Go.if_ne 25 dX2_servableManners_5 rfl (fun h5 => ?_) (fun h5 => ?_)
  · refine Go.iconst (v := 0) dX2_servableManners_25 (by decide) ?_
    refine Go.iret dX2_servableManners_26 rfl rfl ?_
    refine ⟨_, rfl, ?_, rfl⟩
    rw [svM, can_f hs h5]
    rfl
  · refine Go.ldc dX2_servableManners_8 kcX2_38 ?_
    refine Go.aload_n dX2_servableManners_10 rfl ?_
    refine Go.getR dX2_servableManners_11 flX2_18 (shp hG rfl) rfl ?_
    refine Go.getR dX2_servableManners_14 flX2_95 (shp hG rfl) rfl ?_
    refine Go.iload_n dX2_servableManners_17 rfl ?_
    refine Go.iald dX2_servableManners_18 (shp hG rfl) (vin (by omega) (by decide)) ?_
    refine Go.eqI (y := nI (onM c s)) (by rw [ncl (by omega)]; exact (hO s hs).1) ?_
    refine Go.iconst (v := -1) dX2_servableManners_19 (by decide) ?_
    refine Go.ixor dX2_servableManners_20 ?_
    refine Go.iand dX2_servableManners_21 ?_
    refine Go.goto 26 dX2_servableManners_22 rfl ?_
    refine Go.iret dX2_servableManners_26 rfl rfl ?_
    refine ⟨_, rfl, ?_, rfl⟩
    rw [svM, (can_iff hs).mp h5, if_pos rfl]
    exact svM_eq
set_option maxRecDepth 20000 in
theorem l_possible {G : Gt} {d : Nat} {M : Mm} (hG : gS G = SHAPE) : ∀ (n i : Nat), i + n = 92 → Go G (d) mX2_possible 12 [some (.ref 25), some (.int (nI (maskN (posN (M.1 26)) 8))), some (.int (nI (cntN (fun j => canN (M.1 26) (sN j)) i))), some (.int (nI i))] [] M (fun v M' => ∃ r, v = some (.int r) ∧ r = nI (cntN (fun j => canN (M.1 26) (sN j)) 92 * 20) ∧ M' = M) := by
  intro n
  induction n with
  | zero =>
    intro i  hin
    refine Go.iload_n dX2_possible_12 rfl ?_
    refine Go.getSets dX2_possible_13 (Or.inr fnX2_75) ?_
    refine Go.setsLen dX2_possible_16 ?_
    refine Go.icmp_ge 41 dX2_possible_17 rfl (fun _ => ?_) (fun h17 => absurd (nI_le (a := 92) (b := i) (by omega) (by omega)) h17)
    refine Go.iload_n dX2_possible_41 rfl ?_
    refine Go.bipush (v := 20) dX2_possible_42 (by decide) ?_
    refine Go.imul dX2_possible_44 ?_
    refine Go.eqI (y := nI (cntN (fun j => canN (M.1 26) (sN j)) i * 20)) (pk_mul _ _) ?_
    refine Go.iret dX2_possible_45 rfl rfl ?_
    have e9 : i = 92 := by omega
    subst e9
    exact ⟨_, rfl, rfl, rfl⟩
  | succ n ih =>
    intro i  hin
    have hi : i < 92 := by omega
    have hsi := okS_lt (setsN_ok i (by omega))
    refine Go.iload_n dX2_possible_12 rfl ?_
    refine Go.getSets dX2_possible_13 (Or.inr fnX2_75) ?_
    refine Go.setsLen dX2_possible_16 ?_
    refine Go.icmp_ge 41 dX2_possible_17 rfl (fun h17 => absurd h17 (nI_ge (a := i) (b := 92) (by omega) (by omega))) (fun _ => ?_)
    refine Go.getSets dX2_possible_20 (Or.inr fnX2_75) ?_
    refine Go.iload_n dX2_possible_23 rfl ?_
    refine Go.sets dX2_possible_24 (vin (by omega) (by decide)) ?_
    refine Go.eqI (y := nI (sN i)) (by rw [ncl (by omega)]; exact setsF_nI i (by omega)) ?_
    refine Go.iload_n dX2_possible_25 rfl ?_
    refine Go.iconst (v := -1) dX2_possible_26 (by decide) ?_
    refine Go.ixor dX2_possible_27 ?_
    refine Go.iand dX2_possible_28 ?_
    refine Go.if_ne 35 dX2_possible_29 rfl (fun h29 => ?_) (fun h29 => ?_)
    · refine Go.iinc (v := nI (i + 1)) (ls' := [some (.ref 25), some (.int (nI (maskN (posN (M.1 26)) 8))), some (.int (nI (cntN (fun j => canN (M.1 26) (sN j)) i))), some (.int (nI (i + 1)))]) dX2_possible_35 rfl (nI_1 _) rfl rfl ?_
      refine Go.goto 12 dX2_possible_38 rfl ?_
      rw [cnt_f (p := fun j => canN (M.1 26) (sN j)) (i := i) (can_f hsi.1 h29)]
      exact ih (i + 1) (by omega)
    · refine Go.iinc (v := nI (cntN (fun j => canN (M.1 26) (sN j)) i + 1)) (ls' := [some (.ref 25), some (.int (nI (maskN (posN (M.1 26)) 8))), some (.int (nI (cntN (fun j => canN (M.1 26) (sN j)) i + 1))), some (.int (nI i))]) dX2_possible_32 rfl (nI_1 _) rfl rfl ?_
      refine Go.iinc (v := nI (i + 1)) (ls' := [some (.ref 25), some (.int (nI (maskN (posN (M.1 26)) 8))), some (.int (nI (cntN (fun j => canN (M.1 26) (sN j)) i + 1))), some (.int (nI (i + 1)))]) dX2_possible_35 rfl (nI_1 _) rfl rfl ?_
      refine Go.goto 12 dX2_possible_38 rfl ?_
      rw [cnt_t (p := fun j => canN (M.1 26) (sN j)) (i := i) ((can_iff hsi.1).mp h29)]
      exact ih (i + 1) (by omega)
set_option maxRecDepth 20000 in
theorem s_possible {G : Gt} {d : Nat} {M : Mm} (hG : gS G = SHAPE) : ExI G (d + 1) mX2_possible [.ref 25] M (fun r M' => r = nI (cntN (fun j => canN (M.1 26) (sN j)) 92 * 20) ∧ M' = M) := by
  refine Ex.of (by decide) (Nat.le_of_ble_eq_true rfl) ?_
  show Go G (d + 1) mX2_possible 0 [some (.ref 25), none, none, none] [] M _
  refine Go.aload_n dX2_possible_0 rfl ?_
  refine Go.getR dX2_possible_1 flX2_9 (shp hG rfl) rfl ?_
  refine Go.callSI [] dX2_possible_4 lkX2_98 stX6_inStore cbX6_inStore (s_inStore (shp hG rfl)) rfl rfl (Nat.le_of_ble_eq_true rfl) (fun r1 M2 hr1 => ?_)
  obtain ⟨er1, emr1⟩ := hr1
  rw [emr1]
  clear emr1 M2
  subst er1
  refine Go.eqI (y := nI (maskN (posN (M.1 26)) 8)) (rfl) ?_
  refine Go.istore_n (ls' := [some (.ref 25), some (.int (nI (maskN (posN (M.1 26)) 8))), none, none]) dX2_possible_7 (Nat.le_of_ble_eq_true rfl) rfl rfl ?_
  refine Go.iconst (v := 0) dX2_possible_8 (by decide) ?_
  refine Go.istore_n (ls' := [some (.ref 25), some (.int (nI (maskN (posN (M.1 26)) 8))), some (.int 0), none]) dX2_possible_9 (Nat.le_of_ble_eq_true rfl) rfl rfl ?_
  refine Go.iconst (v := 0) dX2_possible_10 (by decide) ?_
  refine Go.istore_n (ls' := [some (.ref 25), some (.int (nI (maskN (posN (M.1 26)) 8))), some (.int 0), some (.int 0)]) dX2_possible_11 (Nat.le_of_ble_eq_true rfl) rfl rfl ?_
  exact l_possible hG 92 0 (by omega)
set_option maxRecDepth 20000 in
theorem l_servable {G : Gt} {d : Nat} {M : Mm} (hG : gS G = SHAPE) {c : Nat → Nat} (hO : OnceIs M c) : ∀ (n i : Nat), i + n = 92 → Go G (d + 1) mX2_servable 12 [some (.ref 25), some (.int (nI (maskN (posN (M.1 26)) 8))), some (.int (nI (sumN (fun j => popN (svM (M.1 26) c (sN j))) i))), some (.int (nI i))] [] M (fun v M' => ∃ r, v = some (.int r) ∧ r = nI (sumN (fun j => popN (svM (M.1 26) c (sN j))) 92) ∧ M' = M) := by
  intro n
  induction n with
  | zero =>
    intro i  hin
    refine Go.iload_n dX2_servable_12 rfl ?_
    refine Go.getSets dX2_servable_13 (Or.inr fnX2_75) ?_
    refine Go.setsLen dX2_servable_16 ?_
    refine Go.icmp_ge 42 dX2_servable_17 rfl (fun _ => ?_) (fun h17 => absurd (nI_le (a := 92) (b := i) (by omega) (by omega)) h17)
    refine Go.iload_n dX2_servable_42 rfl ?_
    refine Go.iret dX2_servable_43 rfl rfl ?_
    have e9 : i = 92 := by omega
    subst e9
    exact ⟨_, rfl, rfl, rfl⟩
  | succ n ih =>
    intro i  hin
    have hi : i < 92 := by omega
    have hsi := okS_lt (setsN_ok i (by omega))
    refine Go.iload_n dX2_servable_12 rfl ?_
    refine Go.getSets dX2_servable_13 (Or.inr fnX2_75) ?_
    refine Go.setsLen dX2_servable_16 ?_
    refine Go.icmp_ge 42 dX2_servable_17 rfl (fun h17 => absurd h17 (nI_ge (a := i) (b := 92) (by omega) (by omega))) (fun _ => ?_)
    refine Go.iload_n dX2_servable_20 rfl ?_
    refine Go.aload_n dX2_servable_21 rfl ?_
    refine Go.getSets dX2_servable_22 (Or.inr fnX2_75) ?_
    refine Go.iload_n dX2_servable_25 rfl ?_
    refine Go.sets dX2_servable_26 (vin (by omega) (by decide)) ?_
    refine Go.eqI (y := nI (sN i)) (by rw [ncl (by omega)]; exact setsF_nI i (by omega)) ?_
    refine Go.iload_n dX2_servable_27 rfl ?_
    refine Go.callVI [.int (nI (sumN (fun j => popN (svM (M.1 26) c (sN j))) i))] dX2_servable_28 lkX2_102 imX2_servableManners seX2_servableManners cbX2_servableManners (s_servableManners hG (c := c) (s := sN i) (by omega) hO) (shp hG rfl) rfl rfl rfl (Nat.le_of_ble_eq_true rfl) (fun r1 M2 hr1 => ?_)
    obtain ⟨er1, emr1⟩ := hr1
    rw [emr1]
    clear emr1 M2
    subst er1
    refine Go.callSI [.int (nI (sumN (fun j => popN (svM (M.1 26) c (sN j))) i))] dX2_servable_31 lkX2_106 stJ6_bitCount_0f7a4 cbJ6_bitCount_0f7a4 (s_bitCount (nI (svM (M.1 26) c (sN i)))) rfl rfl (Nat.le_of_ble_eq_true rfl) (fun r3 M4 hr3 => ?_)
    obtain ⟨er3, emr3⟩ := hr3
    rw [emr3]
    clear emr3 M4
    subst er3
    refine Go.eqI (y := nI (popN (svM (M.1 26) c (sN i)))) (pcI_nI (svM_lt _ _ _)) ?_
    refine Go.iadd dX2_servable_34 ?_
    refine Go.eqI (y := nI (sumN (fun j => popN (svM (M.1 26) c (sN j))) i + popN (svM (M.1 26) c (sN i)))) (nI_add _ _) ?_
    refine Go.nmI (fun x5 ex5 => ?_)
    refine Go.istore_n (ls' := [some (.ref 25), some (.int (nI (maskN (posN (M.1 26)) 8))), some (.int x5), some (.int (nI i))]) dX2_servable_35 (Nat.le_of_ble_eq_true rfl) rfl rfl ?_
    refine Go.iinc (v := nI (i + 1)) (ls' := [some (.ref 25), some (.int (nI (maskN (posN (M.1 26)) 8))), some (.int x5), some (.int (nI (i + 1)))]) dX2_servable_36 rfl (nI_1 _) rfl rfl ?_
    refine Go.goto 12 dX2_servable_39 rfl ?_
    rw [ex5]
    exact ih (i + 1) (by omega)
set_option maxRecDepth 20000 in
theorem s_servable {G : Gt} {d : Nat} {M : Mm} (hG : gS G = SHAPE) {c : Nat → Nat} (hO : OnceIs M c) : ExI G (d + 1) mX2_servable [.ref 25] M (fun r M' => r = nI (sumN (fun j => popN (svM (M.1 26) c (sN j))) 92) ∧ M' = M) := by
  refine Ex.of (by decide) (Nat.le_of_ble_eq_true rfl) ?_
  show Go G (d + 1) mX2_servable 0 [some (.ref 25), none, none, none] [] M _
  refine Go.aload_n dX2_servable_0 rfl ?_
  refine Go.getR dX2_servable_1 flX2_9 (shp hG rfl) rfl ?_
  refine Go.callSI [] dX2_servable_4 lkX2_98 stX6_inStore cbX6_inStore (s_inStore (shp hG rfl)) rfl rfl (Nat.le_of_ble_eq_true rfl) (fun r1 M2 hr1 => ?_)
  obtain ⟨er1, emr1⟩ := hr1
  rw [emr1]
  clear emr1 M2
  subst er1
  refine Go.eqI (y := nI (maskN (posN (M.1 26)) 8)) (rfl) ?_
  refine Go.istore_n (ls' := [some (.ref 25), some (.int (nI (maskN (posN (M.1 26)) 8))), none, none]) dX2_servable_7 (Nat.le_of_ble_eq_true rfl) rfl rfl ?_
  refine Go.iconst (v := 0) dX2_servable_8 (by decide) ?_
  refine Go.istore_n (ls' := [some (.ref 25), some (.int (nI (maskN (posN (M.1 26)) 8))), some (.int 0), none]) dX2_servable_9 (Nat.le_of_ble_eq_true rfl) rfl rfl ?_
  refine Go.iconst (v := 0) dX2_servable_10 (by decide) ?_
  refine Go.istore_n (ls' := [some (.ref 25), some (.int (nI (maskN (posN (M.1 26)) 8))), some (.int 0), some (.int 0)]) dX2_servable_11 (Nat.le_of_ble_eq_true rfl) rfl rfl ?_
  exact l_servable hG hO 92 0 (by omega)
