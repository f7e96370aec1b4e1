def frS (F : Nat → Int32) (c : Nat → Nat) (q : Nat → Bool) (s : Nat) : Nat := maskN (fun i => (svM F c s).testBit i && !(qM q s).testBit i) 20
theorem k_serv {G : Gt} {d : Nat} {M : Mm} (hG : gS G = SHAPE) {F : Nat → Int32} {c : Nat → Nat} {s : Nat} (hs : s < 256) (hO : OnceIs M c) (hF : M.1 26 = F) : ExI G (d) mX2_servableManners [.ref 25, .int (nI s), .int (nI (maskN (posN F) 8))] M (fun r M' => r = nI (svM F c s) ∧ M' = M) := by
  subst hF
  exact s_servableManners hG hs hO
def Aft (N : Mm) (q q2 : Nat → Bool) (i : Nat) : Prop := ∀ s, s < 256 → N.1 35 s = nI (if (setsN.take i).contains s then qM q2 s else qM q s)
theorem Aft.step {N : Mm} {q q2 : Nat → Bool} {i : Nat} (h : Aft N q q2 i) (hi : i < 92) : Aft (upi N 35 (sN i) (nI (qM q2 (sN i)))) q q2 (i + 1) := by
  intro s hs
  rw [rd_eq, take_mem i hi s hs]
  unfold upd
  by_cases e : s = sN i
  · subst e
    simp
  · rw [if_neg e, h s hs, decide_eq_false e, Bool.or_false]
theorem Aft.skip {N : Mm} {q q2 : Nat → Bool} {i : Nat} (h : Aft N q q2 i) (hi : i < 92) (he : qM q2 (sN i) = qM q (sN i)) : Aft N q q2 (i + 1) := by
  intro s hs
  rw [take_mem i hi s hs, h s hs]
  by_cases e : s = sN i
  · subst e
    simp [he]
  · rw [decide_eq_false e, Bool.or_false]
theorem Aft.own {N : Mm} {q q2 : Nat → Bool} {i : Nat} (h : Aft N q q2 i) (hi : i < 92) : N.1 35 (sN i) = nI (qM q (sN i)) := by
  rw [h _ (sN_lt hi), take_new i hi, if_neg (by decide)]
theorem Aft.all {N : Mm} {q q2 : Nat → Bool} (h : Aft N q q2 92) (ho : ∀ s, okS s = false → qM q2 s = qM q s) : Rp N q2 := by
  intro s hs
  rw [h s hs]
  have e : (setsN.take 92).contains s = okS s := rfl
  rw [e]
  cases hk : okS s with
  | true => rfl
  | false => rw [ho s hk]; rfl
def nxS (F : Nat → Int32) (c : Nat → Nat) (q : Nat → Bool) (s : Nat) : Nat := qM q s ||| (frS F c q s &&& (omN (qM q s) ||| frN q s 8))
set_option maxRecDepth 20000 in
theorem l_goF {G : Gt} {d : Nat} {M0 : Mm} (hG : gS G = SHAPE) {F : Nat → Int32} {c : Nat → Nat} {q q2 : Nat → Bool} (hO0 : OnceIs M0 c) (hF0 : M0.1 26 = F) (hq2 : ∀ s, okS s = true → qM q2 s = nxS F c q s) (hqo : ∀ s, okS s = false → qM q2 s = qM q s) : ∀ (n i : Nat) (N : Mm) (b : Bool) (o5 o6 : Option Value), i + n = 92 → Same [35, 36] M0 N → (∀ s, s < 256 → N.1 36 s = nI (qM q s)) → Aft N q q2 i → (b = false → ∀ j, j < i → qM q2 (sN j) = qM q (sN j)) → Go G (d + 1) mX3_goFurther 29 [some (.ref 34), some (.ref 25), some (.int (nI (maskN (posN F) 8))), some (.int (bi b)), some (.int (nI i)), o5, o6] [] N (fun v M' => ∃ r, v = some (.int r) ∧ Rp M' q2 ∧ Same [35, 36] M0 M' ∧ ∃ b : Bool, r = bi b ∧ (b = false → ∀ j, j < 92 → qM q2 (sN j) = qM q (sN j))) := by
  intro n
  induction n with
  | zero =>
    intro i N b o5 o6 hin hSm hB hA hb0
    refine Go.iload dX3_goFurther_29 rfl ?_
    refine Go.getSets dX3_goFurther_31 (Or.inr fnX3_58) ?_
    refine Go.setsLen dX3_goFurther_34 ?_
    refine Go.icmp_ge 133 dX3_goFurther_35 rfl (fun _ => ?_) (fun h35 => absurd (nI_le (a := 92) (b := i) (by omega) (by omega)) h35)
    refine Go.iload_n dX3_goFurther_133 rfl ?_
    refine Go.iret dX3_goFurther_134 rfl (bi_nar _) ?_
    have e9 : i = 92 := by omega
    subst e9
    exact ⟨_, rfl, hA.all hqo, hSm, b, rfl, hb0⟩
  | succ n ih =>
    intro i N b o5 o6 hin hSm hB hA hb0
    have hi : i < 92 := by omega
    have hsi := sN_lt hi
    have hok := setsN_ok i hi
    have hO : OnceIs N c := hO0.same (hSm.1 28 (by decide)) (hSm.1 29 (by decide))
    have hF : N.1 26 = F := by rw [hSm.1 26 (by decide)]; exact hF0
    refine Go.iload dX3_goFurther_29 rfl ?_
    refine Go.getSets dX3_goFurther_31 (Or.inr fnX3_58) ?_
    refine Go.setsLen dX3_goFurther_34 ?_
    refine Go.icmp_ge 133 dX3_goFurther_35 rfl (fun h35 => absurd h35 (nI_ge (a := i) (b := 92) (by omega) (by omega))) (fun _ => ?_)
    refine Go.getSets dX3_goFurther_38 (Or.inr fnX3_58) ?_
    refine Go.iload dX3_goFurther_41 rfl ?_
    refine Go.sets dX3_goFurther_43 (vin (by omega) (by decide)) ?_
    refine Go.eqI (y := nI (sN i)) (by rw [ncl (by omega)]; exact setsF_nI i (by omega)) ?_
    refine Go.istore (ls' := [some (.ref 34), some (.ref 25), some (.int (nI (maskN (posN F) 8))), some (.int (bi b)), some (.int (nI i)), some (.int (nI (sN i))), o6]) dX3_goFurther_44 (Nat.le_of_ble_eq_true rfl) rfl rfl ?_
    refine Go.aload_n dX3_goFurther_46 rfl ?_
    refine Go.iload dX3_goFurther_47 rfl ?_
    refine Go.iload_n dX3_goFurther_49 rfl ?_
    refine Go.callVI [] dX3_goFurther_50 lkX3_61 imX2_servableManners seX2_servableManners cbX2_servableManners (k_serv hG (s := sN i) (by omega) hO hF) (shp hG rfl) rfl rfl rfl (Nat.le_of_ble_eq_true rfl) (fun r1 M2 hr1 => ?_)
    obtain ⟨er1, emr1⟩ := hr1
    rw [emr1]
    clear emr1 M2
    subst er1
    refine Go.aload_n dX3_goFurther_53 rfl ?_
    refine Go.getR dX3_goFurther_54 flX3_15 (shp hG rfl) rfl ?_
    refine Go.iload dX3_goFurther_57 rfl ?_
    refine Go.iald dX3_goFurther_59 (shp hG rfl) (vin (by omega) (by decide)) ?_
    refine Go.eqI (y := nI (qM q (sN i))) (by rw [ncl (by omega)]; exact hB _ (by omega)) ?_
    refine Go.iconst (v := -1) dX3_goFurther_60 (by decide) ?_
    refine Go.ixor dX3_goFurther_61 ?_
    refine Go.iand dX3_goFurther_62 ?_
    refine Go.eqI (y := nI (frS F c q (sN i))) (andnotM (svM_lt _ _ _)) ?_
    refine Go.istore (ls' := [some (.ref 34), some (.ref 25), some (.int (nI (maskN (posN F) 8))), some (.int (bi b)), some (.int (nI i)), some (.int (nI (sN i))), some (.int (nI (frS F c q (sN i))))]) dX3_goFurther_63 (Nat.le_of_ble_eq_true rfl) rfl rfl ?_
    refine Go.iload dX3_goFurther_65 rfl ?_
    refine Go.if_eq 127 dX3_goFurther_67 rfl (fun h67 => ?_) (fun h67 => ?_)
    · refine Go.iinc (v := nI (i + 1)) (ls' := [some (.ref 34), some (.ref 25), some (.int (nI (maskN (posN F) 8))), some (.int (bi b)), some (.int (nI (i + 1))), some (.int (nI (sN i))), some (.int (nI (frS F c q (sN i))))]) dX3_goFurther_127 rfl (nI_1 _) rfl rfl ?_
      refine Go.goto 29 dX3_goFurther_130 rfl ?_
      have h0 : frS F c q (sN i) = 0 := (nI_inj (a := frS F c q (sN i)) (b := 0) (by have := maskN_lt (fun t => (svM F c (sN i)).testBit t && !(qM q (sN i)).testBit t) 20; unfold frS; omega) (by decide)).mp h67
      have he : qM q2 (sN i) = qM q (sN i) := by rw [hq2 _ hok]; unfold nxS; rw [h0, Nat.zero_and, Nat.or_zero]
      refine ih (i + 1) N b _ _ (by omega) hSm hB (hA.skip hi he) (fun hb j hj => ?_)
      by_cases e : j = i
      · rw [e]; exact he
      · exact hb0 hb j (by omega)
    · refine Go.aload_n dX3_goFurther_70 rfl ?_
      refine Go.getR dX3_goFurther_71 flX3_9 (shp hG rfl) rfl ?_
      refine Go.iload dX3_goFurther_74 rfl ?_
      refine Go.dup2 dX3_goFurther_76 rfl rfl ?_
      refine Go.iald dX3_goFurther_77 (shp hG rfl) (vin (by omega) (by decide)) ?_
      refine Go.eqI (y := nI (qM q (sN i))) (by rw [ncl (by omega)]; exact hA.own hi) ?_
      refine Go.iload dX3_goFurther_78 rfl ?_
      refine Go.aload_n dX3_goFurther_80 rfl ?_
      refine Go.getR dX3_goFurther_81 flX3_15 (shp hG rfl) rfl ?_
      refine Go.iload dX3_goFurther_84 rfl ?_
      refine Go.iald dX3_goFurther_86 (shp hG rfl) (vin (by omega) (by decide)) ?_
      refine Go.eqI (y := nI (qM q (sN i))) (by rw [ncl (by omega)]; exact hB _ (by omega)) ?_
      refine Go.callSI [.int (nI (frS F c q (sN i))), .int (nI (qM q (sN i))), .int (nI (sN i)), .ref 35] dX3_goFurther_87 lkX3_65 stX3_otherManners cbX3_otherManners (s_other (w := qM q (sN i)) (qM_lt _ _)) rfl rfl (Nat.le_of_ble_eq_true rfl) (fun r3 M4 hr3 => ?_)
      obtain ⟨er3, emr3⟩ := hr3
      rw [emr3]
      clear emr3 M4
      subst er3
      refine Go.aload_n dX3_goFurther_90 rfl ?_
      refine Go.iload dX3_goFurther_91 rfl ?_
      refine Go.callVI [.int (nI (omN (qM q (sN i)))), .int (nI (frS F c q (sN i))), .int (nI (qM q (sN i))), .int (nI (sN i)), .ref 35] dX3_goFurther_93 lkX3_68 imX3_fromOtherSets seX3_fromOtherSets cbX3_fromOtherSets (s_from hG hB (s := sN i) (by omega)) (shp hG rfl) rfl rfl rfl (Nat.le_of_ble_eq_true rfl) (fun r5 M6 hr5 => ?_)
      obtain ⟨er5, emr5⟩ := hr5
      rw [emr5]
      clear emr5 M6
      subst er5
      refine Go.ior dX3_goFurther_96 ?_
      refine Go.eqI (y := nI (omN (qM q (sN i)) ||| frN q (sN i) 8)) (fa_or _ _) ?_
      refine Go.iand dX3_goFurther_97 ?_
      refine Go.eqI (y := nI (frS F c q (sN i) &&& (omN (qM q (sN i)) ||| frN q (sN i) 8))) (fa_and _ _) ?_
      refine Go.ior dX3_goFurther_98 ?_
      refine Go.eqI (y := nI (qM q2 (sN i))) (by rw [fa_or, hq2 _ hok]; rfl) ?_
      refine Go.iast dX3_goFurther_99 (shp hG rfl) (vin (by omega) (by decide)) ?_
      refine Go.nmM (fun N7 eN7 => ?_)
      refine Go.iload_n dX3_goFurther_100 rfl ?_
      refine Go.if_ne 121 dX3_goFurther_101 rfl (fun h101 => ?_) (fun h101 => ?_)
      · refine Go.iconst (v := 1) dX3_goFurther_121 (by decide) ?_
        refine Go.goto 126 dX3_goFurther_122 rfl ?_
        refine Go.istore_n (ls' := [some (.ref 34), some (.ref 25), some (.int (nI (maskN (posN F) 8))), some (.int 1), some (.int (nI i)), some (.int (nI (sN i))), some (.int (nI (frS F c q (sN i))))]) dX3_goFurther_126 (Nat.le_of_ble_eq_true rfl) rfl rfl ?_
        refine Go.iinc (v := nI (i + 1)) (ls' := [some (.ref 34), some (.ref 25), some (.int (nI (maskN (posN F) 8))), some (.int 1), some (.int (nI (i + 1))), some (.int (nI (sN i))), some (.int (nI (frS F c q (sN i))))]) dX3_goFurther_127 rfl (nI_1 _) rfl rfl ?_
        refine Go.goto 29 dX3_goFurther_130 rfl ?_
        have eM : N7 = upi N 35 (sN i) (nI (qM q2 (sN i))) := by rw [eN7, ncl (by omega)]
        have hA2 : Aft N7 q q2 (i + 1) := by rw [eM]; exact hA.step hi
        have hS2 : Same [35, 36] M0 N7 := hSm.trans (by rw [eM]; exact Same.upi _ 35 _ _ (by decide))
        have hB2 : ∀ s, s < 256 → N7.1 36 s = nI (qM q s) := fun s hs => by rw [eM, rd_ne (by decide)]; exact hB s hs
        exact ih (i + 1) N7 true _ _ (by omega) hS2 hB2 hA2 (fun hb => by cases hb)
      · refine Go.aload_n dX3_goFurther_104 rfl ?_
        refine Go.getR dX3_goFurther_105 flX3_9 (shp hG rfl) rfl ?_
        refine Go.iload dX3_goFurther_108 rfl ?_
        refine Go.iald dX3_goFurther_110 (shp hG rfl) (vin (by omega) (by decide)) ?_
        refine Go.eqI (y := nI (qM q2 (sN i))) (by rw [eN7, ncl (by omega), rd_eq]; simp [upd]) ?_
        refine Go.aload_n dX3_goFurther_111 rfl ?_
        refine Go.getR dX3_goFurther_112 flX3_15 (shp hG rfl) rfl ?_
        refine Go.iload dX3_goFurther_115 rfl ?_
        refine Go.iald dX3_goFurther_117 (shp hG rfl) (vin (by omega) (by decide)) ?_
        refine Go.eqI (y := nI (qM q (sN i))) (by rw [eN7, rd_ne (by decide), ncl (by omega)]; exact hB _ (by omega)) ?_
        refine Go.icmp_eq 125 dX3_goFurther_118 rfl (fun h118 => ?_) (fun h118 => ?_)
        · refine Go.iconst (v := 0) dX3_goFurther_125 (by decide) ?_
          refine Go.istore_n (ls' := [some (.ref 34), some (.ref 25), some (.int (nI (maskN (posN F) 8))), some (.int 0), some (.int (nI i)), some (.int (nI (sN i))), some (.int (nI (frS F c q (sN i))))]) dX3_goFurther_126 (Nat.le_of_ble_eq_true rfl) rfl rfl ?_
          refine Go.iinc (v := nI (i + 1)) (ls' := [some (.ref 34), some (.ref 25), some (.int (nI (maskN (posN F) 8))), some (.int 0), some (.int (nI (i + 1))), some (.int (nI (sN i))), some (.int (nI (frS F c q (sN i))))]) dX3_goFurther_127 rfl (nI_1 _) rfl rfl ?_
          refine Go.goto 29 dX3_goFurther_130 rfl ?_
          have eM : N7 = upi N 35 (sN i) (nI (qM q2 (sN i))) := by rw [eN7, ncl (by omega)]
          have hA2 : Aft N7 q q2 (i + 1) := by rw [eM]; exact hA.step hi
          have hS2 : Same [35, 36] M0 N7 := hSm.trans (by rw [eM]; exact Same.upi _ 35 _ _ (by decide))
          have hB2 : ∀ s, s < 256 → N7.1 36 s = nI (qM q s) := fun s hs => by rw [eM, rd_ne (by decide)]; exact hB s hs
          refine ih (i + 1) N7 false _ _ (by omega) hS2 hB2 hA2 (fun _ j hj => ?_)
          by_cases e : j = i
          · rw [e]; exact (nI_inj (by have := qM_lt q2 (sN i); omega) (by have := qM_lt q (sN i); omega)).mp h118
          · exact hb0 (bi_0.mp h101) j (by omega)
        · refine Go.iconst (v := 1) dX3_goFurther_121 (by decide) ?_
          refine Go.goto 126 dX3_goFurther_122 rfl ?_
          refine Go.istore_n (ls' := [some (.ref 34), some (.ref 25), some (.int (nI (maskN (posN F) 8))), some (.int 1), some (.int (nI i)), some (.int (nI (sN i))), some (.int (nI (frS F c q (sN i))))]) dX3_goFurther_126 (Nat.le_of_ble_eq_true rfl) rfl rfl ?_
          refine Go.iinc (v := nI (i + 1)) (ls' := [some (.ref 34), some (.ref 25), some (.int (nI (maskN (posN F) 8))), some (.int 1), some (.int (nI (i + 1))), some (.int (nI (sN i))), some (.int (nI (frS F c q (sN i))))]) dX3_goFurther_127 rfl (nI_1 _) rfl rfl ?_
          refine Go.goto 29 dX3_goFurther_130 rfl ?_
          have eM : N7 = upi N 35 (sN i) (nI (qM q2 (sN i))) := by rw [eN7, ncl (by omega)]
          have hA2 : Aft N7 q q2 (i + 1) := by rw [eM]; exact hA.step hi
          have hS2 : Same [35, 36] M0 N7 := hSm.trans (by rw [eM]; exact Same.upi _ 35 _ _ (by decide))
          have hB2 : ∀ s, s < 256 → N7.1 36 s = nI (qM q s) := fun s hs => by rw [eM, rd_ne (by decide)]; exact hB s hs
          exact ih (i + 1) N7 true _ _ (by omega) hS2 hB2 hA2 (fun hb => by cases hb)
theorem stab {F : Nat → Int32} {c : Nat → Nat} {x n : Nat} (h : ∀ j, j < 92 → qM (Rb F c x (n + 1)) (sN j) = qM (Rb F c x n) (sN j)) : ∀ y, y < 5120 → Rb F c x (n + 1) y = Rb F c x n y := by
  intro y hy
  have e : qM (Rb F c x (n + 1)) (y / 20) = qM (Rb F c x n) (y / 20) := by
    cases hk : okS (y / 20) with
    | false => exact qM_out hk
    | true =>
      obtain ⟨j, hj, e⟩ := sets_iff.mp hk
      rw [e]
      exact h j hj
  have := qM_eq e (m := y % 20) (by omega)
  rw [show 20 * (y / 20) + y % 20 = y by omega] at this
  exact this
theorem bi_ex (a : Bool) : bi a = bi a := rfl
theorem Go.weak {G : Gt} {d : Nat} {mt : Mt} {pc : Nat} {ls : List (Option Value)} {st : List Value} {M : Mm} {post post' : Option Value → Mm → Prop} (hp : ∀ v M', post v M' → post' v M') (h : Go G d mt pc ls st M post) : Go G d mt pc ls st M post' := h.mono hp
set_option maxRecDepth 20000 in
theorem s_goF {G : Gt} {d : Nat} {M : Mm} (hG : gS G = SHAPE) {F : Nat → Int32} {c : Nat → Nat} {x n : Nat} (hO : OnceIs M c) (hF : M.1 26 = F) (hR : Rp M (Rb F c x n)) : ExI G (d + 1) mX3_goFurther [.ref 34, .ref 25] M (fun r M' => Rp M' (Rb F c x (n + 1)) ∧ Same [35, 36] M M' ∧ ∃ b : Bool, r = bi b ∧ (b = false → ∀ y, y < 5120 → Rb F c x (n + 1) y = Rb F c x n y)) := by
  refine Ex.of (by decide) (Nat.le_of_ble_eq_true rfl) ?_
  show Go G (d + 1) mX3_goFurther 0 [some (.ref 34), some (.ref 25), none, none, none, none, none] [] M _
  refine Go.aload_n dX3_goFurther_0 rfl ?_
  refine Go.getR dX3_goFurther_1 flX3_9 (shp hG rfl) rfl ?_
  refine Go.iconst (v := 0) dX3_goFurther_4 (by decide) ?_
  refine Go.aload_n dX3_goFurther_5 rfl ?_
  refine Go.getR dX3_goFurther_6 flX3_15 (shp hG rfl) rfl ?_
  refine Go.iconst (v := 0) dX3_goFurther_9 (by decide) ?_
  refine Go.sipush (v := 256) dX3_goFurther_10 (by decide) ?_
  refine Go.copyi dX3_goFurther_13 acX3_43 (shp hG rfl) (shp hG rfl) (by decide) (by decide) (by decide) (by decide) (by decide) (Nat.le_of_ble_eq_true rfl) ?_
  refine Go.nmM (fun N1 eN1 => ?_)
  refine Go.aload_n dX3_goFurther_16 rfl ?_
  refine Go.getR dX3_goFurther_17 flX3_49 (shp hG rfl) rfl ?_
  refine Go.callSI [] dX3_goFurther_20 lkX3_54 stX6_inStore cbX6_inStore (s_inStore (shp hG rfl)) rfl rfl (Nat.le_of_ble_eq_true rfl) (fun r2 M3 hr2 => ?_)
  obtain ⟨er2, emr2⟩ := hr2
  rw [emr2]
  clear emr2 M3
  subst er2
  refine Go.eqI (y := nI (maskN (posN F) 8)) (by rw [eN1, rs_ne (by decide), hF]; rfl) ?_
  refine Go.istore_n (ls' := [some (.ref 34), some (.ref 25), some (.int (nI (maskN (posN F) 8))), none, none, none, none]) dX3_goFurther_23 (Nat.le_of_ble_eq_true rfl) rfl rfl ?_
  refine Go.iconst (v := 0) dX3_goFurther_24 (by decide) ?_
  refine Go.istore_n (ls' := [some (.ref 34), some (.ref 25), some (.int (nI (maskN (posN F) 8))), some (.int 0), none, none, none]) dX3_goFurther_25 (Nat.le_of_ble_eq_true rfl) rfl rfl ?_
  refine Go.iconst (v := 0) dX3_goFurther_26 (by decide) ?_
  refine Go.istore (ls' := [some (.ref 34), some (.ref 25), some (.int (nI (maskN (posN F) 8))), some (.int 0), some (.int 0), none, none]) dX3_goFurther_27 (Nat.le_of_ble_eq_true rfl) rfl rfl ?_
  have hS1 : Same [35, 36] M N1 := by rw [eN1]; exact Same.seti _ 36 _ (by decide)
  have c256 : Int32.toNatClampNeg 256 = 256 := by decide
  have hB1 : ∀ s, s < 256 → N1.1 36 s = nI (qM (Rb F c x n) s) := fun s hs => by rw [eN1, rs_eq, cl0, c256, cpy_lo hs]; exact hR s hs
  have hA1 : Aft N1 (Rb F c x n) (Rb F c x (n + 1)) 0 := fun s hs => by rw [eN1, rs_ne (by decide)]; simp; exact hR s hs
  refine Go.weak (fun v M' ⟨r, a, b, c', b', e1, e2⟩ => ⟨r, a, b, hS1.trans c', b', e1, fun h => stab (e2 h)⟩) (l_goF hG (F := F) (c := c) (hO.same (hS1.1 28 (by decide)) (hS1.1 29 (by decide))) (by rw [hS1.1 26 (by decide)]; exact hF) (fun s hs => qM_next hs) (fun s hs => qM_out hs) 92 0 N1 false _ _ (by omega) (Same.refl _ _) hB1 hA1 (fun _ j hj => by omega))
theorem shl_bit : ∀ m, m < 20 → (1 : Int32) <<< (nI m &&& 31) = nI (2 ^ m) := fun m hm => shl1 m (by omega)
theorem rp0 {M : Mm} {x : Nat} (hx : x < 5120) (F : Nat → Int32) (c : Nat → Nat) : Rp (upi (seti M 35 (filF (M.1 35) 0 256)) 35 (x / 20) (nI (2 ^ (x % 20)))) (Rb F c x 0) := by
  intro s hs
  rw [rd_eq, rs_eq]
  unfold upd
  by_cases e : s = x / 20
  · rw [if_pos e]
    congr 1
    apply Nat.eq_of_testBit_eq
    intro m
    unfold qM
    rw [maskN_bit, Nat.testBit_two_pow]
    rw [Bool.eq_iff_iff]
    simp [Rb]
    omega
  · rw [if_neg e]
    unfold filF
    rw [if_pos hs]
    show nI 0 = _
    congr 1
    apply Nat.eq_of_testBit_eq
    intro m
    unfold qM
    rw [maskN_bit, Nat.zero_testBit]
    cases h : (decide (m < 20) && Rb F c x 0 (20 * s + m)) with
    | false => rfl
    | true =>
      rw [Bool.and_eq_true] at h
      have h1 := of_decide_eq_true h.1
      have h2 : 20 * s + m = x := of_decide_eq_true h.2
      omega
set_option maxRecDepth 20000 in
theorem s_setOut {G : Gt} {d : Nat} {M : Mm} (hG : gS G = SHAPE) {x : Nat} (hx : x < 5120) : ExV G (d + 1) mX3_setOut [.ref 34, .int (nI x)] M (fun M' => Same [35, 36] M M' ∧ ∀ F c, Rp M' (Rb F c x 0)) := by
  refine Ex.of (by decide) (Nat.le_of_ble_eq_true rfl) ?_
  show Go G (d + 1) mX3_setOut 0 [some (.ref 34), some (.int (nI x))] [] M _
  refine Go.aload_n dX3_setOut_0 rfl ?_
  refine Go.getR dX3_setOut_1 flX3_9 (shp hG rfl) rfl ?_
  refine Go.iconst (v := 0) dX3_setOut_4 (by decide) ?_
  refine Go.callSV [] dX3_setOut_5 lkX3_37 stJ7_fill_53178 cbJ7_fill_53178 (s_fill (L := 256) (v := 0) (shp hG rfl) (by decide)) rfl rfl (Nat.le_of_ble_eq_true rfl) (fun M2 hr1 => ?_)
  refine Go.aload_n dX3_setOut_8 rfl ?_
  refine Go.getR dX3_setOut_9 flX3_9 (shp hG rfl) rfl ?_
  refine Go.iload_n dX3_setOut_12 rfl ?_
  refine Go.callSI [.ref 35] dX3_setOut_13 lkX3_26 stX6_setOf cbX6_setOf (s_setOf (nI x)) rfl rfl (Nat.le_of_ble_eq_true rfl) (fun r3 M4 hr3 => ?_)
  obtain ⟨er3, emr3⟩ := hr3
  rw [emr3]
  clear emr3 M4
  subst er3
  refine Go.eqI (y := nI (x / 20)) (iset_nI (by omega)) ?_
  refine Go.iconst (v := 1) dX3_setOut_16 (by decide) ?_
  refine Go.iload_n dX3_setOut_17 rfl ?_
  refine Go.callSI [.int 1, .int (nI (x / 20)), .ref 35] dX3_setOut_18 lkX3_30 stX6_mannerOf cbX6_mannerOf (s_mannerOf (nI x)) rfl rfl (Nat.le_of_ble_eq_true rfl) (fun r5 M6 hr5 => ?_)
  obtain ⟨er5, emr5⟩ := hr5
  rw [emr5]
  clear emr5 M6
  subst er5
  refine Go.eqI (y := nI (x % 20)) (iman_nI (by omega)) ?_
  refine Go.ishl dX3_setOut_21 ?_
  refine Go.eqI (y := nI (2 ^ (x % 20))) (shl_bit _ (by omega)) ?_
  refine Go.iast dX3_setOut_22 (shp hG rfl) (vin (by omega) (by decide)) ?_
  refine Go.nmM (fun N7 eN7 => ?_)
  refine Go.vret dX3_setOut_23 rfl ?_
  rw [eN7, ncl (by omega), hr1]
  exact ⟨rfl, (Same.seti M 35 _ (by decide)).trans (Same.upi _ 35 _ _ (by decide)), fun F c => rp0 hx F c⟩
theorem Rp.conv {M : Mm} {q q' : Nat → Bool} (h : Rp M q) (e : ∀ y, y < 5120 → q' y = q y) : Rp M q' := fun s hs => by
  rw [h s hs]
  congr 1
  exact maskN_congr 20 (fun m hm => (e _ (by omega)).symm)
set_option maxRecDepth 20000 in
theorem l_reach {G : Gt} {d : Nat} {M0 : Mm} (hG : gS G = SHAPE) {F : Nat → Int32} {c : Nat → Nat} {x m : Nat} (hm : m ≤ 12) (hO0 : OnceIs M0 c) (hF0 : M0.1 26 = F) : ∀ (n i : Nat) (N : Mm) (b : Bool), i + n = m → Same [35, 36] M0 N → Rp N (Rb F c x i) → (b = false → ∀ y, y < 5120 → Rb F c x (i + 1) y = Rb F c x i y) → Go G (d + 2) mX3_reach 11 [some (.ref 34), some (.int (nI x)), some (.int (nI m)), some (.ref 25), some (.int (bi b)), some (.int (nI i))] [] N (fun v M' => v = none ∧ Rp M' (Rb F c x m) ∧ Same [35, 36] M0 M') := by
  intro n
  induction n with
  | zero =>
    intro i N b hin hSm hR hb0
    refine Go.iload dX3_reach_11 rfl ?_
    refine Go.iload_n dX3_reach_13 rfl ?_
    refine Go.icmp_ge 35 dX3_reach_14 rfl (fun _ => ?_) (fun h14 => absurd (nI_le (a := m) (b := i) (by omega) (by omega)) h14)
    refine Go.vret dX3_reach_35 rfl ?_
    have e9 : i = m := by omega
    subst e9
    exact ⟨rfl, hR, hSm⟩
  | succ n ih =>
    intro i N b hin hSm hR hb0
    have hi : i < m := by omega
    have hO : OnceIs N c := hO0.same (hSm.1 28 (by decide)) (hSm.1 29 (by decide))
    have hF : N.1 26 = F := by rw [hSm.1 26 (by decide)]; exact hF0
    refine Go.iload dX3_reach_11 rfl ?_
    refine Go.iload_n dX3_reach_13 rfl ?_
    refine Go.icmp_ge 35 dX3_reach_14 rfl (fun h14 => absurd h14 (nI_ge (a := i) (b := m) (by omega) (by omega))) (fun _ => ?_)
    refine Go.iload dX3_reach_17 rfl ?_
    refine Go.if_eq 35 dX3_reach_19 rfl (fun h19 => ?_) (fun h19 => ?_)
    · refine Go.vret dX3_reach_35 rfl ?_
      refine ⟨rfl, hR.conv (fun y hy => ?_), hSm⟩
      rw [show m = i + (n + 1) by omega]
      exact Rb_stable (hb0 (bi_0.mp h19)) (n + 1) y hy
    · refine Go.aload_n dX3_reach_22 rfl ?_
      refine Go.aload_n dX3_reach_23 rfl ?_
      refine Go.callVI [] dX3_reach_24 lkX3_22 imX3_goFurther seX3_goFurther cbX3_goFurther (s_goF hG hO hF hR) (shp hG rfl) rfl rfl rfl (Nat.le_of_ble_eq_true rfl) (fun r1 M2 hr1 => ?_)
      obtain ⟨hR2, hs2, b2, eb2, hst2⟩ := hr1
      refine Go.istore (ls' := [some (.ref 34), some (.int (nI x)), some (.int (nI m)), some (.ref 25), some (.int r1), some (.int (nI i))]) dX3_reach_27 (Nat.le_of_ble_eq_true rfl) rfl rfl ?_
      refine Go.iinc (v := nI (i + 1)) (ls' := [some (.ref 34), some (.int (nI x)), some (.int (nI m)), some (.ref 25), some (.int r1), some (.int (nI (i + 1)))]) dX3_reach_29 rfl (nI_1 _) rfl rfl ?_
      refine Go.goto 11 dX3_reach_32 rfl ?_
      rw [eb2]
      refine ih (i + 1) M2 b2 (by omega) (hSm.trans hs2) hR2 (fun hb y hy => ?_)
      have := Rb_stable (hst2 hb) 1 y hy
      rw [show i + 1 + 1 = (i + 1) + 1 from rfl, Rb, hst2 hb y hy, nbB_congr (fun z hz => hst2 hb z hz) hy]
      exact hst2 hb y hy
set_option maxRecDepth 20000 in
theorem s_reach {G : Gt} {d : Nat} {M : Mm} (hG : gS G = SHAPE) {F : Nat → Int32} {c : Nat → Nat} {x m : Nat} (hx : x < 5120) (hm : m ≤ 12) (hO : OnceIs M c) (hF : M.1 26 = F) : ExV G (d + 2) mX3_reach [.ref 34, .int (nI x), .int (nI m), .ref 25] M (fun M' => Rp M' (Rb F c x m) ∧ Same [35, 36] M M') := by
  refine Ex.of (by decide) (Nat.le_of_ble_eq_true rfl) ?_
  show Go G (d + 2) mX3_reach 0 [some (.ref 34), some (.int (nI x)), some (.int (nI m)), some (.ref 25), none, none] [] M _
  refine Go.aload_n dX3_reach_0 rfl ?_
  refine Go.iload_n dX3_reach_1 rfl ?_
  refine Go.callVV [] dX3_reach_2 lkX3_18 imX3_setOut seX3_setOut cbX3_setOut (s_setOut hG (x := x) (by omega)) (shp hG rfl) rfl rfl rfl (Nat.le_of_ble_eq_true rfl) (fun M2 hr1 => ?_)
  obtain ⟨hs0, hr0⟩ := hr1
  refine Go.iconst (v := 1) dX3_reach_5 (by decide) ?_
  refine Go.istore (ls' := [some (.ref 34), some (.int (nI x)), some (.int (nI m)), some (.ref 25), some (.int 1), none]) dX3_reach_6 (Nat.le_of_ble_eq_true rfl) rfl rfl ?_
  refine Go.iconst (v := 0) dX3_reach_8 (by decide) ?_
  refine Go.istore (ls' := [some (.ref 34), some (.int (nI x)), some (.int (nI m)), some (.ref 25), some (.int 1), some (.int 0)]) dX3_reach_9 (Nat.le_of_ble_eq_true rfl) rfl rfl ?_
  refine Go.weak (fun v M' ⟨a, b, c'⟩ => ⟨a, b, hs0.trans c'⟩) (l_reach hG hm (hO.same (hs0.1 28 (by decide)) (hs0.1 29 (by decide))) (by rw [hs0.1 26 (by decide)]; exact hF) m 0 M2 true (by omega) (Same.refl _ _) (hr0 F c) (fun q => by cases q))
set_option maxRecDepth 20000 in
theorem l_steps {G : Gt} {d : Nat} {M0 : Mm} (hG : gS G = SHAPE) {F : Nat → Int32} {c : Nat → Nat} {x y : Nat} (hy : y < 5120) (hO0 : OnceIs M0 c) (hF0 : M0.1 26 = F) : ∀ (n i : Nat) (N : Mm), i + n = 1841 → Same [35, 36] M0 N → Rp N (Rb F c x i) → fstF (fun n => Rb F c x n y) 0 1841 = fstF (fun n => Rb F c x n y) i n → Go G (d + 2) mX3_stepsBetween 8 [some (.ref 34), some (.int (nI x)), some (.int (nI y)), some (.ref 25), some (.int (nI i))] [] N (fun v M' => ∃ r, v = some (.int r) ∧ r = optI (-1) (fstF (fun n => Rb F c x n y) 0 1841) ∧ Same [35, 36] M0 M') := by
  intro n
  induction n with
  | zero =>
    intro i N hin hSm hR hf
    refine Go.iload dX3_stepsBetween_8 rfl ?_
    refine Go.sipush (v := 1840) dX3_stepsBetween_10 (by decide) ?_
    refine Go.icmp_gt 54 dX3_stepsBetween_13 rfl (fun _ => ?_) (fun h13 => absurd (nI_lt (a := 1840) (b := i) (by omega) (by omega)) h13)
    refine Go.iconst (v := -1) dX3_stepsBetween_54 (by decide) ?_
    refine Go.iret dX3_stepsBetween_55 rfl rfl ?_
    refine ⟨_, rfl, ?_, hSm⟩
    rw [hf]
    rfl
  | succ n ih =>
    intro i N hin hSm hR hf
    have hi : i < 1841 := by omega
    have hO : OnceIs N c := hO0.same (hSm.1 28 (by decide)) (hSm.1 29 (by decide))
    have hF : N.1 26 = F := by rw [hSm.1 26 (by decide)]; exact hF0
    refine Go.iload dX3_stepsBetween_8 rfl ?_
    refine Go.sipush (v := 1840) dX3_stepsBetween_10 (by decide) ?_
    refine Go.icmp_gt 54 dX3_stepsBetween_13 rfl (fun h13 => absurd h13 (i_le_n (nI_le (a := i) (b := 1840) (by omega) (by omega)))) (fun _ => ?_)
    refine Go.aload_n dX3_stepsBetween_16 rfl ?_
    refine Go.getR dX3_stepsBetween_17 flX3_9 (shp hG rfl) rfl ?_
    refine Go.iload_n dX3_stepsBetween_20 rfl ?_
    refine Go.callSI [.ref 35] dX3_stepsBetween_21 lkX3_26 stX6_setOf cbX6_setOf (s_setOf (nI y)) rfl rfl (Nat.le_of_ble_eq_true rfl) (fun r1 M2 hr1 => ?_)
    obtain ⟨er1, emr1⟩ := hr1
    rw [emr1]
    clear emr1 M2
    subst er1
    refine Go.eqI (y := nI (y / 20)) (iset_nI (by omega)) ?_
    refine Go.iald dX3_stepsBetween_24 (shp hG rfl) (vin (by omega) (by decide)) ?_
    refine Go.eqI (y := nI (qM (Rb F c x i) (y / 20))) (by rw [ncl (by omega)]; exact hR _ (by omega)) ?_
    refine Go.iload_n dX3_stepsBetween_25 rfl ?_
    refine Go.callSI [.int (nI (qM (Rb F c x i) (y / 20)))] dX3_stepsBetween_26 lkX3_30 stX6_mannerOf cbX6_mannerOf (s_mannerOf (nI y)) rfl rfl (Nat.le_of_ble_eq_true rfl) (fun r3 M4 hr3 => ?_)
    obtain ⟨er3, emr3⟩ := hr3
    rw [emr3]
    clear emr3 M4
    subst er3
    refine Go.eqI (y := nI (y % 20)) (iman_nI (by omega)) ?_
    refine Go.callSI [] dX3_stepsBetween_29 lkX3_33 stX6_hasBit cbX6_hasBit (s_hasBit (nI (qM (Rb F c x i) (y / 20))) (nI (y % 20))) rfl rfl (Nat.le_of_ble_eq_true rfl) (fun r5 M6 hr5 => ?_)
    obtain ⟨er5, emr5⟩ := hr5
    rw [emr5]
    clear emr5 M6
    subst er5
    refine Go.eqI (y := bi (Rb F c x i y)) (by rw [bitI_nI (Nat.lt_trans (qM_lt _ _) (by decide)) (by omega), qM_bit _ _ (by omega), show 20 * (y / 20) + y % 20 = y by omega]) ?_
    refine Go.if_eq 38 dX3_stepsBetween_32 rfl (fun h32 => ?_) (fun h32 => ?_)
    · refine Go.aload_n dX3_stepsBetween_38 rfl ?_
      refine Go.aload_n dX3_stepsBetween_39 rfl ?_
      refine Go.callVI [] dX3_stepsBetween_40 lkX3_22 imX3_goFurther seX3_goFurther cbX3_goFurther (s_goF hG hO hF hR) (shp hG rfl) rfl rfl rfl (Nat.le_of_ble_eq_true rfl) (fun r7 M8 hr7 => ?_)
      obtain ⟨hR2, hs2, b2, eb2, hst2⟩ := hr7
      refine Go.if_ne 48 dX3_stepsBetween_43 rfl (fun h43 => ?_) (fun h43 => ?_)
      · refine Go.iinc (v := nI (i + 1)) (ls' := [some (.ref 34), some (.int (nI x)), some (.int (nI y)), some (.ref 25), some (.int (nI (i + 1)))]) dX3_stepsBetween_48 rfl (nI_1 _) rfl rfl ?_
        refine Go.goto 8 dX3_stepsBetween_51 rfl ?_
        exact ih (i + 1) M8 (by omega) (hSm.trans hs2) hR2 (by rw [hf, fstF, if_neg (by rw [bi_0.mp h32]; decide)])
      · refine Go.iconst (v := -1) dX3_stepsBetween_46 (by decide) ?_
        refine Go.iret dX3_stepsBetween_47 rfl rfl ?_
        have hfa : b2 = false := by rw [eb2] at h43; exact bi_0.mp h43
        refine ⟨_, rfl, ?_, hSm.trans hs2⟩
        rw [hf]
        have hnone : fstF (fun n => Rb F c x n y) i (n + 1) = none := by
          cases hz : fstF (fun n => Rb F c x n y) i (n + 1) with
          | none => rfl
          | some k =>
            have a := fstF_some hz
            have b := Rb_stable (hst2 hfa) (k - i) y hy
            rw [show i + (k - i) = k by omega, bi_0.mp h32] at b
            have d := a.2.2.1
            rw [b] at d
            cases d
        rw [hnone]
        rfl
    · refine Go.iload dX3_stepsBetween_35 rfl ?_
      refine Go.iret dX3_stepsBetween_37 rfl rfl ?_
      refine ⟨_, rfl, ?_, hSm⟩
      rw [hf, fstF, if_pos (bi_n0.mp h32)]
      rfl
set_option maxRecDepth 20000 in
theorem s_steps {G : Gt} {d : Nat} {M : Mm} (hG : gS G = SHAPE) {F : Nat → Int32} {c : Nat → Nat} {x y : Nat} (hx : x < 5120) (hy : y < 5120) (hO : OnceIs M c) (hF : M.1 26 = F) : ExI G (d + 2) mX3_stepsBetween [.ref 34, .int (nI x), .int (nI y), .ref 25] M (fun r M' => r = optI (-1) (fstF (fun n => Rb F c x n y) 0 1841) ∧ Same [35, 36] M M') := by
  refine Ex.of (by decide) (Nat.le_of_ble_eq_true rfl) ?_
  show Go G (d + 2) mX3_stepsBetween 0 [some (.ref 34), some (.int (nI x)), some (.int (nI y)), some (.ref 25), none] [] M _
  refine Go.aload_n dX3_stepsBetween_0 rfl ?_
  refine Go.iload_n dX3_stepsBetween_1 rfl ?_
  refine Go.callVV [] dX3_stepsBetween_2 lkX3_18 imX3_setOut seX3_setOut cbX3_setOut (s_setOut hG (x := x) (by omega)) (shp hG rfl) rfl rfl rfl (Nat.le_of_ble_eq_true rfl) (fun M2 hr1 => ?_)
  obtain ⟨hs0, hr0⟩ := hr1
  refine Go.iconst (v := 0) dX3_stepsBetween_5 (by decide) ?_
  refine Go.istore (ls' := [some (.ref 34), some (.int (nI x)), some (.int (nI y)), some (.ref 25), some (.int 0)]) dX3_stepsBetween_6 (Nat.le_of_ble_eq_true rfl) rfl rfl ?_
  refine Go.weak (fun v M' ⟨r, a, b, c'⟩ => ⟨r, a, b, hs0.trans c'⟩) (l_steps hG hy (hO.same (hs0.1 28 (by decide)) (hs0.1 29 (by decide))) (by rw [hs0.1 26 (by decide)]; exact hF) 1841 0 M2 (by omega) (Same.refl _ _) (hr0 F c) rfl)
