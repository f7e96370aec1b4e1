def cpS (g : Sg) (s a t c b : Nat) : Sg := setS g (gSb g) (gSl g) (fun j i => if j = t ∧ c ≤ i ∧ i < c + b then gSn g s (a + (i - c)) else gSn g j i)
def A_copy (g : Sg) (s f t c n : Int32) : Int32 × Sg := if inb s 4 && inb t 4 then (if gSb g (tN s) = 0 ∨ gSb g (tN t) = 0 then (-1000000006, fndS g 5) else if gSb g (tN s) = gSb g (tN t) then (if partB (gSl g (tN s)) f n && partB (gSl g (tN t)) c n then (n, cpS g (tN s) (tN f) (tN t) (tN c) (tN n)) else (-1000000001, fndS g 0)) else (-1000000003, fndS g 2)) else (-1000000001, fndS g 0)
theorem partB_ok {n : Nat} {f m : Int32} (h : partB n f m = true) (hn : n ≤ 40) : ∃ a b : Nat, f = nI a ∧ m = nI b ∧ a + b ≤ n := by
  have h0 := of_decide_eq_true h
  have e40 : ((40 : Int32)).toInt = 40 := by decide
  obtain ⟨a, ha, ea⟩ := nI_of2 (x := f) (M := 40) (n := 40) (by decide) (by rw [i_lt0]; omega) (by rw [i_le, e40]; omega)
  obtain ⟨b, hb, eb⟩ := nI_of2 (x := m) (M := 40) (n := 40) (by decide) (by rw [i_lt0]; omega) (by rw [i_le, e40]; omega)
  refine ⟨a, b, ea, eb, ?_⟩
  rw [ea, eb, nI_toInt (by omega), nI_toInt (by omega)] at h0
  omega
set_option maxRecDepth 20000 in
theorem c_copy {G : Gt} {d : Nat} {M : Mm} (hG : gS G = SHAPE) {g : Sg} (hC : CompIs M g) (hg : SgOk g) (s0 f t0 c n : Int32) : ExI G (d + 2) mX6_copy [.ref 0, .int s0, .int f, .int t0, .int c, .int n] M (fun r M' => r = (A_copy g s0 f t0 c n).1 ∧ CompIs M' (A_copy g s0 f t0 c n).2 ∧ MSame M M') := by
  refine Ex.of (by decide) (Nat.le_of_ble_eq_true rfl) ?_
  show Go G (d + 2) mX6_copy 0 [some (.ref 0), some (.int s0), some (.int f), some (.int t0), some (.int c), some (.int n), none, none] [] M _
  by_cases hgd : (inb s0 4 && inb t0 4) = true
  · rw [Bool.and_eq_true] at hgd
    obtain ⟨s, hs4, es⟩ := inb_ex (n := 4) hgd.1 (by decide)
    obtain ⟨t, ht4, et⟩ := inb_ex (n := 4) hgd.2 (by decide)
    subst es
    subst et
    have h40 := (hg.2.2.2.2 s hs4).2
    have h41 := (hg.2.2.2.2 t ht4).2
    have hA0 : A_copy g (nI s) f (nI t) c n = (if gSb g s = 0 ∨ gSb g t = 0 then (-1000000006, fndS g 5) else if gSb g s = gSb g t then (if partB (gSl g s) f n && partB (gSl g t) c n then (n, cpS g s (tN f) t (tN c) (tN n)) else (-1000000001, fndS g 0)) else (-1000000003, fndS g 2)) := by
      have h9 : A_copy g (nI s) f (nI t) c n = _ := if_pos (by rw [hgd.1, hgd.2]; rfl)
      rw [tN_nI (x := s) (by omega), tN_nI (x := t) (by omega)] at h9
      exact h9
    rw [hA0]
    clear hA0
    refine Go.iload_n dX6_copy_0 rfl ?_
    refine Go.iconst (v := 4) dX6_copy_1 (by decide) ?_
    refine Go.callSI [] dX6_copy_2 lkX6_58 stX6_isBelow cbX6_isBelow (s_isBelow (nI s) 4) rfl rfl (Nat.le_of_ble_eq_true rfl) (fun r1 M2 hr1 => ?_)
    obtain ⟨er1, emr1⟩ := hr1
    rw [emr1]
    clear emr1 M2
    subst er1
    refine Go.eqI (y := 1) (by rw [show inb (nI s) 4 = decide (s < 4) from inb_nI (by omega) (by decide), decide_eq_true (by omega)]; rfl) ?_
    refine Go.if_eq 16 dX6_copy_5 rfl (fun h5 => absurd h5 (by decide)) (fun _ => ?_)
    refine Go.iload_n dX6_copy_8 rfl ?_
    refine Go.iconst (v := 4) dX6_copy_9 (by decide) ?_
    refine Go.callSI [] dX6_copy_10 lkX6_58 stX6_isBelow cbX6_isBelow (s_isBelow (nI t) 4) rfl rfl (Nat.le_of_ble_eq_true rfl) (fun r3 M4 hr3 => ?_)
    obtain ⟨er3, emr3⟩ := hr3
    rw [emr3]
    clear emr3 M4
    subst er3
    refine Go.eqI (y := 1) (by rw [show inb (nI t) 4 = decide (t < 4) from inb_nI (by omega) (by decide), decide_eq_true (by omega)]; rfl) ?_
    refine Go.if_ne 23 dX6_copy_13 rfl (fun _ => ?_) (fun h13 => absurd h13 (by decide))
    obtain ⟨q, r, eq, er, hq, hr, hrf⟩ := sheetAt hG hs4
    have hsc := sht hC hs4
    rw [← eq, ← er] at hsc
    obtain ⟨q2, r2, eq2, er2, hq2, hr2, hrf2⟩ := sheetAt hG ht4
    have hsd := sht hC ht4
    rw [← eq2, ← er2] at hsd
    refine Go.aload_n dX6_copy_23 rfl ?_
    refine Go.getR dX6_copy_24 flX6_49 (shp hG rfl) rfl ?_
    refine Go.iload_n dX6_copy_27 rfl ?_
    refine Go.aald dX6_copy_28 (shp hG rfl) (vin (by omega) (by decide)) (by rw [ncl (by omega)]; exact hrf) ?_
    refine Go.astore (ls' := [some (.ref 0), some (.int (nI s)), some (.int f), some (.int (nI t)), some (.int c), some (.int n), some (.ref q), none]) dX6_copy_29 (Nat.le_of_ble_eq_true rfl) rfl rfl ?_
    refine Go.aload_n dX6_copy_31 rfl ?_
    refine Go.getR dX6_copy_32 flX6_49 (shp hG rfl) rfl ?_
    refine Go.iload_n dX6_copy_35 rfl ?_
    refine Go.aald dX6_copy_36 (shp hG rfl) (vin (by omega) (by decide)) (by rw [ncl (by omega)]; exact hrf2) ?_
    refine Go.astore (ls' := [some (.ref 0), some (.int (nI s)), some (.int f), some (.int (nI t)), some (.int c), some (.int n), some (.ref q), some (.ref q2)]) dX6_copy_37 (Nat.le_of_ble_eq_true rfl) rfl rfl ?_
    refine Go.aload dX6_copy_39 rfl ?_
    refine Go.callVI [] dX6_copy_41 lkX6_264 imX4_isMissing seX4_isMissing cbX4_isMissing (s_isMissing hq hr) hq rfl rfl rfl (Nat.le_of_ble_eq_true rfl) (fun r5 M6 hr5 => ?_)
    obtain ⟨er5, emr5⟩ := hr5
    rw [emr5]
    clear emr5 M6
    subst er5
    refine Go.eqI (y := bi (decide (gSb g s = 0))) (by rw [hsc.1]) ?_
    refine Go.if_ne 55 dX6_copy_44 rfl (fun h44 => ?_) (fun h44 => ?_)
    · refine Go.aload_n dX6_copy_55 rfl ?_
      refine Go.ldcw dX6_copy_56 kcX6_267 ?_
      refine Go.callVI [] dX6_copy_59 lkX6_63 imX6_finding seX6_finding cbX6_finding (s_finding hG (code := (-1000000006)) (q := 5) (by decide) (by decide)) (shp hG rfl) rfl rfl rfl (Nat.le_of_ble_eq_true rfl) (fun r7 M8 hr7 => ?_)
      refine Go.iret dX6_copy_62 rfl rfl ?_
      refine ⟨_, rfl, ?_⟩
      rw [if_pos (Or.inl (of_decide_eq_true (bi_n0.mp h44))), hr7.2]
      exact ⟨hr7.1, hC.fnd⟩
    · refine Go.aload dX6_copy_47 rfl ?_
      refine Go.callVI [] dX6_copy_49 lkX6_264 imX4_isMissing seX4_isMissing cbX4_isMissing (s_isMissing hq2 hr2) hq2 rfl rfl rfl (Nat.le_of_ble_eq_true rfl) (fun r9 M10 hr9 => ?_)
      obtain ⟨er9, emr9⟩ := hr9
      rw [emr9]
      clear emr9 M10
      subst er9
      refine Go.eqI (y := bi (decide (gSb g t = 0))) (by rw [hsd.1]) ?_
      refine Go.if_eq 63 dX6_copy_52 rfl (fun h52 => ?_) (fun h52 => ?_)
      · refine Go.aload dX6_copy_63 rfl ?_
        refine Go.getI dX6_copy_65 flX6_268 hq rfl ?_
        refine Go.eqI (y := gSb g s) (hsc.1) ?_
        refine Go.aload dX6_copy_68 rfl ?_
        refine Go.getI dX6_copy_70 flX6_268 hq2 rfl ?_
        refine Go.eqI (y := gSb g t) (hsd.1) ?_
        refine Go.icmp_eq 83 dX6_copy_73 rfl (fun h73 => ?_) (fun h73 => ?_)
        · refine Go.aload dX6_copy_83 rfl ?_
          refine Go.iload_n dX6_copy_85 rfl ?_
          refine Go.iload dX6_copy_86 rfl ?_
          refine Go.callVI [] dX6_copy_88 lkX6_271 imX4_hasPart seX4_hasPart cbX4_hasPart (s_hasPart hq hr hsc.2.1 h40 f n) hq rfl rfl rfl (Nat.le_of_ble_eq_true rfl) (fun r11 M12 hr11 => ?_)
          obtain ⟨er11, emr11⟩ := hr11
          rw [emr11]
          clear emr11 M12
          subst er11
          refine Go.if_eq 106 dX6_copy_91 rfl (fun h91 => ?_) (fun h91 => ?_)
          · refine Go.aload_n dX6_copy_106 rfl ?_
            refine Go.ldc dX6_copy_107 kcX6_62 ?_
            refine Go.callVI [] dX6_copy_109 lkX6_63 imX6_finding seX6_finding cbX6_finding (s_finding hG (code := (-1000000001)) (q := 0) (by decide) (by decide)) (shp hG rfl) rfl rfl rfl (Nat.le_of_ble_eq_true rfl) (fun r13 M14 hr13 => ?_)
            refine Go.iret dX6_copy_112 rfl rfl ?_
            refine ⟨_, rfl, ?_⟩
            rw [if_neg (fun z => z.elim (of_decide_eq_false (bi_0.mp h44)) (of_decide_eq_false (bi_0.mp h52))), if_pos h73, if_neg (by rw [bi_0.mp h91]; simp), hr13.2]
            exact ⟨hr13.1, hC.fnd⟩
          · refine Go.aload dX6_copy_94 rfl ?_
            refine Go.iload dX6_copy_96 rfl ?_
            refine Go.iload dX6_copy_98 rfl ?_
            refine Go.callVI [] dX6_copy_100 lkX6_271 imX4_hasPart seX4_hasPart cbX4_hasPart (s_hasPart hq2 hr2 hsd.2.1 h41 c n) hq2 rfl rfl rfl (Nat.le_of_ble_eq_true rfl) (fun r15 M16 hr15 => ?_)
            obtain ⟨er15, emr15⟩ := hr15
            rw [emr15]
            clear emr15 M16
            subst er15
            refine Go.if_ne 113 dX6_copy_103 rfl (fun h103 => ?_) (fun h103 => ?_)
            · have hpp := And.intro (bi_n0.mp h91) (bi_n0.mp h103)
              obtain ⟨a, b, ea, eb, hab⟩ := partB_ok (bi_n0.mp h91) h40
              obtain ⟨c', b', ec, eb', hcb⟩ := partB_ok (bi_n0.mp h103) h41
              subst ea
              subst ec
              subst eb
              have ebb : b = b' := (nI_inj (by omega) (by omega)).mp eb'
              subst ebb
              clear eb'
              refine Go.aload dX6_copy_113 rfl ?_
              refine Go.getR dX6_copy_115 flX6_257 hq rfl ?_
              refine Go.iload_n dX6_copy_118 rfl ?_
              refine Go.aload dX6_copy_119 rfl ?_
              refine Go.getR dX6_copy_121 flX6_257 hq2 rfl ?_
              refine Go.iload dX6_copy_124 rfl ?_
              refine Go.iload dX6_copy_126 rfl ?_
              refine Go.copyl dX6_copy_128 acX6_274 hr hr2 (nI_pos (by omega)) (nI_pos (by omega)) (nI_pos (by omega)) (by rw [ncl (by omega), ncl (by omega)]; omega) (by rw [ncl (by omega), ncl (by omega)]; omega) (Nat.le_of_ble_eq_true rfl) ?_
              refine Go.nmM (fun N17 eN17 => ?_)
              refine Go.iload dX6_copy_131 rfl ?_
              refine Go.iret dX6_copy_133 rfl rfl ?_
              rw [if_neg (fun z => z.elim (of_decide_eq_false (bi_0.mp h44)) (of_decide_eq_false (bi_0.mp h52))), if_pos h73, if_pos (by rw [hpp.1, hpp.2]; rfl), tN_nI (by omega), tN_nI (by omega), tN_nI (by omega)]
              rw [ncl (by omega), ncl (by omega), ncl (by omega)] at eN17
              refine ⟨_, rfl, rfl, comp_setS hC (fun a ha => by rw [eN17]; rfl) (fun z hz => ?_) (fun j hj => ?_)⟩
              · rw [eN17]
                simp only [setl]
                rw [if_neg (by omega)]
              · have hold := sht hC hj
                refine ⟨by rw [eN17]; exact hold.1, by rw [eN17]; exact hold.2.1, fun i hi => ?_⟩
                by_cases e : j = t
                · subst e
                  rw [← er2, eN17]
                  simp only [setl, if_true, va_cpy, true_and]
                  split
                  · exact hsc.2.2 _ (by omega)
                  · exact hsd.2.2 i hi
                · rw [eN17]
                  simp only [setl]
                  rw [if_neg (by omega), if_neg (fun z => e z.1)]
                  exact hold.2.2 i hi
            · refine Go.aload_n dX6_copy_106 rfl ?_
              refine Go.ldc dX6_copy_107 kcX6_62 ?_
              refine Go.callVI [] dX6_copy_109 lkX6_63 imX6_finding seX6_finding cbX6_finding (s_finding hG (code := (-1000000001)) (q := 0) (by decide) (by decide)) (shp hG rfl) rfl rfl rfl (Nat.le_of_ble_eq_true rfl) (fun r18 M19 hr18 => ?_)
              refine Go.iret dX6_copy_112 rfl rfl ?_
              refine ⟨_, rfl, ?_⟩
              rw [if_neg (fun z => z.elim (of_decide_eq_false (bi_0.mp h44)) (of_decide_eq_false (bi_0.mp h52))), if_pos h73, if_neg (by rw [bi_0.mp h103]; simp), hr18.2]
              exact ⟨hr18.1, hC.fnd⟩
        · refine Go.aload_n dX6_copy_76 rfl ?_
          refine Go.ldc dX6_copy_77 kcX6_170 ?_
          refine Go.callVI [] dX6_copy_79 lkX6_63 imX6_finding seX6_finding cbX6_finding (s_finding hG (code := (-1000000003)) (q := 2) (by decide) (by decide)) (shp hG rfl) rfl rfl rfl (Nat.le_of_ble_eq_true rfl) (fun r20 M21 hr20 => ?_)
          refine Go.iret dX6_copy_82 rfl rfl ?_
          refine ⟨_, rfl, ?_⟩
          rw [if_neg (fun z => z.elim (of_decide_eq_false (bi_0.mp h44)) (of_decide_eq_false (bi_0.mp h52))), if_neg h73, hr20.2]
          exact ⟨hr20.1, hC.fnd⟩
      · refine Go.aload_n dX6_copy_55 rfl ?_
        refine Go.ldcw dX6_copy_56 kcX6_267 ?_
        refine Go.callVI [] dX6_copy_59 lkX6_63 imX6_finding seX6_finding cbX6_finding (s_finding hG (code := (-1000000006)) (q := 5) (by decide) (by decide)) (shp hG rfl) rfl rfl rfl (Nat.le_of_ble_eq_true rfl) (fun r22 M23 hr22 => ?_)
        refine Go.iret dX6_copy_62 rfl rfl ?_
        refine ⟨_, rfl, ?_⟩
        rw [if_pos (Or.inr (of_decide_eq_true (bi_n0.mp h52))), hr22.2]
        exact ⟨hr22.1, hC.fnd⟩
  · refine Go.iload_n dX6_copy_0 rfl ?_
    refine Go.iconst (v := 4) dX6_copy_1 (by decide) ?_
    refine Go.callSI [] dX6_copy_2 lkX6_58 stX6_isBelow cbX6_isBelow (s_isBelow s0 4) rfl rfl (Nat.le_of_ble_eq_true rfl) (fun r1 M2 hr1 => ?_)
    obtain ⟨er1, emr1⟩ := hr1
    rw [emr1]
    clear emr1 M2
    subst er1
    refine Go.if_eq 16 dX6_copy_5 rfl (fun h5 => ?_) (fun h5 => ?_)
    · refine Go.aload_n dX6_copy_16 rfl ?_
      refine Go.ldc dX6_copy_17 kcX6_62 ?_
      refine Go.callVI [] dX6_copy_19 lkX6_63 imX6_finding seX6_finding cbX6_finding (s_finding hG (code := (-1000000001)) (q := 0) (by decide) (by decide)) (shp hG rfl) rfl rfl rfl (Nat.le_of_ble_eq_true rfl) (fun r3 M4 hr3 => ?_)
      refine Go.iret dX6_copy_22 rfl rfl ?_
      refine ⟨_, rfl, ?_⟩
      rw [show A_copy g s0 f t0 c n = ((-1000000001), fndS g 0) from if_neg hgd, hr3.2]
      exact ⟨hr3.1, hC.fnd⟩
    · refine Go.iload_n dX6_copy_8 rfl ?_
      refine Go.iconst (v := 4) dX6_copy_9 (by decide) ?_
      refine Go.callSI [] dX6_copy_10 lkX6_58 stX6_isBelow cbX6_isBelow (s_isBelow t0 4) rfl rfl (Nat.le_of_ble_eq_true rfl) (fun r5 M6 hr5 => ?_)
      obtain ⟨er5, emr5⟩ := hr5
      rw [emr5]
      clear emr5 M6
      subst er5
      refine Go.if_ne 23 dX6_copy_13 rfl (fun h13 => ?_) (fun h13 => ?_)
      · exact absurd (by rw [bi_n0.mp h5, bi_n0.mp h13]; rfl) hgd
      · refine Go.aload_n dX6_copy_16 rfl ?_
        refine Go.ldc dX6_copy_17 kcX6_62 ?_
        refine Go.callVI [] dX6_copy_19 lkX6_63 imX6_finding seX6_finding cbX6_finding (s_finding hG (code := (-1000000001)) (q := 0) (by decide) (by decide)) (shp hG rfl) rfl rfl rfl (Nat.le_of_ble_eq_true rfl) (fun r7 M8 hr7 => ?_)
        refine Go.iret dX6_copy_22 rfl rfl ?_
        refine ⟨_, rfl, ?_⟩
        rw [show A_copy g s0 f t0 c n = ((-1000000001), fndS g 0) from if_neg hgd, hr7.2]
        exact ⟨hr7.1, hC.fnd⟩
def L1 (M N : Mm) (a0 i : Nat) : Prop := N.1 = M.1 ∧ (∀ c, c ≠ 69 → N.2 c = M.2 c) ∧ ∀ k, k < i → N.2 69 k = M.2 68 (a0 + k)
def L2 (M N : Mm) (c0 i : Nat) : Prop := N.1 = M.1 ∧ (∀ c, c ≠ 68 → N.2 c = M.2 c) ∧ ∀ j, N.2 68 j = if c0 ≤ j ∧ j < c0 + i then M.2 69 (j - c0) else M.2 68 j
theorem L1.step {M N : Mm} {a0 i : Nat} (h : L1 M N a0 i) : L1 M (upl N 69 i (N.2 68 (a0 + i))) a0 (i + 1) := by
  obtain ⟨h1, h2, h3⟩ := h
  refine ⟨h1, fun c hc => by rw [rl_ne hc, h2 c hc], fun k hk => ?_⟩
  rw [rl_eq]
  unfold vp_updL
  by_cases e : k = i
  · rw [if_pos e, e, h2 68 (by decide)]
  · rw [if_neg e]
    exact h3 k (by omega)
theorem L2.step {M N : Mm} {c0 i : Nat} (h : L2 M N c0 i) : L2 M (upl N 68 (c0 + i) (N.2 69 i)) c0 (i + 1) := by
  obtain ⟨h1, h2, h3⟩ := h
  refine ⟨h1, fun c hc => by rw [rl_ne hc, h2 c hc], fun j => ?_⟩
  rw [rl_eq]
  unfold vp_updL
  by_cases e : j = c0 + i
  · rw [if_pos e, if_pos (by omega), h2 69 (by decide), show j - c0 = i by omega]
  · rw [if_neg e, h3 j]
    by_cases q : c0 ≤ j ∧ j < c0 + i
    · rw [if_pos q, if_pos (by omega)]
    · rw [if_neg q, if_neg (by omega)]
set_option maxRecDepth 20000 in
theorem l_copy1 {G : Gt} {d : Nat} {M : Mm} (hG : gS G = SHAPE) {s a t c b : Nat} (hs4 : s < 4) (ht4 : t < 4) (ha : a + b ≤ 40) (hc : c + b ≤ 40) {post : Option Value → Mm → Prop} (hout : ∀ N, L1 M N (40 * s + a) b → Go G (d) mX7_copy 136 [some (.ref 49), some (.int (nI s)), some (.int (nI a)), some (.int (nI t)), some (.int (nI c)), some (.int (nI b)), some (.int (nI b))] [] N post) : ∀ (n i : Nat) (N : Mm), i + n = b → L1 M N (40 * s + a) i → Go G (d) mX7_copy 102 [some (.ref 49), some (.int (nI s)), some (.int (nI a)), some (.int (nI t)), some (.int (nI c)), some (.int (nI b)), some (.int (nI i))] [] N post := by
  intro n
  induction n with
  | zero =>
    intro i N hin hL
    refine Go.iload dX7_copy_102 rfl ?_
    refine Go.iload dX7_copy_104 rfl ?_
    refine Go.icmp_ge 136 dX7_copy_106 rfl (fun _ => ?_) (fun h106 => absurd (nI_le (a := b) (b := i) (by omega) (by omega)) h106)
    have e9 : i = b := by omega
    subst e9
    exact hout N hL
  | succ n ih =>
    intro i N hin hL
    have hi : i < b := by omega
    refine Go.iload dX7_copy_102 rfl ?_
    refine Go.iload dX7_copy_104 rfl ?_
    refine Go.icmp_ge 136 dX7_copy_106 rfl (fun h106 => absurd h106 (nI_ge (a := i) (b := b) (by omega) (by omega))) (fun _ => ?_)
    refine Go.aload_n dX7_copy_109 rfl ?_
    refine Go.getR dX7_copy_110 flX7_69 (shp hG rfl) rfl ?_
    refine Go.iload dX7_copy_113 rfl ?_
    refine Go.aload_n dX7_copy_115 rfl ?_
    refine Go.getR dX7_copy_116 flX7_65 (shp hG rfl) rfl ?_
    refine Go.bipush (v := 40) dX7_copy_119 (by decide) ?_
    refine Go.iload_n dX7_copy_121 rfl ?_
    refine Go.imul dX7_copy_122 ?_
    refine Go.eqI (y := nI (40 * s)) (pk_mul _ _) ?_
    refine Go.iload_n dX7_copy_123 rfl ?_
    refine Go.iadd dX7_copy_124 ?_
    refine Go.eqI (y := nI (40 * s + a)) (nI_add _ _) ?_
    refine Go.iload dX7_copy_125 rfl ?_
    refine Go.iadd dX7_copy_127 ?_
    refine Go.eqI (y := nI (40 * s + a + i)) (nI_add _ _) ?_
    refine Go.lald dX7_copy_128 (shp hG rfl) (vin (by omega) (by decide)) ?_
    refine Go.last dX7_copy_129 (shp hG rfl) (vin (by omega) (by decide)) ?_
    refine Go.nmM (fun N1 eN1 => ?_)
    refine Go.iinc (v := nI (i + 1)) (ls' := [some (.ref 49), some (.int (nI s)), some (.int (nI a)), some (.int (nI t)), some (.int (nI c)), some (.int (nI b)), some (.int (nI (i + 1)))]) dX7_copy_130 rfl (nI_1 _) rfl rfl ?_
    refine Go.goto 102 dX7_copy_133 rfl ?_
    rw [show N1 = upl N 69 i (N.2 68 (40 * s + a + i)) from by rw [eN1, ncl (by omega), ncl (by omega)]]
    exact ih (i + 1) _ (by omega) hL.step
set_option maxRecDepth 20000 in
theorem l_copy2 {G : Gt} {d : Nat} {M : Mm} (hG : gS G = SHAPE) {s a t c b : Nat} (hs4 : s < 4) (ht4 : t < 4) (ha : a + b ≤ 40) (hc : c + b ≤ 40) {post : Option Value → Mm → Prop} (hout : ∀ N, L2 M N (40 * t + c) b → Go G (d) mX7_copy 174 [some (.ref 49), some (.int (nI s)), some (.int (nI a)), some (.int (nI t)), some (.int (nI c)), some (.int (nI b)), some (.int (nI b))] [] N post) : ∀ (n i : Nat) (N : Mm), i + n = b → L2 M N (40 * t + c) i → Go G (d) mX7_copy 139 [some (.ref 49), some (.int (nI s)), some (.int (nI a)), some (.int (nI t)), some (.int (nI c)), some (.int (nI b)), some (.int (nI i))] [] N post := by
  intro n
  induction n with
  | zero =>
    intro i N hin hL
    refine Go.iload dX7_copy_139 rfl ?_
    refine Go.iload dX7_copy_141 rfl ?_
    refine Go.icmp_ge 174 dX7_copy_143 rfl (fun _ => ?_) (fun h143 => absurd (nI_le (a := b) (b := i) (by omega) (by omega)) h143)
    have e9 : i = b := by omega
    subst e9
    exact hout N hL
  | succ n ih =>
    intro i N hin hL
    have hi : i < b := by omega
    refine Go.iload dX7_copy_139 rfl ?_
    refine Go.iload dX7_copy_141 rfl ?_
    refine Go.icmp_ge 174 dX7_copy_143 rfl (fun h143 => absurd h143 (nI_ge (a := i) (b := b) (by omega) (by omega))) (fun _ => ?_)
    refine Go.aload_n dX7_copy_146 rfl ?_
    refine Go.getR dX7_copy_147 flX7_65 (shp hG rfl) rfl ?_
    refine Go.bipush (v := 40) dX7_copy_150 (by decide) ?_
    refine Go.iload_n dX7_copy_152 rfl ?_
    refine Go.imul dX7_copy_153 ?_
    refine Go.eqI (y := nI (40 * t)) (pk_mul _ _) ?_
    refine Go.iload dX7_copy_154 rfl ?_
    refine Go.iadd dX7_copy_156 ?_
    refine Go.eqI (y := nI (40 * t + c)) (nI_add _ _) ?_
    refine Go.iload dX7_copy_157 rfl ?_
    refine Go.iadd dX7_copy_159 ?_
    refine Go.eqI (y := nI (40 * t + c + i)) (nI_add _ _) ?_
    refine Go.aload_n dX7_copy_160 rfl ?_
    refine Go.getR dX7_copy_161 flX7_69 (shp hG rfl) rfl ?_
    refine Go.iload dX7_copy_164 rfl ?_
    refine Go.lald dX7_copy_166 (shp hG rfl) (vin (by omega) (by decide)) ?_
    refine Go.last dX7_copy_167 (shp hG rfl) (vin (by omega) (by decide)) ?_
    refine Go.nmM (fun N1 eN1 => ?_)
    refine Go.iinc (v := nI (i + 1)) (ls' := [some (.ref 49), some (.int (nI s)), some (.int (nI a)), some (.int (nI t)), some (.int (nI c)), some (.int (nI b)), some (.int (nI (i + 1)))]) dX7_copy_168 rfl (nI_1 _) rfl rfl ?_
    refine Go.goto 139 dX7_copy_171 rfl ?_
    rw [show N1 = upl N 68 (40 * t + c + i) (N.2 69 i) from by rw [eN1, ncl (by omega), ncl (by omega)]]
    exact ih (i + 1) _ (by omega) hL.step
set_option maxRecDepth 20000 in
theorem m_copy {G : Gt} {d : Nat} {M : Mm} (hG : gS G = SHAPE) {g : Sg} (hC : ModIs M g) (hg : SgOk g) (s0 f t0 c n : Int32) : ExI G (d + 2) mX7_copy [.ref 49, .int s0, .int f, .int t0, .int c, .int n] M (fun r M' => r = (A_copy g s0 f t0 c n).1 ∧ ModIs M' (A_copy g s0 f t0 c n).2 ∧ CSame M M') := by
  refine Ex.of (by decide) (Nat.le_of_ble_eq_true rfl) ?_
  show Go G (d + 2) mX7_copy 0 [some (.ref 49), some (.int s0), some (.int f), some (.int t0), some (.int c), some (.int n), none] [] M _
  by_cases hgd : (inb s0 4 && inb t0 4) = true
  · rw [Bool.and_eq_true] at hgd
    obtain ⟨s, hs4, es⟩ := inb_ex (n := 4) hgd.1 (by decide)
    obtain ⟨t, ht4, et⟩ := inb_ex (n := 4) hgd.2 (by decide)
    subst es
    subst et
    have h40 := (hg.2.2.2.2 s hs4).2
    have h41 := (hg.2.2.2.2 t ht4).2
    have hA0 : A_copy g (nI s) f (nI t) c n = (if gSb g s = 0 ∨ gSb g t = 0 then (-1000000006, fndS g 5) else if gSb g s = gSb g t then (if partB (gSl g s) f n && partB (gSl g t) c n then (n, cpS g s (tN f) t (tN c) (tN n)) else (-1000000001, fndS g 0)) else (-1000000003, fndS g 2)) := by
      have h9 : A_copy g (nI s) f (nI t) c n = _ := if_pos (by rw [hgd.1, hgd.2]; rfl)
      rw [tN_nI (x := s) (by omega), tN_nI (x := t) (by omega)] at h9
      exact h9
    rw [hA0]
    clear hA0
    refine Go.iload_n dX7_copy_0 rfl ?_
    refine Go.callSI [] dX7_copy_1 lkX7_340 stX7_isSheet cbX7_isSheet (m_isSheet (nI s)) rfl rfl (Nat.le_of_ble_eq_true rfl) (fun r1 M2 hr1 => ?_)
    obtain ⟨er1, emr1⟩ := hr1
    rw [emr1]
    clear emr1 M2
    subst er1
    refine Go.eqI (y := 1) (by rw [show inb (nI s) 4 = decide (s < 4) from inb_nI (by omega) (by decide), decide_eq_true (by omega)]; rfl) ?_
    refine Go.if_eq 14 dX7_copy_4 rfl (fun h4 => absurd h4 (by decide)) (fun _ => ?_)
    refine Go.iload_n dX7_copy_7 rfl ?_
    refine Go.callSI [] dX7_copy_8 lkX7_340 stX7_isSheet cbX7_isSheet (m_isSheet (nI t)) rfl rfl (Nat.le_of_ble_eq_true rfl) (fun r3 M4 hr3 => ?_)
    obtain ⟨er3, emr3⟩ := hr3
    rw [emr3]
    clear emr3 M4
    subst er3
    refine Go.eqI (y := 1) (by rw [show inb (nI t) 4 = decide (t < 4) from inb_nI (by omega) (by decide), decide_eq_true (by omega)]; rfl) ?_
    refine Go.if_ne 21 dX7_copy_11 rfl (fun _ => ?_) (fun h11 => absurd h11 (by decide))
    refine Go.aload_n dX7_copy_21 rfl ?_
    refine Go.getR dX7_copy_22 flX7_59 (shp hG rfl) rfl ?_
    refine Go.iload_n dX7_copy_25 rfl ?_
    refine Go.iald dX7_copy_26 (shp hG rfl) (vin (by omega) (by decide)) ?_
    refine Go.eqI (y := gSb g s) (by rw [ncl (by omega)]; exact (shm hC hs4).1) ?_
    refine Go.if_eq 39 dX7_copy_27 rfl (fun h27 => ?_) (fun h27 => ?_)
    · refine Go.aload_n dX7_copy_39 rfl ?_
      refine Go.ldcw dX7_copy_40 kcX7_344 ?_
      refine Go.callVI [] dX7_copy_43 lkX7_104 imX7_finds seX7_finds cbX7_finds (m_finds hG (code := (-1000000006)) (q := 5) (by decide) (by decide)) (shp hG rfl) rfl rfl rfl (Nat.le_of_ble_eq_true rfl) (fun r5 M6 hr5 => ?_)
      refine Go.iret dX7_copy_46 rfl rfl ?_
      refine ⟨_, rfl, ?_⟩
      rw [if_pos (Or.inl h27), hr5.2]
      exact ⟨hr5.1, hC.fnd⟩
    · refine Go.aload_n dX7_copy_30 rfl ?_
      refine Go.getR dX7_copy_31 flX7_59 (shp hG rfl) rfl ?_
      refine Go.iload_n dX7_copy_34 rfl ?_
      refine Go.iald dX7_copy_35 (shp hG rfl) (vin (by omega) (by decide)) ?_
      refine Go.eqI (y := gSb g t) (by rw [ncl (by omega)]; exact (shm hC ht4).1) ?_
      refine Go.if_ne 47 dX7_copy_36 rfl (fun h36 => ?_) (fun h36 => ?_)
      · refine Go.aload_n dX7_copy_47 rfl ?_
        refine Go.getR dX7_copy_48 flX7_59 (shp hG rfl) rfl ?_
        refine Go.iload_n dX7_copy_51 rfl ?_
        refine Go.iald dX7_copy_52 (shp hG rfl) (vin (by omega) (by decide)) ?_
        refine Go.eqI (y := gSb g s) (by rw [ncl (by omega)]; exact (shm hC hs4).1) ?_
        refine Go.aload_n dX7_copy_53 rfl ?_
        refine Go.getR dX7_copy_54 flX7_59 (shp hG rfl) rfl ?_
        refine Go.iload_n dX7_copy_57 rfl ?_
        refine Go.iald dX7_copy_58 (shp hG rfl) (vin (by omega) (by decide)) ?_
        refine Go.eqI (y := gSb g t) (by rw [ncl (by omega)]; exact (shm hC ht4).1) ?_
        refine Go.icmp_eq 69 dX7_copy_59 rfl (fun h59 => ?_) (fun h59 => ?_)
        · refine Go.aload_n dX7_copy_69 rfl ?_
          refine Go.iload_n dX7_copy_70 rfl ?_
          refine Go.iload_n dX7_copy_71 rfl ?_
          refine Go.iload dX7_copy_72 rfl ?_
          refine Go.callVI [] dX7_copy_74 lkX7_349 imX7_isPart seX7_isPart cbX7_isPart (m_isPart hG (s := s) hs4 (shm hC hs4).2.1 h40 f n) (shp hG rfl) rfl rfl rfl (Nat.le_of_ble_eq_true rfl) (fun r7 M8 hr7 => ?_)
          obtain ⟨er7, emr7⟩ := hr7
          rw [emr7]
          clear emr7 M8
          subst er7
          refine Go.if_eq 92 dX7_copy_77 rfl (fun h77 => ?_) (fun h77 => ?_)
          · refine Go.aload_n dX7_copy_92 rfl ?_
            refine Go.ldc dX7_copy_93 kcX7_85 ?_
            refine Go.callVI [] dX7_copy_95 lkX7_104 imX7_finds seX7_finds cbX7_finds (m_finds hG (code := (-1000000001)) (q := 0) (by decide) (by decide)) (shp hG rfl) rfl rfl rfl (Nat.le_of_ble_eq_true rfl) (fun r9 M10 hr9 => ?_)
            refine Go.iret dX7_copy_98 rfl rfl ?_
            refine ⟨_, rfl, ?_⟩
            rw [if_neg (fun z => z.elim h27 h36), if_pos h59, if_neg (by rw [bi_0.mp h77]; simp), hr9.2]
            exact ⟨hr9.1, hC.fnd⟩
          · refine Go.aload_n dX7_copy_80 rfl ?_
            refine Go.iload_n dX7_copy_81 rfl ?_
            refine Go.iload dX7_copy_82 rfl ?_
            refine Go.iload dX7_copy_84 rfl ?_
            refine Go.callVI [] dX7_copy_86 lkX7_349 imX7_isPart seX7_isPart cbX7_isPart (m_isPart hG (s := t) ht4 (shm hC ht4).2.1 h41 c n) (shp hG rfl) rfl rfl rfl (Nat.le_of_ble_eq_true rfl) (fun r11 M12 hr11 => ?_)
            obtain ⟨er11, emr11⟩ := hr11
            rw [emr11]
            clear emr11 M12
            subst er11
            refine Go.if_ne 99 dX7_copy_89 rfl (fun h89 => ?_) (fun h89 => ?_)
            · have hpp := And.intro (bi_n0.mp h77) (bi_n0.mp h89)
              obtain ⟨a, b, ea, eb, hab⟩ := partB_ok (bi_n0.mp h77) h40
              obtain ⟨c', b', ec, eb', hcb⟩ := partB_ok (bi_n0.mp h89) h41
              subst ea
              subst ec
              subst eb
              have ebb : b = b' := (nI_inj (by omega) (by omega)).mp eb'
              subst ebb
              clear eb'
              refine Go.iconst (v := 0) dX7_copy_99 (by decide) ?_
              refine Go.istore (ls' := [some (.ref 49), some (.int (nI s)), some (.int (nI a)), some (.int (nI t)), some (.int (nI c')), some (.int (nI b)), some (.int 0)]) dX7_copy_100 (Nat.le_of_ble_eq_true rfl) rfl rfl ?_
              refine l_copy1 hG hs4 ht4 (by omega) (by omega) (fun N1 hL1 => ?_) b 0 M (by omega) ⟨rfl, fun c hc => rfl, fun k hk => by omega⟩
              refine Go.iconst (v := 0) dX7_copy_136 (by decide) ?_
              refine Go.istore (ls' := [some (.ref 49), some (.int (nI s)), some (.int (nI a)), some (.int (nI t)), some (.int (nI c')), some (.int (nI b)), some (.int 0)]) dX7_copy_137 (Nat.le_of_ble_eq_true rfl) rfl rfl ?_
              refine l_copy2 hG hs4 ht4 (by omega) (by omega) (fun N2 hL2 => ?_) b 0 N1 (by omega) ⟨rfl, fun c hc => rfl, fun j => by rw [if_neg (by omega)]⟩
              refine Go.iload dX7_copy_174 rfl ?_
              refine Go.iret dX7_copy_176 rfl rfl ?_
              have hfin := mod_setS (M' := N2) (B := gSb g) (L := gSl g) (V := fun j i => if j = t ∧ c' ≤ i ∧ i < c' + b then gSn g s (a + (i - c')) else gSn g j i) hC (fun z q1 q2 => by rw [hL2.1, hL1.1]) (fun z q1 q2 => by rw [hL2.2.1 z q1, hL1.2.1 z q2]) (fun j hj => by
                have hold := shm hC hj
                refine ⟨by rw [hL2.1, hL1.1]; exact hold.1, by rw [hL2.1, hL1.1]; exact hold.2.1, fun i hi => ?_⟩
                rw [hL2.2.2]
                by_cases e : j = t ∧ c' ≤ i ∧ i < c' + b
                · rw [if_pos (by omega), if_pos e, hL1.2.2 _ (by omega), show 40 * s + a + (40 * j + i - (40 * t + c')) = 40 * s + (a + (i - c')) by omega]
                  exact (shm hC hs4).2.2 _ (by omega)
                · rw [if_neg (by omega), if_neg e, hL1.2.1 68 (by decide)]
                  exact hold.2.2 i hi)
              rw [if_neg (fun z => z.elim h27 h36), if_pos h59, if_pos (by rw [hpp.1, hpp.2]; rfl), tN_nI (by omega), tN_nI (by omega), tN_nI (by omega)]
              exact ⟨_, rfl, rfl, hfin⟩
            · refine Go.aload_n dX7_copy_92 rfl ?_
              refine Go.ldc dX7_copy_93 kcX7_85 ?_
              refine Go.callVI [] dX7_copy_95 lkX7_104 imX7_finds seX7_finds cbX7_finds (m_finds hG (code := (-1000000001)) (q := 0) (by decide) (by decide)) (shp hG rfl) rfl rfl rfl (Nat.le_of_ble_eq_true rfl) (fun r13 M14 hr13 => ?_)
              refine Go.iret dX7_copy_98 rfl rfl ?_
              refine ⟨_, rfl, ?_⟩
              rw [if_neg (fun z => z.elim h27 h36), if_pos h59, if_neg (by rw [bi_0.mp h89]; simp), hr13.2]
              exact ⟨hr13.1, hC.fnd⟩
        · refine Go.aload_n dX7_copy_62 rfl ?_
          refine Go.ldc dX7_copy_63 kcX7_179 ?_
          refine Go.callVI [] dX7_copy_65 lkX7_104 imX7_finds seX7_finds cbX7_finds (m_finds hG (code := (-1000000003)) (q := 2) (by decide) (by decide)) (shp hG rfl) rfl rfl rfl (Nat.le_of_ble_eq_true rfl) (fun r15 M16 hr15 => ?_)
          refine Go.iret dX7_copy_68 rfl rfl ?_
          refine ⟨_, rfl, ?_⟩
          rw [if_neg (fun z => z.elim h27 h36), if_neg h59, hr15.2]
          exact ⟨hr15.1, hC.fnd⟩
      · refine Go.aload_n dX7_copy_39 rfl ?_
        refine Go.ldcw dX7_copy_40 kcX7_344 ?_
        refine Go.callVI [] dX7_copy_43 lkX7_104 imX7_finds seX7_finds cbX7_finds (m_finds hG (code := (-1000000006)) (q := 5) (by decide) (by decide)) (shp hG rfl) rfl rfl rfl (Nat.le_of_ble_eq_true rfl) (fun r17 M18 hr17 => ?_)
        refine Go.iret dX7_copy_46 rfl rfl ?_
        refine ⟨_, rfl, ?_⟩
        rw [if_pos (Or.inr h36), hr17.2]
        exact ⟨hr17.1, hC.fnd⟩
  · refine Go.iload_n dX7_copy_0 rfl ?_
    refine Go.callSI [] dX7_copy_1 lkX7_340 stX7_isSheet cbX7_isSheet (m_isSheet s0) rfl rfl (Nat.le_of_ble_eq_true rfl) (fun r1 M2 hr1 => ?_)
    obtain ⟨er1, emr1⟩ := hr1
    rw [emr1]
    clear emr1 M2
    subst er1
    refine Go.if_eq 14 dX7_copy_4 rfl (fun h4 => ?_) (fun h4 => ?_)
    · refine Go.aload_n dX7_copy_14 rfl ?_
      refine Go.ldc dX7_copy_15 kcX7_85 ?_
      refine Go.callVI [] dX7_copy_17 lkX7_104 imX7_finds seX7_finds cbX7_finds (m_finds hG (code := (-1000000001)) (q := 0) (by decide) (by decide)) (shp hG rfl) rfl rfl rfl (Nat.le_of_ble_eq_true rfl) (fun r3 M4 hr3 => ?_)
      refine Go.iret dX7_copy_20 rfl rfl ?_
      refine ⟨_, rfl, ?_⟩
      rw [show A_copy g s0 f t0 c n = ((-1000000001), fndS g 0) from if_neg hgd, hr3.2]
      exact ⟨hr3.1, hC.fnd⟩
    · refine Go.iload_n dX7_copy_7 rfl ?_
      refine Go.callSI [] dX7_copy_8 lkX7_340 stX7_isSheet cbX7_isSheet (m_isSheet t0) rfl rfl (Nat.le_of_ble_eq_true rfl) (fun r5 M6 hr5 => ?_)
      obtain ⟨er5, emr5⟩ := hr5
      rw [emr5]
      clear emr5 M6
      subst er5
      refine Go.if_ne 21 dX7_copy_11 rfl (fun h11 => ?_) (fun h11 => ?_)
      · exact absurd (by rw [bi_n0.mp h4, bi_n0.mp h11]; rfl) hgd
      · refine Go.aload_n dX7_copy_14 rfl ?_
        refine Go.ldc dX7_copy_15 kcX7_85 ?_
        refine Go.callVI [] dX7_copy_17 lkX7_104 imX7_finds seX7_finds cbX7_finds (m_finds hG (code := (-1000000001)) (q := 0) (by decide) (by decide)) (shp hG rfl) rfl rfl rfl (Nat.le_of_ble_eq_true rfl) (fun r7 M8 hr7 => ?_)
        refine Go.iret dX7_copy_20 rfl rfl ?_
        refine ⟨_, rfl, ?_⟩
        rw [show A_copy g s0 f t0 c n = ((-1000000001), fndS g 0) from if_neg hgd, hr7.2]
        exact ⟨hr7.1, hC.fnd⟩
