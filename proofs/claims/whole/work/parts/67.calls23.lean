def Zs (M N : Mm) (s i : Nat) : Prop := N.1 = M.1 ∧ (∀ a, a ≠ 68 → N.2 a = M.2 a) ∧ ∀ j, N.2 68 j = if 40 * s ≤ j ∧ j < 40 * s + i then 0 else M.2 68 j
theorem Zs.step {M N : Mm} {s i : Nat} (h : Zs M N s i) : Zs M (upl N 68 (40 * s + i) 0) s (i + 1) := by
  obtain ⟨h1, h2, h3⟩ := h
  refine ⟨by rw [rl_i, h1], fun a ha => by rw [rl_ne ha, h2 a ha], fun j => ?_⟩
  rw [rl_eq]
  unfold vp_updL
  by_cases e : j = 40 * s + i
  · rw [if_pos e, if_pos (by omega)]
  · rw [if_neg e, h3 j]
    by_cases q : 40 * s ≤ j ∧ j < 40 * s + i
    · rw [if_pos q, if_pos (by omega)]
    · rw [if_neg q, if_neg (by omega)]
set_option maxRecDepth 20000 in
theorem l_sheetM {G : Gt} {d : Nat} {M : Mm} (hG : gS G = SHAPE) {s : Nat} (hs4 : s < 4) {b n0 : Int32} {post : Option Value → Mm → Prop} (hout : ∀ N, Zs M N s 40 → Go G (d) mX7_sheet 112 [some (.ref 49), some (.int (nI s)), some (.int b), some (.int n0), some (.int (nI 40))] [] N post) : ∀ (n i : Nat) (N : Mm), i + n = 40 → Zs M N s i → Go G (d) mX7_sheet 86 [some (.ref 49), some (.int (nI s)), some (.int b), some (.int n0), some (.int (nI i))] [] N post := by
  intro n
  induction n with
  | zero =>
    intro i N hin hZ
    refine Go.iload dX7_sheet_86 rfl ?_
    refine Go.bipush (v := 40) dX7_sheet_88 (by decide) ?_
    refine Go.icmp_ge 112 dX7_sheet_90 rfl (fun _ => ?_) (fun h90 => absurd (nI_le (a := 40) (b := i) (by omega) (by omega)) h90)
    have e9 : i = 40 := by omega
    subst e9
    exact hout N hZ
  | succ n ih =>
    intro i N hin hZ
    have hi : i < 40 := by omega
    refine Go.iload dX7_sheet_86 rfl ?_
    refine Go.bipush (v := 40) dX7_sheet_88 (by decide) ?_
    refine Go.icmp_ge 112 dX7_sheet_90 rfl (fun h90 => absurd h90 (nI_ge (a := i) (b := 40) (by omega) (by omega))) (fun _ => ?_)
    refine Go.aload_n dX7_sheet_93 rfl ?_
    refine Go.getR dX7_sheet_94 flX7_65 (shp hG rfl) rfl ?_
    refine Go.bipush (v := 40) dX7_sheet_97 (by decide) ?_
    refine Go.iload_n dX7_sheet_99 rfl ?_
    refine Go.imul dX7_sheet_100 ?_
    refine Go.eqI (y := nI (40 * s)) (pk_mul _ _) ?_
    refine Go.iload dX7_sheet_101 rfl ?_
    refine Go.iadd dX7_sheet_103 ?_
    refine Go.eqI (y := nI (40 * s + i)) (nI_add _ _) ?_
    refine Go.lconst (v := 0) dX7_sheet_104 rfl ?_
    refine Go.last dX7_sheet_105 (shp hG rfl) (vin (by omega) (by decide)) ?_
    refine Go.nmM (fun N1 eN1 => ?_)
    refine Go.iinc (v := nI (i + 1)) (ls' := [some (.ref 49), some (.int (nI s)), some (.int b), some (.int n0), some (.int (nI (i + 1)))]) dX7_sheet_106 rfl (nI_1 _) rfl rfl ?_
    refine Go.goto 86 dX7_sheet_109 rfl ?_
    rw [show N1 = upl N 68 (40 * s + i) 0 from by rw [eN1, ncl (by omega)]]
    exact ih (i + 1) _ (by omega) hZ.step
set_option maxRecDepth 20000 in
theorem j_sheetM {G : Gt} {d : Nat} {M : Mm} (hG : gS G = SHAPE) {g : Sg} (hC : ModIs M g) {s : Nat} (hs4 : s < 4) {b n : Int32} : Go G (d + 1) mX7_sheet 36 [some (.ref 49), some (.int (nI s)), some (.int b), some (.int n), none] [] M (fun v M' => ∃ r, v = some (.int r) ∧ r = ((if n < 0 then (-1000000007, fndS g 6) else if n ≤ 40 then (nI (if b = 0 then 0 else tN n), layS g s b (if b = 0 then 0 else tN n)) else (-1000000001, fndS g 0) : Int32 × Sg)).1 ∧ ModIs M' ((if n < 0 then (-1000000007, fndS g 6) else if n ≤ 40 then (nI (if b = 0 then 0 else tN n), layS g s b (if b = 0 then 0 else tN n)) else (-1000000001, fndS g 0) : Int32 × Sg)).2 ∧ CSame M M') := by
  refine Go.iload_n dX7_sheet_36 rfl ?_
  refine Go.if_ge 48 dX7_sheet_37 rfl (fun h37 => ?_) (fun h37 => ?_)
  · refine Go.iload_n dX7_sheet_48 rfl ?_
    refine Go.bipush (v := 40) dX7_sheet_49 (by decide) ?_
    refine Go.icmp_le 61 dX7_sheet_51 rfl (fun h51 => ?_) (fun h51 => ?_)
    · refine Go.aload_n dX7_sheet_61 rfl ?_
      refine Go.getR dX7_sheet_62 flX7_59 (shp hG rfl) rfl ?_
      refine Go.iload_n dX7_sheet_65 rfl ?_
      refine Go.iload_n dX7_sheet_66 rfl ?_
      refine Go.iast dX7_sheet_67 (shp hG rfl) (vin (by omega) (by decide)) ?_
      refine Go.nmM (fun N1 eN1 => ?_)
      refine Go.aload_n dX7_sheet_68 rfl ?_
      refine Go.getR dX7_sheet_69 flX7_62 (shp hG rfl) rfl ?_
      refine Go.iload_n dX7_sheet_72 rfl ?_
      refine Go.iload_n dX7_sheet_73 rfl ?_
      refine Go.if_ne 81 dX7_sheet_74 rfl (fun h74 => ?_) (fun h74 => ?_)
      · refine Go.iload_n dX7_sheet_81 rfl ?_
        refine Go.iast dX7_sheet_82 (shp hG rfl) (vin (by omega) (by decide)) ?_
        refine Go.nmM (fun N2 eN2 => ?_)
        refine Go.iconst (v := 0) dX7_sheet_83 (by decide) ?_
        refine Go.istore (ls' := [some (.ref 49), some (.int (nI s)), some (.int b), some (.int n), some (.int 0)]) dX7_sheet_84 (Nat.le_of_ble_eq_true rfl) rfl rfl ?_
        obtain ⟨m, hm, em⟩ := nI_of2 (M := 40) (n := 40) (by decide) (i_le_n h37) h51
        subst em
        rw [if_neg (i_le_n h37), if_pos h51, tN_nI (by omega)]
        have hmS : N2.1 67 = upd (M.1 67) s (nI (if b = 0 then 0 else m)) := by rw [eN2, rd_eq, eN1, rd_ne (by decide), ncl (by omega)]; simp [h74]; try rfl
        have hmB : N2.1 66 = upd (M.1 66) s b := by rw [eN2, rd_ne (by decide), eN1, rd_eq, ncl (by omega)]
        have hmO : ∀ a, a ≠ 66 → a ≠ 67 → N2.1 a = M.1 a := fun a q1 q2 => by rw [eN2, rd_ne q2, eN1, rd_ne q1]
        have hml : N2.2 = M.2 := by rw [eN2, rd_l, eN1, rd_l]
        refine l_sheetM hG hs4 (fun N9 hZ => ?_) 40 0 N2 (by omega) ⟨rfl, fun a ha => rfl, fun j => by rw [if_neg (by omega)]⟩
        refine Go.aload_n dX7_sheet_112 rfl ?_
        refine Go.getR dX7_sheet_113 flX7_62 (shp hG rfl) rfl ?_
        refine Go.iload_n dX7_sheet_116 rfl ?_
        refine Go.iald dX7_sheet_117 (shp hG rfl) (vin (by omega) (by decide)) ?_
        refine Go.iret dX7_sheet_118 rfl rfl ?_
        obtain ⟨z1, z2, z3⟩ := hZ
        refine ⟨_, rfl, ?_, mod_setS hC (fun a q1 q2 => ?_) (fun a q1 q2 => ?_) (fun j hj => ?_)⟩
        · rw [z1, ncl (by omega), hmS]
          simp [upd]
        · rw [z1, hmO a q1 q2]
        · rw [z2 a q1, hml]
        · have hold := shm hC hj
          rw [z1, hmS, hmB]
          by_cases e : j = s
          · subst e
            refine ⟨by simp [upd], by simp [upd], fun i hi => ?_⟩
            rw [z3, if_pos (by omega)]
            simp
          · refine ⟨by simp [upd, e]; exact hold.1, by simp [upd, e]; exact hold.2.1, fun i hi => ?_⟩
            rw [z3, if_neg (by omega), hml]
            simp only [if_neg e]
            exact hold.2.2 i hi
      · refine Go.iconst (v := 0) dX7_sheet_77 (by decide) ?_
        refine Go.goto 82 dX7_sheet_78 rfl ?_
        refine Go.iast dX7_sheet_82 (shp hG rfl) (vin (by omega) (by decide)) ?_
        refine Go.nmM (fun N3 eN3 => ?_)
        refine Go.iconst (v := 0) dX7_sheet_83 (by decide) ?_
        refine Go.istore (ls' := [some (.ref 49), some (.int (nI s)), some (.int b), some (.int n), some (.int 0)]) dX7_sheet_84 (Nat.le_of_ble_eq_true rfl) rfl rfl ?_
        obtain ⟨m, hm, em⟩ := nI_of2 (M := 40) (n := 40) (by decide) (i_le_n h37) h51
        subst em
        rw [if_neg (i_le_n h37), if_pos h51, tN_nI (by omega)]
        have hmS : N3.1 67 = upd (M.1 67) s (nI (if b = 0 then 0 else m)) := by rw [eN3, rd_eq, eN1, rd_ne (by decide), ncl (by omega)]; simp [h74]; try rfl
        have hmB : N3.1 66 = upd (M.1 66) s b := by rw [eN3, rd_ne (by decide), eN1, rd_eq, ncl (by omega)]
        have hmO : ∀ a, a ≠ 66 → a ≠ 67 → N3.1 a = M.1 a := fun a q1 q2 => by rw [eN3, rd_ne q2, eN1, rd_ne q1]
        have hml : N3.2 = M.2 := by rw [eN3, rd_l, eN1, rd_l]
        refine l_sheetM hG hs4 (fun N9 hZ => ?_) 40 0 N3 (by omega) ⟨rfl, fun a ha => rfl, fun j => by rw [if_neg (by omega)]⟩
        refine Go.aload_n dX7_sheet_112 rfl ?_
        refine Go.getR dX7_sheet_113 flX7_62 (shp hG rfl) rfl ?_
        refine Go.iload_n dX7_sheet_116 rfl ?_
        refine Go.iald dX7_sheet_117 (shp hG rfl) (vin (by omega) (by decide)) ?_
        refine Go.iret dX7_sheet_118 rfl rfl ?_
        obtain ⟨z1, z2, z3⟩ := hZ
        refine ⟨_, rfl, ?_, mod_setS hC (fun a q1 q2 => ?_) (fun a q1 q2 => ?_) (fun j hj => ?_)⟩
        · rw [z1, ncl (by omega), hmS]
          simp [upd]
        · rw [z1, hmO a q1 q2]
        · rw [z2 a q1, hml]
        · have hold := shm hC hj
          rw [z1, hmS, hmB]
          by_cases e : j = s
          · subst e
            refine ⟨by simp [upd], by simp [upd], fun i hi => ?_⟩
            rw [z3, if_pos (by omega)]
            simp
          · refine ⟨by simp [upd, e]; exact hold.1, by simp [upd, e]; exact hold.2.1, fun i hi => ?_⟩
            rw [z3, if_neg (by omega), hml]
            simp only [if_neg e]
            exact hold.2.2 i hi
    · refine Go.aload_n dX7_sheet_54 rfl ?_
      refine Go.ldc dX7_sheet_55 kcX7_85 ?_
      refine Go.callVI [] dX7_sheet_57 lkX7_104 imX7_finds seX7_finds cbX7_finds (m_finds hG (code := (-1000000001)) (q := 0) (by decide) (by decide)) (shp hG rfl) rfl rfl rfl (Nat.le_of_ble_eq_true rfl) (fun r4 M5 hr4 => ?_)
      refine Go.iret dX7_sheet_60 rfl rfl ?_
      refine ⟨_, rfl, ?_⟩
      rw [if_neg (i_le_n h37), if_neg h51, hr4.2]
      exact ⟨hr4.1, hC.fnd⟩
  · refine Go.aload_n dX7_sheet_40 rfl ?_
    refine Go.ldcw dX7_sheet_41 kcX7_343 ?_
    refine Go.callVI [] dX7_sheet_44 lkX7_104 imX7_finds seX7_finds cbX7_finds (m_finds hG (code := (-1000000007)) (q := 6) (by decide) (by decide)) (shp hG rfl) rfl rfl rfl (Nat.le_of_ble_eq_true rfl) (fun r6 M7 hr6 => ?_)
    refine Go.iret dX7_sheet_47 rfl rfl ?_
    refine ⟨_, rfl, ?_⟩
    rw [if_pos (i_nle h37), hr6.2]
    exact ⟨hr6.1, hC.fnd⟩
set_option maxRecDepth 20000 in
theorem m_sheet {G : Gt} {d : Nat} {M : Mm} (hG : gS G = SHAPE) {g : Sg} (hC : ModIs M g) (hg : SgOk g) (s0 b n : Int32) : ExI G (d + 2) mX7_sheet [.ref 49, .int s0, .int b, .int n] M (fun r M' => r = (A_sheet g s0 b n).1 ∧ ModIs M' (A_sheet g s0 b n).2 ∧ CSame M M') := by
  refine Ex.of (by decide) (Nat.le_of_ble_eq_true rfl) ?_
  show Go G (d + 2) mX7_sheet 0 [some (.ref 49), some (.int s0), some (.int b), some (.int n), none] [] M _
  by_cases hgd : (inb s0 4 && bitsOk b) = true
  · rw [Bool.and_eq_true] at hgd
    obtain ⟨s, hs4, es⟩ := inb_ex (n := 4) hgd.1 (by decide)
    subst es
    have hA0 : A_sheet g (nI s) b n = (if n < 0 then (-1000000007, fndS g 6) else if n ≤ 40 then (nI (if b = 0 then 0 else tN n), layS g s b (if b = 0 then 0 else tN n)) else (-1000000001, fndS g 0)) := by
      have h9 : A_sheet g (nI s) b n = _ := if_pos (by rw [hgd.1, hgd.2]; rfl)
      rw [tN_nI (x := s) (by omega)] at h9
      exact h9
    rw [hA0]
    clear hA0
    refine Go.iload_n dX7_sheet_0 rfl ?_
    refine Go.callSI [] dX7_sheet_1 lkX7_340 stX7_isSheet cbX7_isSheet (m_isSheet (nI s)) rfl rfl (Nat.le_of_ble_eq_true rfl) (fun r1 M2 hr1 => ?_)
    obtain ⟨er1, emr1⟩ := hr1
    rw [emr1]
    clear emr1 M2
    subst er1
    refine Go.eqI (y := 1) (by rw [show inb (nI s) 4 = decide (s < 4) from inb_nI (by omega) (by decide), decide_eq_true (by omega)]; rfl) ?_
    refine Go.if_eq 29 dX7_sheet_4 rfl (fun h4 => absurd h4 (by decide)) (fun _ => ?_)
    have hbb := hgd.2
    unfold bitsOk at hbb
    simp only [Bool.or_eq_true, decide_eq_true_eq] at hbb
    rcases hbb with ((hb0 | hb0) | hb0) | hb0
    · subst hb0
      refine Go.iload_n dX7_sheet_7 rfl ?_
      refine Go.if_eq 36 dX7_sheet_8 rfl (fun _ => ?_) (fun h8 => absurd (by decide) h8)
      exact j_sheetM hG hC hs4
    · subst hb0
      refine Go.iload_n dX7_sheet_7 rfl ?_
      refine Go.if_eq 36 dX7_sheet_8 rfl (fun h8 => absurd h8 (by decide)) (fun _ => ?_)
      refine Go.iload_n dX7_sheet_11 rfl ?_
      refine Go.bipush (v := 8) dX7_sheet_12 (by decide) ?_
      refine Go.icmp_eq 36 dX7_sheet_14 rfl (fun _ => ?_) (fun h14 => absurd (by decide) h14)
      exact j_sheetM hG hC hs4
    · subst hb0
      refine Go.iload_n dX7_sheet_7 rfl ?_
      refine Go.if_eq 36 dX7_sheet_8 rfl (fun h8 => absurd h8 (by decide)) (fun _ => ?_)
      refine Go.iload_n dX7_sheet_11 rfl ?_
      refine Go.bipush (v := 8) dX7_sheet_12 (by decide) ?_
      refine Go.icmp_eq 36 dX7_sheet_14 rfl (fun h14 => absurd h14 (by decide)) (fun _ => ?_)
      refine Go.iload_n dX7_sheet_17 rfl ?_
      refine Go.bipush (v := 16) dX7_sheet_18 (by decide) ?_
      refine Go.icmp_eq 36 dX7_sheet_20 rfl (fun _ => ?_) (fun h20 => absurd (by decide) h20)
      exact j_sheetM hG hC hs4
    · subst hb0
      refine Go.iload_n dX7_sheet_7 rfl ?_
      refine Go.if_eq 36 dX7_sheet_8 rfl (fun h8 => absurd h8 (by decide)) (fun _ => ?_)
      refine Go.iload_n dX7_sheet_11 rfl ?_
      refine Go.bipush (v := 8) dX7_sheet_12 (by decide) ?_
      refine Go.icmp_eq 36 dX7_sheet_14 rfl (fun h14 => absurd h14 (by decide)) (fun _ => ?_)
      refine Go.iload_n dX7_sheet_17 rfl ?_
      refine Go.bipush (v := 16) dX7_sheet_18 (by decide) ?_
      refine Go.icmp_eq 36 dX7_sheet_20 rfl (fun h20 => absurd h20 (by decide)) (fun _ => ?_)
      refine Go.iload_n dX7_sheet_23 rfl ?_
      refine Go.bipush (v := 64) dX7_sheet_24 (by decide) ?_
      refine Go.icmp_eq 36 dX7_sheet_26 rfl (fun _ => ?_) (fun h26 => absurd (by decide) h26)
      exact j_sheetM hG hC hs4
  · refine Go.iload_n dX7_sheet_0 rfl ?_
    refine Go.callSI [] dX7_sheet_1 lkX7_340 stX7_isSheet cbX7_isSheet (m_isSheet s0) rfl rfl (Nat.le_of_ble_eq_true rfl) (fun r1 M2 hr1 => ?_)
    obtain ⟨er1, emr1⟩ := hr1
    rw [emr1]
    clear emr1 M2
    subst er1
    refine Go.if_eq 29 dX7_sheet_4 rfl (fun h4 => ?_) (fun h4 => ?_)
    · refine Go.aload_n dX7_sheet_29 rfl ?_
      refine Go.ldc dX7_sheet_30 kcX7_85 ?_
      refine Go.callVI [] dX7_sheet_32 lkX7_104 imX7_finds seX7_finds cbX7_finds (m_finds hG (code := (-1000000001)) (q := 0) (by decide) (by decide)) (shp hG rfl) rfl rfl rfl (Nat.le_of_ble_eq_true rfl) (fun r3 M4 hr3 => ?_)
      refine Go.iret dX7_sheet_35 rfl rfl ?_
      refine ⟨_, rfl, ?_⟩
      rw [show A_sheet g s0 b n = ((-1000000001), fndS g 0) from if_neg hgd, hr3.2]
      exact ⟨hr3.1, hC.fnd⟩
    · refine Go.iload_n dX7_sheet_7 rfl ?_
      refine Go.if_eq 36 dX7_sheet_8 rfl (fun h8 => ?_) (fun h8 => ?_)
      · exact absurd (by rw [bi_n0.mp h4]; simp [bitsOk, h8]) hgd
      · refine Go.iload_n dX7_sheet_11 rfl ?_
        refine Go.bipush (v := 8) dX7_sheet_12 (by decide) ?_
        refine Go.icmp_eq 36 dX7_sheet_14 rfl (fun h14 => ?_) (fun h14 => ?_)
        · exact absurd (by rw [bi_n0.mp h4]; simp [bitsOk, h14]) hgd
        · refine Go.iload_n dX7_sheet_17 rfl ?_
          refine Go.bipush (v := 16) dX7_sheet_18 (by decide) ?_
          refine Go.icmp_eq 36 dX7_sheet_20 rfl (fun h20 => ?_) (fun h20 => ?_)
          · exact absurd (by rw [bi_n0.mp h4]; simp [bitsOk, h20]) hgd
          · refine Go.iload_n dX7_sheet_23 rfl ?_
            refine Go.bipush (v := 64) dX7_sheet_24 (by decide) ?_
            refine Go.icmp_eq 36 dX7_sheet_26 rfl (fun h26 => ?_) (fun h26 => ?_)
            · exact absurd (by rw [bi_n0.mp h4]; simp [bitsOk, h26]) hgd
            · refine Go.aload_n dX7_sheet_29 rfl ?_
              refine Go.ldc dX7_sheet_30 kcX7_85 ?_
              refine Go.callVI [] dX7_sheet_32 lkX7_104 imX7_finds seX7_finds cbX7_finds (m_finds hG (code := (-1000000001)) (q := 0) (by decide) (by decide)) (shp hG rfl) rfl rfl rfl (Nat.le_of_ble_eq_true rfl) (fun r5 M6 hr5 => ?_)
              refine Go.iret dX7_sheet_35 rfl rfl ?_
              refine ⟨_, rfl, ?_⟩
              rw [show A_sheet g s0 b n = ((-1000000001), fndS g 0) from if_neg hgd, hr5.2]
              exact ⟨hr5.1, hC.fnd⟩
def wrS (g : Sg) (s i : Nat) (v : Int64) : Sg := setS g (gSb g) (gSl g) (fun j t => if j = s ∧ t = i then cutL (gSb g s) v else gSn g j t)
def A_write (g : Sg) (s i : Int32) (v : Int64) : Int64 × Sg := if inb s 4 then (if gSb g (tN s) = 0 then (Int32.toInt64 (-1000000006), fndS g 5) else if inb i (nI (gSl g (tN s))) then (gSn g (tN s) (tN i), wrS g (tN s) (tN i) v) else (Int32.toInt64 (-1000000001), fndS g 0)) else (Int32.toInt64 (-1000000001), fndS g 0)
theorem inI_ent2 {e : Int32} {n : Nat} (hn : n ≤ 90) : inI e 0 (nI n - 1) = inb e (nI n) := inI_ent hn
set_option maxRecDepth 20000 in
theorem c_write {G : Gt} {d : Nat} {M : Mm} (hG : gS G = SHAPE) {g : Sg} (hC : CompIs M g) (hg : SgOk g) (s0 i : Int32) (v : Int64) : ExL G (d + 2) mX6_write [.ref 0, .int s0, .int i, .long v] M (fun r M' => r = (A_write g s0 i v).1 ∧ CompIs M' (A_write g s0 i v).2 ∧ MSame M M') := by
  refine Ex.of (by decide) (Nat.le_of_ble_eq_true rfl) ?_
  show Go G (d + 2) mX6_write 0 [some (.ref 0), some (.int s0), some (.int i), some (.long v), none, none, none, none, none] [] M _
  by_cases hgd : (inb s0 4) = true
  · obtain ⟨s, hs4, es⟩ := inb_ex (n := 4) hgd (by decide)
    subst es
    have h40 := (hg.2.2.2.2 s hs4).2
    have hA0 : A_write g (nI s) i v = (if gSb g s = 0 then (Int32.toInt64 (-1000000006), fndS g 5) else if inb i (nI (gSl g s)) then (gSn g s (tN i), wrS g s (tN i) v) else (Int32.toInt64 (-1000000001), fndS g 0)) := by
      have h9 : A_write g (nI s) i v = _ := if_pos hgd
      rw [tN_nI (x := s) (by omega)] at h9
      exact h9
    rw [hA0]
    clear hA0
    refine Go.aload_n dX6_write_0 rfl ?_
    refine Go.iload_n dX6_write_1 rfl ?_
    refine Go.callVI [] dX6_write_2 lkX6_254 imX6_sheetFault seX6_sheetFault cbX6_sheetFault (s_sheetFault hG hC (nI s)) (shp hG rfl) rfl rfl rfl (Nat.le_of_ble_eq_true rfl) (fun r1 M2 hr1 => ?_)
    obtain ⟨er1, emr1⟩ := hr1
    rw [emr1]
    clear emr1 M2
    subst er1
    by_cases hb0 : gSb g s = 0
    · rw [show fltS g (nI s) = -1000000006 from by unfold fltS; rw [if_pos hgd, tN_nI (by omega), if_pos hb0]]
      refine Go.istore (ls' := [some (.ref 0), some (.int (nI s)), some (.int i), some (.long v), none, some (.int ((-1000000006))), none, none, none]) dX6_write_5 (Nat.le_of_ble_eq_true rfl) rfl rfl ?_
      refine Go.iload dX6_write_7 rfl ?_
      refine Go.if_eq 20 dX6_write_9 rfl (fun h9 => absurd h9 (by decide)) (fun _ => ?_)
      refine Go.aload_n dX6_write_12 rfl ?_
      refine Go.iload dX6_write_13 rfl ?_
      refine Go.callVI [] dX6_write_15 lkX6_63 imX6_finding seX6_finding cbX6_finding (s_finding hG (code := (-1000000006)) (q := 5) (by decide) (by decide)) (shp hG rfl) rfl rfl rfl (Nat.le_of_ble_eq_true rfl) (fun r3 M4 hr3 => ?_)
      refine Go.i2l dX6_write_18 ?_
      refine Go.lret dX6_write_19 rfl ?_
      refine ⟨_, rfl, ?_⟩
      rw [if_pos hb0, hr3.2, hr3.1]
      exact ⟨rfl, hC.fnd⟩
    · rw [show fltS g (nI s) = 0 from by unfold fltS; rw [if_pos hgd, tN_nI (by omega), if_neg hb0]]
      obtain ⟨q, r, eq, er, hq, hr, hrf⟩ := sheetAt hG hs4
      have hsc := sht hC hs4
      rw [← eq, ← er] at hsc
      refine Go.istore (ls' := [some (.ref 0), some (.int (nI s)), some (.int i), some (.long v), none, some (.int 0), none, none, none]) dX6_write_5 (Nat.le_of_ble_eq_true rfl) rfl rfl ?_
      refine Go.iload dX6_write_7 rfl ?_
      refine Go.if_eq 20 dX6_write_9 rfl (fun _ => ?_) (fun h9 => absurd (by decide) h9)
      refine Go.aload_n dX6_write_20 rfl ?_
      refine Go.getR dX6_write_21 flX6_49 (shp hG rfl) rfl ?_
      refine Go.iload_n dX6_write_24 rfl ?_
      refine Go.aald dX6_write_25 (shp hG rfl) (vin (by omega) (by decide)) (by rw [ncl (by omega)]; exact hrf) ?_
      refine Go.astore (ls' := [some (.ref 0), some (.int (nI s)), some (.int i), some (.long v), none, some (.int 0), some (.ref q), none, none]) dX6_write_26 (Nat.le_of_ble_eq_true rfl) rfl rfl ?_
      refine Go.iload_n dX6_write_28 rfl ?_
      refine Go.aload dX6_write_29 rfl ?_
      refine Go.getI dX6_write_31 flX6_253 hq rfl ?_
      refine Go.eqI (y := nI (gSl g s)) (hsc.2.1) ?_
      refine Go.callSI [] dX6_write_34 lkX6_58 stX6_isBelow cbX6_isBelow (s_isBelow i (nI (gSl g s))) rfl rfl (Nat.le_of_ble_eq_true rfl) (fun r5 M6 hr5 => ?_)
      obtain ⟨er5, emr5⟩ := hr5
      rw [emr5]
      clear emr5 M6
      subst er5
      refine Go.if_ne 48 dX6_write_37 rfl (fun h37 => ?_) (fun h37 => ?_)
      · have hin := bi_n0.mp h37
        obtain ⟨j, hi9, ej⟩ := inb_ex hin (by omega)
        subst ej
        refine Go.aload dX6_write_48 rfl ?_
        refine Go.getR dX6_write_50 flX6_257 hq rfl ?_
        refine Go.iload_n dX6_write_53 rfl ?_
        refine Go.lald dX6_write_54 hr (vin (by omega) (by decide)) ?_
        refine Go.nmL (fun x7 ex7 => ?_)
        refine Go.lstore (ls' := [some (.ref 0), some (.int (nI s)), some (.int (nI j)), some (.long v), none, some (.int 0), some (.ref q), some (.long x7), none]) dX6_write_55 (Nat.le_of_ble_eq_true rfl) rfl rfl ?_
        refine Go.aload dX6_write_57 rfl ?_
        refine Go.iload_n dX6_write_59 rfl ?_
        refine Go.lload_n dX6_write_60 rfl ?_
        refine Go.callVV [] dX6_write_61 lkX6_261 imX4_put seX4_put cbX4_put (s_put hq hr hsc.2.1 h40 hi9 v) hq rfl rfl rfl (Nat.le_of_ble_eq_true rfl) (fun M9 hr8 => ?_)
        refine Go.lload dX6_write_64 rfl ?_
        refine Go.lret dX6_write_66 rfl ?_
        subst ex7
        rw [if_neg hb0, if_pos hin, tN_nI (by omega), hr8]
        refine ⟨_, rfl, ?_, comp_setS hC (fun a ha => rfl) (fun a ha => ?_) (fun t ht => ?_)⟩
        · rw [ncl (by omega)]
          exact hsc.2.2 j (by omega)
        · rw [rl_ne (by omega)]
        · have hold := sht hC ht
          refine ⟨hold.1, hold.2.1, fun k hk => ?_⟩
          by_cases e : t = s
          · subst e
            rw [← er, rl_eq]
            unfold vp_updL
            by_cases e2 : k = j
            · rw [if_pos e2, if_pos ⟨rfl, e2⟩, hsc.1]
            · rw [if_neg e2, if_neg (fun z => e2 z.2)]
              exact hsc.2.2 k hk
          · rw [rl_ne (by omega), if_neg (fun z => e z.1)]
            exact hold.2.2 k hk
      · refine Go.aload_n dX6_write_40 rfl ?_
        refine Go.ldc dX6_write_41 kcX6_62 ?_
        refine Go.callVI [] dX6_write_43 lkX6_63 imX6_finding seX6_finding cbX6_finding (s_finding hG (code := (-1000000001)) (q := 0) (by decide) (by decide)) (shp hG rfl) rfl rfl rfl (Nat.le_of_ble_eq_true rfl) (fun r10 M11 hr10 => ?_)
        refine Go.i2l dX6_write_46 ?_
        refine Go.lret dX6_write_47 rfl ?_
        refine ⟨_, rfl, ?_⟩
        rw [if_neg hb0, if_neg (by rw [bi_0.mp h37]; decide), hr10.2, hr10.1]
        exact ⟨rfl, hC.fnd⟩
  · refine Go.aload_n dX6_write_0 rfl ?_
    refine Go.iload_n dX6_write_1 rfl ?_
    refine Go.callVI [] dX6_write_2 lkX6_254 imX6_sheetFault seX6_sheetFault cbX6_sheetFault (s_sheetFault hG hC s0) (shp hG rfl) rfl rfl rfl (Nat.le_of_ble_eq_true rfl) (fun r1 M2 hr1 => ?_)
    obtain ⟨er1, emr1⟩ := hr1
    rw [emr1]
    clear emr1 M2
    subst er1
    rw [show fltS g s0 = -1000000001 from if_neg hgd]
    refine Go.istore (ls' := [some (.ref 0), some (.int s0), some (.int i), some (.long v), none, some (.int ((-1000000001))), none, none, none]) dX6_write_5 (Nat.le_of_ble_eq_true rfl) rfl rfl ?_
    refine Go.iload dX6_write_7 rfl ?_
    refine Go.if_eq 20 dX6_write_9 rfl (fun h9 => absurd h9 (by decide)) (fun _ => ?_)
    refine Go.aload_n dX6_write_12 rfl ?_
    refine Go.iload dX6_write_13 rfl ?_
    refine Go.callVI [] dX6_write_15 lkX6_63 imX6_finding seX6_finding cbX6_finding (s_finding hG (code := (-1000000001)) (q := 0) (by decide) (by decide)) (shp hG rfl) rfl rfl rfl (Nat.le_of_ble_eq_true rfl) (fun r3 M4 hr3 => ?_)
    refine Go.i2l dX6_write_18 ?_
    refine Go.lret dX6_write_19 rfl ?_
    refine ⟨_, rfl, ?_⟩
    rw [show A_write g s0 i v = (Int32.toInt64 (-1000000001), fndS g 0) from if_neg hgd, hr3.2, hr3.1]
    exact ⟨rfl, hC.fnd⟩
set_option maxRecDepth 20000 in
theorem m_write {G : Gt} {d : Nat} {M : Mm} (hG : gS G = SHAPE) {g : Sg} (hC : ModIs M g) (hg : SgOk g) (s0 i : Int32) (v : Int64) : ExL G (d + 2) mX7_write [.ref 49, .int s0, .int i, .long v] M (fun r M' => r = (A_write g s0 i v).1 ∧ ModIs M' (A_write g s0 i v).2 ∧ CSame M M') := by
  refine Ex.of (by decide) (Nat.le_of_ble_eq_true rfl) ?_
  show Go G (d + 2) mX7_write 0 [some (.ref 49), some (.int s0), some (.int i), some (.long v), none, none, none] [] M _
  by_cases hgd : (inb s0 4) = true
  · obtain ⟨s, hs4, es⟩ := inb_ex (n := 4) hgd (by decide)
    subst es
    have h40 := (hg.2.2.2.2 s hs4).2
    have hA0 : A_write g (nI s) i v = (if gSb g s = 0 then (Int32.toInt64 (-1000000006), fndS g 5) else if inb i (nI (gSl g s)) then (gSn g s (tN i), wrS g s (tN i) v) else (Int32.toInt64 (-1000000001), fndS g 0)) := by
      have h9 : A_write g (nI s) i v = _ := if_pos hgd
      rw [tN_nI (x := s) (by omega)] at h9
      exact h9
    rw [hA0]
    clear hA0
    refine Go.iload_n dX7_write_0 rfl ?_
    refine Go.callSI [] dX7_write_1 lkX7_340 stX7_isSheet cbX7_isSheet (m_isSheet (nI s)) rfl rfl (Nat.le_of_ble_eq_true rfl) (fun r1 M2 hr1 => ?_)
    obtain ⟨er1, emr1⟩ := hr1
    rw [emr1]
    clear emr1 M2
    subst er1
    refine Go.eqI (y := 1) (by rw [show inb (nI s) 4 = decide (s < 4) from inb_nI (by omega) (by decide), decide_eq_true (by omega)]; rfl) ?_
    refine Go.if_ne 15 dX7_write_4 rfl (fun _ => ?_) (fun h4 => absurd h4 (by decide))
    refine Go.aload_n dX7_write_15 rfl ?_
    refine Go.getR dX7_write_16 flX7_59 (shp hG rfl) rfl ?_
    refine Go.iload_n dX7_write_19 rfl ?_
    refine Go.iald dX7_write_20 (shp hG rfl) (vin (by omega) (by decide)) ?_
    refine Go.eqI (y := gSb g s) (by rw [ncl (by omega)]; exact (shm hC hs4).1) ?_
    refine Go.if_ne 33 dX7_write_21 rfl (fun h21 => ?_) (fun h21 => ?_)
    · refine Go.iload_n dX7_write_33 rfl ?_
      refine Go.iconst (v := 0) dX7_write_34 (by decide) ?_
      refine Go.aload_n dX7_write_35 rfl ?_
      refine Go.getR dX7_write_36 flX7_62 (shp hG rfl) rfl ?_
      refine Go.iload_n dX7_write_39 rfl ?_
      refine Go.iald dX7_write_40 (shp hG rfl) (vin (by omega) (by decide)) ?_
      refine Go.eqI (y := nI (gSl g s)) (by rw [ncl (by omega)]; exact (shm hC hs4).2.1) ?_
      refine Go.iconst (v := 1) dX7_write_41 (by decide) ?_
      refine Go.isub dX7_write_42 ?_
      refine Go.callSI [] dX7_write_43 lkX7_86 stX7_in cbX7_in (m_in i 0 ((nI (gSl g s)) - 1)) rfl rfl (Nat.le_of_ble_eq_true rfl) (fun r3 M4 hr3 => ?_)
      obtain ⟨er3, emr3⟩ := hr3
      rw [emr3]
      clear emr3 M4
      subst er3
      refine Go.eqI (y := bi (inb i (nI (gSl g s)))) (by rw [inI_ent (by omega)]) ?_
      refine Go.if_ne 57 dX7_write_46 rfl (fun h46 => ?_) (fun h46 => ?_)
      · have hin := bi_n0.mp h46
        obtain ⟨j, hi9, ej⟩ := inb_ex hin (by omega)
        subst ej
        refine Go.aload_n dX7_write_57 rfl ?_
        refine Go.getR dX7_write_58 flX7_65 (shp hG rfl) rfl ?_
        refine Go.bipush (v := 40) dX7_write_61 (by decide) ?_
        refine Go.iload_n dX7_write_63 rfl ?_
        refine Go.imul dX7_write_64 ?_
        refine Go.eqI (y := nI (40 * s)) (pk_mul _ _) ?_
        refine Go.iload_n dX7_write_65 rfl ?_
        refine Go.iadd dX7_write_66 ?_
        refine Go.eqI (y := nI (40 * s + j)) (nI_add _ _) ?_
        refine Go.lald dX7_write_67 (shp hG rfl) (vin (by omega) (by decide)) ?_
        refine Go.nmL (fun x5 ex5 => ?_)
        refine Go.lstore (ls' := [some (.ref 49), some (.int (nI s)), some (.int (nI j)), some (.long v), none, some (.long x5), none]) dX7_write_68 (Nat.le_of_ble_eq_true rfl) rfl rfl ?_
        refine Go.aload_n dX7_write_70 rfl ?_
        refine Go.getR dX7_write_71 flX7_65 (shp hG rfl) rfl ?_
        refine Go.bipush (v := 40) dX7_write_74 (by decide) ?_
        refine Go.iload_n dX7_write_76 rfl ?_
        refine Go.imul dX7_write_77 ?_
        refine Go.eqI (y := nI (40 * s)) (pk_mul _ _) ?_
        refine Go.iload_n dX7_write_78 rfl ?_
        refine Go.iadd dX7_write_79 ?_
        refine Go.eqI (y := nI (40 * s + j)) (nI_add _ _) ?_
        refine Go.aload_n dX7_write_80 rfl ?_
        refine Go.getR dX7_write_81 flX7_59 (shp hG rfl) rfl ?_
        refine Go.iload_n dX7_write_84 rfl ?_
        refine Go.iald dX7_write_85 (shp hG rfl) (vin (by omega) (by decide)) ?_
        refine Go.eqI (y := gSb g s) (by rw [ncl (by omega)]; exact (shm hC hs4).1) ?_
        refine Go.lload_n dX7_write_86 rfl ?_
        refine Go.callSL [.int (nI (40 * s + j)), .ref 68] dX7_write_87 lkX7_345 stX7_narrow cbX7_narrow (m_narrow (gSb g s) v) rfl rfl (Nat.le_of_ble_eq_true rfl) (fun r6 M7 hr6 => ?_)
        obtain ⟨er6, emr6⟩ := hr6
        rw [emr6]
        clear emr6 M7
        subst er6
        refine Go.last dX7_write_90 (shp hG rfl) (vin (by omega) (by decide)) ?_
        refine Go.nmM (fun N8 eN8 => ?_)
        refine Go.lload dX7_write_91 rfl ?_
        refine Go.lret dX7_write_93 rfl ?_
        subst ex5
        rw [if_neg h21, if_pos hin, tN_nI (by omega), eN8, ncl (by omega)]
        refine ⟨_, rfl, (shm hC hs4).2.2 j (by omega), mod_setS hC (fun a q1 q2 => rfl) (fun a q1 q2 => rl_ne q1) (fun t ht => ?_)⟩
        have hold := shm hC ht
        refine ⟨hold.1, hold.2.1, fun k hk => ?_⟩
        rw [rl_eq]
        unfold vp_updL
        by_cases e : t = s ∧ k = j
        · rw [if_pos (by omega), if_pos e]
        · rw [if_neg (by omega), if_neg e]
          exact hold.2.2 k hk
      · refine Go.aload_n dX7_write_49 rfl ?_
        refine Go.ldc dX7_write_50 kcX7_85 ?_
        refine Go.callVI [] dX7_write_52 lkX7_104 imX7_finds seX7_finds cbX7_finds (m_finds hG (code := (-1000000001)) (q := 0) (by decide) (by decide)) (shp hG rfl) rfl rfl rfl (Nat.le_of_ble_eq_true rfl) (fun r9 M10 hr9 => ?_)
        refine Go.i2l dX7_write_55 ?_
        refine Go.lret dX7_write_56 rfl ?_
        refine ⟨_, rfl, ?_⟩
        rw [if_neg h21, if_neg (by rw [bi_0.mp h46]; decide), hr9.2, hr9.1]
        exact ⟨rfl, hC.fnd⟩
    · refine Go.aload_n dX7_write_24 rfl ?_
      refine Go.ldcw dX7_write_25 kcX7_344 ?_
      refine Go.callVI [] dX7_write_28 lkX7_104 imX7_finds seX7_finds cbX7_finds (m_finds hG (code := (-1000000006)) (q := 5) (by decide) (by decide)) (shp hG rfl) rfl rfl rfl (Nat.le_of_ble_eq_true rfl) (fun r11 M12 hr11 => ?_)
      refine Go.i2l dX7_write_31 ?_
      refine Go.lret dX7_write_32 rfl ?_
      refine ⟨_, rfl, ?_⟩
      rw [if_pos h21, hr11.2, hr11.1]
      exact ⟨rfl, hC.fnd⟩
  · refine Go.iload_n dX7_write_0 rfl ?_
    refine Go.callSI [] dX7_write_1 lkX7_340 stX7_isSheet cbX7_isSheet (m_isSheet s0) rfl rfl (Nat.le_of_ble_eq_true rfl) (fun r1 M2 hr1 => ?_)
    obtain ⟨er1, emr1⟩ := hr1
    rw [emr1]
    clear emr1 M2
    subst er1
    refine Go.if_ne 15 dX7_write_4 rfl (fun h4 => ?_) (fun h4 => ?_)
    · exact absurd (bi_n0.mp h4) hgd
    · refine Go.aload_n dX7_write_7 rfl ?_
      refine Go.ldc dX7_write_8 kcX7_85 ?_
      refine Go.callVI [] dX7_write_10 lkX7_104 imX7_finds seX7_finds cbX7_finds (m_finds hG (code := (-1000000001)) (q := 0) (by decide) (by decide)) (shp hG rfl) rfl rfl rfl (Nat.le_of_ble_eq_true rfl) (fun r3 M4 hr3 => ?_)
      refine Go.i2l dX7_write_13 ?_
      refine Go.lret dX7_write_14 rfl ?_
      refine ⟨_, rfl, ?_⟩
      rw [show A_write g s0 i v = (Int32.toInt64 (-1000000001), fndS g 0) from if_neg hgd, hr3.2, hr3.1]
      exact ⟨rfl, hC.fnd⟩
