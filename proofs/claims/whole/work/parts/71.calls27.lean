theorem v64 {v : Int64} (h0 : ¬ v < 0) (h1 : v < 5120) : ∃ x, x < 5120 ∧ v.toInt32 = nI x ∧ v.toInt = (x : Int) := by
  rw [Int64.lt_iff_toInt_lt] at h0 h1
  have e0 : ((0 : Int64)).toInt = 0 := by decide
  have e1 : ((5120 : Int64)).toInt = 5120 := by decide
  refine ⟨v.toInt.toNat, by omega, ?_, by omega⟩
  rw [i_eq, Int64.toInt_toInt32, nI_toInt (by omega)]
  rw [show v.toInt.bmod (2 ^ 32) = v.toInt from Int.bmod_eq_of_le (by omega) (by omega)]
  omega
theorem okS_224 : ∀ s, s < 256 → okS s = true → s ≤ 224 := by decide +kernel
theorem okD_4499 {x : Nat} (h : okD x = true) : x ≤ 4499 := by
  have h1 := okD_lt h
  have h2 := okS_224 (x / 20) (by omega) h
  omega
def dX (v : Int64) : Nat := tN v.toInt32
def okV (v : Int64) : Bool := !decide (v < 0) && !decide (4499 < v) && okD (dX v)
noncomputable def rdN (V : Nat → Int64) (ed k : Nat) : Nat → Nat → (Nat → Int32) → (Nat → Nat) → Nat
  | 0, _, _, _ => 0
  | n + 1, i, f, c => if okV (V i) && cookP f c k (dX (V i)) then rdN V ed k n (i + 1) (takeF f (dX (V i) / 20) 8) (addC c k (dX (V i)) ed) else i + 1
noncomputable def A_read (g : Sg) (s k : Int32) : Int32 × Sg := if inb s 4 then (if gSb g (tN s) = 0 then (-1000000006, fndS g 5) else if inb k 6 then (nI (rdN (gSn g (tN s)) (uE (gU g)) (tN k) (gSl g (tN s)) 0 (uS (gU g)) (kc (gU g))), g) else (-1000000001, fndS g 0)) else (-1000000001, fndS g 0)
theorem cookP_congr {f f' : Nat → Int32} (h : E8 f f') (c : Nat → Nat) (k x : Nat) : cookP f c k x = cookP f' c k x := by
  unfold cookP
  rw [canN_congr h, goodP_congr h]
theorem k_canCook {G : Gt} {d : Nat} {M : Mm} (hG : gS G = SHAPE) {f : Nat → Int32} {c : Nat → Nat} {g : Nat → Int32} {ed : Nat} (hS : KS M f c g ed) {k x : Nat} (hk : k < 6) (hx : okD x = true) : ExI G (d + 1) mX2_canCook [.ref 25, .int (nI k), .int (nI x)] M (fun r M' => r = bi (cookP f c k x) ∧ M' = M) := by
  obtain ⟨f', lt, lw, ls, ⟨⟨fv, h1⟩, hE, _, _, hf⟩, h2, h3⟩ := hS
  refine (s_canCook hG h1.1 hk hx).mono (fun r M' ⟨a, b⟩ => ⟨?_, b⟩)
  rw [a, hf, cookP_congr h2]
theorem k_cook {G : Gt} {d : Nat} {M : Mm} (hG : gS G = SHAPE) {f : Nat → Int32} {c : Nat → Nat} {g : Nat → Int32} {ed : Nat} (hS : KS M f c g ed) {k x : Nat} (hk : k < 6) (hx : okD x = true) : ExV G (d + 2) mX2_cook [.ref 25, .int (nI k), .int (nI x)] M (fun M' => KS M' (takeF f (x / 20) 8) (addC c k x ed) g ed ∧ Same [26, 28, 29] M M') := by
  obtain ⟨f', lt, lw, ls, h0, h2, h3⟩ := hS
  obtain ⟨⟨fv, h1⟩, hE, he1, he2, hf⟩ := id h0
  refine (s_cook hG h1.1 hk hx he2 he1).mono (fun M' ⟨a, b, c'⟩ => ⟨⟨_, lt, lw, ls, h0.cooked a b c', takeF_congr h2 _, h3⟩, b⟩)
theorem okV_f1 {v : Int64} (h : v < 0) : okV v = false := by simp [okV, h]
theorem okV_f2 {v : Int64} (h : 4499 < v) : okV v = false := by simp [okV, h]
theorem okV_x {v : Int64} {x : Nat} (h0 : ¬ v < 0) (hx : x < 5120) (h : v.toInt32 = nI x) (hv : v.toInt = (x : Int)) : okV v = okD x ∧ dX v = x := by
  have hd : dX v = x := by unfold dX; rw [h]; exact tN_nI (by omega)
  refine ⟨?_, hd⟩
  unfold okV
  rw [hd, decide_eq_false h0]
  cases ho : okD x with
  | false => simp
  | true =>
    have := okD_4499 ho
    have h4 : ¬ 4499 < v := by
      rw [Int64.lt_iff_toInt_lt]
      have e1 : ((4499 : Int64)).toInt = 4499 := by decide
      omega
    simp [h4]
theorem lt_4499 {v : Int64} (h : ¬ 4499 < v) : v < 5120 := by
  rw [Int64.lt_iff_toInt_lt] at *
  have e1 : ((4499 : Int64)).toInt = 4499 := by decide
  have e2 : ((5120 : Int64)).toInt = 5120 := by decide
  omega
theorem ge_5120 {v : Int64} (h : ¬ v < 5120) : 4499 < v := by
  rw [Int64.lt_iff_toInt_lt] at *
  have e1 : ((4499 : Int64)).toInt = 4499 := by decide
  have e2 : ((5120 : Int64)).toInt = 5120 := by decide
  omega
set_option maxRecDepth 20000 in
theorem l_readC {G : Gt} {d : Nat} {M0 : Mm} (hG : gS G = SHAPE) {g : Sg} {k : Nat} (hk : k < 6) {s : Nat} (hs4 : s < 4) {q r : Nat} (eq : q = 40 + s) (er : r = 44 + s) (hq : (gS G)[q]? = some (.inr (4, [.inr true, .inr true, .inl (some r)]))) (hr : (gS G)[r]? = some (.inl (2, 40, []))) (h40 : gSl g s ≤ 40) {T : Nat} : ∀ (n i : Nat) (N : Mm) (f : Nat → Int32) (c : Nat → Nat) (o6 : Option Value), i + n = (gSl g s) → CompIs N g → MSame M0 N → KS N f c (lk (gU g)) (uE (gU g)) → T = rdN (gSn g s) (uE (gU g)) k n i f c → Go G (d + 4) mX6_read 39 [some (.ref 0), some (.int (nI s)), some (.int (nI k)), some (.int 0), some (.ref q), some (.int (nI i)), o6, none] [] N (fun v M' => ∃ r, v = some (.int r) ∧ r = (((nI T, g) : Int32 × Sg)).1 ∧ CompIs M' (((nI T, g) : Int32 × Sg)).2 ∧ MSame M0 M') := by
  intro n
  induction n with
  | zero =>
    intro i N f c o6 hin hC hmm hK hT
    have hsc := sht hC hs4
    rw [← eq, ← er] at hsc
    refine Go.iload dX6_read_39 rfl ?_
    refine Go.aload dX6_read_41 rfl ?_
    refine Go.getI dX6_read_43 flX6_253 hq rfl ?_
    refine Go.eqI (y := nI (gSl g s)) (hsc.2.1) ?_
    refine Go.icmp_ge 120 dX6_read_46 rfl (fun _ => ?_) (fun h46 => absurd (nI_le (a := gSl g s) (b := i) (by omega) (by omega)) h46)
    refine Go.iconst (v := 0) dX6_read_120 (by decide) ?_
    refine Go.iret dX6_read_121 rfl rfl ?_
    exact ⟨_, rfl, by rw [hT]; rfl, hC, hmm⟩
  | succ n ih =>
    intro i N f c o6 hin hC hmm hK hT
    have hi : i < (gSl g s) := by omega
    have hsc := sht hC hs4
    rw [← eq, ← er] at hsc
    refine Go.iload dX6_read_39 rfl ?_
    refine Go.aload dX6_read_41 rfl ?_
    refine Go.getI dX6_read_43 flX6_253 hq rfl ?_
    refine Go.eqI (y := nI (gSl g s)) (hsc.2.1) ?_
    refine Go.icmp_ge 120 dX6_read_46 rfl (fun h46 => absurd h46 (nI_ge (a := i) (b := gSl g s) (by omega) (by omega))) (fun _ => ?_)
    refine Go.aload dX6_read_49 rfl ?_
    refine Go.getR dX6_read_51 flX6_257 hq rfl ?_
    refine Go.iload dX6_read_54 rfl ?_
    refine Go.lald dX6_read_56 hr (vin (by omega) (by decide)) ?_
    refine Go.nmL (fun x1 ex1 => ?_)
    refine Go.lstore (ls' := [some (.ref 0), some (.int (nI s)), some (.int (nI k)), some (.int 0), some (.ref q), some (.int (nI i)), some (.long x1), none]) dX6_read_57 (Nat.le_of_ble_eq_true rfl) rfl rfl ?_
    have hv : x1 = gSn g s i := by rw [ex1, ncl (by omega)]; exact hsc.2.2 i (by omega)
    clear ex1
    subst hv
    refine Go.lload dX6_read_59 rfl ?_
    refine Go.lconst (v := 0) dX6_read_61 rfl ?_
    refine Go.lcmp dX6_read_62 ?_
    refine Go.if_lt 98 dX6_read_63 rfl (fun h63 => ?_) (fun h63 => ?_)
    · refine Go.iconst (v := 1) dX6_read_98 (by decide) ?_
      refine Go.iload dX6_read_99 rfl ?_
      refine Go.iadd dX6_read_101 ?_
      refine Go.eqI (y := nI (1 + i)) (nI_add _ _) ?_
      refine Go.iret dX6_read_102 rfl rfl ?_
      refine ⟨_, rfl, ?_, hC, hmm⟩
      rw [hT, rdN, if_neg (by rw [okV_f1 (lg_lt.mp h63)]; simp), Nat.add_comm]
    · refine Go.lload dX6_read_66 rfl ?_
      refine Go.ldc2 dX6_read_68 klX6_285 ?_
      refine Go.lcmp dX6_read_71 ?_
      refine Go.if_gt 98 dX6_read_72 rfl (fun h72 => ?_) (fun h72 => ?_)
      · refine Go.iconst (v := 1) dX6_read_98 (by decide) ?_
        refine Go.iload dX6_read_99 rfl ?_
        refine Go.iadd dX6_read_101 ?_
        refine Go.eqI (y := nI (1 + i)) (nI_add _ _) ?_
        refine Go.iret dX6_read_102 rfl rfl ?_
        refine ⟨_, rfl, ?_, hC, hmm⟩
        rw [hT, rdN, if_neg (by rw [okV_f2 (lg_gt.mp h72)]; simp), Nat.add_comm]
      · have hv0 : ¬ gSn g s i < 0 := fun z => h63 (lg_lt.mpr z)
        have hv4 : ¬ 4499 < gSn g s i := fun z => h72 (lg_gt.mpr z)
        obtain ⟨x, hx5, ex, hxv⟩ := v64 hv0 (lt_4499 hv4)
        obtain ⟨ho1, hd1⟩ := okV_x hv0 hx5 ex hxv
        refine Go.lload dX6_read_75 rfl ?_
        refine Go.l2i dX6_read_77 ?_
        rw [ex]
        refine Go.callSI [] dX6_read_78 lkX6_86 stX6_isDish cbX6_isDish (s_isDish (nI x)) rfl rfl (Nat.le_of_ble_eq_true rfl) (fun r2 M3 hr2 => ?_)
        obtain ⟨er2, emr2⟩ := hr2
        rw [emr2]
        clear emr2 M3
        subst er2
        refine Go.if_eq 98 dX6_read_81 rfl (fun h81 => ?_) (fun h81 => ?_)
        · refine Go.iconst (v := 1) dX6_read_98 (by decide) ?_
          refine Go.iload dX6_read_99 rfl ?_
          refine Go.iadd dX6_read_101 ?_
          refine Go.eqI (y := nI (1 + i)) (nI_add _ _) ?_
          refine Go.iret dX6_read_102 rfl rfl ?_
          refine ⟨_, rfl, ?_, hC, hmm⟩
          rw [hT, rdN, if_neg (by rw [(show okV (gSn g s i) = false from by rw [ho1, ← isDishI_nI (by omega)]; exact bi_0.mp h81)]; simp), Nat.add_comm]
        · have hxo : okD x = true := by rw [← isDishI_nI (by omega)]; exact bi_n0.mp h81
          refine Go.aload_n dX6_read_84 rfl ?_
          refine Go.getR dX6_read_85 flX6_29 (shp hG rfl) rfl ?_
          refine Go.iload_n dX6_read_88 rfl ?_
          refine Go.lload dX6_read_89 rfl ?_
          refine Go.l2i dX6_read_91 ?_
          rw [ex]
          refine Go.callVI [] dX6_read_92 lkX6_287 imX2_canCook seX2_canCook cbX2_canCook (k_canCook hG hK hk hxo) (shp hG rfl) rfl rfl rfl (Nat.le_of_ble_eq_true rfl) (fun r4 M5 hr4 => ?_)
          obtain ⟨er4, emr4⟩ := hr4
          rw [emr4]
          clear emr4 M5
          subst er4
          refine Go.if_ne 103 dX6_read_95 rfl (fun h95 => ?_) (fun h95 => ?_)
          · refine Go.aload_n dX6_read_103 rfl ?_
            refine Go.getR dX6_read_104 flX6_29 (shp hG rfl) rfl ?_
            refine Go.iload_n dX6_read_107 rfl ?_
            refine Go.lload dX6_read_108 rfl ?_
            refine Go.l2i dX6_read_110 ?_
            rw [ex]
            refine Go.callVV [] dX6_read_111 lkX6_290 imX2_cook seX2_cook cbX2_cook (k_cook hG hK hk hxo) (shp hG rfl) rfl rfl rfl (Nat.le_of_ble_eq_true rfl) (fun M7 hr6 => ?_)
            obtain ⟨hK2, hs2⟩ := hr6
            refine Go.iinc (v := nI (i + 1)) (ls' := [some (.ref 0), some (.int (nI s)), some (.int (nI k)), some (.int 0), some (.ref q), some (.int (nI (i + 1))), some (.long (gSn g s i)), none]) dX6_read_114 rfl (nI_1 _) rfl rfl ?_
            refine Go.goto 39 dX6_read_117 rfl ?_
            have hk2 := hC.kc (hs2.mono (by decide))
            exact ih (i + 1) M7 _ _ _ (by omega) hk2.1 (hmm.trans hk2.2) hK2 (by rw [hT, rdN, if_pos (by rw [ho1, hd1, hxo, bi_n0.mp h95]; rfl), hd1])
          · refine Go.iconst (v := 1) dX6_read_98 (by decide) ?_
            refine Go.iload dX6_read_99 rfl ?_
            refine Go.iadd dX6_read_101 ?_
            refine Go.eqI (y := nI (1 + i)) (nI_add _ _) ?_
            refine Go.iret dX6_read_102 rfl rfl ?_
            refine ⟨_, rfl, ?_, hC, hmm⟩
            rw [hT, rdN, if_neg (by rw [hd1, bi_0.mp h95]; simp), Nat.add_comm]
set_option maxRecDepth 20000 in
theorem c_read {G : Gt} {d : Nat} {M : Mm} (hG : gS G = SHAPE) {g : Sg} (hC : CompIs M g) (hg : SgOk g) (s0 k0 : Int32) : ExI G (d + 5) mX6_read [.ref 0, .int s0, .int k0] M (fun r M' => r = (A_read g s0 k0).1 ∧ CompIs M' (A_read g s0 k0).2 ∧ MSame M M') := by
  refine Ex.of (by decide) (Nat.le_of_ble_eq_true rfl) ?_
  show Go G (d + 5) mX6_read 0 [some (.ref 0), some (.int s0), some (.int k0), none, none, none, none, none] [] M _
  refine Go.aload_n dX6_read_0 rfl ?_
  refine Go.iload_n dX6_read_1 rfl ?_
  refine Go.iload_n dX6_read_2 rfl ?_
  refine Go.callVI [] dX6_read_3 lkX6_282 imX6_menuFault seX6_menuFault cbX6_menuFault (s_menuFault hG hC s0 k0) (shp hG rfl) rfl rfl rfl (Nat.le_of_ble_eq_true rfl) (fun r1 M2 hr1 => ?_)
  obtain ⟨er1, emr1⟩ := hr1
  rw [emr1]
  clear emr1 M2
  subst er1
  obtain ⟨hin, hb0⟩ | ⟨hin, hb0, hik⟩ | hin | ⟨hin, hb0, hik⟩ : (inb s0 4 = true ∧ gSb g (tN s0) = 0) ∨ (inb s0 4 = true ∧ ¬ gSb g (tN s0) = 0 ∧ ¬ inb k0 6 = true) ∨ ¬ inb s0 4 = true ∨ (inb s0 4 = true ∧ ¬ gSb g (tN s0) = 0 ∧ inb k0 6 = true) := by
    by_cases q1 : inb s0 4 = true
    · by_cases q2 : gSb g (tN s0) = 0
      · exact Or.inl ⟨q1, q2⟩
      · by_cases q3 : inb k0 6 = true
        · exact Or.inr (Or.inr (Or.inr ⟨q1, q2, q3⟩))
        · exact Or.inr (Or.inl ⟨q1, q2, q3⟩)
    · exact Or.inr (Or.inr (Or.inl q1))
  · rw [show fltM g s0 k0 = -1000000006 from by unfold fltM; rw [if_pos hin, if_pos hb0], show A_read g s0 k0 = (-1000000006, fndS g 5) from by unfold A_read; rw [if_pos hin, if_pos hb0]]
    refine Go.istore_n (ls' := [some (.ref 0), some (.int s0), some (.int k0), some (.int ((-1000000006))), none, none, none, none]) dX6_read_6 (Nat.le_of_ble_eq_true rfl) rfl rfl ?_
    refine Go.iload_n dX6_read_7 rfl ?_
    refine Go.if_eq 17 dX6_read_8 rfl (fun h8 => absurd h8 (by decide)) (fun _ => ?_)
    refine Go.aload_n dX6_read_11 rfl ?_
    refine Go.iload_n dX6_read_12 rfl ?_
    refine Go.callVI [] dX6_read_13 lkX6_63 imX6_finding seX6_finding cbX6_finding (s_finding hG (code := (-1000000006)) (q := 5) (by decide) (by decide)) (shp hG rfl) rfl rfl rfl (Nat.le_of_ble_eq_true rfl) (fun r3 M4 hr3 => ?_)
    refine Go.iret dX6_read_16 rfl rfl ?_
    refine ⟨_, rfl, ?_⟩
    rw [hr3.2]
    exact ⟨hr3.1, hC.fnd⟩
  · rw [show fltM g s0 k0 = -1000000001 from by unfold fltM; rw [if_pos hin, if_neg hb0, if_neg hik], show A_read g s0 k0 = (-1000000001, fndS g 0) from by unfold A_read; rw [if_pos hin, if_neg hb0, if_neg hik]]
    refine Go.istore_n (ls' := [some (.ref 0), some (.int s0), some (.int k0), some (.int ((-1000000001))), none, none, none, none]) dX6_read_6 (Nat.le_of_ble_eq_true rfl) rfl rfl ?_
    refine Go.iload_n dX6_read_7 rfl ?_
    refine Go.if_eq 17 dX6_read_8 rfl (fun h8 => absurd h8 (by decide)) (fun _ => ?_)
    refine Go.aload_n dX6_read_11 rfl ?_
    refine Go.iload_n dX6_read_12 rfl ?_
    refine Go.callVI [] dX6_read_13 lkX6_63 imX6_finding seX6_finding cbX6_finding (s_finding hG (code := (-1000000001)) (q := 0) (by decide) (by decide)) (shp hG rfl) rfl rfl rfl (Nat.le_of_ble_eq_true rfl) (fun r5 M6 hr5 => ?_)
    refine Go.iret dX6_read_16 rfl rfl ?_
    refine ⟨_, rfl, ?_⟩
    rw [hr5.2]
    exact ⟨hr5.1, hC.fnd⟩
  · rw [show fltM g s0 k0 = -1000000001 from if_neg hin, show A_read g s0 k0 = (-1000000001, fndS g 0) from if_neg hin]
    refine Go.istore_n (ls' := [some (.ref 0), some (.int s0), some (.int k0), some (.int ((-1000000001))), none, none, none, none]) dX6_read_6 (Nat.le_of_ble_eq_true rfl) rfl rfl ?_
    refine Go.iload_n dX6_read_7 rfl ?_
    refine Go.if_eq 17 dX6_read_8 rfl (fun h8 => absurd h8 (by decide)) (fun _ => ?_)
    refine Go.aload_n dX6_read_11 rfl ?_
    refine Go.iload_n dX6_read_12 rfl ?_
    refine Go.callVI [] dX6_read_13 lkX6_63 imX6_finding seX6_finding cbX6_finding (s_finding hG (code := (-1000000001)) (q := 0) (by decide) (by decide)) (shp hG rfl) rfl rfl rfl (Nat.le_of_ble_eq_true rfl) (fun r7 M8 hr7 => ?_)
    refine Go.iret dX6_read_16 rfl rfl ?_
    refine ⟨_, rfl, ?_⟩
    rw [hr7.2]
    exact ⟨hr7.1, hC.fnd⟩
  · rw [show fltM g s0 k0 = 0 from by unfold fltM; rw [if_pos hin, if_neg hb0, if_pos hik]]
    unfold A_read
    rw [if_pos hin, if_neg hb0, if_pos hik]
    obtain ⟨s, hs4, es⟩ := inb_ex (n := 4) hin (by decide)
    subst es
    obtain ⟨k, hk, ek⟩ := inb_ex (n := 6) hik (by decide)
    subst ek
    rw [tN_nI (x := s) (by omega), tN_nI (x := k) (by omega)]
    have h40 := (hg.2.2.2.2 s hs4).2
    obtain ⟨q, r, eq, er, hq, hr, hrf⟩ := sheetAt hG hs4
    have hsc := sht hC hs4
    rw [← eq, ← er] at hsc
    refine Go.istore_n (ls' := [some (.ref 0), some (.int (nI s)), some (.int (nI k)), some (.int 0), none, none, none, none]) dX6_read_6 (Nat.le_of_ble_eq_true rfl) rfl rfl ?_
    refine Go.iload_n dX6_read_7 rfl ?_
    refine Go.if_eq 17 dX6_read_8 rfl (fun _ => ?_) (fun h8 => absurd (by decide) h8)
    refine Go.aload_n dX6_read_17 rfl ?_
    refine Go.getR dX6_read_18 flX6_49 (shp hG rfl) rfl ?_
    refine Go.iload_n dX6_read_21 rfl ?_
    refine Go.aald dX6_read_22 (shp hG rfl) (vin (by omega) (by decide)) (by rw [ncl (by omega)]; exact hrf) ?_
    refine Go.astore (ls' := [some (.ref 0), some (.int (nI s)), some (.int (nI k)), some (.int 0), some (.ref q), none, none, none]) dX6_read_23 (Nat.le_of_ble_eq_true rfl) rfl rfl ?_
    refine Go.aload_n dX6_read_25 rfl ?_
    refine Go.getR dX6_read_26 flX6_29 (shp hG rfl) rfl ?_
    refine Go.aload_n dX6_read_29 rfl ?_
    refine Go.getR dX6_read_30 flX6_12 (shp hG rfl) rfl ?_
    refine Go.callVV [] dX6_read_33 lkX6_114 imX2_begin seX2_begin cbX2_begin (k_begin hG hC hg) (shp hG rfl) rfl rfl rfl (Nat.le_of_ble_eq_true rfl) (fun M10 hr9 => ?_)
    obtain ⟨hCk, hmk, hkck, hKk⟩ := hr9
    refine Go.iconst (v := 0) dX6_read_36 (by decide) ?_
    refine Go.istore (ls' := [some (.ref 0), some (.int (nI s)), some (.int (nI k)), some (.int 0), some (.ref q), some (.int 0), none, none]) dX6_read_37 (Nat.le_of_ble_eq_true rfl) rfl rfl ?_
    exact l_readC hG hk hs4 eq er hq hr h40 (gSl g s) 0 _ _ _ _ (by omega) hCk hmk hKk rfl
set_option maxRecDepth 20000 in
theorem m_canServe {G : Gt} {d : Nat} {M : Mm} (hG : gS G = SHAPE) (hMd : MdS M) {c : Nat → Nat} (hMk : MarkIs M c) {f : Nat → Int32} (hE : E8 (M.1 50) f) {v : Int64} {k : Nat} (hk : k < 6) : ExI G (d + 2) mX7_canServe [.ref 49, .long v, .int (nI k)] M (fun r M' => r = bi (okV v && cookP f c k (dX v)) ∧ M' = M) := by
  refine Ex.of (by decide) (Nat.le_of_ble_eq_true rfl) ?_
  show Go G (d + 2) mX7_canServe 0 [some (.ref 49), some (.long v), none, some (.int (nI k)), none] [] M _
  refine Go.lload_n dX7_canServe_0 rfl ?_
  refine Go.lconst (v := 0) dX7_canServe_1 rfl ?_
  refine Go.lcmp dX7_canServe_2 ?_
  refine Go.if_lt 19 dX7_canServe_3 rfl (fun h3 => ?_) (fun h3 => ?_)
  · refine Go.iconst (v := 0) dX7_canServe_19 (by decide) ?_
    refine Go.istore (ls' := [some (.ref 49), some (.long v), none, some (.int (nI k)), some (.int 0)]) dX7_canServe_20 (Nat.le_of_ble_eq_true rfl) rfl rfl ?_
    refine Go.iload dX7_canServe_22 rfl ?_
    refine Go.if_le 82 dX7_canServe_24 rfl (fun _ => ?_) (fun h24 => absurd (by decide) h24)
    refine Go.iconst (v := 0) dX7_canServe_82 (by decide) ?_
    refine Go.iret dX7_canServe_83 rfl (by decide) ?_
    refine ⟨_, rfl, ?_, rfl⟩
    rw [okV_f1 (lg_lt.mp h3)]
    rfl
  · refine Go.lload_n dX7_canServe_6 rfl ?_
    refine Go.ldc2 dX7_canServe_7 klX7_357 ?_
    refine Go.lcmp dX7_canServe_10 ?_
    refine Go.if_ge 19 dX7_canServe_11 rfl (fun h11 => ?_) (fun h11 => ?_)
    · refine Go.iconst (v := 0) dX7_canServe_19 (by decide) ?_
      refine Go.istore (ls' := [some (.ref 49), some (.long v), none, some (.int (nI k)), some (.int 0)]) dX7_canServe_20 (Nat.le_of_ble_eq_true rfl) rfl rfl ?_
      refine Go.iload dX7_canServe_22 rfl ?_
      refine Go.if_le 82 dX7_canServe_24 rfl (fun _ => ?_) (fun h24 => absurd (by decide) h24)
      refine Go.iconst (v := 0) dX7_canServe_82 (by decide) ?_
      refine Go.iret dX7_canServe_83 rfl (by decide) ?_
      refine ⟨_, rfl, ?_, rfl⟩
      rw [okV_f2 (ge_5120 (fun z => i_lt_n (lg_lt.mpr z) h11))]
      rfl
    · have hv0 : ¬ v < 0 := fun z => h3 (lg_lt.mpr z)
      have hv5 : v < 5120 := lg_lt.mp (i_nle h11)
      obtain ⟨x, hx5, ex, hxv⟩ := v64 hv0 hv5
      obtain ⟨ho1, hd1⟩ := okV_x hv0 hx5 ex hxv
      refine Go.lload_n dX7_canServe_14 rfl ?_
      refine Go.l2i dX7_canServe_15 ?_
      refine Go.goto 20 dX7_canServe_16 rfl ?_
      rw [ex]
      refine Go.istore (ls' := [some (.ref 49), some (.long v), none, some (.int (nI k)), some (.int (nI x))]) dX7_canServe_20 (Nat.le_of_ble_eq_true rfl) rfl rfl ?_
      refine Go.iload dX7_canServe_22 rfl ?_
      refine Go.if_le 82 dX7_canServe_24 rfl (fun h24 => ?_) (fun h24 => ?_)
      · have n24 : x ≤ 0 := (nI_leI (a := x) (b := 0) (by omega) (by omega)).mp h24
        refine Go.iconst (v := 0) dX7_canServe_82 (by decide) ?_
        refine Go.iret dX7_canServe_83 rfl (by decide) ?_
        refine ⟨_, rfl, ?_, rfl⟩
        have x0 : x = 0 := by omega
        rw [ho1, x0]
        rfl
      · have n24 : ¬ x ≤ 0 := fun q => h24 ((nI_leI (a := x) (b := 0) (by omega) (by omega)).mpr q)
        refine Go.aload_n dX7_canServe_27 rfl ?_
        refine Go.iload dX7_canServe_28 rfl ?_
        refine Go.callVI [] dX7_canServe_30 lkX7_131 imX7_isDish seX7_isDish cbX7_isDish (m_isDish hG hMd (nI x)) (shp hG rfl) rfl rfl rfl (Nat.le_of_ble_eq_true rfl) (fun r1 M2 hr1 => ?_)
        obtain ⟨er1, emr1⟩ := hr1
        rw [emr1]
        clear emr1 M2
        subst er1
        refine Go.eqI (y := bi (okD x)) (by rw [isDishI_nI (by omega)]) ?_
        refine Go.if_eq 82 dX7_canServe_33 rfl (fun h33 => ?_) (fun h33 => ?_)
        · refine Go.iconst (v := 0) dX7_canServe_82 (by decide) ?_
          refine Go.iret dX7_canServe_83 rfl (by decide) ?_
          refine ⟨_, rfl, ?_, rfl⟩
          rw [ho1, bi_0.mp h33]
          rfl
        · refine Go.aload_n dX7_canServe_36 rfl ?_
          refine Go.iload dX7_canServe_37 rfl ?_
          refine Go.callVI [] dX7_canServe_39 lkX7_137 imX7_canBe seX7_canBe cbX7_canBe (m_canBe hG (x := x) (by omega)) (shp hG rfl) rfl rfl rfl (Nat.le_of_ble_eq_true rfl) (fun r3 M4 hr3 => ?_)
          obtain ⟨er3, emr3⟩ := hr3
          rw [emr3]
          clear emr3 M4
          subst er3
          refine Go.eqI (y := bi (canN f (x / 20))) (by rw [canN_congr hE]) ?_
          refine Go.if_eq 82 dX7_canServe_42 rfl (fun h42 => ?_) (fun h42 => ?_)
          · refine Go.iconst (v := 0) dX7_canServe_82 (by decide) ?_
            refine Go.iret dX7_canServe_83 rfl (by decide) ?_
            refine ⟨_, rfl, ?_, rfl⟩
            rw [ho1, hd1, bi_n0.mp h33]
            unfold cookP goodP
            rw [bi_0.mp h42]
            split <;> rfl
          · refine Go.iload_n dX7_canServe_45 rfl ?_
            refine Go.iconst (v := 2) dX7_canServe_46 (by decide) ?_
            refine Go.icmp_eq 78 dX7_canServe_47 rfl (fun h47 => ?_) (fun h47 => ?_)
            · have n47 : k = 2 := (nI_inj (a := k) (b := 2) (by omega) (by omega)).mp h47
              refine Go.iconst (v := 1) dX7_canServe_78 (by decide) ?_
              refine Go.goto 83 dX7_canServe_79 rfl ?_
              refine Go.iret dX7_canServe_83 rfl (by decide) ?_
              refine ⟨_, rfl, ?_, rfl⟩
              rw [ho1, hd1, bi_n0.mp h33]
              unfold cookP
              rw [if_pos n47, bi_n0.mp h42]
              rfl
            · have n47 : ¬ k = 2 := fun q => h47 ((nI_inj (a := k) (b := 2) (by omega) (by omega)).mpr q)
              have hxo := bi_n0.mp h33
              have hpl9 := (plN_lt hxo).1
              refine Go.aload_n dX7_canServe_50 rfl ?_
              refine Go.getR dX7_canServe_51 flX7_37 (shp hG rfl) rfl ?_
              refine Go.aload_n dX7_canServe_54 rfl ?_
              refine Go.aload_n dX7_canServe_55 rfl ?_
              refine Go.iload dX7_canServe_56 rfl ?_
              refine Go.callVI [.ref 49, .ref 59] dX7_canServe_58 lkX7_131 imX7_isDish seX7_isDish cbX7_isDish (m_isDish hG hMd (nI x)) (shp hG rfl) rfl rfl rfl (Nat.le_of_ble_eq_true rfl) (fun r5 M6 hr5 => ?_)
              obtain ⟨er5, emr5⟩ := hr5
              rw [emr5]
              clear emr5 M6
              subst er5
              refine Go.eqI (y := bi (okD x)) (by rw [isDishI_nI (by omega)]) ?_
              refine Go.if_eq 69 dX7_canServe_61 rfl (fun h61 => absurd h61 (by rw [bi_n0.mp h33]; decide)) (fun _ => ?_)
              refine Go.iload dX7_canServe_64 rfl ?_
              refine Go.goto 71 dX7_canServe_66 rfl ?_
              refine Go.callVI [.ref 59] dX7_canServe_71 lkX7_213 imX7_placeOf seX7_placeOf cbX7_placeOf (m_placeOf hG hMd (x := x) hxo) (shp hG rfl) rfl rfl rfl (Nat.le_of_ble_eq_true rfl) (fun r7 M8 hr7 => ?_)
              obtain ⟨er7, emr7⟩ := hr7
              rw [emr7]
              clear emr7 M8
              subst er7
              refine Go.zald dX7_canServe_74 (shp hG rfl) (vin (by omega) (by decide)) ?_
              refine Go.eqI (y := bi (decide (1 ≤ c x))) (by rw [ncl (by have := plN_lt hxo; omega), hMk _ (plN_lt hxo).1, (plN_lt hxo).2]) ?_
              refine Go.if_ne 82 dX7_canServe_75 rfl (fun h75 => ?_) (fun h75 => ?_)
              · refine Go.iconst (v := 0) dX7_canServe_82 (by decide) ?_
                refine Go.iret dX7_canServe_83 rfl (by decide) ?_
                refine ⟨_, rfl, ?_, rfl⟩
                rw [ho1, hd1, bi_n0.mp h33]
                unfold cookP goodP
                rw [if_neg n47, bi_n0.mp h42, decide_eq_false (by have := of_decide_eq_true (bi_n0.mp h75); omega)]
                rfl
              · refine Go.iconst (v := 1) dX7_canServe_78 (by decide) ?_
                refine Go.goto 83 dX7_canServe_79 rfl ?_
                refine Go.iret dX7_canServe_83 rfl (by decide) ?_
                refine ⟨_, rfl, ?_, rfl⟩
                rw [ho1, hd1, bi_n0.mp h33]
                unfold cookP goodP
                rw [if_neg n47, bi_n0.mp h42, decide_eq_true (by have := of_decide_eq_false (bi_0.mp h75); omega)]
                rfl
theorem Sst.ate {N E M' : Mm} {n : Nat} {f : Nat → Int32} {c : Nat → Nat} {lt lw ls : Nat → Int32} {ed k x : Nat} {K X : Nat → Nat} (hB : BkM N n K X ed) (hS : MdS N) (h50 : N.1 50 = f) (h51 : N.1 51 = lt) (h8 : ml8 N = lw) (h13 : ml13 N = ls) (h90 : n < 90) (hk : k < 6) (hx : okD x = true) (eE : E = tkM (addM N n (nI k) (nI x) 0) 50 (x / 20) 8) (h1 : MarkIs M' (addC c k x ed)) (h2 : Same [59] E M') : Sst M' (n + 1) (takeF f (x / 20) 8) (addC c k x ed) lt lw ls ed ∧ MS n N M' := by
  have hB2 := eat_Bk (s := x / 20) (dy := 0) hB h90 hk hx
  rw [← eE] at hB2
  have hm := eat_MS N n (nI k) 0 x (x / 20)
  rw [← eE] at hm
  have e51 : M'.1 51 = N.1 51 := by rw [h2.1 51 (by decide), hm.1.1 51 (by decide)]
  have e50 : E.1 50 = takeF (N.1 50) (x / 20) 8 := by rw [eE]; simp [tkM, addM, upi, seti]
  refine ⟨⟨⟨_, _, hB2.same (by rw [h2.1 49 (by decide)]) (h2.1 52 (by decide)) (h2.1 53 (by decide)) (h2.1 54 (by decide))⟩, hS.same (by rw [h2.1 57 (by decide), hm.1.1 57 (by decide)]) (by rw [h2.1 58 (by decide), hm.1.1 58 (by decide)]), h1, by rw [h2.1 50 (by decide), e50, h50], by rw [e51, h51], by rw [← h8]; unfold ml8; rw [e51], by rw [← h13]; unfold ml13; rw [e51]⟩, hm.trans ⟨h2.mono (by decide), fun j _ => by rw [h2.1 49 (by decide)], fun e _ => ⟨by rw [h2.1 53 (by decide)], by rw [h2.1 54 (by decide)], by rw [h2.1 55 (by decide)]⟩, fun t _ => by rw [h2.1 50 (by decide)]⟩⟩
set_option maxRecDepth 20000 in
theorem j_read {G : Gt} {d : Nat} {M0 H N : Mm} (hG : gS G = SHAPE) {g : Sg} (hC0 : ModIs M0 g) (hH : Had M0 H) (hMs : MS (uN (gU g)) H N) {s k : Nat} {r4 i : Int32} {o6 : Option Value} {T : Nat} (hr4 : r4 = nI T) : Go G (d + 1) mX7_read 101 [some (.ref 49), some (.int (nI s)), some (.int (nI k)), some (.int 0), some (.int r4), some (.int i), o6, none] [] N (fun v M' => ∃ r, v = some (.int r) ∧ r = (((nI T, g) : Int32 × Sg)).1 ∧ ModIs M' (((nI T, g) : Int32 × Sg)).2 ∧ CSame M0 M') := by
  refine Go.aload_n dX7_read_101 rfl ?_
  refine Go.callVV [] dX7_read_102 lkX7_200 imX7_back seX7_back cbX7_back (m_back hG) (shp hG rfl) rfl rfl rfl (Nat.le_of_ble_eq_true rfl) (fun M2 hr1 => ?_)
  refine Go.iload dX7_read_105 rfl ?_
  refine Go.iret dX7_read_107 rfl rfl ?_
  have hq := hC0.qm (tried hH hMs hr1)
  exact ⟨_, rfl, hr4, hq⟩
set_option maxRecDepth 20000 in
theorem l_readM {G : Gt} {d : Nat} {M0 H : Mm} (hG : gS G = SHAPE) {g : Sg} (hg : SgOk g) (hC0 : ModIs M0 g) (hH : Had M0 H) {k : Nat} (hk : k < 6) {s : Nat} (hs4 : s < 4) (h40 : gSl g s ≤ 40) {T : Nat} : ∀ (n i : Nat) (N : Mm) (f : Nat → Int32) (c : Nat → Nat) (o6 : Option Value), i + n = (gSl g s) → SS N (uN (gU g) + i) f c (lk (gU g)) (uE (gU g)) → MS (uN (gU g)) H N → T = rdN (gSn g s) (uE (gU g)) k n i f c → Go G (d + 5) mX7_read 27 [some (.ref 49), some (.int (nI s)), some (.int (nI k)), some (.int 0), some (.int 0), some (.int (nI i)), o6, none] [] N (fun v M' => ∃ r, v = some (.int r) ∧ r = (((nI T, g) : Int32 × Sg)).1 ∧ ModIs M' (((nI T, g) : Int32 × Sg)).2 ∧ CSame M0 M') := by
  intro n
  induction n with
  | zero =>
    intro i N f c o6 hin hS hMs hT
    have hn30 := hg.1.1
    have hN67 : N.1 67 = M0.1 67 := by rw [hMs.1.1 67 (by decide)]; exact hH.2.2.1.1 67 (by decide)
    refine Go.iload dX7_read_27 rfl ?_
    refine Go.aload_n dX7_read_29 rfl ?_
    refine Go.getR dX7_read_30 flX7_62 (shp hG rfl) rfl ?_
    refine Go.iload_n dX7_read_33 rfl ?_
    refine Go.iald dX7_read_34 (shp hG rfl) (vin (by omega) (by decide)) ?_
    refine Go.eqI (y := nI (gSl g s)) (by rw [ncl (by omega), hN67]; exact (shm hC0 hs4).2.1) ?_
    refine Go.icmp_ge 101 dX7_read_35 rfl (fun _ => ?_) (fun h35 => absurd (nI_le (a := gSl g s) (b := i) (by omega) (by omega)) h35)
    exact j_read hG hC0 hH hMs (by rw [hT]; rfl)
  | succ n ih =>
    intro i N f c o6 hin hS hMs hT
    have hi : i < (gSl g s) := by omega
    have hn30 := hg.1.1
    have hN67 : N.1 67 = M0.1 67 := by rw [hMs.1.1 67 (by decide)]; exact hH.2.2.1.1 67 (by decide)
    have hN2 : N.2 = M0.2 := hMs.1.2.trans hH.2.2.1.2
    obtain ⟨f9, lt, lw, ls, ⟨⟨K, X, hB⟩, hMd, hMk, rfl, rfl, rfl, rfl⟩, hE, hlk⟩ := hS
    refine Go.iload dX7_read_27 rfl ?_
    refine Go.aload_n dX7_read_29 rfl ?_
    refine Go.getR dX7_read_30 flX7_62 (shp hG rfl) rfl ?_
    refine Go.iload_n dX7_read_33 rfl ?_
    refine Go.iald dX7_read_34 (shp hG rfl) (vin (by omega) (by decide)) ?_
    refine Go.eqI (y := nI (gSl g s)) (by rw [ncl (by omega), hN67]; exact (shm hC0 hs4).2.1) ?_
    refine Go.icmp_ge 101 dX7_read_35 rfl (fun h35 => absurd h35 (nI_ge (a := i) (b := gSl g s) (by omega) (by omega))) (fun _ => ?_)
    refine Go.iload dX7_read_38 rfl ?_
    refine Go.if_ne 101 dX7_read_40 rfl (fun h40 => absurd (by decide) h40) (fun _ => ?_)
    refine Go.aload_n dX7_read_43 rfl ?_
    refine Go.getR dX7_read_44 flX7_65 (shp hG rfl) rfl ?_
    refine Go.bipush (v := 40) dX7_read_47 (by decide) ?_
    refine Go.iload_n dX7_read_49 rfl ?_
    refine Go.imul dX7_read_50 ?_
    refine Go.eqI (y := nI (40 * s)) (pk_mul _ _) ?_
    refine Go.iload dX7_read_51 rfl ?_
    refine Go.iadd dX7_read_53 ?_
    refine Go.eqI (y := nI (40 * s + i)) (nI_add _ _) ?_
    refine Go.lald dX7_read_54 (shp hG rfl) (vin (by omega) (by decide)) ?_
    refine Go.nmL (fun x1 ex1 => ?_)
    refine Go.lstore (ls' := [some (.ref 49), some (.int (nI s)), some (.int (nI k)), some (.int 0), some (.int 0), some (.int (nI i)), some (.long x1), none]) dX7_read_55 (Nat.le_of_ble_eq_true rfl) rfl rfl ?_
    have hv : x1 = gSn g s i := by rw [ex1, ncl (by omega), hN2]; exact (shm hC0 hs4).2.2 i (by omega)
    clear ex1
    subst hv
    refine Go.aload_n dX7_read_57 rfl ?_
    refine Go.lload dX7_read_58 rfl ?_
    refine Go.iload_n dX7_read_60 rfl ?_
    refine Go.callVI [] dX7_read_61 lkX7_359 imX7_canServe seX7_canServe cbX7_canServe (m_canServe hG hMd hMk hE hk) (shp hG rfl) rfl rfl rfl (Nat.le_of_ble_eq_true rfl) (fun r2 M3 hr2 => ?_)
    obtain ⟨er2, emr2⟩ := hr2
    rw [emr2]
    clear emr2 M3
    subst er2
    refine Go.if_eq 89 dX7_read_64 rfl (fun h64 => ?_) (fun h64 => ?_)
    · refine Go.iload dX7_read_89 rfl ?_
      refine Go.iconst (v := 1) dX7_read_91 (by decide) ?_
      refine Go.iadd dX7_read_92 ?_
      refine Go.eqI (y := nI (i + 1)) (nI_add _ _) ?_
      refine Go.istore (ls' := [some (.ref 49), some (.int (nI s)), some (.int (nI k)), some (.int 0), some (.int (nI (i + 1))), some (.int (nI i)), some (.long (gSn g s i)), none]) dX7_read_93 (Nat.le_of_ble_eq_true rfl) rfl rfl ?_
      refine Go.iinc (v := nI (i + 1)) (ls' := [some (.ref 49), some (.int (nI s)), some (.int (nI k)), some (.int 0), some (.int (nI (i + 1))), some (.int (nI (i + 1))), some (.long (gSn g s i)), none]) dX7_read_95 rfl (nI_1 _) rfl rfl ?_
      refine Go.goto 27 dX7_read_98 rfl ?_
      have e9 : T = i + 1 := by rw [hT, rdN, if_neg (by rw [bi_0.mp h64]; decide)]
      refine Go.iload dX7_read_27 rfl ?_
      refine Go.aload_n dX7_read_29 rfl ?_
      refine Go.getR dX7_read_30 flX7_62 (shp hG rfl) rfl ?_
      refine Go.iload_n dX7_read_33 rfl ?_
      refine Go.iald dX7_read_34 (shp hG rfl) (vin (by omega) (by decide)) ?_
      refine Go.eqI (y := nI (gSl g s)) (by rw [ncl (by omega), hN67]; exact (shm hC0 hs4).2.1) ?_
      refine Go.icmp_ge 101 dX7_read_35 rfl (fun h35 => ?_) (fun h35 => ?_)
      · exact j_read hG hC0 hH hMs (by rw [e9])
      · refine Go.iload dX7_read_38 rfl ?_
        refine Go.if_ne 101 dX7_read_40 rfl (fun _ => ?_) (fun h40 => absurd h40 (fun z => by have := (nI_inj (a := i + 1) (b := 0) (by omega) (by decide)).mp z; omega))
        exact j_read hG hC0 hH hMs (by rw [e9])
    · have hok := bi_n0.mp h64
      rw [Bool.and_eq_true] at hok
      have hv0 : ¬ gSn g s i < 0 := fun z => by have := hok.1; rw [okV_f1 z] at this; cases this
      have hv4 : ¬ 4499 < gSn g s i := fun z => by have := hok.1; rw [okV_f2 z] at this; cases this
      obtain ⟨x, hx5, ex, hxv⟩ := v64 hv0 (lt_4499 hv4)
      obtain ⟨ho1, hd1⟩ := okV_x hv0 hx5 ex hxv
      have hxo : okD x = true := by rw [← ho1]; exact hok.1
      refine Go.aload_n dX7_read_67 rfl ?_
      refine Go.iload_n dX7_read_68 rfl ?_
      refine Go.lload dX7_read_69 rfl ?_
      refine Go.l2i dX7_read_71 ?_
      rw [ex]
      refine Go.iconst (v := 0) dX7_read_72 (by decide) ?_
      refine Go.callVV [] dX7_read_73 lkX7_188 imX7_eats seX7_eats cbX7_eats (m_eats hG (n := uN (gU g) + i) hB.2.2.1 (by omega) (nI k) (x := x) (by omega) 0) (shp hG rfl) rfl rfl rfl (Nat.le_of_ble_eq_true rfl) (fun M5 hr4 => ?_)
      have eE := hr4
      have hB2 : BkM M5 (uN (gU g) + i + 1) (fun e => if e = uN (gU g) + i then k else K e) (fun e => if e = uN (gU g) + i then x else X e) (uE (gU g)) := by
        rw [eE]
        exact eat_Bk hB (by omega) hk hxo
      have hS2 : MdS M5 := hMd.same (by rw [eE]; exact (eat_MS N (uN (gU g) + i) (nI k) 0 x (x / 20)).1.1 57 (by decide)) (by rw [eE]; exact (eat_MS N (uN (gU g) + i) (nI k) 0 x (x / 20)).1.1 58 (by decide))
      have hM2 : MarkIs M5 c := hMk.same (by rw [eE]; unfold tkM addM; simp [seti, upi])
      refine Go.aload_n dX7_read_76 rfl ?_
      refine Go.aload_n dX7_read_77 rfl ?_
      refine Go.getI dX7_read_78 flX7_93 (shp hG rfl) rfl ?_
      refine Go.eqI (y := nI (uN (gU g) + i + 1)) (by rw [eE, (tk_same _ 50 _ 8 (S := [50]) (by decide)).1 49 (by decide)]; simp [addM, upi, seti, upd]) ?_
      refine Go.iconst (v := 1) dX7_read_81 (by decide) ?_
      refine Go.isub dX7_read_82 ?_
      refine Go.eqI (y := nI (uN (gU g) + i)) (nI_pred _) ?_
      refine Go.callVV [] dX7_read_83 lkX7_146 imX7_marksBy seX7_marksBy cbX7_marksBy (m_marksBy hG hB2 hS2 (c := c) (e := uN (gU g) + i) (by omega) hM2) (shp hG rfl) rfl rfl rfl (Nat.le_of_ble_eq_true rfl) (fun M7 hr6 => ?_)
      obtain ⟨hMb, hsb⟩ := hr6
      refine Go.goto 95 dX7_read_86 rfl ?_
      refine Go.iinc (v := nI (i + 1)) (ls' := [some (.ref 49), some (.int (nI s)), some (.int (nI k)), some (.int 0), some (.int 0), some (.int (nI (i + 1))), some (.long (gSn g s i)), none]) dX7_read_95 rfl (nI_1 _) rfl rfl ?_
      refine Go.goto 27 dX7_read_98 rfl ?_
      have hMb2 : MarkIs M7 (addC c k x (uE (gU g))) := by simpa using hMb
      have hat := Sst.ate hB hMd rfl rfl rfl rfl (by omega) hk hxo eE hMb2 hsb
      exact ih (i + 1) M7 _ _ _ (by omega) ⟨_, _, _, _, hat.1, takeF_congr hE _, hlk⟩ (hMs.trans (hat.2.mono (by omega))) (by rw [hT, rdN, if_pos (by rw [hok.1, hok.2]; rfl), hd1])
set_option maxRecDepth 20000 in
theorem m_read {G : Gt} {d : Nat} {M : Mm} (hG : gS G = SHAPE) {g : Sg} (hC : ModIs M g) (hg : SgOk g) (s0 k0 : Int32) : ExI G (d + 5) mX7_read [.ref 49, .int s0, .int k0] M (fun r M' => r = (A_read g s0 k0).1 ∧ ModIs M' (A_read g s0 k0).2 ∧ CSame M M') := by
  refine Ex.of (by decide) (Nat.le_of_ble_eq_true rfl) ?_
  show Go G (d + 5) mX7_read 0 [some (.ref 49), some (.int s0), some (.int k0), none, none, none, none, none] [] M _
  refine Go.aload_n dX7_read_0 rfl ?_
  refine Go.iload_n dX7_read_1 rfl ?_
  refine Go.iload_n dX7_read_2 rfl ?_
  refine Go.callVI [] dX7_read_3 lkX7_354 imX7_noMenu seX7_noMenu cbX7_noMenu (m_noMenu hG hC s0 k0) (shp hG rfl) rfl rfl rfl (Nat.le_of_ble_eq_true rfl) (fun r1 M2 hr1 => ?_)
  obtain ⟨er1, emr1⟩ := hr1
  rw [emr1]
  clear emr1 M2
  subst er1
  obtain ⟨hin, hb0⟩ | ⟨hin, hb0, hik⟩ | hin | ⟨hin, hb0, hik⟩ : (inb s0 4 = true ∧ gSb g (tN s0) = 0) ∨ (inb s0 4 = true ∧ ¬ gSb g (tN s0) = 0 ∧ ¬ inb k0 6 = true) ∨ ¬ inb s0 4 = true ∨ (inb s0 4 = true ∧ ¬ gSb g (tN s0) = 0 ∧ inb k0 6 = true) := by
    by_cases q1 : inb s0 4 = true
    · by_cases q2 : gSb g (tN s0) = 0
      · exact Or.inl ⟨q1, q2⟩
      · by_cases q3 : inb k0 6 = true
        · exact Or.inr (Or.inr (Or.inr ⟨q1, q2, q3⟩))
        · exact Or.inr (Or.inl ⟨q1, q2, q3⟩)
    · exact Or.inr (Or.inr (Or.inl q1))
  · rw [show fltM g s0 k0 = -1000000006 from by unfold fltM; rw [if_pos hin, if_pos hb0], show A_read g s0 k0 = (-1000000006, fndS g 5) from by unfold A_read; rw [if_pos hin, if_pos hb0]]
    refine Go.istore_n (ls' := [some (.ref 49), some (.int s0), some (.int k0), some (.int ((-1000000006))), none, none, none, none]) dX7_read_6 (Nat.le_of_ble_eq_true rfl) rfl rfl ?_
    refine Go.iload_n dX7_read_7 rfl ?_
    refine Go.if_eq 17 dX7_read_8 rfl (fun h8 => absurd h8 (by decide)) (fun _ => ?_)
    refine Go.aload_n dX7_read_11 rfl ?_
    refine Go.iload_n dX7_read_12 rfl ?_
    refine Go.callVI [] dX7_read_13 lkX7_104 imX7_finds seX7_finds cbX7_finds (m_finds hG (code := (-1000000006)) (q := 5) (by decide) (by decide)) (shp hG rfl) rfl rfl rfl (Nat.le_of_ble_eq_true rfl) (fun r3 M4 hr3 => ?_)
    refine Go.iret dX7_read_16 rfl rfl ?_
    refine ⟨_, rfl, ?_⟩
    rw [hr3.2]
    exact ⟨hr3.1, hC.fnd⟩
  · rw [show fltM g s0 k0 = -1000000001 from by unfold fltM; rw [if_pos hin, if_neg hb0, if_neg hik], show A_read g s0 k0 = (-1000000001, fndS g 0) from by unfold A_read; rw [if_pos hin, if_neg hb0, if_neg hik]]
    refine Go.istore_n (ls' := [some (.ref 49), some (.int s0), some (.int k0), some (.int ((-1000000001))), none, none, none, none]) dX7_read_6 (Nat.le_of_ble_eq_true rfl) rfl rfl ?_
    refine Go.iload_n dX7_read_7 rfl ?_
    refine Go.if_eq 17 dX7_read_8 rfl (fun h8 => absurd h8 (by decide)) (fun _ => ?_)
    refine Go.aload_n dX7_read_11 rfl ?_
    refine Go.iload_n dX7_read_12 rfl ?_
    refine Go.callVI [] dX7_read_13 lkX7_104 imX7_finds seX7_finds cbX7_finds (m_finds hG (code := (-1000000001)) (q := 0) (by decide) (by decide)) (shp hG rfl) rfl rfl rfl (Nat.le_of_ble_eq_true rfl) (fun r5 M6 hr5 => ?_)
    refine Go.iret dX7_read_16 rfl rfl ?_
    refine ⟨_, rfl, ?_⟩
    rw [hr5.2]
    exact ⟨hr5.1, hC.fnd⟩
  · rw [show fltM g s0 k0 = -1000000001 from if_neg hin, show A_read g s0 k0 = (-1000000001, fndS g 0) from if_neg hin]
    refine Go.istore_n (ls' := [some (.ref 49), some (.int s0), some (.int k0), some (.int ((-1000000001))), none, none, none, none]) dX7_read_6 (Nat.le_of_ble_eq_true rfl) rfl rfl ?_
    refine Go.iload_n dX7_read_7 rfl ?_
    refine Go.if_eq 17 dX7_read_8 rfl (fun h8 => absurd h8 (by decide)) (fun _ => ?_)
    refine Go.aload_n dX7_read_11 rfl ?_
    refine Go.iload_n dX7_read_12 rfl ?_
    refine Go.callVI [] dX7_read_13 lkX7_104 imX7_finds seX7_finds cbX7_finds (m_finds hG (code := (-1000000001)) (q := 0) (by decide) (by decide)) (shp hG rfl) rfl rfl rfl (Nat.le_of_ble_eq_true rfl) (fun r7 M8 hr7 => ?_)
    refine Go.iret dX7_read_16 rfl rfl ?_
    refine ⟨_, rfl, ?_⟩
    rw [hr7.2]
    exact ⟨hr7.1, hC.fnd⟩
  · rw [show fltM g s0 k0 = 0 from by unfold fltM; rw [if_pos hin, if_neg hb0, if_pos hik]]
    unfold A_read
    rw [if_pos hin, if_neg hb0, if_pos hik]
    obtain ⟨s, hs4, es⟩ := inb_ex (n := 4) hin (by decide)
    subst es
    obtain ⟨k, hk, ek⟩ := inb_ex (n := 6) hik (by decide)
    subst ek
    rw [tN_nI (x := s) (by omega), tN_nI (x := k) (by omega)]
    have h40 := (hg.2.2.2.2 s hs4).2
    refine Go.istore_n (ls' := [some (.ref 49), some (.int (nI s)), some (.int (nI k)), some (.int 0), none, none, none, none]) dX7_read_6 (Nat.le_of_ble_eq_true rfl) rfl rfl ?_
    refine Go.iload_n dX7_read_7 rfl ?_
    refine Go.if_eq 17 dX7_read_8 rfl (fun _ => ?_) (fun h8 => absurd (by decide) h8)
    refine Go.aload_n dX7_read_17 rfl ?_
    refine Go.callVV [] dX7_read_18 lkX7_194 imX7_begins0 seX7_begins0 cbX7_begins0 (g_begins hG hC hg) (shp hG rfl) rfl rfl rfl (Nat.le_of_ble_eq_true rfl) (fun M10 hr9 => ?_)
    obtain ⟨hHk, hSk⟩ := hr9
    refine Go.iconst (v := 0) dX7_read_21 (by decide) ?_
    refine Go.istore (ls' := [some (.ref 49), some (.int (nI s)), some (.int (nI k)), some (.int 0), some (.int 0), none, none, none]) dX7_read_22 (Nat.le_of_ble_eq_true rfl) rfl rfl ?_
    refine Go.iconst (v := 0) dX7_read_24 (by decide) ?_
    refine Go.istore (ls' := [some (.ref 49), some (.int (nI s)), some (.int (nI k)), some (.int 0), some (.int 0), some (.int 0), none, none]) dX7_read_25 (Nat.le_of_ble_eq_true rfl) rfl rfl ?_
    exact l_readM hG hg hC hHk hk hs4 h40 (gSl g s) 0 _ _ _ _ (by omega) hSk (MS.refl _ _) rfl
