theorem lg_lt {x y : Int64} : lg_cmp x y < 0 ↔ x < y := by
  unfold lg_cmp
  by_cases h : x > y
  · rw [if_pos h]
    exact ⟨fun q => absurd q (by decide), fun q => absurd (Int64.lt_trans h q) Int64.lt_irrefl⟩
  · rw [if_neg h]
    by_cases e : x = y
    · rw [if_pos e]
      exact ⟨fun q => absurd q (by decide), fun q => absurd (e ▸ q) Int64.lt_irrefl⟩
    · rw [if_neg e]
      refine ⟨fun _ => ?_, fun _ => by decide⟩
      rw [Int64.lt_iff_toInt_lt]
      have h9 : ¬ x.toInt = y.toInt := fun q => e (Int64.toInt_inj.mp q)
      have h8 : ¬ y.toInt < x.toInt := fun q => h (Int64.lt_iff_toInt_lt.mpr q)
      omega
theorem lg_gt {x y : Int64} : 0 < lg_cmp x y ↔ y < x := by
  unfold lg_cmp
  by_cases h : x > y
  · rw [if_pos h]
    exact ⟨fun _ => h, fun _ => by decide⟩
  · rw [if_neg h]
    by_cases e : x = y
    · rw [if_pos e]
      exact ⟨fun q => absurd q (by decide), fun q => absurd q h⟩
    · rw [if_neg e]
      exact ⟨fun q => absurd q (by decide), fun q => absurd q h⟩
def in99 (v : Int64) : Bool := !decide (v < 0) && !decide (99 < v)
def lyN (V : Nat → Int64) (u : Bu) : Nat → Nat × Bu
  | 0 => (0, u)
  | i + 1 => if in99 (V i) then ((lyN V u i).1 + 1, stS (lyN V u i).2 i (V i).toInt32) else lyN V u i
theorem lyN_le (V : Nat → Int64) (u : Bu) : ∀ i, (lyN V u i).1 ≤ i
  | 0 => Nat.le_refl _
  | i + 1 => by
    have := lyN_le V u i
    rw [lyN]
    split
    · show (lyN V u i).1 + 1 ≤ i + 1
      omega
    · omega
theorem lyN_t {V : Nat → Int64} {u : Bu} {i : Nat} (h : in99 (V i) = true) : lyN V u (i + 1) = ((lyN V u i).1 + 1, stS (lyN V u i).2 i (V i).toInt32) := by rw [lyN, if_pos h]
theorem lyN_f {V : Nat → Int64} {u : Bu} {i : Nat} (h : in99 (V i) = false) : lyN V u (i + 1) = lyN V u i := by rw [lyN, if_neg (by rw [h]; decide)]
def A_lays (g : Sg) (s : Int32) : Int32 × Sg := if inb s 4 then (if gSb g (tN s) = 0 then (-1000000006, fndS g 5) else (nI (lyN (gSn g (tN s)) (gU g) (min (gSl g (tN s)) 8)).1, setU g (lyN (gSn g (tN s)) (gU g) (min (gSl g (tN s)) 8)).2)) else (-1000000001, fndS g 0)
set_option maxRecDepth 20000 in
theorem l_laysC {G : Gt} {d : Nat} {M0 : Mm} (hG : gS G = SHAPE) {g : Sg} (hg : SgOk g) {s : Nat} (hs4 : s < 4) {q r : Nat} (eq : q = 40 + s) (er : r = 44 + s) (hq : (gS G)[q]? = some (.inr (4, [.inr true, .inr true, .inl (some r)]))) (hr : (gS G)[r]? = some (.inl (2, 40, []))) : ∀ (n i : Nat) (N : Mm) (o6 : Option Value), i + n = (min (gSl g s) 8) → CompIs N (setU g (lyN (gSn g s) (gU g) i).2) → MSame M0 N → Go G (d + 2) mX6_lays 29 [some (.ref 0), some (.int (nI s)), some (.int 0), some (.ref q), some (.int (nI ((lyN (gSn g s) (gU g) i).1))), some (.int (nI i)), o6, none] [] N (fun v M' => ∃ r, v = some (.int r) ∧ r = (((nI (lyN (gSn g s) (gU g) (min (gSl g s) 8)).1, setU g (lyN (gSn g s) (gU g) (min (gSl g s) 8)).2) : Int32 × Sg)).1 ∧ CompIs M' (((nI (lyN (gSn g s) (gU g) (min (gSl g s) 8)).1, setU g (lyN (gSn g s) (gU g) (min (gSl g s) 8)).2) : Int32 × Sg)).2 ∧ MSame M0 M') := by
  intro n
  induction n with
  | zero =>
    intro i N o6 hin hC hmm
    have h40 := (hg.2.2.2.2 s hs4).2
    have hsc : N.1 q 0 = gSb g s ∧ N.1 q 1 = nI (gSl g s) ∧ ∀ i, i < 40 → N.2 r i = gSn g s i := by rw [eq, er]; exact sht hC hs4
    refine Go.iload dX6_lays_29 rfl ?_
    refine Go.aload_n dX6_lays_31 rfl ?_
    refine Go.getI dX6_lays_32 flX6_253 hq rfl ?_
    refine Go.eqI (y := nI (gSl g s)) (hsc.2.1) ?_
    refine Go.icmp_ge 92 dX6_lays_35 rfl (fun h35 => ?_) (fun h35 => ?_)
    · have n35 : (gSl g s) ≤ i := (nI_leI (a := (gSl g s)) (b := i) (by omega) (by omega)).mp h35
      refine Go.iload dX6_lays_92 rfl ?_
      refine Go.iret dX6_lays_94 rfl rfl ?_
      have e9 : i = (min (gSl g s) 8) := by omega
      rw [e9] at hC ⊢
      exact ⟨_, rfl, rfl, hC, hmm⟩
    · have n35 : ¬ (gSl g s) ≤ i := fun q => h35 ((nI_leI (a := (gSl g s)) (b := i) (by omega) (by omega)).mpr q)
      refine Go.iload dX6_lays_38 rfl ?_
      refine Go.bipush (v := 8) dX6_lays_40 (by decide) ?_
      refine Go.icmp_ge 92 dX6_lays_42 rfl (fun _ => ?_) (fun h42 => absurd (nI_le (a := 8) (b := i) (by omega) (by omega)) h42)
      refine Go.iload dX6_lays_92 rfl ?_
      refine Go.iret dX6_lays_94 rfl rfl ?_
      have e9 : i = (min (gSl g s) 8) := by omega
      rw [e9] at hC ⊢
      exact ⟨_, rfl, rfl, hC, hmm⟩
  | succ n ih =>
    intro i N o6 hin hC hmm
    have hi : i < (min (gSl g s) 8) := by omega
    have h40 := (hg.2.2.2.2 s hs4).2
    have hsc : N.1 q 0 = gSb g s ∧ N.1 q 1 = nI (gSl g s) ∧ ∀ i, i < 40 → N.2 r i = gSn g s i := by rw [eq, er]; exact sht hC hs4
    have hle := lyN_le (gSn g s) (gU g) i
    refine Go.iload dX6_lays_29 rfl ?_
    refine Go.aload_n dX6_lays_31 rfl ?_
    refine Go.getI dX6_lays_32 flX6_253 hq rfl ?_
    refine Go.eqI (y := nI (gSl g s)) (hsc.2.1) ?_
    refine Go.icmp_ge 92 dX6_lays_35 rfl (fun h35 => absurd h35 (nI_ge (a := i) (b := gSl g s) (by omega) (by omega))) (fun _ => ?_)
    refine Go.iload dX6_lays_38 rfl ?_
    refine Go.bipush (v := 8) dX6_lays_40 (by decide) ?_
    refine Go.icmp_ge 92 dX6_lays_42 rfl (fun h42 => absurd h42 (nI_ge (a := i) (b := 8) (by omega) (by omega))) (fun _ => ?_)
    refine Go.aload_n dX6_lays_45 rfl ?_
    refine Go.getR dX6_lays_46 flX6_257 hq rfl ?_
    refine Go.iload dX6_lays_49 rfl ?_
    refine Go.lald dX6_lays_51 hr (vin (by omega) (by decide)) ?_
    refine Go.nmL (fun x1 ex1 => ?_)
    refine Go.lstore (ls' := [some (.ref 0), some (.int (nI s)), some (.int 0), some (.ref q), some (.int (nI ((lyN (gSn g s) (gU g) i).1))), some (.int (nI i)), some (.long x1), none]) dX6_lays_52 (Nat.le_of_ble_eq_true rfl) rfl rfl ?_
    have hv : x1 = gSn g s i := by rw [ex1, ncl (by omega)]; exact hsc.2.2 i (by omega)
    refine Go.lload dX6_lays_54 rfl ?_
    refine Go.lconst (v := 0) dX6_lays_56 rfl ?_
    refine Go.lcmp dX6_lays_57 ?_
    refine Go.if_lt 86 dX6_lays_58 rfl (fun h58 => ?_) (fun h58 => ?_)
    · refine Go.iinc (v := nI (i + 1)) (ls' := [some (.ref 0), some (.int (nI s)), some (.int 0), some (.ref q), some (.int (nI ((lyN (gSn g s) (gU g) i).1))), some (.int (nI (i + 1))), some (.long x1), none]) dX6_lays_86 rfl (nI_1 _) rfl rfl ?_
      refine Go.goto 29 dX6_lays_89 rfl ?_
      have hv9 : in99 (gSn g s i) = false := by
        unfold in99
        rw [← hv]
        simp [lg_lt.mp h58]
      rw [← lyN_f (u := gU g) hv9]
      exact ih (i + 1) N _ (by omega) (by rw [lyN_f hv9]; exact hC) hmm
    · refine Go.lload dX6_lays_61 rfl ?_
      refine Go.ldc2 dX6_lays_63 klX6_280 ?_
      refine Go.lcmp dX6_lays_66 ?_
      refine Go.if_gt 86 dX6_lays_67 rfl (fun h67 => ?_) (fun h67 => ?_)
      · refine Go.iinc (v := nI (i + 1)) (ls' := [some (.ref 0), some (.int (nI s)), some (.int 0), some (.ref q), some (.int (nI ((lyN (gSn g s) (gU g) i).1))), some (.int (nI (i + 1))), some (.long x1), none]) dX6_lays_86 rfl (nI_1 _) rfl rfl ?_
        refine Go.goto 29 dX6_lays_89 rfl ?_
        have hv9 : in99 (gSn g s i) = false := by
          unfold in99
          rw [← hv]
          simp [lg_gt.mp h67]
        rw [← lyN_f (u := gU g) hv9]
        exact ih (i + 1) N _ (by omega) (by rw [lyN_f hv9]; exact hC) hmm
      · refine Go.aload_n dX6_lays_70 rfl ?_
        refine Go.getR dX6_lays_71 flX6_12 (shp hG rfl) rfl ?_
        refine Go.getR dX6_lays_74 flX6_67 (shp hG rfl) rfl ?_
        refine Go.iload dX6_lays_77 rfl ?_
        refine Go.lload dX6_lays_79 rfl ?_
        refine Go.l2i dX6_lays_81 ?_
        refine Go.iast dX6_lays_82 (shp hG rfl) (vin (by omega) (by decide)) ?_
        refine Go.nmM (fun N2 eN2 => ?_)
        refine Go.iinc (v := nI ((lyN (gSn g s) (gU g) i).1 + 1)) (ls' := [some (.ref 0), some (.int (nI s)), some (.int 0), some (.ref q), some (.int (nI ((lyN (gSn g s) (gU g) i).1 + 1))), some (.int (nI i)), some (.long x1), none]) dX6_lays_83 rfl (nI_1 _) rfl rfl ?_
        refine Go.iinc (v := nI (i + 1)) (ls' := [some (.ref 0), some (.int (nI s)), some (.int 0), some (.ref q), some (.int (nI ((lyN (gSn g s) (gU g) i).1 + 1))), some (.int (nI (i + 1))), some (.long x1), none]) dX6_lays_86 rfl (nI_1 _) rfl rfl ?_
        refine Go.goto 29 dX6_lays_89 rfl ?_
        have hv9 : in99 (gSn g s i) = true := by
          unfold in99
          rw [← hv]
          simp only [Bool.and_eq_true, Bool.not_eq_true', decide_eq_false_iff_not]
          exact ⟨fun z => h58 (lg_lt.mpr z), fun z => h67 (lg_gt.mpr z)⟩
        have e9 := lyN_t (u := gU g) hv9
        have hC2 := hC.setU (hC.1.st i (gSn g s i).toInt32) (Same.upi _ 2 _ _ (by decide))
        rw [setU_setU] at hC2
        have eM : N2 = upi N 2 i (gSn g s i).toInt32 := by rw [eN2, ncl (by omega), hv]
        rw [← eM] at hC2
        rw [show nI ((lyN (gSn g s) (gU g) i).1 + 1) = nI ((lyN (gSn g s) (gU g) (i + 1)).1) by rw [e9]]
        exact ih (i + 1) N2 _ (by omega) (by rw [e9]; exact hC2.1) (hmm.trans hC2.2)
set_option maxRecDepth 20000 in
theorem c_lays {G : Gt} {d : Nat} {M : Mm} (hG : gS G = SHAPE) {g : Sg} (hC : CompIs M g) (hg : SgOk g) (s0 : Int32) : ExI G (d + 2) mX6_lays [.ref 0, .int s0] M (fun r M' => r = (A_lays g s0).1 ∧ CompIs M' (A_lays g s0).2 ∧ MSame M M') := by
  refine Ex.of (by decide) (Nat.le_of_ble_eq_true rfl) ?_
  show Go G (d + 2) mX6_lays 0 [some (.ref 0), some (.int s0), none, none, none, none, none, none] [] M _
  by_cases hgd : (inb s0 4) = true
  · obtain ⟨s, hs4, es⟩ := inb_ex (n := 4) hgd (by decide)
    subst es
    have h40 := (hg.2.2.2.2 s hs4).2
    have hA0 : A_lays g (nI s) = (if gSb g s = 0 then (-1000000006, fndS g 5) else (nI (lyN (gSn g s) (gU g) (min (gSl g s) 8)).1, setU g (lyN (gSn g s) (gU g) (min (gSl g s) 8)).2)) := by
      have h9 : A_lays g (nI s) = _ := if_pos hgd
      rw [tN_nI (x := s) (by omega)] at h9
      exact h9
    rw [hA0]
    clear hA0
    refine Go.aload_n dX6_lays_0 rfl ?_
    refine Go.iload_n dX6_lays_1 rfl ?_
    refine Go.callVI [] dX6_lays_2 lkX6_254 imX6_sheetFault seX6_sheetFault cbX6_sheetFault (s_sheetFault hG hC (nI s)) (shp hG rfl) rfl rfl rfl (Nat.le_of_ble_eq_true rfl) (fun r1 M2 hr1 => ?_)
    obtain ⟨er1, emr1⟩ := hr1
    rw [emr1]
    clear emr1 M2
    subst er1
    by_cases hb0 : gSb g s = 0
    · rw [show fltS g (nI s) = -1000000006 from by unfold fltS; rw [if_pos hgd, tN_nI (by omega), if_pos hb0]]
      refine Go.istore_n (ls' := [some (.ref 0), some (.int (nI s)), some (.int ((-1000000006))), none, none, none, none, none]) dX6_lays_5 (Nat.le_of_ble_eq_true rfl) rfl rfl ?_
      refine Go.iload_n dX6_lays_6 rfl ?_
      refine Go.if_eq 16 dX6_lays_7 rfl (fun h7 => absurd h7 (by decide)) (fun _ => ?_)
      refine Go.aload_n dX6_lays_10 rfl ?_
      refine Go.iload_n dX6_lays_11 rfl ?_
      refine Go.callVI [] dX6_lays_12 lkX6_63 imX6_finding seX6_finding cbX6_finding (s_finding hG (code := (-1000000006)) (q := 5) (by decide) (by decide)) (shp hG rfl) rfl rfl rfl (Nat.le_of_ble_eq_true rfl) (fun r3 M4 hr3 => ?_)
      refine Go.iret dX6_lays_15 rfl rfl ?_
      refine ⟨_, rfl, ?_⟩
      rw [if_pos hb0, hr3.2]
      exact ⟨hr3.1, hC.fnd⟩
    · rw [show fltS g (nI s) = 0 from by unfold fltS; rw [if_pos hgd, tN_nI (by omega), if_neg hb0]]
      obtain ⟨q, r, eq, er, hq, hr, hrf⟩ := sheetAt hG hs4
      have hsc := sht hC hs4
      rw [← eq, ← er] at hsc
      refine Go.istore_n (ls' := [some (.ref 0), some (.int (nI s)), some (.int 0), none, none, none, none, none]) dX6_lays_5 (Nat.le_of_ble_eq_true rfl) rfl rfl ?_
      refine Go.iload_n dX6_lays_6 rfl ?_
      refine Go.if_eq 16 dX6_lays_7 rfl (fun _ => ?_) (fun h7 => absurd (by decide) h7)
      refine Go.aload_n dX6_lays_16 rfl ?_
      refine Go.getR dX6_lays_17 flX6_49 (shp hG rfl) rfl ?_
      refine Go.iload_n dX6_lays_20 rfl ?_
      refine Go.aald dX6_lays_21 (shp hG rfl) (vin (by omega) (by decide)) (by rw [ncl (by omega)]; exact hrf) ?_
      refine Go.astore_n (ls' := [some (.ref 0), some (.int (nI s)), some (.int 0), some (.ref q), none, none, none, none]) dX6_lays_22 (Nat.le_of_ble_eq_true rfl) rfl rfl ?_
      refine Go.iconst (v := 0) dX6_lays_23 (by decide) ?_
      refine Go.istore (ls' := [some (.ref 0), some (.int (nI s)), some (.int 0), some (.ref q), some (.int 0), none, none, none]) dX6_lays_24 (Nat.le_of_ble_eq_true rfl) rfl rfl ?_
      refine Go.iconst (v := 0) dX6_lays_26 (by decide) ?_
      refine Go.istore (ls' := [some (.ref 0), some (.int (nI s)), some (.int 0), some (.ref q), some (.int 0), some (.int 0), none, none]) dX6_lays_27 (Nat.le_of_ble_eq_true rfl) rfl rfl ?_
      rw [if_neg hb0]
      exact l_laysC hG hg hs4 eq er hq hr (min (gSl g s) 8) 0 M _ (by omega) hC (MSame.refl M)
  · refine Go.aload_n dX6_lays_0 rfl ?_
    refine Go.iload_n dX6_lays_1 rfl ?_
    refine Go.callVI [] dX6_lays_2 lkX6_254 imX6_sheetFault seX6_sheetFault cbX6_sheetFault (s_sheetFault hG hC s0) (shp hG rfl) rfl rfl rfl (Nat.le_of_ble_eq_true rfl) (fun r1 M2 hr1 => ?_)
    obtain ⟨er1, emr1⟩ := hr1
    rw [emr1]
    clear emr1 M2
    subst er1
    rw [show fltS g s0 = -1000000001 from if_neg hgd]
    refine Go.istore_n (ls' := [some (.ref 0), some (.int s0), some (.int ((-1000000001))), none, none, none, none, none]) dX6_lays_5 (Nat.le_of_ble_eq_true rfl) rfl rfl ?_
    refine Go.iload_n dX6_lays_6 rfl ?_
    refine Go.if_eq 16 dX6_lays_7 rfl (fun h7 => absurd h7 (by decide)) (fun _ => ?_)
    refine Go.aload_n dX6_lays_10 rfl ?_
    refine Go.iload_n dX6_lays_11 rfl ?_
    refine Go.callVI [] dX6_lays_12 lkX6_63 imX6_finding seX6_finding cbX6_finding (s_finding hG (code := (-1000000001)) (q := 0) (by decide) (by decide)) (shp hG rfl) rfl rfl rfl (Nat.le_of_ble_eq_true rfl) (fun r3 M4 hr3 => ?_)
    refine Go.iret dX6_lays_15 rfl rfl ?_
    refine ⟨_, rfl, ?_⟩
    rw [show A_lays g s0 = (-1000000001, fndS g 0) from if_neg hgd, hr3.2]
    exact ⟨hr3.1, hC.fnd⟩
set_option maxRecDepth 20000 in
theorem l_laysM {G : Gt} {d : Nat} {M0 : Mm} (hG : gS G = SHAPE) {g : Sg} (hg : SgOk g) {s : Nat} (hs4 : s < 4) : ∀ (n i : Nat) (N : Mm) (o4 : Option Value), i + n = (min (gSl g s) 8) → ModIs N (setU g (lyN (gSn g s) (gU g) i).2) → CSame M0 N → Go G (d + 2) mX7_lays 35 [some (.ref 49), some (.int (nI s)), some (.int (nI ((lyN (gSn g s) (gU g) i).1))), some (.int (nI i)), o4, none] [] N (fun v M' => ∃ r, v = some (.int r) ∧ r = (((nI (lyN (gSn g s) (gU g) (min (gSl g s) 8)).1, setU g (lyN (gSn g s) (gU g) (min (gSl g s) 8)).2) : Int32 × Sg)).1 ∧ ModIs M' (((nI (lyN (gSn g s) (gU g) (min (gSl g s) 8)).1, setU g (lyN (gSn g s) (gU g) (min (gSl g s) 8)).2) : Int32 × Sg)).2 ∧ CSame M0 M') := by
  intro n
  induction n with
  | zero =>
    intro i N o4 hin hC hmm
    have h40 := (hg.2.2.2.2 s hs4).2
    refine Go.iload_n dX7_lays_35 rfl ?_
    refine Go.bipush (v := 8) dX7_lays_36 (by decide) ?_
    refine Go.icmp_ge 98 dX7_lays_38 rfl (fun h38 => ?_) (fun h38 => ?_)
    · have n38 : 8 ≤ i := (nI_leI (a := 8) (b := i) (by omega) (by omega)).mp h38
      refine Go.iload_n dX7_lays_98 rfl ?_
      refine Go.iret dX7_lays_99 rfl rfl ?_
      have e9 : i = (min (gSl g s) 8) := by omega
      rw [e9] at hC ⊢
      exact ⟨_, rfl, rfl, hC, hmm⟩
    · have n38 : ¬ 8 ≤ i := fun q => h38 ((nI_leI (a := 8) (b := i) (by omega) (by omega)).mpr q)
      refine Go.iload_n dX7_lays_41 rfl ?_
      refine Go.aload_n dX7_lays_42 rfl ?_
      refine Go.getR dX7_lays_43 flX7_62 (shp hG rfl) rfl ?_
      refine Go.iload_n dX7_lays_46 rfl ?_
      refine Go.iald dX7_lays_47 (shp hG rfl) (vin (by omega) (by decide)) ?_
      refine Go.eqI (y := nI (gSl g s)) (by rw [ncl (by omega)]; exact (shm hC hs4).2.1) ?_
      refine Go.icmp_ge 98 dX7_lays_48 rfl (fun _ => ?_) (fun h48 => absurd (nI_le (a := gSl g s) (b := i) (by omega) (by omega)) h48)
      refine Go.iload_n dX7_lays_98 rfl ?_
      refine Go.iret dX7_lays_99 rfl rfl ?_
      have e9 : i = (min (gSl g s) 8) := by omega
      rw [e9] at hC ⊢
      exact ⟨_, rfl, rfl, hC, hmm⟩
  | succ n ih =>
    intro i N o4 hin hC hmm
    have hi : i < (min (gSl g s) 8) := by omega
    have h40 := (hg.2.2.2.2 s hs4).2
    have hle := lyN_le (gSn g s) (gU g) i
    refine Go.iload_n dX7_lays_35 rfl ?_
    refine Go.bipush (v := 8) dX7_lays_36 (by decide) ?_
    refine Go.icmp_ge 98 dX7_lays_38 rfl (fun h38 => absurd h38 (nI_ge (a := i) (b := 8) (by omega) (by omega))) (fun _ => ?_)
    refine Go.iload_n dX7_lays_41 rfl ?_
    refine Go.aload_n dX7_lays_42 rfl ?_
    refine Go.getR dX7_lays_43 flX7_62 (shp hG rfl) rfl ?_
    refine Go.iload_n dX7_lays_46 rfl ?_
    refine Go.iald dX7_lays_47 (shp hG rfl) (vin (by omega) (by decide)) ?_
    refine Go.eqI (y := nI (gSl g s)) (by rw [ncl (by omega)]; exact (shm hC hs4).2.1) ?_
    refine Go.icmp_ge 98 dX7_lays_48 rfl (fun h48 => absurd h48 (nI_ge (a := i) (b := gSl g s) (by omega) (by omega))) (fun _ => ?_)
    refine Go.aload_n dX7_lays_51 rfl ?_
    refine Go.getR dX7_lays_52 flX7_65 (shp hG rfl) rfl ?_
    refine Go.bipush (v := 40) dX7_lays_55 (by decide) ?_
    refine Go.iload_n dX7_lays_57 rfl ?_
    refine Go.imul dX7_lays_58 ?_
    refine Go.eqI (y := nI (40 * s)) (pk_mul _ _) ?_
    refine Go.iload_n dX7_lays_59 rfl ?_
    refine Go.iadd dX7_lays_60 ?_
    refine Go.eqI (y := nI (40 * s + i)) (nI_add _ _) ?_
    refine Go.lald dX7_lays_61 (shp hG rfl) (vin (by omega) (by decide)) ?_
    refine Go.nmL (fun x1 ex1 => ?_)
    refine Go.lstore (ls' := [some (.ref 49), some (.int (nI s)), some (.int (nI ((lyN (gSn g s) (gU g) i).1))), some (.int (nI i)), some (.long x1), none]) dX7_lays_62 (Nat.le_of_ble_eq_true rfl) rfl rfl ?_
    have hv : x1 = gSn g s i := by rw [ex1, ncl (by omega)]; exact (shm hC hs4).2.2 i (by omega)
    refine Go.lload dX7_lays_64 rfl ?_
    refine Go.lconst (v := 0) dX7_lays_66 rfl ?_
    refine Go.lcmp dX7_lays_67 ?_
    refine Go.if_lt 92 dX7_lays_68 rfl (fun h68 => ?_) (fun h68 => ?_)
    · refine Go.iinc (v := nI (i + 1)) (ls' := [some (.ref 49), some (.int (nI s)), some (.int (nI ((lyN (gSn g s) (gU g) i).1))), some (.int (nI (i + 1))), some (.long x1), none]) dX7_lays_92 rfl (nI_1 _) rfl rfl ?_
      refine Go.goto 35 dX7_lays_95 rfl ?_
      have hv9 : in99 (gSn g s i) = false := by
        unfold in99
        rw [← hv]
        simp [lg_lt.mp h68]
      rw [← lyN_f (u := gU g) hv9]
      exact ih (i + 1) N _ (by omega) (by rw [lyN_f hv9]; exact hC) hmm
    · refine Go.lload dX7_lays_71 rfl ?_
      refine Go.ldc2 dX7_lays_73 klX7_352 ?_
      refine Go.lcmp dX7_lays_76 ?_
      refine Go.if_gt 92 dX7_lays_77 rfl (fun h77 => ?_) (fun h77 => ?_)
      · refine Go.iinc (v := nI (i + 1)) (ls' := [some (.ref 49), some (.int (nI s)), some (.int (nI ((lyN (gSn g s) (gU g) i).1))), some (.int (nI (i + 1))), some (.long x1), none]) dX7_lays_92 rfl (nI_1 _) rfl rfl ?_
        refine Go.goto 35 dX7_lays_95 rfl ?_
        have hv9 : in99 (gSn g s i) = false := by
          unfold in99
          rw [← hv]
          simp [lg_gt.mp h77]
        rw [← lyN_f (u := gU g) hv9]
        exact ih (i + 1) N _ (by omega) (by rw [lyN_f hv9]; exact hC) hmm
      · refine Go.aload_n dX7_lays_80 rfl ?_
        refine Go.getR dX7_lays_81 flX7_7 (shp hG rfl) rfl ?_
        refine Go.iload_n dX7_lays_84 rfl ?_
        refine Go.lload dX7_lays_85 rfl ?_
        refine Go.l2i dX7_lays_87 ?_
        refine Go.iast dX7_lays_88 (shp hG rfl) (vin (by omega) (by decide)) ?_
        refine Go.nmM (fun N2 eN2 => ?_)
        refine Go.iinc (v := nI ((lyN (gSn g s) (gU g) i).1 + 1)) (ls' := [some (.ref 49), some (.int (nI s)), some (.int (nI ((lyN (gSn g s) (gU g) i).1 + 1))), some (.int (nI i)), some (.long x1), none]) dX7_lays_89 rfl (nI_1 _) rfl rfl ?_
        refine Go.iinc (v := nI (i + 1)) (ls' := [some (.ref 49), some (.int (nI s)), some (.int (nI ((lyN (gSn g s) (gU g) i).1 + 1))), some (.int (nI (i + 1))), some (.long x1), none]) dX7_lays_92 rfl (nI_1 _) rfl rfl ?_
        refine Go.goto 35 dX7_lays_95 rfl ?_
        have hv9 : in99 (gSn g s i) = true := by
          unfold in99
          rw [← hv]
          simp only [Bool.and_eq_true, Bool.not_eq_true', decide_eq_false_iff_not]
          exact ⟨fun z => h68 (lg_lt.mpr z), fun z => h77 (lg_gt.mpr z)⟩
        have e9 := lyN_t (u := gU g) hv9
        have hC2 := hC.setU (hC.1.st i (gSn g s i).toInt32) (Same.upi _ 50 _ _ (by decide)) (by rw [rd_ne (by decide)]) (by rw [rd_ne (by decide)])
        rw [setU_setU] at hC2
        have eM : N2 = upi N 50 i (gSn g s i).toInt32 := by rw [eN2, ncl (by omega), hv]
        rw [← eM] at hC2
        rw [show nI ((lyN (gSn g s) (gU g) i).1 + 1) = nI ((lyN (gSn g s) (gU g) (i + 1)).1) by rw [e9]]
        exact ih (i + 1) N2 _ (by omega) (by rw [e9]; exact hC2.1) (hmm.trans hC2.2)
set_option maxRecDepth 20000 in
theorem m_lays {G : Gt} {d : Nat} {M : Mm} (hG : gS G = SHAPE) {g : Sg} (hC : ModIs M g) (hg : SgOk g) (s0 : Int32) : ExI G (d + 2) mX7_lays [.ref 49, .int s0] M (fun r M' => r = (A_lays g s0).1 ∧ ModIs M' (A_lays g s0).2 ∧ CSame M M') := by
  refine Ex.of (by decide) (Nat.le_of_ble_eq_true rfl) ?_
  show Go G (d + 2) mX7_lays 0 [some (.ref 49), some (.int s0), none, none, none, none] [] M _
  by_cases hgd : (inb s0 4) = true
  · obtain ⟨s, hs4, es⟩ := inb_ex (n := 4) hgd (by decide)
    subst es
    have h40 := (hg.2.2.2.2 s hs4).2
    have hA0 : A_lays g (nI s) = (if gSb g s = 0 then (-1000000006, fndS g 5) else (nI (lyN (gSn g s) (gU g) (min (gSl g s) 8)).1, setU g (lyN (gSn g s) (gU g) (min (gSl g s) 8)).2)) := by
      have h9 : A_lays g (nI s) = _ := if_pos hgd
      rw [tN_nI (x := s) (by omega)] at h9
      exact h9
    rw [hA0]
    clear hA0
    refine Go.iload_n dX7_lays_0 rfl ?_
    refine Go.callSI [] dX7_lays_1 lkX7_340 stX7_isSheet cbX7_isSheet (m_isSheet (nI s)) rfl rfl (Nat.le_of_ble_eq_true rfl) (fun r1 M2 hr1 => ?_)
    obtain ⟨er1, emr1⟩ := hr1
    rw [emr1]
    clear emr1 M2
    subst er1
    refine Go.eqI (y := 1) (by rw [show inb (nI s) 4 = decide (s < 4) from inb_nI (by omega) (by decide), decide_eq_true (by omega)]; rfl) ?_
    refine Go.if_ne 14 dX7_lays_4 rfl (fun _ => ?_) (fun h4 => absurd h4 (by decide))
    refine Go.aload_n dX7_lays_14 rfl ?_
    refine Go.getR dX7_lays_15 flX7_59 (shp hG rfl) rfl ?_
    refine Go.iload_n dX7_lays_18 rfl ?_
    refine Go.iald dX7_lays_19 (shp hG rfl) (vin (by omega) (by decide)) ?_
    refine Go.eqI (y := gSb g s) (by rw [ncl (by omega)]; exact (shm hC hs4).1) ?_
    refine Go.if_ne 31 dX7_lays_20 rfl (fun h20 => ?_) (fun h20 => ?_)
    · refine Go.iconst (v := 0) dX7_lays_31 (by decide) ?_
      refine Go.istore_n (ls' := [some (.ref 49), some (.int (nI s)), some (.int 0), none, none, none]) dX7_lays_32 (Nat.le_of_ble_eq_true rfl) rfl rfl ?_
      refine Go.iconst (v := 0) dX7_lays_33 (by decide) ?_
      refine Go.istore_n (ls' := [some (.ref 49), some (.int (nI s)), some (.int 0), some (.int 0), none, none]) dX7_lays_34 (Nat.le_of_ble_eq_true rfl) rfl rfl ?_
      rw [if_neg h20]
      exact l_laysM hG hg hs4 (min (gSl g s) 8) 0 M _ (by omega) hC (CSame.refl M)
    · refine Go.aload_n dX7_lays_23 rfl ?_
      refine Go.ldcw dX7_lays_24 kcX7_344 ?_
      refine Go.callVI [] dX7_lays_27 lkX7_104 imX7_finds seX7_finds cbX7_finds (m_finds hG (code := (-1000000006)) (q := 5) (by decide) (by decide)) (shp hG rfl) rfl rfl rfl (Nat.le_of_ble_eq_true rfl) (fun r3 M4 hr3 => ?_)
      refine Go.iret dX7_lays_30 rfl rfl ?_
      refine ⟨_, rfl, ?_⟩
      rw [if_pos h20, hr3.2]
      exact ⟨hr3.1, hC.fnd⟩
  · refine Go.iload_n dX7_lays_0 rfl ?_
    refine Go.callSI [] dX7_lays_1 lkX7_340 stX7_isSheet cbX7_isSheet (m_isSheet s0) rfl rfl (Nat.le_of_ble_eq_true rfl) (fun r1 M2 hr1 => ?_)
    obtain ⟨er1, emr1⟩ := hr1
    rw [emr1]
    clear emr1 M2
    subst er1
    refine Go.if_ne 14 dX7_lays_4 rfl (fun h4 => ?_) (fun h4 => ?_)
    · exact absurd (bi_n0.mp h4) hgd
    · refine Go.aload_n dX7_lays_7 rfl ?_
      refine Go.ldc dX7_lays_8 kcX7_85 ?_
      refine Go.callVI [] dX7_lays_10 lkX7_104 imX7_finds seX7_finds cbX7_finds (m_finds hG (code := (-1000000001)) (q := 0) (by decide) (by decide)) (shp hG rfl) rfl rfl rfl (Nat.le_of_ble_eq_true rfl) (fun r3 M4 hr3 => ?_)
      refine Go.iret dX7_lays_13 rfl rfl ?_
      refine ⟨_, rfl, ?_⟩
      rw [show A_lays g s0 = (-1000000001, fndS g 0) from if_neg hgd, hr3.2]
      exact ⟨hr3.1, hC.fnd⟩
