def rowS (g : Sg) (s : Nat) (V : Nat → Int64) : Sg := setS g (gSb g) (gSl g) (fun j i => if j = s then V i else gSn g j i)
theorem rowS_self (g : Sg) (s : Nat) : rowS g s (gSn g s) = g := by
  unfold rowS setS
  have : (fun j i => if j = s then gSn g s i else gSn g j i) = gSn g := by
    funext j i
    split
    · rename_i h; rw [h]
    · rfl
  rw [this]
  rfl
noncomputable def mnN (lk : Nat → Int32) (ed k : Nat) (b : Int32) : Nat → Nat → (Nat → Int32) → (Nat → Nat) → (Nat → Int64) → Nat × (Nat → Int64)
  | 0, i, _, _, V => (i, V)
  | n + 1, i, f, c, V => match bst (okG f c) lk with
    | none => (i, V)
    | some x => mnN lk ed k b n (i + 1) (takeF f (x / 20) 8) (addC c k x ed) (vp_updL V i (cutL b (Int32.toInt64 (nI x))))
noncomputable def A_menu (g : Sg) (s k : Int32) : Int32 × Sg := if inb s 4 then (if gSb g (tN s) = 0 then (-1000000006, fndS g 5) else if inb k 6 then (nI (mnN (lk (gU g)) (uE (gU g)) (tN k) (gSb g (tN s)) (gSl g (tN s)) 0 (uS (gU g)) (kc (gU g)) (gSn g (tN s))).1, rowS g (tN s) (mnN (lk (gU g)) (uE (gU g)) (tN k) (gSb g (tN s)) (gSl g (tN s)) 0 (uS (gU g)) (kc (gU g)) (gSn g (tN s))).2) else (-1000000001, fndS g 0)) else (-1000000001, fndS g 0)
theorem comp_row {M M' : Mm} {g : Sg} {s i : Nat} {V : Nat → Int64} {x : Int64} (hs : s < 4) (h : CompIs M (rowS g s V)) (e : M' = upl M (44 + s) i x) : CompIs M' (rowS g s (vp_updL V i x)) ∧ MSame M M' := by
  have h0 := comp_setS (M' := M') (B := gSb g) (L := gSl g) (V := fun j t => if j = s then vp_updL V i x t else gSn g j t) h (fun a _ => by rw [e]; rfl) (fun a ha => by rw [e, rl_ne (by omega)]) (fun j hj => by
    have hold := sht h hj
    refine ⟨by rw [e]; exact hold.1, by rw [e]; exact hold.2.1, fun t ht => ?_⟩
    by_cases q : j = s
    · subst q
      rw [e, rl_eq, if_pos rfl]
      unfold vp_updL
      split
      · rfl
      · rw [hold.2.2 t ht]
        show (if j = j then V t else gSn g j t) = _
        rw [if_pos rfl]
    · rw [e, rl_ne (by omega), if_neg q, hold.2.2 t ht]
      show (if j = s then V t else gSn g j t) = _
      rw [if_neg q])
  exact h0
theorem mod_row {M M' : Mm} {g : Sg} {s i : Nat} {V : Nat → Int64} {x : Int64} (hs : s < 4) (hi : i < 40) (h : ModIs M (rowS g s V)) (e1 : M'.1 = M.1) (e2 : M'.2 = (upl M 68 (40 * s + i) x).2) : ModIs M' (rowS g s (vp_updL V i x)) ∧ CSame M M' := by
  have h0 := mod_setS (M' := M') (B := gSb g) (L := gSl g) (V := fun j t => if j = s then vp_updL V i x t else gSn g j t) h (fun a _ _ => by rw [e1]) (fun a q1 q2 => by rw [e2, rl_ne q1]) (fun j hj => by
    have hold := shm h hj
    refine ⟨by rw [e1]; exact hold.1, by rw [e1]; exact hold.2.1, fun t ht => ?_⟩
    rw [e2, rl_eq]
    unfold vp_updL
    by_cases q : j = s
    · subst q
      rw [if_pos rfl]
      by_cases q2 : t = i
      · rw [if_pos (by omega), if_pos q2]
      · rw [if_neg (by omega), if_neg q2, hold.2.2 t ht]
        show (if j = j then V t else gSn g j t) = _
        rw [if_pos rfl]
    · rw [if_neg (by omega), if_neg q, hold.2.2 t ht]
      show (if j = s then V t else gSn g j t) = _
      rw [if_neg q])
  exact h0
def fltM (g : Sg) (s k : Int32) : Int32 := if inb s 4 then (if gSb g (tN s) = 0 then -1000000006 else if inb k 6 then 0 else -1000000001) else -1000000001
set_option maxRecDepth 20000 in
theorem s_menuFault {G : Gt} {d : Nat} {M : Mm} (hG : gS G = SHAPE) {g : Sg} (hC : CompIs M g) (s0 k0 : Int32) : ExI G (d + 2) mX6_menuFault [.ref 0, .int s0, .int k0] M (fun r9 M' => r9 = fltM g s0 k0 ∧ M' = M) := by
  refine Ex.of (by decide) (Nat.le_of_ble_eq_true rfl) ?_
  show Go G (d + 2) mX6_menuFault 0 [some (.ref 0), some (.int s0), some (.int k0), none] [] M _
  refine Go.aload_n dX6_menuFault_0 rfl ?_
  refine Go.iload_n dX6_menuFault_1 rfl ?_
  refine Go.callVI [] dX6_menuFault_2 lkX6_254 imX6_sheetFault seX6_sheetFault cbX6_sheetFault (s_sheetFault hG hC s0) (shp hG rfl) rfl rfl rfl (Nat.le_of_ble_eq_true rfl) (fun r1 M2 hr1 => ?_)
  obtain ⟨er1, emr1⟩ := hr1
  rw [emr1]
  clear emr1 M2
  subst er1
  obtain ⟨hin, hb0⟩ | ⟨hin, hb0⟩ | hin : (inb s0 4 = true ∧ gSb g (tN s0) = 0) ∨ (inb s0 4 = true ∧ ¬ gSb g (tN s0) = 0) ∨ ¬ inb s0 4 = true := by
    by_cases q1 : inb s0 4 = true
    · by_cases q2 : gSb g (tN s0) = 0
      · exact Or.inl ⟨q1, q2⟩
      · exact Or.inr (Or.inl ⟨q1, q2⟩)
    · exact Or.inr (Or.inr q1)
  · rw [show fltS g s0 = -1000000006 from by unfold fltS; rw [if_pos hin, if_pos hb0]]
    refine Go.istore_n (ls' := [some (.ref 0), some (.int s0), some (.int k0), some (.int ((-1000000006)))]) dX6_menuFault_5 (Nat.le_of_ble_eq_true rfl) rfl rfl ?_
    refine Go.iload_n dX6_menuFault_6 rfl ?_
    refine Go.if_ne 24 dX6_menuFault_7 rfl (fun _ => ?_) (fun h7 => absurd h7 (by decide))
    refine Go.iload_n dX6_menuFault_24 rfl ?_
    refine Go.iret dX6_menuFault_25 rfl rfl ?_
    exact ⟨_, rfl, by unfold fltM; rw [if_pos hin, if_pos hb0], rfl⟩
  · rw [show fltS g s0 = 0 from by unfold fltS; rw [if_pos hin, if_neg hb0]]
    refine Go.istore_n (ls' := [some (.ref 0), some (.int s0), some (.int k0), some (.int 0)]) dX6_menuFault_5 (Nat.le_of_ble_eq_true rfl) rfl rfl ?_
    refine Go.iload_n dX6_menuFault_6 rfl ?_
    refine Go.if_ne 24 dX6_menuFault_7 rfl (fun h7 => absurd (by decide) h7) (fun _ => ?_)
    refine Go.iload_n dX6_menuFault_10 rfl ?_
    refine Go.bipush (v := 6) dX6_menuFault_11 (by decide) ?_
    refine Go.callSI [] dX6_menuFault_13 lkX6_58 stX6_isBelow cbX6_isBelow (s_isBelow k0 6) rfl rfl (Nat.le_of_ble_eq_true rfl) (fun r3 M4 hr3 => ?_)
    obtain ⟨er3, emr3⟩ := hr3
    rw [emr3]
    clear emr3 M4
    subst er3
    refine Go.if_ne 24 dX6_menuFault_16 rfl (fun h16 => ?_) (fun h16 => ?_)
    · refine Go.iload_n dX6_menuFault_24 rfl ?_
      refine Go.iret dX6_menuFault_25 rfl rfl ?_
      exact ⟨_, rfl, by unfold fltM; rw [if_pos hin, if_neg hb0, if_pos (bi_n0.mp h16)], rfl⟩
    · refine Go.ldc dX6_menuFault_19 kcX6_62 ?_
      refine Go.goto 25 dX6_menuFault_21 rfl ?_
      refine Go.iret dX6_menuFault_25 rfl rfl ?_
      exact ⟨_, rfl, by unfold fltM; rw [if_pos hin, if_neg hb0, if_neg (by rw [bi_0.mp h16]; decide)], rfl⟩
  · rw [show fltS g s0 = -1000000001 from if_neg hin]
    refine Go.istore_n (ls' := [some (.ref 0), some (.int s0), some (.int k0), some (.int ((-1000000001)))]) dX6_menuFault_5 (Nat.le_of_ble_eq_true rfl) rfl rfl ?_
    refine Go.iload_n dX6_menuFault_6 rfl ?_
    refine Go.if_ne 24 dX6_menuFault_7 rfl (fun _ => ?_) (fun h7 => absurd h7 (by decide))
    refine Go.iload_n dX6_menuFault_24 rfl ?_
    refine Go.iret dX6_menuFault_25 rfl rfl ?_
    exact ⟨_, rfl, by unfold fltM; rw [if_neg hin], rfl⟩
set_option maxRecDepth 20000 in
theorem m_noMenu {G : Gt} {d : Nat} {M : Mm} (hG : gS G = SHAPE) {g : Sg} (hC : ModIs M g) (s0 k0 : Int32) : ExI G (d + 2) mX7_noMenu [.ref 49, .int s0, .int k0] M (fun r9 M' => r9 = fltM g s0 k0 ∧ M' = M) := by
  refine Ex.of (by decide) (Nat.le_of_ble_eq_true rfl) ?_
  show Go G (d + 2) mX7_noMenu 0 [some (.ref 49), some (.int s0), some (.int k0)] [] M _
  refine Go.iload_n dX7_noMenu_0 rfl ?_
  refine Go.callSI [] dX7_noMenu_1 lkX7_340 stX7_isSheet cbX7_isSheet (m_isSheet s0) rfl rfl (Nat.le_of_ble_eq_true rfl) (fun r1 M2 hr1 => ?_)
  obtain ⟨er1, emr1⟩ := hr1
  rw [emr1]
  clear emr1 M2
  subst er1
  refine Go.if_ne 12 dX7_noMenu_4 rfl (fun h4 => ?_) (fun h4 => ?_)
  · have hin := bi_n0.mp h4
    obtain ⟨s, hs4, es⟩ := inb_ex (n := 4) hin (by decide)
    subst es
    refine Go.aload_n dX7_noMenu_12 rfl ?_
    refine Go.getR dX7_noMenu_13 flX7_59 (shp hG rfl) rfl ?_
    refine Go.iload_n dX7_noMenu_16 rfl ?_
    refine Go.iald dX7_noMenu_17 (shp hG rfl) (vin (by omega) (by decide)) ?_
    refine Go.eqI (y := gSb g s) (by rw [ncl (by omega)]; exact (shm hC hs4).1) ?_
    refine Go.if_ne 27 dX7_noMenu_18 rfl (fun h18 => ?_) (fun h18 => ?_)
    · refine Go.iload_n dX7_noMenu_27 rfl ?_
      refine Go.callSI [] dX7_noMenu_28 lkX7_159 stX7_isKind cbX7_isKind (m_isKind k0) rfl rfl (Nat.le_of_ble_eq_true rfl) (fun r3 M4 hr3 => ?_)
      obtain ⟨er3, emr3⟩ := hr3
      rw [emr3]
      clear emr3 M4
      subst er3
      refine Go.if_ne 39 dX7_noMenu_31 rfl (fun h31 => ?_) (fun h31 => ?_)
      · refine Go.iconst (v := 0) dX7_noMenu_39 (by decide) ?_
        refine Go.iret dX7_noMenu_40 rfl rfl ?_
        exact ⟨_, rfl, by unfold fltM; rw [if_pos hin, tN_nI (by omega), if_neg h18, if_pos (by rw [← inI_kind]; exact bi_n0.mp h31)], rfl⟩
      · refine Go.ldc dX7_noMenu_34 kcX7_85 ?_
        refine Go.goto 40 dX7_noMenu_36 rfl ?_
        refine Go.iret dX7_noMenu_40 rfl rfl ?_
        exact ⟨_, rfl, by unfold fltM; rw [if_pos hin, tN_nI (by omega), if_neg h18, if_neg (by rw [← inI_kind, bi_0.mp h31]; decide)], rfl⟩
    · refine Go.ldcw dX7_noMenu_21 kcX7_344 ?_
      refine Go.goto 40 dX7_noMenu_24 rfl ?_
      refine Go.iret dX7_noMenu_40 rfl rfl ?_
      exact ⟨_, rfl, by unfold fltM; rw [if_pos hin, tN_nI (by omega), if_pos h18], rfl⟩
  · refine Go.ldc dX7_noMenu_7 kcX7_85 ?_
    refine Go.goto 40 dX7_noMenu_9 rfl ?_
    refine Go.iret dX7_noMenu_40 rfl rfl ?_
    exact ⟨_, rfl, by unfold fltM; rw [if_neg (by rw [bi_0.mp h4]; decide)], rfl⟩
set_option maxRecDepth 20000 in
theorem l_menuC {G : Gt} {d : Nat} {M0 : Mm} (hG : gS G = SHAPE) {g : Sg} {k : Nat} (hk : k < 6) {s : Nat} (hs4 : s < 4) {q r : Nat} (eq : q = 40 + s) (er : r = 44 + s) (hq : (gS G)[q]? = some (.inr (4, [.inr true, .inr true, .inl (some r)]))) (hr : (gS G)[r]? = some (.inl (2, 40, []))) (h40 : gSl g s ≤ 40) {T : Nat × (Nat → Int64)} : ∀ (n i : Nat) (N : Mm) (f : Nat → Int32) (c : Nat → Nat) (V : Nat → Int64) (o6 : Option Value), i + n = (gSl g s) → CompIs N (rowS g s V) → MSame M0 N → KS N f c (lk (gU g)) (uE (gU g)) → T = mnN (lk (gU g)) (uE (gU g)) k (gSb g s) n i f c V → Go G (d + 5) mX6_menu 39 [some (.ref 0), some (.int (nI s)), some (.int (nI k)), some (.int 0), some (.ref q), some (.int (nI i)), o6] [] N (fun v M' => ∃ r, v = some (.int r) ∧ r = (((nI T.1, rowS g s T.2) : Int32 × Sg)).1 ∧ CompIs M' (((nI T.1, rowS g s T.2) : Int32 × Sg)).2 ∧ MSame M0 M') := by
  intro n
  induction n with
  | zero =>
    intro i N f c V o6 hin hC hmm hK hT
    have hsc := sht hC hs4
    rw [← eq, ← er] at hsc
    refine Go.iload dX6_menu_39 rfl ?_
    refine Go.aload dX6_menu_41 rfl ?_
    refine Go.getI dX6_menu_43 flX6_253 hq rfl ?_
    refine Go.eqI (y := nI (gSl g s)) (hsc.2.1) ?_
    refine Go.icmp_ge 83 dX6_menu_46 rfl (fun _ => ?_) (fun h46 => absurd (nI_le (a := gSl g s) (b := i) (by omega) (by omega)) h46)
    refine Go.aload dX6_menu_83 rfl ?_
    refine Go.getI dX6_menu_85 flX6_253 hq rfl ?_
    refine Go.eqI (y := nI (gSl g s)) (hsc.2.1) ?_
    refine Go.iret dX6_menu_88 rfl rfl ?_
    have e9 : i = gSl g s := by omega
    exact ⟨_, rfl, by rw [hT, ← e9]; rfl, by rw [hT]; exact hC, hmm⟩
  | succ n ih =>
    intro i N f c V o6 hin hC hmm hK hT
    have hi : i < (gSl g s) := by omega
    have hsc := sht hC hs4
    rw [← eq, ← er] at hsc
    refine Go.iload dX6_menu_39 rfl ?_
    refine Go.aload dX6_menu_41 rfl ?_
    refine Go.getI dX6_menu_43 flX6_253 hq rfl ?_
    refine Go.eqI (y := nI (gSl g s)) (hsc.2.1) ?_
    refine Go.icmp_ge 83 dX6_menu_46 rfl (fun h46 => absurd h46 (nI_ge (a := i) (b := gSl g s) (by omega) (by omega))) (fun _ => ?_)
    refine Go.aload_n dX6_menu_49 rfl ?_
    refine Go.getR dX6_menu_50 flX6_29 (shp hG rfl) rfl ?_
    refine Go.iload_n dX6_menu_53 rfl ?_
    refine Go.callVI [] dX6_menu_54 lkX6_201 imX2_cookFavourite seX2_cookFavourite cbX2_cookFavourite (k_cookFav hG hK hk) (shp hG rfl) rfl rfl rfl (Nat.le_of_ble_eq_true rfl) (fun r1 M2 hr1 => ?_)
    rcases hr1 with ⟨ex9, hb, eM9⟩ | ⟨x, ex9, hx5, hxo, hb, hK2, hs2⟩
    · rw [ex9, eM9]
      refine Go.istore (ls' := [some (.ref 0), some (.int (nI s)), some (.int (nI k)), some (.int 0), some (.ref q), some (.int (nI i)), some (.int ((-1)))]) dX6_menu_57 (Nat.le_of_ble_eq_true rfl) rfl rfl ?_
      refine Go.iload dX6_menu_59 rfl ?_
      refine Go.if_ge 67 dX6_menu_61 rfl (fun h61 => absurd h61 (by decide)) (fun _ => ?_)
      refine Go.iload dX6_menu_64 rfl ?_
      refine Go.iret dX6_menu_66 rfl rfl ?_
      refine ⟨_, rfl, ?_⟩
      rw [hT, mnN, hb]
      exact ⟨rfl, hC, hmm⟩
    · rw [ex9]
      have hk2 := hC.kc (hs2.mono (by decide))
      have hi9 : i < gSl g s := by omega
      have hs9 := sht hk2.1 hs4
      rw [← eq] at hs9
      have hsl := hs9.2.1
      refine Go.istore (ls' := [some (.ref 0), some (.int (nI s)), some (.int (nI k)), some (.int 0), some (.ref q), some (.int (nI i)), some (.int (nI x))]) dX6_menu_57 (Nat.le_of_ble_eq_true rfl) rfl rfl ?_
      refine Go.iload dX6_menu_59 rfl ?_
      refine Go.if_ge 67 dX6_menu_61 rfl (fun _ => ?_) (fun h61 => absurd (nI_pos' (by omega)) h61)
      refine Go.aload dX6_menu_67 rfl ?_
      refine Go.iload dX6_menu_69 rfl ?_
      refine Go.iload dX6_menu_71 rfl ?_
      refine Go.i2l dX6_menu_73 ?_
      refine Go.callVV [] dX6_menu_74 lkX6_261 imX4_put seX4_put cbX4_put (s_put hq hr hsl h40 hi9 (Int32.toInt64 (nI x))) hq rfl rfl rfl (Nat.le_of_ble_eq_true rfl) (fun M4 hr3 => ?_)
      refine Go.iinc (v := nI (i + 1)) (ls' := [some (.ref 0), some (.int (nI s)), some (.int (nI k)), some (.int 0), some (.ref q), some (.int (nI (i + 1))), some (.int (nI x))]) dX6_menu_77 rfl (nI_1 _) rfl rfl ?_
      refine Go.goto 39 dX6_menu_80 rfl ?_
      have hrw := comp_row hs4 hk2.1 (show M4 = upl _ (44 + s) i (cutL (gSb g s) (Int32.toInt64 (nI x))) from by rw [hr3, er, hs9.1]; rfl)
      exact ih (i + 1) M4 _ _ _ _ (by omega) hrw.1 ((hmm.trans hk2.2).trans hrw.2) (by rw [hr3]; exact hK2) (by rw [hT, mnN, hb])
set_option maxRecDepth 20000 in
theorem c_menu {G : Gt} {d : Nat} {M : Mm} (hG : gS G = SHAPE) {g : Sg} (hC : CompIs M g) (hg : SgOk g) (s0 k0 : Int32) : ExI G (d + 5) mX6_menu [.ref 0, .int s0, .int k0] M (fun r M' => r = (A_menu g s0 k0).1 ∧ CompIs M' (A_menu g s0 k0).2 ∧ MSame M M') := by
  refine Ex.of (by decide) (Nat.le_of_ble_eq_true rfl) ?_
  show Go G (d + 5) mX6_menu 0 [some (.ref 0), some (.int s0), some (.int k0), none, none, none, none] [] M _
  refine Go.aload_n dX6_menu_0 rfl ?_
  refine Go.iload_n dX6_menu_1 rfl ?_
  refine Go.iload_n dX6_menu_2 rfl ?_
  refine Go.callVI [] dX6_menu_3 lkX6_282 imX6_menuFault seX6_menuFault cbX6_menuFault (s_menuFault hG hC s0 k0) (shp hG rfl) rfl rfl rfl (Nat.le_of_ble_eq_true rfl) (fun r1 M2 hr1 => ?_)
  obtain ⟨er1, emr1⟩ := hr1
  rw [emr1]
  clear emr1 M2
  subst er1
  obtain ⟨hin, hb0⟩ | ⟨hin, hb0, hik⟩ | hin | ⟨hin, hb0, hik⟩ : (inb s0 4 = true ∧ gSb g (tN s0) = 0) ∨ (inb s0 4 = true ∧ ¬ gSb g (tN s0) = 0 ∧ ¬ inb k0 6 = true) ∨ ¬ inb s0 4 = true ∨ (inb s0 4 = true ∧ ¬ gSb g (tN s0) = 0 ∧ inb k0 6 = true) := by
    by_cases q1 : inb s0 4 = true
    · by_cases q2 : gSb g (tN s0) = 0
      · exact Or.inl ⟨q1, q2⟩
      · by_cases q3 : inb k0 6 = true
        · exact Or.inr (Or.inr (Or.inr ⟨q1, q2, q3⟩))
        · exact Or.inr (Or.inl ⟨q1, q2, q3⟩)
    · exact Or.inr (Or.inr (Or.inl q1))
  · rw [show fltM g s0 k0 = -1000000006 from by unfold fltM; rw [if_pos hin, if_pos hb0], show A_menu g s0 k0 = (-1000000006, fndS g 5) from by unfold A_menu; rw [if_pos hin, if_pos hb0]]
    refine Go.istore_n (ls' := [some (.ref 0), some (.int s0), some (.int k0), some (.int ((-1000000006))), none, none, none]) dX6_menu_6 (Nat.le_of_ble_eq_true rfl) rfl rfl ?_
    refine Go.iload_n dX6_menu_7 rfl ?_
    refine Go.if_eq 17 dX6_menu_8 rfl (fun h8 => absurd h8 (by decide)) (fun _ => ?_)
    refine Go.aload_n dX6_menu_11 rfl ?_
    refine Go.iload_n dX6_menu_12 rfl ?_
    refine Go.callVI [] dX6_menu_13 lkX6_63 imX6_finding seX6_finding cbX6_finding (s_finding hG (code := (-1000000006)) (q := 5) (by decide) (by decide)) (shp hG rfl) rfl rfl rfl (Nat.le_of_ble_eq_true rfl) (fun r3 M4 hr3 => ?_)
    refine Go.iret dX6_menu_16 rfl rfl ?_
    refine ⟨_, rfl, ?_⟩
    rw [hr3.2]
    exact ⟨hr3.1, hC.fnd⟩
  · rw [show fltM g s0 k0 = -1000000001 from by unfold fltM; rw [if_pos hin, if_neg hb0, if_neg hik], show A_menu g s0 k0 = (-1000000001, fndS g 0) from by unfold A_menu; rw [if_pos hin, if_neg hb0, if_neg hik]]
    refine Go.istore_n (ls' := [some (.ref 0), some (.int s0), some (.int k0), some (.int ((-1000000001))), none, none, none]) dX6_menu_6 (Nat.le_of_ble_eq_true rfl) rfl rfl ?_
    refine Go.iload_n dX6_menu_7 rfl ?_
    refine Go.if_eq 17 dX6_menu_8 rfl (fun h8 => absurd h8 (by decide)) (fun _ => ?_)
    refine Go.aload_n dX6_menu_11 rfl ?_
    refine Go.iload_n dX6_menu_12 rfl ?_
    refine Go.callVI [] dX6_menu_13 lkX6_63 imX6_finding seX6_finding cbX6_finding (s_finding hG (code := (-1000000001)) (q := 0) (by decide) (by decide)) (shp hG rfl) rfl rfl rfl (Nat.le_of_ble_eq_true rfl) (fun r5 M6 hr5 => ?_)
    refine Go.iret dX6_menu_16 rfl rfl ?_
    refine ⟨_, rfl, ?_⟩
    rw [hr5.2]
    exact ⟨hr5.1, hC.fnd⟩
  · rw [show fltM g s0 k0 = -1000000001 from if_neg hin, show A_menu g s0 k0 = (-1000000001, fndS g 0) from if_neg hin]
    refine Go.istore_n (ls' := [some (.ref 0), some (.int s0), some (.int k0), some (.int ((-1000000001))), none, none, none]) dX6_menu_6 (Nat.le_of_ble_eq_true rfl) rfl rfl ?_
    refine Go.iload_n dX6_menu_7 rfl ?_
    refine Go.if_eq 17 dX6_menu_8 rfl (fun h8 => absurd h8 (by decide)) (fun _ => ?_)
    refine Go.aload_n dX6_menu_11 rfl ?_
    refine Go.iload_n dX6_menu_12 rfl ?_
    refine Go.callVI [] dX6_menu_13 lkX6_63 imX6_finding seX6_finding cbX6_finding (s_finding hG (code := (-1000000001)) (q := 0) (by decide) (by decide)) (shp hG rfl) rfl rfl rfl (Nat.le_of_ble_eq_true rfl) (fun r7 M8 hr7 => ?_)
    refine Go.iret dX6_menu_16 rfl rfl ?_
    refine ⟨_, rfl, ?_⟩
    rw [hr7.2]
    exact ⟨hr7.1, hC.fnd⟩
  · rw [show fltM g s0 k0 = 0 from by unfold fltM; rw [if_pos hin, if_neg hb0, if_pos hik]]
    unfold A_menu
    rw [if_pos hin, if_neg hb0, if_pos hik]
    obtain ⟨s, hs4, es⟩ := inb_ex (n := 4) hin (by decide)
    subst es
    obtain ⟨k, hk, ek⟩ := inb_ex (n := 6) hik (by decide)
    subst ek
    rw [tN_nI (x := s) (by omega), tN_nI (x := k) (by omega)]
    have h40 := (hg.2.2.2.2 s hs4).2
    obtain ⟨q, r, eq, er, hq, hr, hrf⟩ := sheetAt hG hs4
    have hsc := sht hC hs4
    rw [← eq, ← er] at hsc
    refine Go.istore_n (ls' := [some (.ref 0), some (.int (nI s)), some (.int (nI k)), some (.int 0), none, none, none]) dX6_menu_6 (Nat.le_of_ble_eq_true rfl) rfl rfl ?_
    refine Go.iload_n dX6_menu_7 rfl ?_
    refine Go.if_eq 17 dX6_menu_8 rfl (fun _ => ?_) (fun h8 => absurd (by decide) h8)
    refine Go.aload_n dX6_menu_17 rfl ?_
    refine Go.getR dX6_menu_18 flX6_49 (shp hG rfl) rfl ?_
    refine Go.iload_n dX6_menu_21 rfl ?_
    refine Go.aald dX6_menu_22 (shp hG rfl) (vin (by omega) (by decide)) (by rw [ncl (by omega)]; exact hrf) ?_
    refine Go.astore (ls' := [some (.ref 0), some (.int (nI s)), some (.int (nI k)), some (.int 0), some (.ref q), none, none]) dX6_menu_23 (Nat.le_of_ble_eq_true rfl) rfl rfl ?_
    refine Go.aload_n dX6_menu_25 rfl ?_
    refine Go.getR dX6_menu_26 flX6_29 (shp hG rfl) rfl ?_
    refine Go.aload_n dX6_menu_29 rfl ?_
    refine Go.getR dX6_menu_30 flX6_12 (shp hG rfl) rfl ?_
    refine Go.callVV [] dX6_menu_33 lkX6_114 imX2_begin seX2_begin cbX2_begin (k_begin hG hC hg) (shp hG rfl) rfl rfl rfl (Nat.le_of_ble_eq_true rfl) (fun M10 hr9 => ?_)
    obtain ⟨hCk, hmk, hkck, hKk⟩ := hr9
    refine Go.iconst (v := 0) dX6_menu_36 (by decide) ?_
    refine Go.istore (ls' := [some (.ref 0), some (.int (nI s)), some (.int (nI k)), some (.int 0), some (.ref q), some (.int 0), none]) dX6_menu_37 (Nat.le_of_ble_eq_true rfl) rfl rfl ?_
    exact l_menuC hG hk hs4 eq er hq hr h40 (gSl g s) 0 _ _ _ _ _ (by omega) (by rw [rowS_self]; exact hCk) hmk hKk rfl
theorem Had.l {M N : Mm} (h : Had M N) (L : Nat → Nat → Int64) : Had (M.1, L) (N.1, L) := ⟨h.1, h.2.1, ⟨h.2.2.1.1, rfl⟩, h.2.2.2⟩
theorem MS.l {n : Nat} {M N : Mm} (h : MS n M N) (L : Nat → Nat → Int64) : MS n (M.1, L) (N.1, L) := ⟨⟨h.1.1, rfl⟩, h.2.1, h.2.2.1, h.2.2.2⟩
set_option maxRecDepth 20000 in
theorem j_menu {G : Gt} {d : Nat} {M0 H N : Mm} (hG : gS G = SHAPE) {g : Sg} {s i : Nat} {k : Int32} {V : Nat → Int64} {x3 x5 : Int32} (hC0 : ModIs (M0.1, N.2) (rowS g s V)) (hH : Had M0 H) (hMs : MS (uN (gU g)) (H.1, N.2) N) : Go G (d + 1) mX7_menu 85 [some (.ref 49), some (.int (nI s)), some (.int k), some (.int x3), some (.int (nI i)), some (.int x5)] [] N (fun v M' => ∃ r, v = some (.int r) ∧ r = nI i ∧ ModIs M' (rowS g s V) ∧ CSame (M0.1, N.2) M') := by
  refine Go.aload_n dX7_menu_85 rfl ?_
  refine Go.callVV [] dX7_menu_86 lkX7_200 imX7_back seX7_back cbX7_back (m_back hG) (shp hG rfl) rfl rfl rfl (Nat.le_of_ble_eq_true rfl) (fun M2 hr1 => ?_)
  refine Go.iload dX7_menu_89 rfl ?_
  refine Go.iret dX7_menu_91 rfl rfl ?_
  have hq := hC0.qm (tried (hH.l _) hMs hr1)
  exact ⟨_, rfl, rfl, hq⟩
set_option maxRecDepth 20000 in
theorem l_menuM {G : Gt} {d : Nat} {M0 H : Mm} (hG : gS G = SHAPE) {g : Sg} (hg : SgOk g) (hH : Had M0 H) {k : Nat} (hk : k < 6) {s : Nat} (hs4 : s < 4) (h40 : gSl g s ≤ 40) {T : Nat × (Nat → Int64)} : ∀ (n i : Nat) (N : Mm) (f : Nat → Int32) (c : Nat → Nat) (V : Nat → Int64) (last : Nat), i + n = (gSl g s) → last < 5120 → ModIs (M0.1, N.2) (rowS g s V) → CSame M0 (M0.1, N.2) → MS (uN (gU g)) (H.1, N.2) N → SS N (uN (gU g) + i) f c (lk (gU g)) (uE (gU g)) → T = mnN (lk (gU g)) (uE (gU g)) k (gSb g s) n i f c V → Go G (d + 5) mX7_menu 27 [some (.ref 49), some (.int (nI s)), some (.int (nI k)), some (.int 0), some (.int (nI i)), some (.int (nI last))] [] N (fun v M' => ∃ r, v = some (.int r) ∧ r = nI T.1 ∧ ModIs M' (rowS g s T.2) ∧ CSame M0 M') := by
  intro n
  induction n with
  | zero =>
    intro i N f c V last hin hla hC0 hcs hMs hS hT
    have hn30 := hg.1.1
    have hN67 : N.1 67 = M0.1 67 := by rw [hMs.1.1 67 (by decide)]; exact hH.2.2.1.1 67 (by decide)
    refine Go.iload dX7_menu_27 rfl ?_
    refine Go.aload_n dX7_menu_29 rfl ?_
    refine Go.getR dX7_menu_30 flX7_62 (shp hG rfl) rfl ?_
    refine Go.iload_n dX7_menu_33 rfl ?_
    refine Go.iald dX7_menu_34 (shp hG rfl) (vin (by omega) (by decide)) ?_
    refine Go.eqI (y := nI (gSl g s)) (by rw [ncl (by omega), hN67]; exact (shm hC0 hs4).2.1) ?_
    refine Go.icmp_ge 85 dX7_menu_35 rfl (fun _ => ?_) (fun h35 => absurd (nI_le (a := gSl g s) (b := i) (by omega) (by omega)) h35)
    have e9 : T = (i, V) := hT
    refine (j_menu hG hC0 hH hMs).mono (fun v M9 ⟨r9, a9, b9, c9, d9⟩ => ⟨r9, a9, ?_, ?_, hcs.trans d9⟩)
    · rw [e9]; exact b9
    · rw [e9]; exact c9
  | succ n ih =>
    intro i N f c V last hin hla hC0 hcs hMs hS hT
    have hi : i < (gSl g s) := by omega
    have hn30 := hg.1.1
    have hN67 : N.1 67 = M0.1 67 := by rw [hMs.1.1 67 (by decide)]; exact hH.2.2.1.1 67 (by decide)
    have hN66 : N.1 66 = M0.1 66 := by rw [hMs.1.1 66 (by decide)]; exact hH.2.2.1.1 66 (by decide)
    refine Go.iload dX7_menu_27 rfl ?_
    refine Go.aload_n dX7_menu_29 rfl ?_
    refine Go.getR dX7_menu_30 flX7_62 (shp hG rfl) rfl ?_
    refine Go.iload_n dX7_menu_33 rfl ?_
    refine Go.iald dX7_menu_34 (shp hG rfl) (vin (by omega) (by decide)) ?_
    refine Go.eqI (y := nI (gSl g s)) (by rw [ncl (by omega), hN67]; exact (shm hC0 hs4).2.1) ?_
    refine Go.icmp_ge 85 dX7_menu_35 rfl (fun h35 => absurd h35 (nI_ge (a := i) (b := gSl g s) (by omega) (by omega))) (fun _ => ?_)
    refine Go.iload dX7_menu_38 rfl ?_
    refine Go.if_lt 85 dX7_menu_40 rfl (fun h40 => absurd h40 (nI_pos (by omega))) (fun _ => ?_)
    refine Go.aload_n dX7_menu_43 rfl ?_
    refine Go.iload_n dX7_menu_44 rfl ?_
    refine Go.callVI [] dX7_menu_45 lkX7_197 imX7_goesOn seX7_goesOn cbX7_goesOn (g_goesOn hG hS hk (by omega)) (shp hG rfl) rfl rfl rfl (Nat.le_of_ble_eq_true rfl) (fun r1 M2 hr1 => ?_)
    rcases hr1 with ⟨ex9, hb, eM9⟩ | ⟨x, ex9, hx5, hxo, hb, hS2, hs2⟩
    · rw [ex9, eM9]
      refine Go.istore (ls' := [some (.ref 49), some (.int (nI s)), some (.int (nI k)), some (.int 0), some (.int (nI i)), some (.int ((-1)))]) dX7_menu_48 (Nat.le_of_ble_eq_true rfl) rfl rfl ?_
      refine Go.iload dX7_menu_50 rfl ?_
      refine Go.if_lt 27 dX7_menu_52 rfl (fun _ => ?_) (fun h52 => absurd (by decide) h52)
      have e9 : T = (i, V) := by rw [hT, mnN, hb]
      refine Go.iload dX7_menu_27 rfl ?_
      refine Go.aload_n dX7_menu_29 rfl ?_
      refine Go.getR dX7_menu_30 flX7_62 (shp hG rfl) rfl ?_
      refine Go.iload_n dX7_menu_33 rfl ?_
      refine Go.iald dX7_menu_34 (shp hG rfl) (vin (by omega) (by decide)) ?_
      refine Go.eqI (y := nI (gSl g s)) (by rw [ncl (by omega), hN67]; exact (shm hC0 hs4).2.1) ?_
      refine Go.icmp_ge 85 dX7_menu_35 rfl (fun h35 => absurd h35 (nI_ge (a := i) (b := gSl g s) (by omega) (by omega))) (fun _ => ?_)
      refine Go.iload dX7_menu_38 rfl ?_
      refine Go.if_lt 85 dX7_menu_40 rfl (fun _ => ?_) (fun h40 => absurd (by decide) h40)
      refine (j_menu hG hC0 hH hMs).mono (fun v M9 ⟨r9, a9, b9, c9, d9⟩ => ⟨r9, a9, ?_, ?_, hcs.trans d9⟩)
      · rw [e9]; exact b9
      · rw [e9]; exact c9
    · rw [ex9]
      refine Go.istore (ls' := [some (.ref 49), some (.int (nI s)), some (.int (nI k)), some (.int 0), some (.int (nI i)), some (.int (nI x))]) dX7_menu_48 (Nat.le_of_ble_eq_true rfl) rfl rfl ?_
      refine Go.iload dX7_menu_50 rfl ?_
      refine Go.if_lt 27 dX7_menu_52 rfl (fun h52 => absurd h52 (nI_pos (by omega))) (fun _ => ?_)
      refine Go.aload_n dX7_menu_55 rfl ?_
      refine Go.getR dX7_menu_56 flX7_65 (shp hG rfl) rfl ?_
      refine Go.bipush (v := 40) dX7_menu_59 (by decide) ?_
      refine Go.iload_n dX7_menu_61 rfl ?_
      refine Go.imul dX7_menu_62 ?_
      refine Go.eqI (y := nI (40 * s)) (pk_mul _ _) ?_
      refine Go.iload dX7_menu_63 rfl ?_
      refine Go.iadd dX7_menu_65 ?_
      refine Go.eqI (y := nI (40 * s + i)) (nI_add _ _) ?_
      refine Go.aload_n dX7_menu_66 rfl ?_
      refine Go.getR dX7_menu_67 flX7_59 (shp hG rfl) rfl ?_
      refine Go.iload_n dX7_menu_70 rfl ?_
      refine Go.iald dX7_menu_71 (shp hG rfl) (vin (by omega) (by decide)) ?_
      refine Go.eqI (y := gSb g s) (by rw [ncl (by omega), hs2.1.1 66 (by decide), hN66]; exact (shm hC0 hs4).1) ?_
      refine Go.iload dX7_menu_72 rfl ?_
      refine Go.i2l dX7_menu_74 ?_
      refine Go.callSL [.int (nI (40 * s + i)), .ref 68] dX7_menu_75 lkX7_345 stX7_narrow cbX7_narrow (m_narrow (gSb g s) (Int32.toInt64 (nI x))) rfl rfl (Nat.le_of_ble_eq_true rfl) (fun r3 M4 hr3 => ?_)
      obtain ⟨er3, emr3⟩ := hr3
      rw [emr3]
      clear emr3 M4
      subst er3
      refine Go.last dX7_menu_78 (shp hG rfl) (vin (by omega) (by decide)) ?_
      refine Go.nmM (fun N5 eN5 => ?_)
      refine Go.iinc (v := nI (i + 1)) (ls' := [some (.ref 49), some (.int (nI s)), some (.int (nI k)), some (.int 0), some (.int (nI (i + 1))), some (.int (nI x))]) dX7_menu_79 rfl (nI_1 _) rfl rfl ?_
      refine Go.goto 27 dX7_menu_82 rfl ?_
      have eN : N5 = upl M2 68 (40 * s + i) (cutL (gSb g s) (Int32.toInt64 (nI x))) := by rw [eN5, ncl (by omega)]
      have hl2 : M2.2 = N.2 := hs2.1.2
      have hmr := mod_row (M' := (M0.1, N5.2)) (x := cutL (gSb g s) (Int32.toInt64 (nI x))) hs4 (show i < 40 by omega) hC0 rfl (show N5.2 = _ by rw [eN]; simp only [upl, setl, hl2])
      have hMs2 : MS (uN (gU g)) (H.1, N5.2) N5 := by
        have z := (hMs.trans (hs2.mono (show uN (gU g) ≤ uN (gU g) + i by omega))).l N5.2
        have e1 : N5 = (M2.1, N5.2) := by rw [eN]; rfl
        rw [← e1] at z
        exact z
      exact ih (i + 1) N5 _ _ _ x (by omega) hx5 hmr.1 (hcs.trans hmr.2) hMs2 (by rw [show uN (gU g) + (i + 1) = uN (gU g) + i + 1 by omega, eN]; exact hS2) (by rw [hT, mnN, hb])
set_option maxRecDepth 20000 in
theorem m_menu {G : Gt} {d : Nat} {M : Mm} (hG : gS G = SHAPE) {g : Sg} (hC : ModIs M g) (hg : SgOk g) (s0 k0 : Int32) : ExI G (d + 5) mX7_menu [.ref 49, .int s0, .int k0] M (fun r M' => r = (A_menu g s0 k0).1 ∧ ModIs M' (A_menu g s0 k0).2 ∧ CSame M M') := by
  refine Ex.of (by decide) (Nat.le_of_ble_eq_true rfl) ?_
  show Go G (d + 5) mX7_menu 0 [some (.ref 49), some (.int s0), some (.int k0), none, none, none] [] M _
  refine Go.aload_n dX7_menu_0 rfl ?_
  refine Go.iload_n dX7_menu_1 rfl ?_
  refine Go.iload_n dX7_menu_2 rfl ?_
  refine Go.callVI [] dX7_menu_3 lkX7_354 imX7_noMenu seX7_noMenu cbX7_noMenu (m_noMenu hG hC s0 k0) (shp hG rfl) rfl rfl rfl (Nat.le_of_ble_eq_true rfl) (fun r1 M2 hr1 => ?_)
  obtain ⟨er1, emr1⟩ := hr1
  rw [emr1]
  clear emr1 M2
  subst er1
  obtain ⟨hin, hb0⟩ | ⟨hin, hb0, hik⟩ | hin | ⟨hin, hb0, hik⟩ : (inb s0 4 = true ∧ gSb g (tN s0) = 0) ∨ (inb s0 4 = true ∧ ¬ gSb g (tN s0) = 0 ∧ ¬ inb k0 6 = true) ∨ ¬ inb s0 4 = true ∨ (inb s0 4 = true ∧ ¬ gSb g (tN s0) = 0 ∧ inb k0 6 = true) := by
    by_cases q1 : inb s0 4 = true
    · by_cases q2 : gSb g (tN s0) = 0
      · exact Or.inl ⟨q1, q2⟩
      · by_cases q3 : inb k0 6 = true
        · exact Or.inr (Or.inr (Or.inr ⟨q1, q2, q3⟩))
        · exact Or.inr (Or.inl ⟨q1, q2, q3⟩)
    · exact Or.inr (Or.inr (Or.inl q1))
  · rw [show fltM g s0 k0 = -1000000006 from by unfold fltM; rw [if_pos hin, if_pos hb0], show A_menu g s0 k0 = (-1000000006, fndS g 5) from by unfold A_menu; rw [if_pos hin, if_pos hb0]]
    refine Go.istore_n (ls' := [some (.ref 49), some (.int s0), some (.int k0), some (.int ((-1000000006))), none, none]) dX7_menu_6 (Nat.le_of_ble_eq_true rfl) rfl rfl ?_
    refine Go.iload_n dX7_menu_7 rfl ?_
    refine Go.if_eq 17 dX7_menu_8 rfl (fun h8 => absurd h8 (by decide)) (fun _ => ?_)
    refine Go.aload_n dX7_menu_11 rfl ?_
    refine Go.iload_n dX7_menu_12 rfl ?_
    refine Go.callVI [] dX7_menu_13 lkX7_104 imX7_finds seX7_finds cbX7_finds (m_finds hG (code := (-1000000006)) (q := 5) (by decide) (by decide)) (shp hG rfl) rfl rfl rfl (Nat.le_of_ble_eq_true rfl) (fun r3 M4 hr3 => ?_)
    refine Go.iret dX7_menu_16 rfl rfl ?_
    refine ⟨_, rfl, ?_⟩
    rw [hr3.2]
    exact ⟨hr3.1, hC.fnd⟩
  · rw [show fltM g s0 k0 = -1000000001 from by unfold fltM; rw [if_pos hin, if_neg hb0, if_neg hik], show A_menu g s0 k0 = (-1000000001, fndS g 0) from by unfold A_menu; rw [if_pos hin, if_neg hb0, if_neg hik]]
    refine Go.istore_n (ls' := [some (.ref 49), some (.int s0), some (.int k0), some (.int ((-1000000001))), none, none]) dX7_menu_6 (Nat.le_of_ble_eq_true rfl) rfl rfl ?_
    refine Go.iload_n dX7_menu_7 rfl ?_
    refine Go.if_eq 17 dX7_menu_8 rfl (fun h8 => absurd h8 (by decide)) (fun _ => ?_)
    refine Go.aload_n dX7_menu_11 rfl ?_
    refine Go.iload_n dX7_menu_12 rfl ?_
    refine Go.callVI [] dX7_menu_13 lkX7_104 imX7_finds seX7_finds cbX7_finds (m_finds hG (code := (-1000000001)) (q := 0) (by decide) (by decide)) (shp hG rfl) rfl rfl rfl (Nat.le_of_ble_eq_true rfl) (fun r5 M6 hr5 => ?_)
    refine Go.iret dX7_menu_16 rfl rfl ?_
    refine ⟨_, rfl, ?_⟩
    rw [hr5.2]
    exact ⟨hr5.1, hC.fnd⟩
  · rw [show fltM g s0 k0 = -1000000001 from if_neg hin, show A_menu g s0 k0 = (-1000000001, fndS g 0) from if_neg hin]
    refine Go.istore_n (ls' := [some (.ref 49), some (.int s0), some (.int k0), some (.int ((-1000000001))), none, none]) dX7_menu_6 (Nat.le_of_ble_eq_true rfl) rfl rfl ?_
    refine Go.iload_n dX7_menu_7 rfl ?_
    refine Go.if_eq 17 dX7_menu_8 rfl (fun h8 => absurd h8 (by decide)) (fun _ => ?_)
    refine Go.aload_n dX7_menu_11 rfl ?_
    refine Go.iload_n dX7_menu_12 rfl ?_
    refine Go.callVI [] dX7_menu_13 lkX7_104 imX7_finds seX7_finds cbX7_finds (m_finds hG (code := (-1000000001)) (q := 0) (by decide) (by decide)) (shp hG rfl) rfl rfl rfl (Nat.le_of_ble_eq_true rfl) (fun r7 M8 hr7 => ?_)
    refine Go.iret dX7_menu_16 rfl rfl ?_
    refine ⟨_, rfl, ?_⟩
    rw [hr7.2]
    exact ⟨hr7.1, hC.fnd⟩
  · rw [show fltM g s0 k0 = 0 from by unfold fltM; rw [if_pos hin, if_neg hb0, if_pos hik]]
    unfold A_menu
    rw [if_pos hin, if_neg hb0, if_pos hik]
    obtain ⟨s, hs4, es⟩ := inb_ex (n := 4) hin (by decide)
    subst es
    obtain ⟨k, hk, ek⟩ := inb_ex (n := 6) hik (by decide)
    subst ek
    rw [tN_nI (x := s) (by omega), tN_nI (x := k) (by omega)]
    have h40 := (hg.2.2.2.2 s hs4).2
    refine Go.istore_n (ls' := [some (.ref 49), some (.int (nI s)), some (.int (nI k)), some (.int 0), none, none]) dX7_menu_6 (Nat.le_of_ble_eq_true rfl) rfl rfl ?_
    refine Go.iload_n dX7_menu_7 rfl ?_
    refine Go.if_eq 17 dX7_menu_8 rfl (fun _ => ?_) (fun h8 => absurd (by decide) h8)
    refine Go.aload_n dX7_menu_17 rfl ?_
    refine Go.callVV [] dX7_menu_18 lkX7_194 imX7_begins0 seX7_begins0 cbX7_begins0 (g_begins hG hC hg) (shp hG rfl) rfl rfl rfl (Nat.le_of_ble_eq_true rfl) (fun M10 hr9 => ?_)
    obtain ⟨hHk, hSk⟩ := hr9
    refine Go.iconst (v := 0) dX7_menu_21 (by decide) ?_
    refine Go.istore (ls' := [some (.ref 49), some (.int (nI s)), some (.int (nI k)), some (.int 0), some (.int 0), none]) dX7_menu_22 (Nat.le_of_ble_eq_true rfl) rfl rfl ?_
    refine Go.iconst (v := 0) dX7_menu_24 (by decide) ?_
    refine Go.istore (ls' := [some (.ref 49), some (.int (nI s)), some (.int (nI k)), some (.int 0), some (.int 0), some (.int 0)]) dX7_menu_25 (Nat.le_of_ble_eq_true rfl) rfl rfl ?_
    have h2 : M10.2 = M.2 := hHk.2.2.1.2
    exact l_menuM hG hg hHk hk hs4 h40 (gSl g s) 0 _ _ _ _ 0 (by omega) (by decide) (by rw [rowS_self, h2]; exact hC) (by rw [h2]; exact CSame.refl M) (MS.refl _ _) hSk rfl
