theorem g_goesOn {G : Gt} {d : Nat} {M : Mm} (hG : gS G = SHAPE) {n : Nat} {f : Nat → Int32} {c : Nat → Nat} {g : Nat → Int32} {ed : Nat} (hS : SS M n f c g ed) {k : Nat} (hk : k < 6) (h90 : n < 90) : ExI G (d + 3) mX7_goesOn [.ref 49, .int (nI k)] M (fun r M' => (r = -1 ∧ bst (okG f c) g = none ∧ M' = M) ∨ ∃ x, r = nI x ∧ x < 5120 ∧ okD x = true ∧ bst (okG f c) g = some x ∧ SS M' (n + 1) (takeF f (x / 20) 8) (addC c k x ed) g ed ∧ MS n M M') := by
  obtain ⟨f', lt, lw, ls, h1, h2, h3⟩ := hS
  refine (m_goesOn hG h1 hk h90).mono (fun r M' hr => ?_)
  rcases hr with ⟨a, b, c'⟩ | ⟨x, a, b, c', d', e⟩
  · exact Or.inl ⟨a, by rw [← b]; exact (bst_congr8 h2 h3).symm, c'⟩
  · exact Or.inr ⟨x, a, b, (bst_spec c').1.1, by rw [← c']; exact (bst_congr8 h2 h3).symm, ⟨_, lt, lw, ls, d', takeF_congr h2 _, h3⟩, e⟩
theorem g_begins {G : Gt} {d : Nat} {M : Mm} (hG : gS G = SHAPE) {g : Sg} (hC : ModIs M g) (hg : SgOk g) : ExV G (d + 4) mX7_begins0 [.ref 49] M (fun M' => Had M M' ∧ SS M' (uN (gU g)) (uS (gU g)) (kc (gU g)) (lk (gU g)) (uE (gU g))) := by
  have hB := hC.1.bk hg.1
  refine (m_begins0 hG hB hC.2.2.2.2.2.2.2).mono (fun M' ⟨a, b⟩ => ⟨a, _, _, _, _, a.start hB hC.2.2.2.2.2.2.2 b, hC.1.1, ml_lk hC.1⟩)
/-- the last of so many meals tried out -/
noncomputable def onN (g : Nat → Int32) (ed k : Nat) : Nat → (Nat → Int32) → (Nat → Nat) → Nat → Option Nat
  | 0, _, _, last => some last
  | n + 1, f, c, _ => match bst (okG f c) g with
    | none => none
    | some x => onN g ed k n (takeF f (x / 20) 8) (addC c k x ed) x
noncomputable def A_on (g : Sg) (k n : Int32) : Int32 × Sg := if inb k 6 && inI n 1 30 then ornS g (onN (lk (gU g)) (uE (gU g)) (tN k) (tN n) (uS (gU g)) (kc (gU g)) 0) else (-1000000001, fndS g 0)
theorem in30 {n : Int32} (h : inI n 1 30 = true) : ∃ j, 1 ≤ j ∧ j ≤ 30 ∧ n = nI j := inI_nI (a := 1) (b := 30) (by decide) (by decide) h
theorem in30_no {n : Int32} (h1 : ¬ n < 1) (h2 : n ≤ 30) : inI n 1 30 = true := by simp [inI, i_nlt h1, h2]
set_option maxRecDepth 20000 in
theorem l_onC {G : Gt} {d : Nat} {M0 : Mm} (hG : gS G = SHAPE) {g : Sg} {k m : Nat} (hk : k < 6) (hm30 : m ≤ 30) {T : Option Nat} : ∀ (n i : Nat) (N : Mm) (f : Nat → Int32) (c : Nat → Nat) (last : Nat) (r3 : Int32), i + n = m → CompIs N g → MSame M0 N → KS N f c (lk (gU g)) (uE (gU g)) → T = onN (lk (gU g)) (uE (gU g)) k n f c last → (n = 0 → r3 = nI last) → Go G (d + 5) mX6_on 43 [some (.ref 0), some (.int (nI k)), some (.int (nI m)), some (.int r3), some (.int (nI i))] [] N (fun v M' => ∃ r, v = some (.int r) ∧ r = (ornS g T).1 ∧ CompIs M' (ornS g T).2 ∧ MSame M0 M') := by
  intro n
  induction n with
  | zero =>
    intro i N f c last r3 hin hC hmm hK hT hr3
    refine Go.iload dX6_on_43 rfl ?_
    refine Go.iload_n dX6_on_45 rfl ?_
    refine Go.icmp_ge 75 dX6_on_46 rfl (fun _ => ?_) (fun h46 => absurd (nI_le (a := m) (b := i) (by omega) (by omega)) h46)
    refine Go.iload_n dX6_on_75 rfl ?_
    refine Go.iret dX6_on_76 rfl rfl ?_
    exact ⟨_, rfl, by rw [hT, hr3 rfl]; rfl, by rw [hT]; exact hC, hmm⟩
  | succ n ih =>
    intro i N f c last r3 hin hC hmm hK hT hr3
    have hi : i < m := by omega
    refine Go.iload dX6_on_43 rfl ?_
    refine Go.iload_n dX6_on_45 rfl ?_
    refine Go.icmp_ge 75 dX6_on_46 rfl (fun h46 => absurd h46 (nI_ge (a := i) (b := m) (by omega) (by omega))) (fun _ => ?_)
    refine Go.aload_n dX6_on_49 rfl ?_
    refine Go.getR dX6_on_50 flX6_29 (shp hG rfl) rfl ?_
    refine Go.iload_n dX6_on_53 rfl ?_
    refine Go.callVI [] dX6_on_54 lkX6_201 imX2_cookFavourite seX2_cookFavourite cbX2_cookFavourite (k_cookFav hG hK hk) (shp hG rfl) rfl rfl rfl (Nat.le_of_ble_eq_true rfl) (fun r1 M2 hr1 => ?_)
    rcases hr1 with ⟨ex9, hb, eM9⟩ | ⟨x, ex9, hx5, hxo, hb, hK2, hs2⟩
    · rw [ex9, eM9]
      refine Go.istore_n (ls' := [some (.ref 0), some (.int (nI k)), some (.int (nI m)), some (.int ((-1))), some (.int (nI i))]) dX6_on_57 (Nat.le_of_ble_eq_true rfl) rfl rfl ?_
      refine Go.iload_n dX6_on_58 rfl ?_
      refine Go.if_ge 69 dX6_on_59 rfl (fun h59 => absurd h59 (by decide)) (fun _ => ?_)
      refine Go.aload_n dX6_on_62 rfl ?_
      refine Go.ldc dX6_on_63 kcX6_171 ?_
      refine Go.callVI [] dX6_on_65 lkX6_63 imX6_finding seX6_finding cbX6_finding (s_finding hG (code := (-1000000004)) (q := 3) (by decide) (by decide)) (shp hG rfl) rfl rfl rfl (Nat.le_of_ble_eq_true rfl) (fun r3 M4 hr3 => ?_)
      refine Go.iret dX6_on_68 rfl rfl ?_
      have e9 : T = none := by rw [hT, onN, hb]
      refine ⟨_, rfl, ?_⟩
      rw [e9, hr3.2]
      exact ⟨hr3.1, hC.fnd.1, hmm.trans hC.fnd.2⟩
    · rw [ex9]
      have hk2 := hC.kc (hs2.mono (by decide))
      refine Go.istore_n (ls' := [some (.ref 0), some (.int (nI k)), some (.int (nI m)), some (.int (nI x)), some (.int (nI i))]) dX6_on_57 (Nat.le_of_ble_eq_true rfl) rfl rfl ?_
      refine Go.iload_n dX6_on_58 rfl ?_
      refine Go.if_ge 69 dX6_on_59 rfl (fun _ => ?_) (fun h59 => absurd (nI_pos' (by omega)) h59)
      refine Go.iinc (v := nI (i + 1)) (ls' := [some (.ref 0), some (.int (nI k)), some (.int (nI m)), some (.int (nI x)), some (.int (nI (i + 1)))]) dX6_on_69 rfl (nI_1 _) rfl rfl ?_
      refine Go.goto 43 dX6_on_72 rfl ?_
      exact ih (i + 1) M2 _ _ x _ (by omega) hk2.1 (hmm.trans hk2.2) hK2 (by rw [hT, onN, hb]) (fun _ => rfl)
set_option maxRecDepth 20000 in
theorem c_on {G : Gt} {d : Nat} {M : Mm} (hG : gS G = SHAPE) {g : Sg} (hC : CompIs M g) (hg : SgOk g) (k0 n0 : Int32) : ExI G (d + 5) mX6_on [.ref 0, .int k0, .int n0] M (fun r M' => r = (A_on g k0 n0).1 ∧ CompIs M' (A_on g k0 n0).2 ∧ MSame M M') := by
  refine Ex.of (by decide) (Nat.le_of_ble_eq_true rfl) ?_
  show Go G (d + 5) mX6_on 0 [some (.ref 0), some (.int k0), some (.int n0), none, none] [] M _
  by_cases hgd : (inb k0 6 && inI n0 1 30) = true
  · rw [Bool.and_eq_true] at hgd
    obtain ⟨k, hk, ek⟩ := inb_ex (n := 6) hgd.1 (by decide)
    obtain ⟨m, hm1, hm30, em⟩ := in30 hgd.2
    subst ek
    subst em
    have hA0 : A_on g (nI k) (nI m) = ornS g (onN (lk (gU g)) (uE (gU g)) k m (uS (gU g)) (kc (gU g)) 0) := by
      rw [show A_on g (nI k) (nI m) = ornS g (onN (lk (gU g)) (uE (gU g)) (tN (nI k)) (tN (nI m)) (uS (gU g)) (kc (gU g)) 0) from if_pos (by rw [hgd.1, hgd.2]; rfl), tN_nI (by omega), tN_nI (by omega)]
    rw [hA0]
    clear hA0
    refine Go.iload_n dX6_on_0 rfl ?_
    refine Go.bipush (v := 6) dX6_on_1 (by decide) ?_
    refine Go.callSI [] dX6_on_3 lkX6_58 stX6_isBelow cbX6_isBelow (s_isBelow (nI k) 6) rfl rfl (Nat.le_of_ble_eq_true rfl) (fun r1 M2 hr1 => ?_)
    obtain ⟨er1, emr1⟩ := hr1
    rw [emr1]
    clear emr1 M2
    subst er1
    refine Go.eqI (y := 1) (by rw [show inb (nI k) 6 = decide (k < 6) from inb_nI (by omega) (by decide), decide_eq_true (by omega)]; rfl) ?_
    refine Go.if_eq 20 dX6_on_6 rfl (fun h6 => absurd h6 (by decide)) (fun _ => ?_)
    refine Go.iload_n dX6_on_9 rfl ?_
    refine Go.iconst (v := 1) dX6_on_10 (by decide) ?_
    refine Go.icmp_lt 20 dX6_on_11 rfl (fun h11 => absurd h11 (i_le_n ((nI_leI (a := 1) (b := m) (by decide) (by omega)).mpr hm1))) (fun _ => ?_)
    refine Go.iload_n dX6_on_14 rfl ?_
    refine Go.bipush (v := 30) dX6_on_15 (by decide) ?_
    refine Go.icmp_le 27 dX6_on_17 rfl (fun _ => ?_) (fun h17 => absurd ((nI_leI (a := m) (b := 30) (by omega) (by decide)).mpr hm30) h17)
    refine Go.aload_n dX6_on_27 rfl ?_
    refine Go.getR dX6_on_28 flX6_29 (shp hG rfl) rfl ?_
    refine Go.aload_n dX6_on_31 rfl ?_
    refine Go.getR dX6_on_32 flX6_12 (shp hG rfl) rfl ?_
    refine Go.callVV [] dX6_on_35 lkX6_114 imX2_begin seX2_begin cbX2_begin (k_begin hG hC hg) (shp hG rfl) rfl rfl rfl (Nat.le_of_ble_eq_true rfl) (fun M4 hr3 => ?_)
    obtain ⟨hCk, hmk, hkck, hKk⟩ := hr3
    refine Go.iconst (v := -1) dX6_on_38 (by decide) ?_
    refine Go.istore_n (ls' := [some (.ref 0), some (.int (nI k)), some (.int (nI m)), some (.int ((-1))), none]) dX6_on_39 (Nat.le_of_ble_eq_true rfl) rfl rfl ?_
    refine Go.iconst (v := 0) dX6_on_40 (by decide) ?_
    refine Go.istore (ls' := [some (.ref 0), some (.int (nI k)), some (.int (nI m)), some (.int ((-1))), some (.int 0)]) dX6_on_41 (Nat.le_of_ble_eq_true rfl) rfl rfl ?_
    exact l_onC hG hk hm30 m 0 _ _ _ 0 _ (by omega) hCk hmk hKk rfl (fun q => by omega)
  · refine Go.iload_n dX6_on_0 rfl ?_
    refine Go.bipush (v := 6) dX6_on_1 (by decide) ?_
    refine Go.callSI [] dX6_on_3 lkX6_58 stX6_isBelow cbX6_isBelow (s_isBelow k0 6) rfl rfl (Nat.le_of_ble_eq_true rfl) (fun r1 M2 hr1 => ?_)
    obtain ⟨er1, emr1⟩ := hr1
    rw [emr1]
    clear emr1 M2
    subst er1
    refine Go.if_eq 20 dX6_on_6 rfl (fun h6 => ?_) (fun h6 => ?_)
    · refine Go.aload_n dX6_on_20 rfl ?_
      refine Go.ldc dX6_on_21 kcX6_62 ?_
      refine Go.callVI [] dX6_on_23 lkX6_63 imX6_finding seX6_finding cbX6_finding (s_finding hG (code := (-1000000001)) (q := 0) (by decide) (by decide)) (shp hG rfl) rfl rfl rfl (Nat.le_of_ble_eq_true rfl) (fun r3 M4 hr3 => ?_)
      refine Go.iret dX6_on_26 rfl rfl ?_
      refine ⟨_, rfl, ?_⟩
      rw [show A_on g k0 n0 = ((-1000000001), fndS g 0) from if_neg hgd, hr3.2]
      exact ⟨hr3.1, hC.fnd⟩
    · refine Go.iload_n dX6_on_9 rfl ?_
      refine Go.iconst (v := 1) dX6_on_10 (by decide) ?_
      refine Go.icmp_lt 20 dX6_on_11 rfl (fun h11 => ?_) (fun h11 => ?_)
      · refine Go.aload_n dX6_on_20 rfl ?_
        refine Go.ldc dX6_on_21 kcX6_62 ?_
        refine Go.callVI [] dX6_on_23 lkX6_63 imX6_finding seX6_finding cbX6_finding (s_finding hG (code := (-1000000001)) (q := 0) (by decide) (by decide)) (shp hG rfl) rfl rfl rfl (Nat.le_of_ble_eq_true rfl) (fun r5 M6 hr5 => ?_)
        refine Go.iret dX6_on_26 rfl rfl ?_
        refine ⟨_, rfl, ?_⟩
        rw [show A_on g k0 n0 = ((-1000000001), fndS g 0) from if_neg hgd, hr5.2]
        exact ⟨hr5.1, hC.fnd⟩
      · refine Go.iload_n dX6_on_14 rfl ?_
        refine Go.bipush (v := 30) dX6_on_15 (by decide) ?_
        refine Go.icmp_le 27 dX6_on_17 rfl (fun h17 => ?_) (fun h17 => ?_)
        · exact absurd (by rw [bi_n0.mp h6, in30_no h11 h17]; rfl) hgd
        · refine Go.aload_n dX6_on_20 rfl ?_
          refine Go.ldc dX6_on_21 kcX6_62 ?_
          refine Go.callVI [] dX6_on_23 lkX6_63 imX6_finding seX6_finding cbX6_finding (s_finding hG (code := (-1000000001)) (q := 0) (by decide) (by decide)) (shp hG rfl) rfl rfl rfl (Nat.le_of_ble_eq_true rfl) (fun r7 M8 hr7 => ?_)
          refine Go.iret dX6_on_26 rfl rfl ?_
          refine ⟨_, rfl, ?_⟩
          rw [show A_on g k0 n0 = ((-1000000001), fndS g 0) from if_neg hgd, hr7.2]
          exact ⟨hr7.1, hC.fnd⟩
set_option maxRecDepth 20000 in
theorem j_on0 {G : Gt} {d : Nat} {M0 H N : Mm} (hG : gS G = SHAPE) {g : Sg} (hC0 : ModIs M0 g) (hH : Had M0 H) (hMs : MS (uN (gU g)) H N) {k m : Nat} {i : Int32} : Go G (d + 1) mX7_on 55 [some (.ref 49), some (.int (nI k)), some (.int (nI m)), some (.int ((-1))), some (.int i)] [] N (fun v M' => ∃ r, v = some (.int r) ∧ r = (ornS g none).1 ∧ ModIs M' (ornS g none).2 ∧ CSame M0 M') := by
  refine Go.aload_n dX7_on_55 rfl ?_
  refine Go.callVV [] dX7_on_56 lkX7_200 imX7_back seX7_back cbX7_back (m_back hG) (shp hG rfl) rfl rfl rfl (Nat.le_of_ble_eq_true rfl) (fun M2 hr1 => ?_)
  refine Go.iload_n dX7_on_59 rfl ?_
  refine Go.if_ge 72 dX7_on_60 rfl (fun h60 => absurd h60 (by decide)) (fun _ => ?_)
  refine Go.aload_n dX7_on_63 rfl ?_
  refine Go.ldc dX7_on_64 kcX7_127 ?_
  refine Go.callVI [] dX7_on_66 lkX7_104 imX7_finds seX7_finds cbX7_finds (m_finds hG (code := (-1000000004)) (q := 3) (by decide) (by decide)) (shp hG rfl) rfl rfl rfl (Nat.le_of_ble_eq_true rfl) (fun r3 M4 hr3 => ?_)
  refine Go.goto 73 dX7_on_69 rfl ?_
  refine Go.iret dX7_on_73 rfl rfl ?_
  have hq := hC0.qm (tried hH hMs hr1)
  refine ⟨_, rfl, ?_⟩
  rw [hr3.2]
  exact ⟨hr3.1, hq.1.fnd.1, hq.2.trans hq.1.fnd.2⟩
set_option maxRecDepth 20000 in
theorem j_on1 {G : Gt} {d : Nat} {M0 H N : Mm} (hG : gS G = SHAPE) {g : Sg} (hC0 : ModIs M0 g) (hH : Had M0 H) (hMs : MS (uN (gU g)) H N) {k m : Nat} {i : Int32} {x : Nat} (hx : x < 5120) : Go G (d + 1) mX7_on 55 [some (.ref 49), some (.int (nI k)), some (.int (nI m)), some (.int (nI x)), some (.int i)] [] N (fun v M' => ∃ r, v = some (.int r) ∧ r = (ornS g (some x)).1 ∧ ModIs M' (ornS g (some x)).2 ∧ CSame M0 M') := by
  refine Go.aload_n dX7_on_55 rfl ?_
  refine Go.callVV [] dX7_on_56 lkX7_200 imX7_back seX7_back cbX7_back (m_back hG) (shp hG rfl) rfl rfl rfl (Nat.le_of_ble_eq_true rfl) (fun M2 hr1 => ?_)
  refine Go.iload_n dX7_on_59 rfl ?_
  refine Go.if_ge 72 dX7_on_60 rfl (fun _ => ?_) (fun h60 => absurd (nI_pos' (by omega)) h60)
  refine Go.iload_n dX7_on_72 rfl ?_
  refine Go.iret dX7_on_73 rfl rfl ?_
  have hq := hC0.qm (tried hH hMs hr1)
  exact ⟨_, rfl, rfl, hq⟩
set_option maxRecDepth 20000 in
theorem l_onM {G : Gt} {d : Nat} {M0 H : Mm} (hG : gS G = SHAPE) {g : Sg} (hC0 : ModIs M0 g) (hg : SgOk g) (hH : Had M0 H) {k m : Nat} (hk : k < 6) (hm30 : m ≤ 30) {T : Option Nat} : ∀ (n i : Nat) (N : Mm) (f : Nat → Int32) (c : Nat → Nat) (last : Nat), i + n = m → last < 5120 → SS N (uN (gU g) + i) f c (lk (gU g)) (uE (gU g)) → MS (uN (gU g)) H N → T = onN (lk (gU g)) (uE (gU g)) k n f c last → Go G (d + 5) mX7_on 33 [some (.ref 49), some (.int (nI k)), some (.int (nI m)), some (.int (nI last)), some (.int (nI i))] [] N (fun v M' => ∃ r, v = some (.int r) ∧ r = (ornS g T).1 ∧ ModIs M' (ornS g T).2 ∧ CSame M0 M') := by
  intro n
  induction n with
  | zero =>
    intro i N f c last hin hla hS hMs hT
    have hn30 := hg.1.1
    refine Go.iload dX7_on_33 rfl ?_
    refine Go.iload_n dX7_on_35 rfl ?_
    refine Go.icmp_ge 55 dX7_on_36 rfl (fun _ => ?_) (fun h36 => absurd (nI_le (a := m) (b := i) (by omega) (by omega)) h36)
    rw [show T = some last from hT]
    exact j_on1 hG hC0 hH hMs hla
  | succ n ih =>
    intro i N f c last hin hla hS hMs hT
    have hi : i < m := by omega
    have hn30 := hg.1.1
    refine Go.iload dX7_on_33 rfl ?_
    refine Go.iload_n dX7_on_35 rfl ?_
    refine Go.icmp_ge 55 dX7_on_36 rfl (fun h36 => absurd h36 (nI_ge (a := i) (b := m) (by omega) (by omega))) (fun _ => ?_)
    refine Go.iload_n dX7_on_39 rfl ?_
    refine Go.if_lt 55 dX7_on_40 rfl (fun h40 => absurd h40 (nI_pos (by omega))) (fun _ => ?_)
    refine Go.aload_n dX7_on_43 rfl ?_
    refine Go.iload_n dX7_on_44 rfl ?_
    refine Go.callVI [] dX7_on_45 lkX7_197 imX7_goesOn seX7_goesOn cbX7_goesOn (g_goesOn hG hS hk (by omega)) (shp hG rfl) rfl rfl rfl (Nat.le_of_ble_eq_true rfl) (fun r1 M2 hr1 => ?_)
    rcases hr1 with ⟨ex9, hb, eM9⟩ | ⟨x, ex9, hx5, hxo, hb, hS2, hs2⟩
    · rw [ex9, eM9]
      refine Go.istore_n (ls' := [some (.ref 49), some (.int (nI k)), some (.int (nI m)), some (.int ((-1))), some (.int (nI i))]) dX7_on_48 (Nat.le_of_ble_eq_true rfl) rfl rfl ?_
      refine Go.iinc (v := nI (i + 1)) (ls' := [some (.ref 49), some (.int (nI k)), some (.int (nI m)), some (.int ((-1))), some (.int (nI (i + 1)))]) dX7_on_49 rfl (nI_1 _) rfl rfl ?_
      refine Go.goto 33 dX7_on_52 rfl ?_
      have e9 : T = none := by rw [hT, onN, hb]
      rw [e9]
      refine Go.iload dX7_on_33 rfl ?_
      refine Go.iload_n dX7_on_35 rfl ?_
      refine Go.icmp_ge 55 dX7_on_36 rfl (fun h36 => ?_) (fun h36 => ?_)
      · exact j_on0 hG hC0 hH hMs
      · refine Go.iload_n dX7_on_39 rfl ?_
        refine Go.if_lt 55 dX7_on_40 rfl (fun _ => ?_) (fun h40 => absurd (by decide) h40)
        exact j_on0 hG hC0 hH hMs
    · rw [ex9]
      refine Go.istore_n (ls' := [some (.ref 49), some (.int (nI k)), some (.int (nI m)), some (.int (nI x)), some (.int (nI i))]) dX7_on_48 (Nat.le_of_ble_eq_true rfl) rfl rfl ?_
      refine Go.iinc (v := nI (i + 1)) (ls' := [some (.ref 49), some (.int (nI k)), some (.int (nI m)), some (.int (nI x)), some (.int (nI (i + 1)))]) dX7_on_49 rfl (nI_1 _) rfl rfl ?_
      refine Go.goto 33 dX7_on_52 rfl ?_
      exact ih (i + 1) M2 _ _ x (by omega) hx5 (by rw [show uN (gU g) + (i + 1) = uN (gU g) + i + 1 by omega]; exact hS2) (hMs.trans (hs2.mono (by omega))) (by rw [hT, onN, hb])
set_option maxRecDepth 20000 in
theorem m_on {G : Gt} {d : Nat} {M : Mm} (hG : gS G = SHAPE) {g : Sg} (hC : ModIs M g) (hg : SgOk g) (k0 n0 : Int32) : ExI G (d + 5) mX7_on [.ref 49, .int k0, .int n0] M (fun r M' => r = (A_on g k0 n0).1 ∧ ModIs M' (A_on g k0 n0).2 ∧ CSame M M') := by
  refine Ex.of (by decide) (Nat.le_of_ble_eq_true rfl) ?_
  show Go G (d + 5) mX7_on 0 [some (.ref 49), some (.int k0), some (.int n0), none, none] [] M _
  by_cases hgd : (inb k0 6 && inI n0 1 30) = true
  · rw [Bool.and_eq_true] at hgd
    obtain ⟨k, hk, ek⟩ := inb_ex (n := 6) hgd.1 (by decide)
    obtain ⟨m, hm1, hm30, em⟩ := in30 hgd.2
    subst ek
    subst em
    have hA0 : A_on g (nI k) (nI m) = ornS g (onN (lk (gU g)) (uE (gU g)) k m (uS (gU g)) (kc (gU g)) 0) := by
      rw [show A_on g (nI k) (nI m) = ornS g (onN (lk (gU g)) (uE (gU g)) (tN (nI k)) (tN (nI m)) (uS (gU g)) (kc (gU g)) 0) from if_pos (by rw [hgd.1, hgd.2]; rfl), tN_nI (by omega), tN_nI (by omega)]
    rw [hA0]
    clear hA0
    refine Go.iload_n dX7_on_0 rfl ?_
    refine Go.callSI [] dX7_on_1 lkX7_159 stX7_isKind cbX7_isKind (m_isKind (nI k)) rfl rfl (Nat.le_of_ble_eq_true rfl) (fun r1 M2 hr1 => ?_)
    obtain ⟨er1, emr1⟩ := hr1
    rw [emr1]
    clear emr1 M2
    subst er1
    refine Go.eqI (y := 1) (by rw [inI_kind, hgd.1]; rfl) ?_
    refine Go.if_eq 17 dX7_on_4 rfl (fun h4 => absurd h4 (by decide)) (fun _ => ?_)
    refine Go.iload_n dX7_on_7 rfl ?_
    refine Go.iconst (v := 1) dX7_on_8 (by decide) ?_
    refine Go.bipush (v := 30) dX7_on_9 (by decide) ?_
    refine Go.callSI [] dX7_on_11 lkX7_86 stX7_in cbX7_in (m_in (nI m) 1 30) rfl rfl (Nat.le_of_ble_eq_true rfl) (fun r3 M4 hr3 => ?_)
    obtain ⟨er3, emr3⟩ := hr3
    rw [emr3]
    clear emr3 M4
    subst er3
    refine Go.eqI (y := 1) (by rw [hgd.2]; rfl) ?_
    refine Go.if_ne 24 dX7_on_14 rfl (fun _ => ?_) (fun h14 => absurd h14 (by decide))
    refine Go.aload_n dX7_on_24 rfl ?_
    refine Go.callVV [] dX7_on_25 lkX7_194 imX7_begins0 seX7_begins0 cbX7_begins0 (g_begins hG hC hg) (shp hG rfl) rfl rfl rfl (Nat.le_of_ble_eq_true rfl) (fun M6 hr5 => ?_)
    obtain ⟨hHk, hSk⟩ := hr5
    refine Go.iconst (v := 0) dX7_on_28 (by decide) ?_
    refine Go.istore_n (ls' := [some (.ref 49), some (.int (nI k)), some (.int (nI m)), some (.int 0), none]) dX7_on_29 (Nat.le_of_ble_eq_true rfl) rfl rfl ?_
    refine Go.iconst (v := 0) dX7_on_30 (by decide) ?_
    refine Go.istore (ls' := [some (.ref 49), some (.int (nI k)), some (.int (nI m)), some (.int 0), some (.int 0)]) dX7_on_31 (Nat.le_of_ble_eq_true rfl) rfl rfl ?_
    exact l_onM hG hC hg hHk hk hm30 m 0 _ _ _ 0 (by omega) (by decide) hSk (MS.refl _ _) rfl
  · refine Go.iload_n dX7_on_0 rfl ?_
    refine Go.callSI [] dX7_on_1 lkX7_159 stX7_isKind cbX7_isKind (m_isKind k0) rfl rfl (Nat.le_of_ble_eq_true rfl) (fun r1 M2 hr1 => ?_)
    obtain ⟨er1, emr1⟩ := hr1
    rw [emr1]
    clear emr1 M2
    subst er1
    refine Go.if_eq 17 dX7_on_4 rfl (fun h4 => ?_) (fun h4 => ?_)
    · refine Go.aload_n dX7_on_17 rfl ?_
      refine Go.ldc dX7_on_18 kcX7_85 ?_
      refine Go.callVI [] dX7_on_20 lkX7_104 imX7_finds seX7_finds cbX7_finds (m_finds hG (code := (-1000000001)) (q := 0) (by decide) (by decide)) (shp hG rfl) rfl rfl rfl (Nat.le_of_ble_eq_true rfl) (fun r3 M4 hr3 => ?_)
      refine Go.iret dX7_on_23 rfl rfl ?_
      refine ⟨_, rfl, ?_⟩
      rw [show A_on g k0 n0 = ((-1000000001), fndS g 0) from if_neg hgd, hr3.2]
      exact ⟨hr3.1, hC.fnd⟩
    · refine Go.iload_n dX7_on_7 rfl ?_
      refine Go.iconst (v := 1) dX7_on_8 (by decide) ?_
      refine Go.bipush (v := 30) dX7_on_9 (by decide) ?_
      refine Go.callSI [] dX7_on_11 lkX7_86 stX7_in cbX7_in (m_in n0 1 30) rfl rfl (Nat.le_of_ble_eq_true rfl) (fun r5 M6 hr5 => ?_)
      obtain ⟨er5, emr5⟩ := hr5
      rw [emr5]
      clear emr5 M6
      subst er5
      refine Go.if_ne 24 dX7_on_14 rfl (fun h14 => ?_) (fun h14 => ?_)
      · exact absurd (by rw [← inI_kind, bi_n0.mp h4, bi_n0.mp h14]; rfl) hgd
      · refine Go.aload_n dX7_on_17 rfl ?_
        refine Go.ldc dX7_on_18 kcX7_85 ?_
        refine Go.callVI [] dX7_on_20 lkX7_104 imX7_finds seX7_finds cbX7_finds (m_finds hG (code := (-1000000001)) (q := 0) (by decide) (by decide)) (shp hG rfl) rfl rfl rfl (Nat.le_of_ble_eq_true rfl) (fun r7 M8 hr7 => ?_)
        refine Go.iret dX7_on_23 rfl rfl ?_
        refine ⟨_, rfl, ?_⟩
        rw [show A_on g k0 n0 = ((-1000000001), fndS g 0) from if_neg hgd, hr7.2]
        exact ⟨hr7.1, hC.fnd⟩
