set_option maxRecDepth 20000 in
theorem m_by {G : Gt} {d : Nat} {M : Mm} (hG : gS G = SHAPE) {g : Sg} (hC : ModIs M g) (hg : SgOk g) (x0 : Int32) : ExI G (d + 3) mX7_by [.ref 49, .int x0] M (fun r M' => r = (A_by g x0).1 ∧ ModIs M' (A_by g x0).2 ∧ CSame M M') := by
  refine Ex.of (by decide) (Nat.le_of_ble_eq_true rfl) ?_
  have hB := hC.1.bk hg.1
  have hn30 := hg.1.1
  show Go G (d + 3) mX7_by 0 [some (.ref 49), some (.int x0), none] [] M _
  by_cases hgd : (isDishI x0) = true
  · obtain ⟨x, hx, ex, hxo⟩ := isDishI_ok hgd
    subst ex
    refine Go.aload_n dX7_by_0 rfl ?_
    refine Go.iload_n dX7_by_1 rfl ?_
    refine Go.callVI [] dX7_by_2 lkX7_131 imX7_isDish seX7_isDish cbX7_isDish (m_isDish hG hC.2.2.2.2.2.2.2 (nI x)) (shp hG rfl) rfl rfl rfl (Nat.le_of_ble_eq_true rfl) (fun r1 M2 hr1 => ?_)
    obtain ⟨er1, emr1⟩ := hr1
    rw [emr1]
    clear emr1 M2
    subst er1
    refine Go.eqI (y := 1) (by rw [isDishI_nI (by omega), hxo]; rfl) ?_
    refine Go.if_ne 15 dX7_by_5 rfl (fun _ => ?_) (fun h5 => absurd h5 (by decide))
    refine Go.aload_n dX7_by_15 rfl ?_
    refine Go.iload_n dX7_by_16 rfl ?_
    refine Go.callVI [] dX7_by_17 lkX7_128 imX7_firstBy seX7_firstBy cbX7_firstBy (m_firstBy hG hB (x := x) hxo) (shp hG rfl) rfl rfl rfl (Nat.le_of_ble_eq_true rfl) (fun r3 M4 hr3 => ?_)
    obtain ⟨er3, emr3⟩ := hr3
    rw [emr3]
    clear emr3 M4
    subst er3
    refine Go.nmI (fun x5 ex5 => ?_)
    refine Go.istore_n (ls' := [some (.ref 49), some (.int (nI x)), some (.int x5)]) dX7_by_20 (Nat.le_of_ble_eq_true rfl) rfl rfl ?_
    refine Go.iload_n dX7_by_21 rfl ?_
    refine Go.if_ge 34 dX7_by_22 rfl (fun h22 => ?_) (fun h22 => ?_)
    · refine Go.iload_n dX7_by_34 rfl ?_
      refine Go.iret dX7_by_35 rfl rfl ?_
      have hA : A_by g (nI x) = (match fstF (barB (uK (gU g)) (uX (gU g)) (uE (gU g)) x) 0 (uN (gU g)) with
        | some e => (nI e, g)
        | none => (-1000000004, fndS g 3)) := by
        rw [show A_by g (nI x) = (match fstF (barB (uK (gU g)) (uX (gU g)) (uE (gU g)) (tN (nI x))) 0 (uN (gU g)) with
          | some e => (nI e, g)
          | none => (-1000000004, fndS g 3)) from if_pos hgd, tN_nI (by omega)]
      have hng := optN_neg (fst_lt (p := barB (uK (gU g)) (uX (gU g)) (uE (gU g)) x) hn30)
      refine ⟨_, rfl, ?_⟩
      subst ex5
      rw [hA]
      have h9 := hng.2.mp h22
      cases hf : fstF (barB (uK (gU g)) (uX (gU g)) (uE (gU g)) x) 0 (uN (gU g)) with
      | none => exact absurd hf h9
      | some e => exact ⟨rfl, hC, CSame.refl M⟩
    · refine Go.aload_n dX7_by_25 rfl ?_
      refine Go.ldc dX7_by_26 kcX7_127 ?_
      refine Go.callVI [] dX7_by_28 lkX7_104 imX7_finds seX7_finds cbX7_finds (m_finds hG (code := (-1000000004)) (q := 3) (by decide) (by decide)) (shp hG rfl) rfl rfl rfl (Nat.le_of_ble_eq_true rfl) (fun r6 M7 hr6 => ?_)
      refine Go.goto 35 dX7_by_31 rfl ?_
      refine Go.iret dX7_by_35 rfl rfl ?_
      have hA : A_by g (nI x) = (match fstF (barB (uK (gU g)) (uX (gU g)) (uE (gU g)) x) 0 (uN (gU g)) with
        | some e => (nI e, g)
        | none => (-1000000004, fndS g 3)) := by
        rw [show A_by g (nI x) = (match fstF (barB (uK (gU g)) (uX (gU g)) (uE (gU g)) (tN (nI x))) 0 (uN (gU g)) with
          | some e => (nI e, g)
          | none => (-1000000004, fndS g 3)) from if_pos hgd, tN_nI (by omega)]
      have hng := optN_neg (fst_lt (p := barB (uK (gU g)) (uX (gU g)) (uE (gU g)) x) hn30)
      refine ⟨_, rfl, ?_⟩
      subst ex5
      rw [hA]
      have h9 := hng.1.mp (i_nle h22)
      rw [h9, hr6.2]
      exact ⟨hr6.1, hC.fnd⟩
  · refine Go.aload_n dX7_by_0 rfl ?_
    refine Go.iload_n dX7_by_1 rfl ?_
    refine Go.callVI [] dX7_by_2 lkX7_131 imX7_isDish seX7_isDish cbX7_isDish (m_isDish hG hC.2.2.2.2.2.2.2 x0) (shp hG rfl) rfl rfl rfl (Nat.le_of_ble_eq_true rfl) (fun r1 M2 hr1 => ?_)
    obtain ⟨er1, emr1⟩ := hr1
    rw [emr1]
    clear emr1 M2
    subst er1
    refine Go.if_ne 15 dX7_by_5 rfl (fun h5 => ?_) (fun h5 => ?_)
    · exact absurd (by simp [bi_n0.mp h5]) hgd
    · refine Go.aload_n dX7_by_8 rfl ?_
      refine Go.ldc dX7_by_9 kcX7_85 ?_
      refine Go.callVI [] dX7_by_11 lkX7_104 imX7_finds seX7_finds cbX7_finds (m_finds hG (code := (-1000000001)) (q := 0) (by decide) (by decide)) (shp hG rfl) rfl rfl rfl (Nat.le_of_ble_eq_true rfl) (fun r3 M4 hr3 => ?_)
      refine Go.iret dX7_by_14 rfl rfl ?_
      refine ⟨_, rfl, ?_⟩
      rw [show A_by g x0 = ((-1000000001), fndS g 0) from if_neg hgd, hr3.2]
      exact ⟨hr3.1, hC.fnd⟩
def A_breach (g : Sg) : Int32 × Sg := match fstF (breachP (uK (gU g)) (uX (gU g)) (uE (gU g))) 0 (uN (gU g)) with
  | some e => (nI e, g)
  | none => (-1000000004, fndS g 3)
set_option maxRecDepth 20000 in
theorem c_breach {G : Gt} {d : Nat} {M : Mm} (hG : gS G = SHAPE) {g : Sg} (hC : CompIs M g) (hg : SgOk g)  : ExI G (d + 6) mX6_breach [.ref 0] M (fun r M' => r = (A_breach g).1 ∧ CompIs M' (A_breach g).2 ∧ MSame M M') := by
  refine Ex.of (by decide) (Nat.le_of_ble_eq_true rfl) ?_
  have hB := hC.1.bk hg.1
  have hn30 := hg.1.1
  show Go G (d + 6) mX6_breach 0 [some (.ref 0)] [] M _
  refine Go.aload_n dX6_breach_0 rfl ?_
  refine Go.aload_n dX6_breach_1 rfl ?_
  refine Go.getR dX6_breach_2 flX6_12 (shp hG rfl) rfl ?_
  refine Go.callVI [.ref 0] dX6_breach_5 lkX6_178 imX1_firstBreach seX1_firstBreach cbX1_firstBreach (s_firstBreach hG hB) (shp hG rfl) rfl rfl rfl (Nat.le_of_ble_eq_true rfl) (fun r1 M2 hr1 => ?_)
  obtain ⟨er1, emr1⟩ := hr1
  rw [emr1]
  clear emr1 M2
  subst er1
  refine Go.callVI [] dX6_breach_8 lkX6_137 imX6_orNone seX6_orNone cbX6_orNone (s_orNone hG (optI (-1) (fstF (breachP (uK (gU g)) (uX (gU g)) (uE (gU g))) 0 (uN (gU g))))) (shp hG rfl) rfl rfl rfl (Nat.le_of_ble_eq_true rfl) (fun r3 M4 hr3 => ?_)
  refine Go.iret dX6_breach_11 rfl rfl ?_
  refine ⟨_, rfl, ?_⟩
  have hlt := fst_lt (p := breachP (uK (gU g)) (uX (gU g)) (uE (gU g))) hn30
  have hng := optI_neg hlt
  have hr9 := hr3
  unfold A_breach
  cases hf : fstF (breachP (uK (gU g)) (uX (gU g)) (uE (gU g))) 0 (uN (gU g)) with
  | none =>
    rw [hf] at hr9 hng
    rcases hr9 with ⟨h1, -, -⟩ | ⟨h1, h2, h3⟩
    · exact absurd rfl (hng.2.mp h1)
    · rw [h3]; exact ⟨h2, hC.fnd⟩
  | some e =>
    rw [hf] at hr9 hng
    rcases hr9 with ⟨h1, h2, h3⟩ | ⟨h1, -, -⟩
    · rw [h3]; exact ⟨h2, hC, MSame.refl M⟩
    · exact absurd (hng.1.mp h1) (by simp)
theorem fst_lt_iff {p : Nat → Bool} {n e : Nat} (he : e < n) : (∃ k, fstF p 0 n = some k ∧ k < e) ↔ (fstF p 0 e).isSome = true := by
  rw [Option.isSome_iff_ne_none]
  constructor
  · rintro ⟨k, h1, h2⟩ h3
    have a := fstF_some h1
    have b := fstF_none h3 k (Nat.zero_le _) (by omega)
    rw [a.2.2.1] at b
    cases b
  · intro h
    cases h1 : fstF p 0 e with
    | none => exact absurd h1 h
    | some k =>
      have a := fstF_some h1
      cases h2 : fstF p 0 n with
      | none =>
        have b := fstF_none h2 k (Nat.zero_le _) (by omega)
        rw [a.2.2.1] at b
        cases b
      | some k2 =>
        refine ⟨k2, rfl, ?_⟩
        have c := fstF_some h2
        by_cases q : k2 ≤ k
        · omega
        · have := c.2.2.2 k (Nat.zero_le _) (by omega)
          rw [a.2.2.1] at this
          cases this
set_option maxRecDepth 20000 in
theorem l_breach7 {G : Gt} {d : Nat} {M : Mm} (hG : gS G = SHAPE) {g : Sg} (hC : ModIs M g) (hg : SgOk g) : ∀ (n i : Nat) (o2 : Option Value), i + n = (uN (gU g)) → fstF (breachP (uK (gU g)) (uX (gU g)) (uE (gU g))) 0 (uN (gU g)) = fstF (breachP (uK (gU g)) (uX (gU g)) (uE (gU g))) i n → Go G (d + 3) mX7_breach 2 [some (.ref 49), some (.int (nI i)), o2] [] M (fun v M' => ∃ r, v = some (.int r) ∧ r = (A_breach g).1 ∧ ModIs M' (A_breach g).2 ∧ CSame M M') := by
  intro n
  induction n with
  | zero =>
    intro i o2 hin hf
    have hB := hC.1.bk hg.1
    have hn30 := hg.1.1
    refine Go.iload_n dX7_breach_2 rfl ?_
    refine Go.aload_n dX7_breach_3 rfl ?_
    refine Go.getI dX7_breach_4 flX7_93 (shp hG rfl) rfl ?_
    refine Go.eqI (y := nI (uN (gU g))) (hB.2.2.1) ?_
    refine Go.icmp_ge 48 dX7_breach_7 rfl (fun _ => ?_) (fun h7 => absurd (nI_le (a := uN (gU g)) (b := i) (by omega) (by omega)) h7)
    refine Go.aload_n dX7_breach_48 rfl ?_
    refine Go.ldc dX7_breach_49 kcX7_127 ?_
    refine Go.callVI [] dX7_breach_51 lkX7_104 imX7_finds seX7_finds cbX7_finds (m_finds hG (code := (-1000000004)) (q := 3) (by decide) (by decide)) (shp hG rfl) rfl rfl rfl (Nat.le_of_ble_eq_true rfl) (fun r1 M2 hr1 => ?_)
    refine Go.iret dX7_breach_54 rfl rfl ?_
    refine ⟨_, rfl, ?_⟩
    unfold A_breach
    rw [hf]
    show _ ∧ ModIs _ (fndS g 3) ∧ _
    rw [hr1.2]
    exact ⟨hr1.1, hC.fnd⟩
  | succ n ih =>
    intro i o2 hin hf
    have hi : i < (uN (gU g)) := by omega
    have hB := hC.1.bk hg.1
    have hn30 := hg.1.1
    have hk6 := (hB.2.2.2.2.2 i (by omega)).1
    have hX5 := okD_lt (hB.2.2.2.2.2 i (by omega)).2.1
    refine Go.iload_n dX7_breach_2 rfl ?_
    refine Go.aload_n dX7_breach_3 rfl ?_
    refine Go.getI dX7_breach_4 flX7_93 (shp hG rfl) rfl ?_
    refine Go.eqI (y := nI (uN (gU g))) (hB.2.2.1) ?_
    refine Go.icmp_ge 48 dX7_breach_7 rfl (fun h7 => absurd h7 (nI_ge (a := i) (b := uN (gU g)) (by omega) (by omega))) (fun _ => ?_)
    refine Go.aload_n dX7_breach_10 rfl ?_
    refine Go.aload_n dX7_breach_11 rfl ?_
    refine Go.getR dX7_breach_12 flX7_22 (shp hG rfl) rfl ?_
    refine Go.iload_n dX7_breach_15 rfl ?_
    refine Go.iald dX7_breach_16 (shp hG rfl) (vin (by omega) (by decide)) ?_
    refine Go.eqI (y := nI ((uX (gU g)) i)) (by rw [ncl (by omega)]; exact (hB.2.2.2.2.2 i (by omega)).2.2.2) ?_
    refine Go.callVI [] dX7_breach_17 lkX7_128 imX7_firstBy seX7_firstBy cbX7_firstBy (m_firstBy hG hB (x := (uX (gU g)) i) (hB.2.2.2.2.2 i (by omega)).2.1) (shp hG rfl) rfl rfl rfl (Nat.le_of_ble_eq_true rfl) (fun r1 M2 hr1 => ?_)
    obtain ⟨er1, emr1⟩ := hr1
    rw [emr1]
    clear emr1 M2
    subst er1
    refine Go.nmI (fun x3 ex3 => ?_)
    refine Go.istore_n (ls' := [some (.ref 49), some (.int (nI i)), some (.int x3)]) dX7_breach_20 (Nat.le_of_ble_eq_true rfl) rfl rfl ?_
    refine Go.aload_n dX7_breach_21 rfl ?_
    refine Go.getR dX7_breach_22 flX7_19 (shp hG rfl) rfl ?_
    refine Go.iload_n dX7_breach_25 rfl ?_
    refine Go.iald dX7_breach_26 (shp hG rfl) (vin (by omega) (by decide)) ?_
    refine Go.eqI (y := nI ((uK (gU g)) i)) (by rw [ncl (by omega)]; exact (hB.2.2.2.2.2 i (by omega)).2.2.1) ?_
    refine Go.iconst (v := 2) dX7_breach_27 (by decide) ?_
    refine Go.icmp_eq 42 dX7_breach_28 rfl (fun h28 => ?_) (fun h28 => ?_)
    · have n28 : ((uK (gU g)) i) = 2 := (nI_inj (a := ((uK (gU g)) i)) (b := 2) (by omega) (by omega)).mp h28
      refine Go.iinc (v := nI (i + 1)) (ls' := [some (.ref 49), some (.int (nI (i + 1))), some (.int x3)]) dX7_breach_42 rfl (nI_1 _) rfl rfl ?_
      refine Go.goto 2 dX7_breach_45 rfl ?_
      subst ex3
      have hnb : breachP (uK (gU g)) (uX (gU g)) (uE (gU g)) i = false := by simp [breachP, n28]
      exact ih (i + 1) _ (by omega) (by rw [hf, fstF, if_neg (by rw [hnb]; decide)])
    · have n28 : ¬ ((uK (gU g)) i) = 2 := fun q => h28 ((nI_inj (a := ((uK (gU g)) i)) (b := 2) (by omega) (by omega)).mpr q)
      refine Go.iload_n dX7_breach_31 rfl ?_
      refine Go.if_lt 42 dX7_breach_32 rfl (fun h32 => ?_) (fun h32 => ?_)
      · refine Go.iinc (v := nI (i + 1)) (ls' := [some (.ref 49), some (.int (nI (i + 1))), some (.int x3)]) dX7_breach_42 rfl (nI_1 _) rfl rfl ?_
        refine Go.goto 2 dX7_breach_45 rfl ?_
        subst ex3
        have hnb : breachP (uK (gU g)) (uX (gU g)) (uE (gU g)) i = false := by
          have h9 := (optN_neg (fst_lt9 (p := barB (uK (gU g)) (uX (gU g)) (uE (gU g)) ((uX (gU g)) i)) (n := uN (gU g)) (by omega))).1.mp h32
          unfold breachP
          cases hq : (fstF (barB (uK (gU g)) (uX (gU g)) (uE (gU g)) ((uX (gU g)) i)) 0 i).isSome with
          | false => simp
          | true =>
            obtain ⟨k, h1, h2⟩ := (fst_lt_iff (by omega)).mpr hq
            rw [h9] at h1
            cases h1
        exact ih (i + 1) _ (by omega) (by rw [hf, fstF, if_neg (by rw [hnb]; decide)])
      · refine Go.iload_n dX7_breach_35 rfl ?_
        refine Go.iload_n dX7_breach_36 rfl ?_
        refine Go.icmp_ge 42 dX7_breach_37 rfl (fun h37 => ?_) (fun h37 => ?_)
        · refine Go.iinc (v := nI (i + 1)) (ls' := [some (.ref 49), some (.int (nI (i + 1))), some (.int x3)]) dX7_breach_42 rfl (nI_1 _) rfl rfl ?_
          refine Go.goto 2 dX7_breach_45 rfl ?_
          subst ex3
          have hnb : breachP (uK (gU g)) (uX (gU g)) (uE (gU g)) i = false := by
            unfold breachP
            cases hq : (fstF (barB (uK (gU g)) (uX (gU g)) (uE (gU g)) ((uX (gU g)) i)) 0 i).isSome with
            | false => simp
            | true =>
              obtain ⟨k, h1, h2⟩ := (fst_lt_iff (by omega)).mpr hq
              rw [h1] at h37
              exact absurd h37 (nI_ge h2 (by omega))
          exact ih (i + 1) _ (by omega) (by rw [hf, fstF, if_neg (by rw [hnb]; decide)])
        · refine Go.iload_n dX7_breach_40 rfl ?_
          refine Go.iret dX7_breach_41 rfl rfl ?_
          subst ex3
          have hng := optN_neg (fst_lt9 (p := barB (uK (gU g)) (uX (gU g)) (uE (gU g)) ((uX (gU g)) i)) (n := uN (gU g)) (by omega))
          have h9 := hng.2.mp (i_nlt h32)
          have hb1 : breachP (uK (gU g)) (uX (gU g)) (uE (gU g)) i = true := by
            unfold breachP
            rw [(fst_lt_iff (n := uN (gU g)) (by omega)).mp ?_]
            · simp [n28]
            · cases h1 : fstF (barB (uK (gU g)) (uX (gU g)) (uE (gU g)) ((uX (gU g)) i)) 0 (uN (gU g)) with
              | none => exact absurd h1 h9
              | some k =>
                rw [h1] at h37
                refine ⟨k, rfl, ?_⟩
                by_cases q : k < i
                · exact q
                · have hk := fst_lt9 (p := barB (uK (gU g)) (uX (gU g)) (uE (gU g)) ((uX (gU g)) i)) (n := uN (gU g)) (by omega) k h1
                  exact absurd (nI_le (by omega) hk) h37
          refine ⟨_, rfl, ?_⟩
          unfold A_breach
          rw [hf, fstF, if_pos hb1]
          exact ⟨rfl, hC, CSame.refl M⟩
set_option maxRecDepth 20000 in
theorem m_breach {G : Gt} {d : Nat} {M : Mm} (hG : gS G = SHAPE) {g : Sg} (hC : ModIs M g) (hg : SgOk g)  : ExI G (d + 3) mX7_breach [.ref 49] M (fun r M' => r = (A_breach g).1 ∧ ModIs M' (A_breach g).2 ∧ CSame M M') := by
  refine Ex.of (by decide) (Nat.le_of_ble_eq_true rfl) ?_
  show Go G (d + 3) mX7_breach 0 [some (.ref 49), none, none] [] M _
  refine Go.iconst (v := 0) dX7_breach_0 (by decide) ?_
  refine Go.istore_n (ls' := [some (.ref 49), some (.int 0), none]) dX7_breach_1 (Nat.le_of_ble_eq_true rfl) rfl rfl ?_
  exact l_breach7 hG hC hg (uN (gU g)) 0 none (by omega) rfl
