theorem mod_fs {M M' : Mm} {g : Sg} (h : ModIs M g) (hs : Same [49, 59, 62, 63, 64] M M') (h0 : ∀ j, j ≠ 18 → M'.1 49 j = M.1 49 j) : ModIs M' g ∧ CSame M M' := by
  have r : ∀ a, a ≠ 49 → a ≠ 59 → a ≠ 62 → a ≠ 63 → a ≠ 64 → M'.1 a = M.1 a := fun a b1 b2 b3 b4 b5 => hs.1 a (by simp [b1, b2, b3, b4, b5])
  obtain ⟨h1, h2, h3, h4, h5, h6, h7, h8⟩ := h
  refine ⟨⟨?_, by rw [h0 33 (by decide)]; exact h2, fun k => (h3 k).same (hs.1 70 (by decide)), by rw [h0 20 (by decide)]; exact h4, fun i hi => by rw [hs.1 65 (by decide)]; exact h5 i hi, fun s hs4 => by rw [hs.1 66 (by decide), hs.1 67 (by decide), hs.2]; exact h6 s hs4, fun j hj => by rw [hs.1 56 (by decide)]; exact h7 j hj, h8.same (hs.1 57 (by decide)) (hs.1 58 (by decide))⟩, hs.cs (by decide)⟩
  unfold BuM at h1 ⊢
  rw [h0 4 (by decide), h0 3 (by decide), hs.1 50 (by decide), hs.1 51 (by decide), hs.1 52 (by decide), hs.1 53 (by decide), hs.1 54 (by decide), hs.1 55 (by decide)]
  exact h1
/-- the search, by what both stand for -/
theorem g_findSteps {G : Gt} {d : Nat} {M : Mm} (hG : gS G = SHAPE) {g : Sg} (hC : ModIs M g) (hg : SgOk g) {x : Nat} (hxo : okD x = true) : ExV G (d + 4) mX7_findSteps [.ref 49, .int (nI x)] M (fun M' => ModIs M' g ∧ CSame M M' ∧ MarkIs M' (kc (gU g)) ∧ ∃ (S : Bf) (gd : Nat → Bool), Fs M' S gd ∧ Wf S ∧ ∀ n p, p < 1840 → leO (bD S p) n = Rb (uS (gU g)) (kc (gU g)) x n (dishN p)) := by
  refine (m_findSteps hG (hC.1.bk hg.1) hC.2.2.2.2.2.2.2 rfl (c := kc (gU g)) rfl hxo).mono (fun M' ⟨⟨S, a1, a2, a3⟩, b, c, e⟩ => ?_)
  have hm := mod_fs hC c e
  exact ⟨hm.1, hm.2, b, S, _, a1, a2, fun n p hp => by rw [a3 n p hp, Rb_congr hC.1.1]⟩
theorem fst_of {q : Nat → Bool} {e : Nat} (he : e < 1840) (h : ∀ n, q n = decide (e ≤ n)) : fstF q 0 1841 = some e := by
  cases hf : fstF q 0 1841 with
  | none =>
    have := fstF_none hf e (Nat.zero_le _) (by omega)
    rw [h e, decide_eq_true (Nat.le_refl e)] at this
    cases this
  | some k =>
    obtain ⟨a, b, c, d⟩ := fstF_some hf
    rw [h k] at c
    have c' := of_decide_eq_true c
    by_cases z : k = e
    · rw [z]
    · have := d e (Nat.zero_le _) (by omega)
      rw [h e, decide_eq_true (Nat.le_refl e)] at this
      cases this
theorem dist_eq {S : Bf} {q : Nat → Nat → Bool} {p : Nat} (hW : Wf S) (hp : p < 1840) (h : ∀ n, leO (bD S p) n = q n p) : bD S p = fstF (fun n => q n p) 0 1841 := by
  cases hd : bD S p with
  | none =>
    rw [hd] at h
    cases hf : fstF (fun n => q n p) 0 1841 with
    | none => rfl
    | some k =>
      have a := (fstF_some hf).2.2.1
      have b : q k p = true := a
      rw [← h k] at b
      cases b
  | some e =>
    rw [hd] at h
    exact (fst_of (hW.lt hp hd) (fun n => (h n).symm)).symm
set_option maxRecDepth 20000 in
theorem m_steps {G : Gt} {d : Nat} {M : Mm} (hG : gS G = SHAPE) {g : Sg} (hC : ModIs M g) (hg : SgOk g) (a b : Int32) : ExI G (d + 5) mX7_steps [.ref 49, .int a, .int b] M (fun r M' => r = (A_steps g a b).1 ∧ ModIs M' (A_steps g a b).2 ∧ CSame M M') := by
  refine Ex.of (by decide) (Nat.le_of_ble_eq_true rfl) ?_
  show Go G (d + 5) mX7_steps 0 [some (.ref 49), some (.int a), some (.int b), none] [] M _
  by_cases hgd : (isDishI a && isDishI b) = true
  · rw [Bool.and_eq_true] at hgd
    obtain ⟨x, hx, ea, hxo⟩ := isDishI_ok hgd.1
    obtain ⟨y, hy, eb, hyo⟩ := isDishI_ok hgd.2
    subst ea
    subst eb
    have hA0 : A_steps g (nI x) (nI y) = ornS g (fstF (fun n => Rb (uS (gU g)) (kc (gU g)) x n y) 0 1841) := by
      have h9 : A_steps g (nI x) (nI y) = _ := if_pos (by rw [hgd.1, hgd.2]; rfl)
      rw [tN_nI (x := x) (by omega), tN_nI (x := y) (by omega)] at h9
      exact h9
    rw [hA0]
    clear hA0
    refine Go.aload_n dX7_steps_0 rfl ?_
    refine Go.iload_n dX7_steps_1 rfl ?_
    refine Go.callVI [] dX7_steps_2 lkX7_131 imX7_isDish seX7_isDish cbX7_isDish (m_isDish hG hC.2.2.2.2.2.2.2 (nI x)) (shp hG rfl) rfl rfl rfl (Nat.le_of_ble_eq_true rfl) (fun r1 M2 hr1 => ?_)
    obtain ⟨er1, emr1⟩ := hr1
    rw [emr1]
    clear emr1 M2
    subst er1
    refine Go.eqI (y := 1) (by rw [isDishI_nI (by omega), hxo]; rfl) ?_
    refine Go.if_eq 16 dX7_steps_5 rfl (fun h5 => absurd h5 (by decide)) (fun _ => ?_)
    refine Go.aload_n dX7_steps_8 rfl ?_
    refine Go.iload_n dX7_steps_9 rfl ?_
    refine Go.callVI [] dX7_steps_10 lkX7_131 imX7_isDish seX7_isDish cbX7_isDish (m_isDish hG hC.2.2.2.2.2.2.2 (nI y)) (shp hG rfl) rfl rfl rfl (Nat.le_of_ble_eq_true rfl) (fun r3 M4 hr3 => ?_)
    obtain ⟨er3, emr3⟩ := hr3
    rw [emr3]
    clear emr3 M4
    subst er3
    refine Go.eqI (y := 1) (by rw [isDishI_nI (by omega), hyo]; rfl) ?_
    refine Go.if_ne 23 dX7_steps_13 rfl (fun _ => ?_) (fun h13 => absurd h13 (by decide))
    refine Go.aload_n dX7_steps_23 rfl ?_
    refine Go.iload_n dX7_steps_24 rfl ?_
    refine Go.callVV [] dX7_steps_25 lkX7_219 imX7_findSteps seX7_findSteps cbX7_findSteps (g_findSteps hG hC hg (x := x) hxo) (shp hG rfl) rfl rfl rfl (Nat.le_of_ble_eq_true rfl) (fun M6 hr5 => ?_)
    obtain ⟨hCf, hmf, hMf, S, gd, hFf, hWf, hRf⟩ := hr5
    refine Go.aload_n dX7_steps_28 rfl ?_
    refine Go.getR dX7_steps_29 flX7_47 (shp hG rfl) rfl ?_
    refine Go.aload_n dX7_steps_32 rfl ?_
    refine Go.iload_n dX7_steps_33 rfl ?_
    refine Go.callVI [.ref 62] dX7_steps_34 lkX7_213 imX7_placeOf seX7_placeOf cbX7_placeOf (m_placeOf hG hCf.2.2.2.2.2.2.2 (x := y) hyo) (shp hG rfl) rfl rfl rfl (Nat.le_of_ble_eq_true rfl) (fun r7 M8 hr7 => ?_)
    obtain ⟨er7, emr7⟩ := hr7
    rw [emr7]
    clear emr7 M8
    subst er7
    refine Go.iald dX7_steps_37 (shp hG rfl) (vin (plN_lt hyo).1 (by decide)) ?_
    have hpy := plN_lt hyo
    rw [ncl (by omega), hFf.2.1 _ hpy.1]
    have hde := dist_eq (q := fun n p => Rb (uS (gU g)) (kc (gU g)) x n (dishN p)) hWf hpy.1 (fun n => hRf n _ hpy.1)
    rw [hpy.2] at hde
    rw [← hde]
    rcases hd : bD S (plN y) with _ | e9
    · show Go _ _ _ _ _ [.int (-1)] _ _
      refine Go.istore_n (ls' := [some (.ref 49), some (.int (nI x)), some (.int (nI y)), some (.int ((-1)))]) dX7_steps_38 (Nat.le_of_ble_eq_true rfl) rfl rfl ?_
      refine Go.iload_n dX7_steps_39 rfl ?_
      refine Go.if_ge 52 dX7_steps_40 rfl (fun h40 => absurd h40 (by decide)) (fun _ => ?_)
      refine Go.aload_n dX7_steps_43 rfl ?_
      refine Go.ldc dX7_steps_44 kcX7_127 ?_
      refine Go.callVI [] dX7_steps_46 lkX7_104 imX7_finds seX7_finds cbX7_finds (m_finds hG (code := (-1000000004)) (q := 3) (by decide) (by decide)) (shp hG rfl) rfl rfl rfl (Nat.le_of_ble_eq_true rfl) (fun r9 M10 hr9 => ?_)
      refine Go.goto 53 dX7_steps_49 rfl ?_
      refine Go.iret dX7_steps_53 rfl rfl ?_
      refine ⟨_, rfl, ?_⟩
      rw [hr9.2]
      exact ⟨hr9.1, hCf.fnd.1, hmf.trans hCf.fnd.2⟩
    · show Go _ _ _ _ _ [.int (nI e9)] _ _
      have he9 := hWf.lt hpy.1 hd
      refine Go.istore_n (ls' := [some (.ref 49), some (.int (nI x)), some (.int (nI y)), some (.int (nI e9))]) dX7_steps_38 (Nat.le_of_ble_eq_true rfl) rfl rfl ?_
      refine Go.iload_n dX7_steps_39 rfl ?_
      refine Go.if_ge 52 dX7_steps_40 rfl (fun _ => ?_) (fun h40 => absurd (nI_pos' (by omega)) h40)
      refine Go.iload_n dX7_steps_52 rfl ?_
      refine Go.iret dX7_steps_53 rfl rfl ?_
      exact ⟨_, rfl, rfl, hCf, hmf⟩
  · refine Go.aload_n dX7_steps_0 rfl ?_
    refine Go.iload_n dX7_steps_1 rfl ?_
    refine Go.callVI [] dX7_steps_2 lkX7_131 imX7_isDish seX7_isDish cbX7_isDish (m_isDish hG hC.2.2.2.2.2.2.2 a) (shp hG rfl) rfl rfl rfl (Nat.le_of_ble_eq_true rfl) (fun r1 M2 hr1 => ?_)
    obtain ⟨er1, emr1⟩ := hr1
    rw [emr1]
    clear emr1 M2
    subst er1
    refine Go.if_eq 16 dX7_steps_5 rfl (fun h5 => ?_) (fun h5 => ?_)
    · refine Go.aload_n dX7_steps_16 rfl ?_
      refine Go.ldc dX7_steps_17 kcX7_85 ?_
      refine Go.callVI [] dX7_steps_19 lkX7_104 imX7_finds seX7_finds cbX7_finds (m_finds hG (code := (-1000000001)) (q := 0) (by decide) (by decide)) (shp hG rfl) rfl rfl rfl (Nat.le_of_ble_eq_true rfl) (fun r3 M4 hr3 => ?_)
      refine Go.iret dX7_steps_22 rfl rfl ?_
      refine ⟨_, rfl, ?_⟩
      rw [show A_steps g a b = ((-1000000001), fndS g 0) from if_neg hgd, hr3.2]
      exact ⟨hr3.1, hC.fnd⟩
    · refine Go.aload_n dX7_steps_8 rfl ?_
      refine Go.iload_n dX7_steps_9 rfl ?_
      refine Go.callVI [] dX7_steps_10 lkX7_131 imX7_isDish seX7_isDish cbX7_isDish (m_isDish hG hC.2.2.2.2.2.2.2 b) (shp hG rfl) rfl rfl rfl (Nat.le_of_ble_eq_true rfl) (fun r5 M6 hr5 => ?_)
      obtain ⟨er5, emr5⟩ := hr5
      rw [emr5]
      clear emr5 M6
      subst er5
      refine Go.if_ne 23 dX7_steps_13 rfl (fun h13 => ?_) (fun h13 => ?_)
      · exact absurd (by rw [bi_n0.mp h5, bi_n0.mp h13]; rfl) hgd
      · refine Go.aload_n dX7_steps_16 rfl ?_
        refine Go.ldc dX7_steps_17 kcX7_85 ?_
        refine Go.callVI [] dX7_steps_19 lkX7_104 imX7_finds seX7_finds cbX7_finds (m_finds hG (code := (-1000000001)) (q := 0) (by decide) (by decide)) (shp hG rfl) rfl rfl rfl (Nat.le_of_ble_eq_true rfl) (fun r7 M8 hr7 => ?_)
        refine Go.iret dX7_steps_22 rfl rfl ?_
        refine ⟨_, rfl, ?_⟩
        rw [show A_steps g a b = ((-1000000001), fndS g 0) from if_neg hgd, hr7.2]
        exact ⟨hr7.1, hC.fnd⟩
set_option maxRecDepth 20000 in
theorem l_withinM {G : Gt} {d : Nat} (hG : gS G = SHAPE) {N : Mm} {S : Bf} {gd : Nat → Bool} (hF : Fs N S gd) (hW : Wf S) {x m : Nat} (hm12 : m ≤ 12) : ∀ (n i : Nat), i + n = (bM S) → Go G (d) mX7_within 35 [some (.ref 49), some (.int (nI x)), some (.int (nI m)), some (.int (nI (cntN (fun j => leO (bD S (bW S j)) m) i))), some (.int (nI i))] [] N (fun v M' => ∃ r, v = some (.int r) ∧ r = nI (cntN (fun j => leO (bD S (bW S j)) m) (bM S)) ∧ M' = N) := by
  intro n
  induction n with
  | zero =>
    intro i  hin
    have hm18 := hW.1
    refine Go.iload dX7_within_35 rfl ?_
    refine Go.aload_n dX7_within_37 rfl ?_
    refine Go.getI dX7_within_38 flX7_206 (shp hG rfl) rfl ?_
    refine Go.eqI (y := nI (bM S)) (hF.1) ?_
    refine Go.icmp_ge 74 dX7_within_41 rfl (fun _ => ?_) (fun h41 => absurd (nI_le (a := bM S) (b := i) (by omega) (by omega)) h41)
    refine Go.iload_n dX7_within_74 rfl ?_
    refine Go.iret dX7_within_75 rfl rfl ?_
    have e9 : i = bM S := by omega
    subst e9
    exact ⟨_, rfl, rfl, rfl⟩
  | succ n ih =>
    intro i  hin
    have hi : i < (bM S) := by omega
    have hm18 := hW.1
    obtain ⟨hw1, e0, he, hle0⟩ := hW.2.1 i hi
    refine Go.iload dX7_within_35 rfl ?_
    refine Go.aload_n dX7_within_37 rfl ?_
    refine Go.getI dX7_within_38 flX7_206 (shp hG rfl) rfl ?_
    refine Go.eqI (y := nI (bM S)) (hF.1) ?_
    refine Go.icmp_ge 74 dX7_within_41 rfl (fun h41 => absurd h41 (nI_ge (a := i) (b := bM S) (by omega) (by omega))) (fun _ => ?_)
    refine Go.iload_n dX7_within_44 rfl ?_
    refine Go.aload_n dX7_within_45 rfl ?_
    refine Go.getR dX7_within_46 flX7_47 (shp hG rfl) rfl ?_
    refine Go.aload_n dX7_within_49 rfl ?_
    refine Go.getR dX7_within_50 flX7_50 (shp hG rfl) rfl ?_
    refine Go.iload dX7_within_53 rfl ?_
    refine Go.iald dX7_within_55 (shp hG rfl) (vin (by omega) (by decide)) ?_
    refine Go.eqI (y := nI (bW S i)) (by rw [ncl (by omega)]; exact hF.2.2.1 i (by omega)) ?_
    refine Go.iald dX7_within_56 (shp hG rfl) (vin hw1 (by decide)) ?_
    refine Go.eqI (y := nI e0) (by rw [ncl (by omega), hF.2.1 _ hw1, he]; rfl) ?_
    refine Go.iload_n dX7_within_57 rfl ?_
    refine Go.icmp_gt 65 dX7_within_58 rfl (fun h58 => ?_) (fun h58 => ?_)
    · have n58 : m < e0 := (nI_ltI (a := m) (b := e0) (by omega) (by omega)).mp h58
      refine Go.iconst (v := 0) dX7_within_65 (by decide) ?_
      refine Go.iadd dX7_within_66 ?_
      refine Go.eqI (y := nI (cntN (fun j => leO (bD S (bW S j)) m) i + 0)) (nI_add _ _) ?_
      refine Go.nmI (fun x1 ex1 => ?_)
      refine Go.istore_n (ls' := [some (.ref 49), some (.int (nI x)), some (.int (nI m)), some (.int x1), some (.int (nI i))]) dX7_within_67 (Nat.le_of_ble_eq_true rfl) rfl rfl ?_
      refine Go.iinc (v := nI (i + 1)) (ls' := [some (.ref 49), some (.int (nI x)), some (.int (nI m)), some (.int x1), some (.int (nI (i + 1)))]) dX7_within_68 rfl (nI_1 _) rfl rfl ?_
      refine Go.goto 35 dX7_within_71 rfl ?_
      rw [ex1]
      rw [show nI (cntN (fun j => leO (bD S (bW S j)) m) i + 0) = nI (cntN (fun j => leO (bD S (bW S j)) m) (i + 1)) from cnt_f (by simp only [he, leO]; exact decide_eq_false (by omega))]
      exact ih (i + 1) (by omega)
    · have n58 : ¬ m < e0 := fun q => h58 ((nI_ltI (a := m) (b := e0) (by omega) (by omega)).mpr q)
      refine Go.iconst (v := 1) dX7_within_61 (by decide) ?_
      refine Go.goto 66 dX7_within_62 rfl ?_
      refine Go.iadd dX7_within_66 ?_
      refine Go.eqI (y := nI (cntN (fun j => leO (bD S (bW S j)) m) i + 1)) (nI_add _ _) ?_
      refine Go.nmI (fun x2 ex2 => ?_)
      refine Go.istore_n (ls' := [some (.ref 49), some (.int (nI x)), some (.int (nI m)), some (.int x2), some (.int (nI i))]) dX7_within_67 (Nat.le_of_ble_eq_true rfl) rfl rfl ?_
      refine Go.iinc (v := nI (i + 1)) (ls' := [some (.ref 49), some (.int (nI x)), some (.int (nI m)), some (.int x2), some (.int (nI (i + 1)))]) dX7_within_68 rfl (nI_1 _) rfl rfl ?_
      refine Go.goto 35 dX7_within_71 rfl ?_
      rw [ex2]
      rw [show nI (cntN (fun j => leO (bD S (bW S j)) m) i + 1) = nI (cntN (fun j => leO (bD S (bW S j)) m) (i + 1)) from cnt_t (by simp only [he, leO]; exact decide_eq_true (by omega))]
      exact ih (i + 1) (by omega)
set_option maxRecDepth 20000 in
theorem m_within {G : Gt} {d : Nat} {M : Mm} (hG : gS G = SHAPE) {g : Sg} (hC : ModIs M g) (hg : SgOk g) (a n : Int32) : ExI G (d + 5) mX7_within [.ref 49, .int a, .int n] M (fun r M' => r = (A_within g a n).1 ∧ ModIs M' (A_within g a n).2 ∧ CSame M M') := by
  refine Ex.of (by decide) (Nat.le_of_ble_eq_true rfl) ?_
  show Go G (d + 5) mX7_within 0 [some (.ref 49), some (.int a), some (.int n), none, none] [] M _
  by_cases hgd : (isDishI a && inI n 0 12) = true
  · rw [Bool.and_eq_true] at hgd
    obtain ⟨x, hx, ea, hxo⟩ := isDishI_ok hgd.1
    obtain ⟨m, hm1, hm12, em⟩ := inI_nI (a := 0) (b := 12) (by decide) (by decide) hgd.2
    subst ea
    subst em
    have hA0 : A_within g (nI x) (nI m) = (nI (cntN (fun p => Rb (uS (gU g)) (kc (gU g)) x m (dishN p)) 1840), g) := by
      have h9 : A_within g (nI x) (nI m) = _ := if_pos (by rw [hgd.1, hgd.2]; rfl)
      rw [tN_nI (x := x) (by omega), tN_nI (x := m) (by omega)] at h9
      exact h9
    rw [hA0]
    clear hA0
    refine Go.aload_n dX7_within_0 rfl ?_
    refine Go.iload_n dX7_within_1 rfl ?_
    refine Go.callVI [] dX7_within_2 lkX7_131 imX7_isDish seX7_isDish cbX7_isDish (m_isDish hG hC.2.2.2.2.2.2.2 (nI x)) (shp hG rfl) rfl rfl rfl (Nat.le_of_ble_eq_true rfl) (fun r1 M2 hr1 => ?_)
    obtain ⟨er1, emr1⟩ := hr1
    rw [emr1]
    clear emr1 M2
    subst er1
    refine Go.eqI (y := 1) (by rw [isDishI_nI (by omega), hxo]; rfl) ?_
    refine Go.if_eq 18 dX7_within_5 rfl (fun h5 => absurd h5 (by decide)) (fun _ => ?_)
    refine Go.iload_n dX7_within_8 rfl ?_
    refine Go.iconst (v := 0) dX7_within_9 (by decide) ?_
    refine Go.bipush (v := 12) dX7_within_10 (by decide) ?_
    refine Go.callSI [] dX7_within_12 lkX7_86 stX7_in cbX7_in (m_in (nI m) 0 12) rfl rfl (Nat.le_of_ble_eq_true rfl) (fun r3 M4 hr3 => ?_)
    obtain ⟨er3, emr3⟩ := hr3
    rw [emr3]
    clear emr3 M4
    subst er3
    refine Go.eqI (y := 1) (by rw [hgd.2]; rfl) ?_
    refine Go.if_ne 25 dX7_within_15 rfl (fun _ => ?_) (fun h15 => absurd h15 (by decide))
    refine Go.aload_n dX7_within_25 rfl ?_
    refine Go.iload_n dX7_within_26 rfl ?_
    refine Go.callVV [] dX7_within_27 lkX7_219 imX7_findSteps seX7_findSteps cbX7_findSteps (g_findSteps hG hC hg (x := x) hxo) (shp hG rfl) rfl rfl rfl (Nat.le_of_ble_eq_true rfl) (fun M6 hr5 => ?_)
    obtain ⟨hCf, hmf, hMf, S, gd, hFf, hWf, hRf⟩ := hr5
    refine Go.iconst (v := 0) dX7_within_30 (by decide) ?_
    refine Go.istore_n (ls' := [some (.ref 49), some (.int (nI x)), some (.int (nI m)), some (.int 0), none]) dX7_within_31 (Nat.le_of_ble_eq_true rfl) rfl rfl ?_
    refine Go.iconst (v := 0) dX7_within_32 (by decide) ?_
    refine Go.istore (ls' := [some (.ref 49), some (.int (nI x)), some (.int (nI m)), some (.int 0), some (.int 0)]) dX7_within_33 (Nat.le_of_ble_eq_true rfl) rfl rfl ?_
    refine Go.weak (fun v M9 ⟨r9, a9, b9, c9⟩ => ⟨r9, a9, ?_, by rw [c9]; exact hCf, by rw [c9]; exact hmf⟩) (l_withinM hG hFf hWf hm12 (bM S) 0 (by omega))
    rw [b9, hWf.2.2.2.2 m, cnt_congr 1840 (fun p hp => hRf m p hp)]
  · refine Go.aload_n dX7_within_0 rfl ?_
    refine Go.iload_n dX7_within_1 rfl ?_
    refine Go.callVI [] dX7_within_2 lkX7_131 imX7_isDish seX7_isDish cbX7_isDish (m_isDish hG hC.2.2.2.2.2.2.2 a) (shp hG rfl) rfl rfl rfl (Nat.le_of_ble_eq_true rfl) (fun r1 M2 hr1 => ?_)
    obtain ⟨er1, emr1⟩ := hr1
    rw [emr1]
    clear emr1 M2
    subst er1
    refine Go.if_eq 18 dX7_within_5 rfl (fun h5 => ?_) (fun h5 => ?_)
    · refine Go.aload_n dX7_within_18 rfl ?_
      refine Go.ldc dX7_within_19 kcX7_85 ?_
      refine Go.callVI [] dX7_within_21 lkX7_104 imX7_finds seX7_finds cbX7_finds (m_finds hG (code := (-1000000001)) (q := 0) (by decide) (by decide)) (shp hG rfl) rfl rfl rfl (Nat.le_of_ble_eq_true rfl) (fun r3 M4 hr3 => ?_)
      refine Go.iret dX7_within_24 rfl rfl ?_
      refine ⟨_, rfl, ?_⟩
      rw [show A_within g a n = ((-1000000001), fndS g 0) from if_neg hgd, hr3.2]
      exact ⟨hr3.1, hC.fnd⟩
    · refine Go.iload_n dX7_within_8 rfl ?_
      refine Go.iconst (v := 0) dX7_within_9 (by decide) ?_
      refine Go.bipush (v := 12) dX7_within_10 (by decide) ?_
      refine Go.callSI [] dX7_within_12 lkX7_86 stX7_in cbX7_in (m_in n 0 12) rfl rfl (Nat.le_of_ble_eq_true rfl) (fun r5 M6 hr5 => ?_)
      obtain ⟨er5, emr5⟩ := hr5
      rw [emr5]
      clear emr5 M6
      subst er5
      refine Go.if_ne 25 dX7_within_15 rfl (fun h15 => ?_) (fun h15 => ?_)
      · exact absurd (by rw [bi_n0.mp h5, bi_n0.mp h15]; rfl) hgd
      · refine Go.aload_n dX7_within_18 rfl ?_
        refine Go.ldc dX7_within_19 kcX7_85 ?_
        refine Go.callVI [] dX7_within_21 lkX7_104 imX7_finds seX7_finds cbX7_finds (m_finds hG (code := (-1000000001)) (q := 0) (by decide) (by decide)) (shp hG rfl) rfl rfl rfl (Nat.le_of_ble_eq_true rfl) (fun r7 M8 hr7 => ?_)
        refine Go.iret dX7_within_24 rfl rfl ?_
        refine ⟨_, rfl, ?_⟩
        rw [show A_within g a n = ((-1000000001), fndS g 0) from if_neg hgd, hr7.2]
        exact ⟨hr7.1, hC.fnd⟩
theorem inI_far {o : Option Nat} {m : Nat} (ho : ∀ e, o = some e → e < 1840) (hm : m ≤ 12) : inI (optI (-1) o) 0 (nI m) = leO o m := by
  cases o with
  | none => show inI (-1) 0 (nI m) = false; simp [inI]
  | some e =>
    have he := ho e rfl
    show inI (nI e) 0 (nI m) = decide (e ≤ m)
    unfold inI
    rw [decide_eq_true (nI_pos' (by omega)), Bool.true_and]
    simp only [nI_leI (a := e) (b := m) (by omega) (by omega)]
def cW (f : Nat → Int32) (c : Nat → Nat) (x m : Nat) : Nat → Nat := fun y => if Rb f c x m y then c y else 1
theorem goodW (f : Nat → Int32) (c : Nat → Nat) (x m y : Nat) : goodP f (cW f c x m) y = (goodP f c y && Rb f c x m y) := by
  unfold goodP cW
  cases Rb f c x m y <;> simp
theorem bstW (f : Nat → Int32) (c : Nat → Nat) (x m : Nat) (g : Nat → Int32) : bst (okG f (cW f c x m)) g = bst (okW f c x m) g := bst_congr (fun y => by
  unfold okW okG
  rw [goodW, Bool.and_eq_true, and_assoc]) rfl
set_option maxRecDepth 20000 in
theorem l_walkM {G : Gt} {d : Nat} {M0 N : Mm} (hG : gS G = SHAPE) {g : Sg} (hC : ModIs N g) (hmm : CSame M0 N) (hM : MarkIs N (kc (gU g))) {S : Bf} {gd : Nat → Bool} (hF : Fs N S gd) (hW : Wf S) {x m : Nat} (hm12 : m ≤ 12) (hR : ∀ n p, p < 1840 → leO (bD S p) n = Rb (uS (gU g)) (kc (gU g)) x n (dishN p)) : ∀ (n i : Nat) (r3 r4 : Int32) (o6 : Option Value), i + n = 1840 → BsP (uS (gU g)) (cW (uS (gU g)) (kc (gU g)) x m) (lk (gU g)) i r3 r4 → Go G (d + 3) mX7_walk 38 [some (.ref 49), some (.int (nI x)), some (.int (nI m)), some (.int r3), some (.int r4), some (.int (nI i)), o6] [] N (fun v M' => ∃ r, v = some (.int r) ∧ r = (ornS g (bst (okW (uS (gU g)) (kc (gU g)) x m) (lk (gU g)))).1 ∧ ModIs M' (ornS g (bst (okW (uS (gU g)) (kc (gU g)) x m) (lk (gU g)))).2 ∧ CSame M0 M') := by
  intro n
  induction n with
  | zero =>
    intro i r3 r4 o6 hin hP
    refine Go.iload dX7_walk_38 rfl ?_
    refine Go.sipush (v := 1840) dX7_walk_40 (by decide) ?_
    refine Go.icmp_ge 106 dX7_walk_43 rfl (fun _ => ?_) (fun h43 => absurd (nI_le (a := 1840) (b := i) (by omega) (by omega)) h43)
    have e9 : i = 1840 := by omega
    subst e9
    rcases hP.place with ⟨er, hb⟩ | ⟨q, hq, er, hb⟩
    · rw [bstW] at hb
      rw [er, hb]
      refine Go.iload_n dX7_walk_106 rfl ?_
      refine Go.if_ge 119 dX7_walk_107 rfl (fun h107 => absurd h107 (by decide)) (fun _ => ?_)
      refine Go.aload_n dX7_walk_110 rfl ?_
      refine Go.ldc dX7_walk_111 kcX7_127 ?_
      refine Go.callVI [] dX7_walk_113 lkX7_104 imX7_finds seX7_finds cbX7_finds (m_finds hG (code := (-1000000004)) (q := 3) (by decide) (by decide)) (shp hG rfl) rfl rfl rfl (Nat.le_of_ble_eq_true rfl) (fun r1 M2 hr1 => ?_)
      refine Go.goto 124 dX7_walk_116 rfl ?_
      refine Go.iret dX7_walk_124 rfl rfl ?_
      refine ⟨_, rfl, ?_⟩
      rw [hr1.2]
      exact ⟨hr1.1, hC.fnd.1, hmm.trans hC.fnd.2⟩
    · rw [bstW] at hb
      rw [er, hb]
      refine Go.iload_n dX7_walk_106 rfl ?_
      refine Go.if_ge 119 dX7_walk_107 rfl (fun _ => ?_) (fun h107 => absurd (nI_pos' (by omega)) h107)
      refine Go.aload_n dX7_walk_119 rfl ?_
      refine Go.iload_n dX7_walk_120 rfl ?_
      refine Go.callVI [] dX7_walk_121 lkX7_150 imX7_dishAt seX7_dishAt cbX7_dishAt (m_dishAt hG hC.2.2.2.2.2.2.2 (p := q) (by omega)) (shp hG rfl) rfl rfl rfl (Nat.le_of_ble_eq_true rfl) (fun r3 M4 hr3 => ?_)
      obtain ⟨er3, emr3⟩ := hr3
      rw [emr3]
      clear emr3 M4
      subst er3
      refine Go.iret dX7_walk_124 rfl rfl ?_
      exact ⟨_, rfl, rfl, hC, hmm⟩
  | succ n ih =>
    intro i r3 r4 o6 hin hP
    have hi : i < 1840 := by omega
    refine Go.iload dX7_walk_38 rfl ?_
    refine Go.sipush (v := 1840) dX7_walk_40 (by decide) ?_
    refine Go.icmp_ge 106 dX7_walk_43 rfl (fun h43 => absurd h43 (nI_ge (a := i) (b := 1840) (by omega) (by omega))) (fun _ => ?_)
    refine Go.aload_n dX7_walk_46 rfl ?_
    refine Go.getR dX7_walk_47 flX7_47 (shp hG rfl) rfl ?_
    refine Go.iload dX7_walk_50 rfl ?_
    refine Go.iald dX7_walk_52 (shp hG rfl) (vin (by omega) (by decide)) ?_
    refine Go.eqI (y := optI (-1) (bD S i)) (by rw [ncl (by omega)]; exact hF.2.1 i (by omega)) ?_
    refine Go.iconst (v := 0) dX7_walk_53 (by decide) ?_
    refine Go.iload_n dX7_walk_54 rfl ?_
    refine Go.callSI [] dX7_walk_55 lkX7_86 stX7_in cbX7_in (m_in (optI (-1) (bD S i)) 0 (nI m)) rfl rfl (Nat.le_of_ble_eq_true rfl) (fun r1 M2 hr1 => ?_)
    obtain ⟨er1, emr1⟩ := hr1
    rw [emr1]
    clear emr1 M2
    subst er1
    refine Go.eqI (y := bi (Rb (uS (gU g)) (kc (gU g)) x m (dishN i))) (by rw [inI_far (fun e he => hW.lt (by omega) he) hm12, hR m i (by omega)]) ?_
    refine Go.if_eq 100 dX7_walk_58 rfl (fun h58 => ?_) (fun h58 => ?_)
    · refine Go.iinc (v := nI (i + 1)) (ls' := [some (.ref 49), some (.int (nI x)), some (.int (nI m)), some (.int r3), some (.int r4), some (.int (nI (i + 1))), o6]) dX7_walk_100 rfl (nI_1 _) rfl rfl ?_
      refine Go.goto 38 dX7_walk_103 rfl ?_
      exact ih (i + 1) r3 r4 _ (by omega) (hP.skip (by rw [goodW, bi_0.mp h58, Bool.and_false]))
    · refine Go.aload_n dX7_walk_61 rfl ?_
      refine Go.iload dX7_walk_62 rfl ?_
      refine Go.callVI [] dX7_walk_64 lkX7_156 imX7_isGood seX7_isGood cbX7_isGood (m_isGood hG hC.2.2.2.2.2.2.2 hM (p := i) (by omega)) (shp hG rfl) rfl rfl rfl (Nat.le_of_ble_eq_true rfl) (fun r3 M4 hr3 => ?_)
      obtain ⟨er3, emr3⟩ := hr3
      rw [emr3]
      clear emr3 M4
      subst er3
      refine Go.eqI (y := bi (goodP (uS (gU g)) (kc (gU g)) (dishN i))) (by rw [goodP_congr hC.1.1]) ?_
      refine Go.if_eq 100 dX7_walk_67 rfl (fun h67 => ?_) (fun h67 => ?_)
      · refine Go.iinc (v := nI (i + 1)) (ls' := [some (.ref 49), some (.int (nI x)), some (.int (nI m)), some (.int r3), some (.int r4), some (.int (nI (i + 1))), o6]) dX7_walk_100 rfl (nI_1 _) rfl rfl ?_
        refine Go.goto 38 dX7_walk_103 rfl ?_
        exact ih (i + 1) r3 r4 _ (by omega) (hP.skip (by rw [goodW, bi_0.mp h67, Bool.false_and]))
      · refine Go.aload_n dX7_walk_70 rfl ?_
        refine Go.aload_n dX7_walk_71 rfl ?_
        refine Go.iload dX7_walk_72 rfl ?_
        refine Go.callVI [.ref 49] dX7_walk_74 lkX7_150 imX7_dishAt seX7_dishAt cbX7_dishAt (m_dishAt hG hC.2.2.2.2.2.2.2 (p := i) (by omega)) (shp hG rfl) rfl rfl rfl (Nat.le_of_ble_eq_true rfl) (fun r5 M6 hr5 => ?_)
        obtain ⟨er5, emr5⟩ := hr5
        rw [emr5]
        clear emr5 M6
        subst er5
        refine Go.callVI [] dX7_walk_77 lkX7_134 imX7_likingOf seX7_likingOf cbX7_likingOf (m_likingOf hG (x := dishN i) (dishN_lt (by omega))) (shp hG rfl) rfl rfl rfl (Nat.le_of_ble_eq_true rfl) (fun r7 M8 hr7 => ?_)
        obtain ⟨er7, emr7⟩ := hr7
        rw [emr7]
        clear emr7 M8
        subst er7
        refine Go.eqI (y := lk (gU g) (dishN i)) (ml_lk hC.1 _) ?_
        refine Go.istore (ls' := [some (.ref 49), some (.int (nI x)), some (.int (nI m)), some (.int r3), some (.int r4), some (.int (nI i)), some (.int (lk (gU g) (dishN i)))]) dX7_walk_80 (Nat.le_of_ble_eq_true rfl) rfl rfl ?_
        refine Go.iload_n dX7_walk_82 rfl ?_
        refine Go.if_lt 93 dX7_walk_83 rfl (fun h83 => ?_) (fun h83 => ?_)
        · refine Go.iload dX7_walk_93 rfl ?_
          refine Go.istore_n (ls' := [some (.ref 49), some (.int (nI x)), some (.int (nI m)), some (.int (nI i)), some (.int r4), some (.int (nI i)), some (.int (lk (gU g) (dishN i)))]) dX7_walk_95 (Nat.le_of_ble_eq_true rfl) rfl rfl ?_
          refine Go.iload dX7_walk_96 rfl ?_
          refine Go.istore (ls' := [some (.ref 49), some (.int (nI x)), some (.int (nI m)), some (.int (nI i)), some (.int (lk (gU g) (dishN i))), some (.int (nI i)), some (.int (lk (gU g) (dishN i)))]) dX7_walk_98 (Nat.le_of_ble_eq_true rfl) rfl rfl ?_
          refine Go.iinc (v := nI (i + 1)) (ls' := [some (.ref 49), some (.int (nI x)), some (.int (nI m)), some (.int (nI i)), some (.int (lk (gU g) (dishN i))), some (.int (nI (i + 1))), some (.int (lk (gU g) (dishN i)))]) dX7_walk_100 rfl (nI_1 _) rfl rfl ?_
          refine Go.goto 38 dX7_walk_103 rfl ?_
          exact ih (i + 1) _ _ _ (by omega) (hP.take hi (by rw [goodW, bi_n0.mp h58, bi_n0.mp h67]; rfl) (Or.inl h83))
        · refine Go.iload dX7_walk_86 rfl ?_
          refine Go.iload dX7_walk_88 rfl ?_
          refine Go.icmp_le 100 dX7_walk_90 rfl (fun h90 => ?_) (fun h90 => ?_)
          · refine Go.iinc (v := nI (i + 1)) (ls' := [some (.ref 49), some (.int (nI x)), some (.int (nI m)), some (.int r3), some (.int r4), some (.int (nI (i + 1))), some (.int (lk (gU g) (dishN i)))]) dX7_walk_100 rfl (nI_1 _) rfl rfl ?_
            refine Go.goto 38 dX7_walk_103 rfl ?_
            exact ih (i + 1) r3 r4 _ (by omega) (hP.worse hi h83 h90)
          · refine Go.iload dX7_walk_93 rfl ?_
            refine Go.istore_n (ls' := [some (.ref 49), some (.int (nI x)), some (.int (nI m)), some (.int (nI i)), some (.int r4), some (.int (nI i)), some (.int (lk (gU g) (dishN i)))]) dX7_walk_95 (Nat.le_of_ble_eq_true rfl) rfl rfl ?_
            refine Go.iload dX7_walk_96 rfl ?_
            refine Go.istore (ls' := [some (.ref 49), some (.int (nI x)), some (.int (nI m)), some (.int (nI i)), some (.int (lk (gU g) (dishN i))), some (.int (nI i)), some (.int (lk (gU g) (dishN i)))]) dX7_walk_98 (Nat.le_of_ble_eq_true rfl) rfl rfl ?_
            refine Go.iinc (v := nI (i + 1)) (ls' := [some (.ref 49), some (.int (nI x)), some (.int (nI m)), some (.int (nI i)), some (.int (lk (gU g) (dishN i))), some (.int (nI (i + 1))), some (.int (lk (gU g) (dishN i)))]) dX7_walk_100 rfl (nI_1 _) rfl rfl ?_
            refine Go.goto 38 dX7_walk_103 rfl ?_
            exact ih (i + 1) _ _ _ (by omega) (hP.take hi (by rw [goodW, bi_n0.mp h58, bi_n0.mp h67]; rfl) (Or.inr (i_nle h90)))
set_option maxRecDepth 20000 in
theorem m_walk {G : Gt} {d : Nat} {M : Mm} (hG : gS G = SHAPE) {g : Sg} (hC : ModIs M g) (hg : SgOk g) (a n : Int32) : ExI G (d + 5) mX7_walk [.ref 49, .int a, .int n] M (fun r M' => r = (A_walk g a n).1 ∧ ModIs M' (A_walk g a n).2 ∧ CSame M M') := by
  refine Ex.of (by decide) (Nat.le_of_ble_eq_true rfl) ?_
  show Go G (d + 5) mX7_walk 0 [some (.ref 49), some (.int a), some (.int n), none, none, none, none] [] M _
  by_cases hgd : (isDishI a && inI n 1 12) = true
  · rw [Bool.and_eq_true] at hgd
    obtain ⟨x, hx, ea, hxo⟩ := isDishI_ok hgd.1
    obtain ⟨m, hm1, hm12, em⟩ := inI_nI (a := 1) (b := 12) (by decide) (by decide) hgd.2
    subst ea
    subst em
    have hA0 : A_walk g (nI x) (nI m) = ornS g (bst (okW (uS (gU g)) (kc (gU g)) x m) (lk (gU g))) := by
      have h9 : A_walk g (nI x) (nI m) = _ := if_pos (by rw [hgd.1, hgd.2]; rfl)
      rw [tN_nI (x := x) (by omega), tN_nI (x := m) (by omega)] at h9
      exact h9
    rw [hA0]
    clear hA0
    refine Go.aload_n dX7_walk_0 rfl ?_
    refine Go.iload_n dX7_walk_1 rfl ?_
    refine Go.callVI [] dX7_walk_2 lkX7_131 imX7_isDish seX7_isDish cbX7_isDish (m_isDish hG hC.2.2.2.2.2.2.2 (nI x)) (shp hG rfl) rfl rfl rfl (Nat.le_of_ble_eq_true rfl) (fun r1 M2 hr1 => ?_)
    obtain ⟨er1, emr1⟩ := hr1
    rw [emr1]
    clear emr1 M2
    subst er1
    refine Go.eqI (y := 1) (by rw [isDishI_nI (by omega), hxo]; rfl) ?_
    refine Go.if_eq 18 dX7_walk_5 rfl (fun h5 => absurd h5 (by decide)) (fun _ => ?_)
    refine Go.iload_n dX7_walk_8 rfl ?_
    refine Go.iconst (v := 1) dX7_walk_9 (by decide) ?_
    refine Go.bipush (v := 12) dX7_walk_10 (by decide) ?_
    refine Go.callSI [] dX7_walk_12 lkX7_86 stX7_in cbX7_in (m_in (nI m) 1 12) rfl rfl (Nat.le_of_ble_eq_true rfl) (fun r3 M4 hr3 => ?_)
    obtain ⟨er3, emr3⟩ := hr3
    rw [emr3]
    clear emr3 M4
    subst er3
    refine Go.eqI (y := 1) (by rw [hgd.2]; rfl) ?_
    refine Go.if_ne 25 dX7_walk_15 rfl (fun _ => ?_) (fun h15 => absurd h15 (by decide))
    refine Go.aload_n dX7_walk_25 rfl ?_
    refine Go.iload_n dX7_walk_26 rfl ?_
    refine Go.callVV [] dX7_walk_27 lkX7_219 imX7_findSteps seX7_findSteps cbX7_findSteps (g_findSteps hG hC hg (x := x) hxo) (shp hG rfl) rfl rfl rfl (Nat.le_of_ble_eq_true rfl) (fun M6 hr5 => ?_)
    obtain ⟨hCf, hmf, hMf, S, gd, hFf, hWf, hRf⟩ := hr5
    refine Go.iconst (v := -1) dX7_walk_30 (by decide) ?_
    refine Go.istore_n (ls' := [some (.ref 49), some (.int (nI x)), some (.int (nI m)), some (.int ((-1))), none, none, none]) dX7_walk_31 (Nat.le_of_ble_eq_true rfl) rfl rfl ?_
    refine Go.iconst (v := 0) dX7_walk_32 (by decide) ?_
    refine Go.istore (ls' := [some (.ref 49), some (.int (nI x)), some (.int (nI m)), some (.int ((-1))), some (.int 0), none, none]) dX7_walk_33 (Nat.le_of_ble_eq_true rfl) rfl rfl ?_
    refine Go.iconst (v := 0) dX7_walk_35 (by decide) ?_
    refine Go.istore (ls' := [some (.ref 49), some (.int (nI x)), some (.int (nI m)), some (.int ((-1))), some (.int 0), some (.int 0), none]) dX7_walk_36 (Nat.le_of_ble_eq_true rfl) rfl rfl ?_
    exact l_walkM hG hCf hmf hMf hFf hWf hm12 hRf 1840 0 _ _ _ (by omega) (Or.inl ⟨rfl, fun p hp => by omega⟩)
  · refine Go.aload_n dX7_walk_0 rfl ?_
    refine Go.iload_n dX7_walk_1 rfl ?_
    refine Go.callVI [] dX7_walk_2 lkX7_131 imX7_isDish seX7_isDish cbX7_isDish (m_isDish hG hC.2.2.2.2.2.2.2 a) (shp hG rfl) rfl rfl rfl (Nat.le_of_ble_eq_true rfl) (fun r1 M2 hr1 => ?_)
    obtain ⟨er1, emr1⟩ := hr1
    rw [emr1]
    clear emr1 M2
    subst er1
    refine Go.if_eq 18 dX7_walk_5 rfl (fun h5 => ?_) (fun h5 => ?_)
    · refine Go.aload_n dX7_walk_18 rfl ?_
      refine Go.ldc dX7_walk_19 kcX7_85 ?_
      refine Go.callVI [] dX7_walk_21 lkX7_104 imX7_finds seX7_finds cbX7_finds (m_finds hG (code := (-1000000001)) (q := 0) (by decide) (by decide)) (shp hG rfl) rfl rfl rfl (Nat.le_of_ble_eq_true rfl) (fun r3 M4 hr3 => ?_)
      refine Go.iret dX7_walk_24 rfl rfl ?_
      refine ⟨_, rfl, ?_⟩
      rw [show A_walk g a n = ((-1000000001), fndS g 0) from if_neg hgd, hr3.2]
      exact ⟨hr3.1, hC.fnd⟩
    · refine Go.iload_n dX7_walk_8 rfl ?_
      refine Go.iconst (v := 1) dX7_walk_9 (by decide) ?_
      refine Go.bipush (v := 12) dX7_walk_10 (by decide) ?_
      refine Go.callSI [] dX7_walk_12 lkX7_86 stX7_in cbX7_in (m_in n 1 12) rfl rfl (Nat.le_of_ble_eq_true rfl) (fun r5 M6 hr5 => ?_)
      obtain ⟨er5, emr5⟩ := hr5
      rw [emr5]
      clear emr5 M6
      subst er5
      refine Go.if_ne 25 dX7_walk_15 rfl (fun h15 => ?_) (fun h15 => ?_)
      · exact absurd (by rw [bi_n0.mp h5, bi_n0.mp h15]; rfl) hgd
      · refine Go.aload_n dX7_walk_18 rfl ?_
        refine Go.ldc dX7_walk_19 kcX7_85 ?_
        refine Go.callVI [] dX7_walk_21 lkX7_104 imX7_finds seX7_finds cbX7_finds (m_finds hG (code := (-1000000001)) (q := 0) (by decide) (by decide)) (shp hG rfl) rfl rfl rfl (Nat.le_of_ble_eq_true rfl) (fun r7 M8 hr7 => ?_)
        refine Go.iret dX7_walk_24 rfl rfl ?_
        refine ⟨_, rfl, ?_⟩
        rw [show A_walk g a n = ((-1000000001), fndS g 0) from if_neg hgd, hr7.2]
        exact ⟨hr7.1, hC.fnd⟩
