noncomputable def buyF (u : Bu) (k t : Nat) : Nat := lastN (lk u) (uE u) k 60 (upd (uS u) t (uS u t + 1)) (kc u)
def buyN (F : Nat → Nat) (m0 : Nat) : Nat → Nat × Option Nat
  | 0 => (m0, none)
  | t + 1 => if (buyN F m0 t).1 < F t then (F t, some t) else buyN F m0 t
noncomputable def buyB (u : Bu) (k : Nat) : Nat → Nat × Option Nat := buyN (buyF u k) (lastN (lk u) (uE u) k 60 (uS u) (kc u))
theorem buyB_le (u : Bu) (k : Nat) : ∀ n, (buyB u k n).1 ≤ 60 ∧ ∀ i, (buyB u k n).2 = some i → i < n
  | 0 => ⟨lastN_le _ _ _ _ _ _, fun i h => by cases h⟩
  | n + 1 => by
    have ih := buyB_le u k n
    unfold buyB at *
    rw [buyN]
    split
    · exact ⟨lastN_le _ _ _ _ _ _, fun i h => by cases h; omega⟩
    · exact ⟨ih.1, fun i h => by have := ih.2 i h; omega⟩
theorem buyB_t {u : Bu} {k n : Nat} (h : (buyB u k n).1 < buyF u k n) : buyB u k (n + 1) = (buyF u k n, some n) := by
  unfold buyB at *
  rw [buyN, if_pos h]
theorem buyB_f {u : Bu} {k n : Nat} (h : ¬ (buyB u k n).1 < buyF u k n) : buyB u k (n + 1) = buyB u k n := by
  unfold buyB at *
  rw [buyN, if_neg h]
noncomputable def A_buy (g : Sg) (k : Int32) : Int32 × Sg := if inb k 6 then ornS g (buyB (gU g) (tN k) 8).2 else (-1000000001, fndS g 0)
theorem KS.inc {M : Mm} {f : Nat → Int32} {c : Nat → Nat} {g : Nat → Int32} {ed i : Nat} (h : KS M f c g ed) (hi : i < 8) : KS (upi M 26 i (M.1 26 i + 1)) (upd f i (f i + 1)) c g ed := by
  obtain ⟨f', lt, lw, ls, ⟨⟨fv, a1, a2, a3, a4, a5, a6⟩, b, e1, e2, e3⟩, h2, h3⟩ := h
  have r : ∀ a, a ≠ 26 → (upi M 26 i (M.1 26 i + 1)).1 a = M.1 a := fun a ha => rd_ne ha
  have g31 := r 31 (by decide)
  refine ⟨upd f' i (f' i + 1), lt, lw, ls, ⟨⟨fv, a1.same (r 28 (by decide)) (r 29 (by decide)), a2, fun j hj => by rw [r 30 (by decide)]; exact a3 j hj, fun m hm => by rw [g31]; exact a4 m hm, ⟨by rw [g31]; exact a5.1, fun i hi => by rw [r 32 (by decide)]; exact a5.2 i hi⟩, a6⟩, fun s hs => by rw [r 33 (by decide)]; exact b s hs, by rw [r 25 (by decide)]; exact e1, e2, by rw [rd_eq, e3]⟩, fun t ht => ?_, h3⟩
  unfold upd
  split
  · rw [h2 i hi]
  · exact h2 t ht
set_option maxRecDepth 20000 in
theorem l_buyC {G : Gt} {d : Nat} {M0 : Mm} (hG : gS G = SHAPE) {g : Sg} (hg : SgOk g) {k : Nat} (hk : k < 6) : ∀ (n i : Nat) (N : Mm) (o5 : Option Value), i + n = 8 → CompIs N g → MSame M0 N → Go G (d + 6) mX6_buy 41 [some (.ref 0), some (.int (nI k)), some (.int (nI ((buyB (gU g) k i).1))), some (.int (optI (-1) ((buyB (gU g) k i).2))), some (.int (nI i)), o5] [] N (fun v M' => ∃ r, v = some (.int r) ∧ r = (ornS g (buyB (gU g) k 8).2).1 ∧ CompIs M' (ornS g (buyB (gU g) k 8).2).2 ∧ MSame M0 M') := by
  intro n
  induction n with
  | zero =>
    intro i N o5 hin hC hmm
    refine Go.iload dX6_buy_41 rfl ?_
    refine Go.bipush (v := 8) dX6_buy_43 (by decide) ?_
    refine Go.icmp_ge 101 dX6_buy_45 rfl (fun _ => ?_) (fun h45 => absurd (nI_le (a := 8) (b := i) (by omega) (by omega)) h45)
    refine Go.aload_n dX6_buy_101 rfl ?_
    refine Go.iload_n dX6_buy_102 rfl ?_
    refine Go.callVI [] dX6_buy_103 lkX6_137 imX6_orNone seX6_orNone cbX6_orNone (s_orNone hG (optI (-1) ((buyB (gU g) k i).2))) (shp hG rfl) rfl rfl rfl (Nat.le_of_ble_eq_true rfl) (fun r1 M2 hr1 => ?_)
    refine Go.iret dX6_buy_106 rfl rfl ?_
    have e9 : i = 8 := by omega
    subst e9
    exact ⟨_, rfl, orn_c hmm hC rfl (fun i hi => by have := (buyB_le (gU g) k 8).2 i hi; omega) hr1⟩
  | succ n ih =>
    intro i N o5 hin hC hmm
    have hi : i < 8 := by omega
    refine Go.iload dX6_buy_41 rfl ?_
    refine Go.bipush (v := 8) dX6_buy_43 (by decide) ?_
    refine Go.icmp_ge 101 dX6_buy_45 rfl (fun h45 => absurd h45 (nI_ge (a := i) (b := 8) (by omega) (by omega))) (fun _ => ?_)
    refine Go.aload_n dX6_buy_48 rfl ?_
    refine Go.getR dX6_buy_49 flX6_29 (shp hG rfl) rfl ?_
    refine Go.aload_n dX6_buy_52 rfl ?_
    refine Go.getR dX6_buy_53 flX6_12 (shp hG rfl) rfl ?_
    refine Go.callVV [] dX6_buy_56 lkX6_114 imX2_begin seX2_begin cbX2_begin (k_begin hG hC hg) (shp hG rfl) rfl rfl rfl (Nat.le_of_ble_eq_true rfl) (fun M2 hr1 => ?_)
    obtain ⟨hCk, hmk, hkck, hKk⟩ := hr1
    refine Go.aload_n dX6_buy_59 rfl ?_
    refine Go.getR dX6_buy_60 flX6_29 (shp hG rfl) rfl ?_
    refine Go.getR dX6_buy_63 flX6_207 (shp hG rfl) rfl ?_
    refine Go.iload dX6_buy_66 rfl ?_
    refine Go.dup2 dX6_buy_68 rfl rfl ?_
    refine Go.iald dX6_buy_69 (shp hG rfl) (vin (by omega) (by decide)) ?_
    refine Go.iconst (v := 1) dX6_buy_70 (by decide) ?_
    refine Go.iadd dX6_buy_71 ?_
    refine Go.iast dX6_buy_72 (shp hG rfl) (vin (by omega) (by decide)) ?_
    refine Go.nmM (fun N3 eN3 => ?_)
    have hKi : KS N3 (upd (uS (gU g)) i (uS (gU g) i + 1)) (kc (gU g)) (lk (gU g)) (uE (gU g)) := by
      rw [eN3, ncl (by omega)]
      exact hKk.inc hi
    have hCi := hCk.kc (M' := N3) (by rw [eN3]; exact Same.upi _ 26 _ _ (by decide))
    refine Go.aload_n dX6_buy_73 rfl ?_
    refine Go.getR dX6_buy_74 flX6_29 (shp hG rfl) rfl ?_
    refine Go.iload_n dX6_buy_77 rfl ?_
    refine Go.callVI [] dX6_buy_78 lkX6_204 imX2_mealsLeft seX2_mealsLeft cbX2_mealsLeft (k_mealsLeft hG hKi hk) (shp hG rfl) rfl rfl rfl (Nat.le_of_ble_eq_true rfl) (fun r4 M5 hr4 => ?_)
    obtain ⟨er4, hsM5⟩ := hr4
    rw [er4]
    have hF60 : buyF (gU g) k i ≤ 60 := lastN_le _ _ _ _ _ _
    have hb60 := (buyB_le (gU g) k i).1
    show Go _ _ _ _ _ [.int (nI (buyF (gU g) k i))] _ _
    have hCj := hCi.1.kc (hsM5.mono (by decide))
    refine Go.istore (ls' := [some (.ref 0), some (.int (nI k)), some (.int (nI ((buyB (gU g) k i).1))), some (.int (optI (-1) ((buyB (gU g) k i).2))), some (.int (nI i)), some (.int (nI (buyF (gU g) k i)))]) dX6_buy_81 (Nat.le_of_ble_eq_true rfl) rfl rfl ?_
    refine Go.iload dX6_buy_83 rfl ?_
    refine Go.iload_n dX6_buy_85 rfl ?_
    refine Go.icmp_le 95 dX6_buy_86 rfl (fun h86 => ?_) (fun h86 => ?_)
    · have n86 : (buyF (gU g) k i) ≤ ((buyB (gU g) k i).1) := (nI_leI (a := (buyF (gU g) k i)) (b := ((buyB (gU g) k i).1)) (by omega) (by omega)).mp h86
      refine Go.iinc (v := nI (i + 1)) (ls' := [some (.ref 0), some (.int (nI k)), some (.int (nI ((buyB (gU g) k i).1))), some (.int (optI (-1) ((buyB (gU g) k i).2))), some (.int (nI (i + 1))), some (.int (nI (buyF (gU g) k i)))]) dX6_buy_95 rfl (nI_1 _) rfl rfl ?_
      refine Go.goto 41 dX6_buy_98 rfl ?_
      have hmj : MSame M0 M5 := (hmm.trans hmk).trans (hCi.2.trans hCj.2)
      rw [← buyB_f (u := gU g) (k := k) (n := i) (by omega)]
      exact ih (i + 1) _ _ (by omega) hCj.1 hmj
    · have n86 : ¬ (buyF (gU g) k i) ≤ ((buyB (gU g) k i).1) := fun q => h86 ((nI_leI (a := (buyF (gU g) k i)) (b := ((buyB (gU g) k i).1)) (by omega) (by omega)).mpr q)
      refine Go.iload dX6_buy_89 rfl ?_
      refine Go.istore_n (ls' := [some (.ref 0), some (.int (nI k)), some (.int (nI (buyF (gU g) k i))), some (.int (optI (-1) ((buyB (gU g) k i).2))), some (.int (nI i)), some (.int (nI (buyF (gU g) k i)))]) dX6_buy_91 (Nat.le_of_ble_eq_true rfl) rfl rfl ?_
      refine Go.iload dX6_buy_92 rfl ?_
      refine Go.istore_n (ls' := [some (.ref 0), some (.int (nI k)), some (.int (nI (buyF (gU g) k i))), some (.int (nI i)), some (.int (nI i)), some (.int (nI (buyF (gU g) k i)))]) dX6_buy_94 (Nat.le_of_ble_eq_true rfl) rfl rfl ?_
      refine Go.iinc (v := nI (i + 1)) (ls' := [some (.ref 0), some (.int (nI k)), some (.int (nI (buyF (gU g) k i))), some (.int (nI i)), some (.int (nI (i + 1))), some (.int (nI (buyF (gU g) k i)))]) dX6_buy_95 rfl (nI_1 _) rfl rfl ?_
      refine Go.goto 41 dX6_buy_98 rfl ?_
      have hmj : MSame M0 M5 := (hmm.trans hmk).trans (hCi.2.trans hCj.2)
      have e9 := buyB_t (u := gU g) (k := k) (n := i) (by omega)
      rw [show nI (buyF (gU g) k i) = nI ((buyB (gU g) k (i + 1)).1) by rw [e9], show nI i = optI (-1) ((buyB (gU g) k (i + 1)).2) by rw [e9]; rfl]
      exact ih (i + 1) _ _ (by omega) hCj.1 hmj
set_option maxRecDepth 20000 in
theorem c_buy {G : Gt} {d : Nat} {M : Mm} (hG : gS G = SHAPE) {g : Sg} (hC : CompIs M g) (hg : SgOk g) (k0 : Int32) : ExI G (d + 6) mX6_buy [.ref 0, .int k0] M (fun r M' => r = (A_buy g k0).1 ∧ CompIs M' (A_buy g k0).2 ∧ MSame M M') := by
  refine Ex.of (by decide) (Nat.le_of_ble_eq_true rfl) ?_
  show Go G (d + 6) mX6_buy 0 [some (.ref 0), some (.int k0), none, none, none, none] [] M _
  by_cases hgd : (inb k0 6) = true
  · obtain ⟨k, hk, ek⟩ := inb_ex (n := 6) hgd (by decide)
    subst ek
    have hA0 : A_buy g (nI k) = ornS g (buyB (gU g) k 8).2 := by
      rw [show A_buy g (nI k) = ornS g (buyB (gU g) (tN (nI k)) 8).2 from if_pos hgd, tN_nI (by omega)]
    rw [hA0]
    clear hA0
    refine Go.iload_n dX6_buy_0 rfl ?_
    refine Go.bipush (v := 6) dX6_buy_1 (by decide) ?_
    refine Go.callSI [] dX6_buy_3 lkX6_58 stX6_isBelow cbX6_isBelow (s_isBelow (nI k) 6) rfl rfl (Nat.le_of_ble_eq_true rfl) (fun r1 M2 hr1 => ?_)
    obtain ⟨er1, emr1⟩ := hr1
    rw [emr1]
    clear emr1 M2
    subst er1
    refine Go.eqI (y := 1) (by rw [show inb (nI k) 6 = decide (k < 6) from inb_nI (by omega) (by decide), decide_eq_true (by omega)]; rfl) ?_
    refine Go.if_ne 16 dX6_buy_6 rfl (fun _ => ?_) (fun h6 => absurd h6 (by decide))
    refine Go.aload_n dX6_buy_16 rfl ?_
    refine Go.getR dX6_buy_17 flX6_29 (shp hG rfl) rfl ?_
    refine Go.aload_n dX6_buy_20 rfl ?_
    refine Go.getR dX6_buy_21 flX6_12 (shp hG rfl) rfl ?_
    refine Go.callVV [] dX6_buy_24 lkX6_114 imX2_begin seX2_begin cbX2_begin (k_begin hG hC hg) (shp hG rfl) rfl rfl rfl (Nat.le_of_ble_eq_true rfl) (fun M4 hr3 => ?_)
    obtain ⟨hCk, hmk, hkck, hKk⟩ := hr3
    refine Go.aload_n dX6_buy_27 rfl ?_
    refine Go.getR dX6_buy_28 flX6_29 (shp hG rfl) rfl ?_
    refine Go.iload_n dX6_buy_31 rfl ?_
    refine Go.callVI [] dX6_buy_32 lkX6_204 imX2_mealsLeft seX2_mealsLeft cbX2_mealsLeft (k_mealsLeft hG hKk hk) (shp hG rfl) rfl rfl rfl (Nat.le_of_ble_eq_true rfl) (fun r5 M6 hr5 => ?_)
    obtain ⟨er5, hsM6⟩ := hr5
    rw [er5]
    have hCj := hCk.kc (hsM6.mono (by decide))
    refine Go.istore_n (ls' := [some (.ref 0), some (.int (nI k)), some (.int (nI ((buyB (gU g) k 0).1))), none, none, none]) dX6_buy_35 (Nat.le_of_ble_eq_true rfl) rfl rfl ?_
    refine Go.iconst (v := -1) dX6_buy_36 (by decide) ?_
    refine Go.istore_n (ls' := [some (.ref 0), some (.int (nI k)), some (.int (nI ((buyB (gU g) k 0).1))), some (.int ((-1))), none, none]) dX6_buy_37 (Nat.le_of_ble_eq_true rfl) rfl rfl ?_
    refine Go.iconst (v := 0) dX6_buy_38 (by decide) ?_
    refine Go.istore (ls' := [some (.ref 0), some (.int (nI k)), some (.int (nI ((buyB (gU g) k 0).1))), some (.int ((-1))), some (.int 0), none]) dX6_buy_39 (Nat.le_of_ble_eq_true rfl) rfl rfl ?_
    exact l_buyC hG hg hk 8 0 _ _ (by omega) hCj.1 (hmk.trans hCj.2)
  · refine Go.iload_n dX6_buy_0 rfl ?_
    refine Go.bipush (v := 6) dX6_buy_1 (by decide) ?_
    refine Go.callSI [] dX6_buy_3 lkX6_58 stX6_isBelow cbX6_isBelow (s_isBelow k0 6) rfl rfl (Nat.le_of_ble_eq_true rfl) (fun r1 M2 hr1 => ?_)
    obtain ⟨er1, emr1⟩ := hr1
    rw [emr1]
    clear emr1 M2
    subst er1
    refine Go.if_ne 16 dX6_buy_6 rfl (fun h6 => ?_) (fun h6 => ?_)
    · exact absurd (by simp [bi_n0.mp h6]) hgd
    · refine Go.aload_n dX6_buy_9 rfl ?_
      refine Go.ldc dX6_buy_10 kcX6_62 ?_
      refine Go.callVI [] dX6_buy_12 lkX6_63 imX6_finding seX6_finding cbX6_finding (s_finding hG (code := (-1000000001)) (q := 0) (by decide) (by decide)) (shp hG rfl) rfl rfl rfl (Nat.le_of_ble_eq_true rfl) (fun r3 M4 hr3 => ?_)
      refine Go.iret dX6_buy_15 rfl rfl ?_
      refine ⟨_, rfl, ?_⟩
      rw [show A_buy g k0 = ((-1000000001), fndS g 0) from if_neg hgd, hr3.2]
      exact ⟨hr3.1, hC.fnd⟩
set_option maxRecDepth 20000 in
theorem l_buyM {G : Gt} {d : Nat} {M0 : Mm} (hG : gS G = SHAPE) {g : Sg} (hg : SgOk g) {k : Nat} (hk : k < 6) : ∀ (n i : Nat) (N : Mm) (o5 : Option Value), i + n = 8 → ModIs N g → CSame M0 N → Go G (d + 6) mX7_buy 25 [some (.ref 49), some (.int (nI k)), some (.int (nI ((buyB (gU g) k i).1))), some (.int (optI (-1) ((buyB (gU g) k i).2))), some (.int (nI i)), o5] [] N (fun v M' => ∃ r, v = some (.int r) ∧ r = (ornS g (buyB (gU g) k 8).2).1 ∧ ModIs M' (ornS g (buyB (gU g) k 8).2).2 ∧ CSame M0 M') := by
  intro n
  induction n with
  | zero =>
    intro i N o5 hin hC hmm
    refine Go.iload dX7_buy_25 rfl ?_
    refine Go.bipush (v := 8) dX7_buy_27 (by decide) ?_
    refine Go.icmp_ge 93 dX7_buy_29 rfl (fun _ => ?_) (fun h29 => absurd (nI_le (a := 8) (b := i) (by omega) (by omega)) h29)
    have e9 : i = 8 := by omega
    subst e9
    have hb8 := (buyB_le (gU g) k 8).2
    generalize (buyB (gU g) k 8).2 = o at *
    rcases o with _ | v
    · show Go _ _ _ _ [_, _, _, some (.int (-1)), _, _] _ _ _
      refine Go.iload_n dX7_buy_93 rfl ?_
      refine Go.if_ge 106 dX7_buy_94 rfl (fun h94 => absurd h94 (by decide)) (fun _ => ?_)
      refine Go.aload_n dX7_buy_97 rfl ?_
      refine Go.ldc dX7_buy_98 kcX7_127 ?_
      refine Go.callVI [] dX7_buy_100 lkX7_104 imX7_finds seX7_finds cbX7_finds (m_finds hG (code := (-1000000004)) (q := 3) (by decide) (by decide)) (shp hG rfl) rfl rfl rfl (Nat.le_of_ble_eq_true rfl) (fun r1 M2 hr1 => ?_)
      refine Go.goto 107 dX7_buy_103 rfl ?_
      refine Go.iret dX7_buy_107 rfl rfl ?_
      refine ⟨_, rfl, ?_⟩
      rw [hr1.2]
      exact ⟨hr1.1, hC.fnd.1, hmm.trans hC.fnd.2⟩
    · have hv8 := hb8 v rfl
      show Go _ _ _ _ [_, _, _, some (.int (nI v)), _, _] _ _ _
      refine Go.iload_n dX7_buy_93 rfl ?_
      refine Go.if_ge 106 dX7_buy_94 rfl (fun _ => ?_) (fun h94 => absurd (nI_pos' (by omega)) h94)
      refine Go.iload_n dX7_buy_106 rfl ?_
      refine Go.iret dX7_buy_107 rfl rfl ?_
      exact ⟨_, rfl, rfl, hC, hmm⟩
  | succ n ih =>
    intro i N o5 hin hC hmm
    have hi : i < 8 := by omega
    have hn30 := hg.1.1
    refine Go.iload dX7_buy_25 rfl ?_
    refine Go.bipush (v := 8) dX7_buy_27 (by decide) ?_
    refine Go.icmp_ge 93 dX7_buy_29 rfl (fun h29 => absurd h29 (nI_ge (a := i) (b := 8) (by omega) (by omega))) (fun _ => ?_)
    refine Go.aload_n dX7_buy_32 rfl ?_
    refine Go.getR dX7_buy_33 flX7_7 (shp hG rfl) rfl ?_
    refine Go.iload dX7_buy_36 rfl ?_
    refine Go.dup2 dX7_buy_38 rfl rfl ?_
    refine Go.iald dX7_buy_39 (shp hG rfl) (vin (by omega) (by decide)) ?_
    refine Go.iconst (v := 1) dX7_buy_40 (by decide) ?_
    refine Go.iadd dX7_buy_41 ?_
    refine Go.iast dX7_buy_42 (shp hG rfl) (vin (by omega) (by decide)) ?_
    refine Go.nmM (fun N1 eN1 => ?_)
    have eI : N1 = upi N 50 i (N.1 50 i + 1) := by rw [eN1, ncl (by omega)]
    have rI : ∀ a, a ≠ 50 → N1.1 a = N.1 a := fun a ha => by rw [eI]; exact rd_ne ha
    have hBi : BkM N1 (uN (gU g)) (uK (gU g)) (uX (gU g)) (uE (gU g)) := (hC.1.bk hg.1).same (by rw [rI 49 (by decide)]) (rI 52 (by decide)) (rI 53 (by decide)) (rI 54 (by decide))
    have hSi : MdS N1 := hC.2.2.2.2.2.2.2.same (rI 57 (by decide)) (rI 58 (by decide))
    refine Go.aload_n dX7_buy_43 rfl ?_
    refine Go.iload_n dX7_buy_44 rfl ?_
    refine Go.callVI [] dX7_buy_45 lkX7_203 imX7_lastsBy seX7_lastsBy cbX7_lastsBy (m_lastsBy hG hBi hSi hn30 hk) (shp hG rfl) rfl rfl rfl (Nat.le_of_ble_eq_true rfl) (fun r2 M3 hr2 => ?_)
    obtain ⟨er2, hqM3⟩ := hr2
    have hF60 : buyF (gU g) k i ≤ 60 := lastN_le _ _ _ _ _ _
    have hb60 := (buyB_le (gU g) k i).1
    rw [show r2 = nI (buyF (gU g) k i) from by
      rw [er2]
      unfold buyF
      refine congrArg nI (lastN_congr (fun y => ?_) _ _ 60 _ (fun t ht => ?_))
      · unfold ml8 ml13
        rw [rI 51 (by decide)]
        exact ml_lk hC.1 y
      · rw [eI, rd_eq]
        unfold upd
        split
        · rw [hC.1.1 i hi]
        · exact hC.1.1 t ht]
    refine Go.istore (ls' := [some (.ref 49), some (.int (nI k)), some (.int (nI ((buyB (gU g) k i).1))), some (.int (optI (-1) ((buyB (gU g) k i).2))), some (.int (nI i)), some (.int (nI (buyF (gU g) k i)))]) dX7_buy_48 (Nat.le_of_ble_eq_true rfl) rfl rfl ?_
    refine Go.aload_n dX7_buy_50 rfl ?_
    refine Go.getR dX7_buy_51 flX7_7 (shp hG rfl) rfl ?_
    refine Go.iload dX7_buy_54 rfl ?_
    refine Go.dup2 dX7_buy_56 rfl rfl ?_
    refine Go.iald dX7_buy_57 (shp hG rfl) (vin (by omega) (by decide)) ?_
    refine Go.iconst (v := 1) dX7_buy_58 (by decide) ?_
    refine Go.isub dX7_buy_59 ?_
    refine Go.iast dX7_buy_60 (shp hG rfl) (vin (by omega) (by decide)) ?_
    refine Go.nmM (fun N4 eN4 => ?_)
    have hqN : QM (uN (gU g)) N N4 := by
      have z := hqM3
      have e5 : N4.1 50 = N.1 50 := by
        rw [eN4, ncl (by omega), rd_eq, z.1.1 50 (by decide), eI, rd_eq]
        exact upd_back (by simp [upd])
      have r : ∀ a, a ≠ 50 → N4.1 a = M3.1 a := fun a ha => by rw [eN4]; exact rd_ne ha
      refine ⟨⟨fun a ha => ?_, by rw [eN4, rd_l, z.1.2, eI, rd_l]⟩, fun j hj => by rw [r 49 (by decide), z.2.1 j hj, rI 49 (by decide)], fun e he => by rw [r 53 (by decide), r 54 (by decide), r 55 (by decide), (z.2.2 e he).1, (z.2.2 e he).2.1, (z.2.2 e he).2.2, rI 53 (by decide), rI 54 (by decide), rI 55 (by decide)]; exact ⟨rfl, rfl, rfl⟩⟩
      by_cases q : a = 50
      · rw [q, e5]
      · rw [r a q, z.1.1 a ha, rI a q]
    have hCj := hC.qm hqN
    refine Go.iload dX7_buy_61 rfl ?_
    refine Go.iload_n dX7_buy_63 rfl ?_
    refine Go.icmp_le 72 dX7_buy_64 rfl (fun h64 => ?_) (fun h64 => ?_)
    · have n64 : (buyF (gU g) k i) ≤ ((buyB (gU g) k i).1) := (nI_leI (a := (buyF (gU g) k i)) (b := ((buyB (gU g) k i).1)) (by omega) (by omega)).mp h64
      refine Go.iload_n dX7_buy_72 rfl ?_
      refine Go.istore_n (ls' := [some (.ref 49), some (.int (nI k)), some (.int (nI ((buyB (gU g) k i).1))), some (.int (optI (-1) ((buyB (gU g) k i).2))), some (.int (nI i)), some (.int (nI (buyF (gU g) k i)))]) dX7_buy_73 (Nat.le_of_ble_eq_true rfl) rfl rfl ?_
      refine Go.iload dX7_buy_74 rfl ?_
      refine Go.iload_n dX7_buy_76 rfl ?_
      refine Go.icmp_le 85 dX7_buy_77 rfl (fun _ => ?_) (fun h77 => absurd (h64) h77)
      refine Go.iload_n dX7_buy_85 rfl ?_
      refine Go.istore_n (ls' := [some (.ref 49), some (.int (nI k)), some (.int (nI ((buyB (gU g) k i).1))), some (.int (optI (-1) ((buyB (gU g) k i).2))), some (.int (nI i)), some (.int (nI (buyF (gU g) k i)))]) dX7_buy_86 (Nat.le_of_ble_eq_true rfl) rfl rfl ?_
      refine Go.iinc (v := nI (i + 1)) (ls' := [some (.ref 49), some (.int (nI k)), some (.int (nI ((buyB (gU g) k i).1))), some (.int (optI (-1) ((buyB (gU g) k i).2))), some (.int (nI (i + 1))), some (.int (nI (buyF (gU g) k i)))]) dX7_buy_87 rfl (nI_1 _) rfl rfl ?_
      refine Go.goto 25 dX7_buy_90 rfl ?_
      have hmj : CSame M0 N4 := hmm.trans hCj.2
      rw [← buyB_f (u := gU g) (k := k) (n := i) (by omega)]
      exact ih (i + 1) _ _ (by omega) hCj.1 hmj
    · have n64 : ¬ (buyF (gU g) k i) ≤ ((buyB (gU g) k i).1) := fun q => h64 ((nI_leI (a := (buyF (gU g) k i)) (b := ((buyB (gU g) k i).1)) (by omega) (by omega)).mpr q)
      refine Go.iload dX7_buy_67 rfl ?_
      refine Go.goto 73 dX7_buy_69 rfl ?_
      refine Go.istore_n (ls' := [some (.ref 49), some (.int (nI k)), some (.int (nI ((buyB (gU g) k i).1))), some (.int (nI i)), some (.int (nI i)), some (.int (nI (buyF (gU g) k i)))]) dX7_buy_73 (Nat.le_of_ble_eq_true rfl) rfl rfl ?_
      refine Go.iload dX7_buy_74 rfl ?_
      refine Go.iload_n dX7_buy_76 rfl ?_
      refine Go.icmp_le 85 dX7_buy_77 rfl (fun h77 => absurd h77 (h64)) (fun _ => ?_)
      refine Go.iload dX7_buy_80 rfl ?_
      refine Go.goto 86 dX7_buy_82 rfl ?_
      refine Go.istore_n (ls' := [some (.ref 49), some (.int (nI k)), some (.int (nI (buyF (gU g) k i))), some (.int (nI i)), some (.int (nI i)), some (.int (nI (buyF (gU g) k i)))]) dX7_buy_86 (Nat.le_of_ble_eq_true rfl) rfl rfl ?_
      refine Go.iinc (v := nI (i + 1)) (ls' := [some (.ref 49), some (.int (nI k)), some (.int (nI (buyF (gU g) k i))), some (.int (nI i)), some (.int (nI (i + 1))), some (.int (nI (buyF (gU g) k i)))]) dX7_buy_87 rfl (nI_1 _) rfl rfl ?_
      refine Go.goto 25 dX7_buy_90 rfl ?_
      have hmj : CSame M0 N4 := hmm.trans hCj.2
      have e9 := buyB_t (u := gU g) (k := k) (n := i) (by omega)
      rw [show nI (buyF (gU g) k i) = nI ((buyB (gU g) k (i + 1)).1) by rw [e9], show nI i = optI (-1) ((buyB (gU g) k (i + 1)).2) by rw [e9]; rfl]
      exact ih (i + 1) _ _ (by omega) hCj.1 hmj
set_option maxRecDepth 20000 in
theorem m_buy {G : Gt} {d : Nat} {M : Mm} (hG : gS G = SHAPE) {g : Sg} (hC : ModIs M g) (hg : SgOk g) (k0 : Int32) : ExI G (d + 6) mX7_buy [.ref 49, .int k0] M (fun r M' => r = (A_buy g k0).1 ∧ ModIs M' (A_buy g k0).2 ∧ CSame M M') := by
  refine Ex.of (by decide) (Nat.le_of_ble_eq_true rfl) ?_
  have hB := hC.1.bk hg.1
  have hn30 := hg.1.1
  show Go G (d + 6) mX7_buy 0 [some (.ref 49), some (.int k0), none, none, none, none] [] M _
  by_cases hgd : (inb k0 6) = true
  · obtain ⟨k, hk, ek⟩ := inb_ex (n := 6) hgd (by decide)
    subst ek
    have hA0 : A_buy g (nI k) = ornS g (buyB (gU g) k 8).2 := by
      rw [show A_buy g (nI k) = ornS g (buyB (gU g) (tN (nI k)) 8).2 from if_pos hgd, tN_nI (by omega)]
    rw [hA0]
    clear hA0
    refine Go.iload_n dX7_buy_0 rfl ?_
    refine Go.callSI [] dX7_buy_1 lkX7_159 stX7_isKind cbX7_isKind (m_isKind (nI k)) rfl rfl (Nat.le_of_ble_eq_true rfl) (fun r1 M2 hr1 => ?_)
    obtain ⟨er1, emr1⟩ := hr1
    rw [emr1]
    clear emr1 M2
    subst er1
    refine Go.eqI (y := 1) (by rw [inI_kind, hgd]; rfl) ?_
    refine Go.if_ne 14 dX7_buy_4 rfl (fun _ => ?_) (fun h4 => absurd h4 (by decide))
    refine Go.aload_n dX7_buy_14 rfl ?_
    refine Go.iload_n dX7_buy_15 rfl ?_
    refine Go.callVI [] dX7_buy_16 lkX7_203 imX7_lastsBy seX7_lastsBy cbX7_lastsBy (m_lastsBy hG hB hC.2.2.2.2.2.2.2 hn30 hk) (shp hG rfl) rfl rfl rfl (Nat.le_of_ble_eq_true rfl) (fun r3 M4 hr3 => ?_)
    obtain ⟨er3, hqM4⟩ := hr3
    rw [show r3 = nI ((buyB (gU g) k 0).1) from by
      rw [er3, lastN_congr (ml_lk hC.1) _ _ 60 _ hC.1.1]
      rfl]
    have hCj := hC.qm hqM4
    refine Go.istore_n (ls' := [some (.ref 49), some (.int (nI k)), some (.int (nI ((buyB (gU g) k 0).1))), none, none, none]) dX7_buy_19 (Nat.le_of_ble_eq_true rfl) rfl rfl ?_
    refine Go.iconst (v := -1) dX7_buy_20 (by decide) ?_
    refine Go.istore_n (ls' := [some (.ref 49), some (.int (nI k)), some (.int (nI ((buyB (gU g) k 0).1))), some (.int ((-1))), none, none]) dX7_buy_21 (Nat.le_of_ble_eq_true rfl) rfl rfl ?_
    refine Go.iconst (v := 0) dX7_buy_22 (by decide) ?_
    refine Go.istore (ls' := [some (.ref 49), some (.int (nI k)), some (.int (nI ((buyB (gU g) k 0).1))), some (.int ((-1))), some (.int 0), none]) dX7_buy_23 (Nat.le_of_ble_eq_true rfl) rfl rfl ?_
    exact l_buyM hG hg hk 8 0 _ _ (by omega) hCj.1 hCj.2
  · refine Go.iload_n dX7_buy_0 rfl ?_
    refine Go.callSI [] dX7_buy_1 lkX7_159 stX7_isKind cbX7_isKind (m_isKind k0) rfl rfl (Nat.le_of_ble_eq_true rfl) (fun r1 M2 hr1 => ?_)
    obtain ⟨er1, emr1⟩ := hr1
    rw [emr1]
    clear emr1 M2
    subst er1
    refine Go.if_ne 14 dX7_buy_4 rfl (fun h4 => ?_) (fun h4 => ?_)
    · exact absurd (by rw [← inI_kind, bi_n0.mp h4]) hgd
    · refine Go.aload_n dX7_buy_7 rfl ?_
      refine Go.ldc dX7_buy_8 kcX7_85 ?_
      refine Go.callVI [] dX7_buy_10 lkX7_104 imX7_finds seX7_finds cbX7_finds (m_finds hG (code := (-1000000001)) (q := 0) (by decide) (by decide)) (shp hG rfl) rfl rfl rfl (Nat.le_of_ble_eq_true rfl) (fun r3 M4 hr3 => ?_)
      refine Go.iret dX7_buy_13 rfl rfl ?_
      refine ⟨_, rfl, ?_⟩
      rw [show A_buy g k0 = ((-1000000001), fndS g 0) from if_neg hgd, hr3.2]
      exact ⟨hr3.1, hC.fnd⟩
