def lstB (p : Nat → Bool) : Nat → Nat
  | 0 => 0
  | n + 1 => if p n then n else lstB p n
theorem lstB_lt (p : Nat → Bool) : ∀ n, lstB p n ≤ n - 1
  | 0 => Nat.le_refl _
  | n + 1 => by
    have := lstB_lt p n
    rw [lstB]
    split <;> omega
theorem cnt_zero {p : Nat → Bool} : ∀ n, cntN p n = 0 → ∀ e, e < n → p e = false
  | n + 1, h, e, he => by
    rw [cnt_s] at h
    have h0 : cntN p n = 0 := by omega
    by_cases q : e = n
    · subst q
      cases hp : p e with
      | false => rfl
      | true => rw [hp, if_pos rfl] at h; omega
    · exact cnt_zero n h0 e (by omega)
theorem cnt_one {p : Nat → Bool} : ∀ n, cntN p n = 1 → ∀ e, e < n → (p e = true ↔ e = lstB p n)
  | n + 1, h, e, he => by
    rw [cnt_s] at h
    rw [lstB]
    cases hp : p n with
    | true =>
      rw [hp, if_pos rfl] at h
      rw [if_pos rfl]
      have h0 := cnt_zero n (p := p) (by omega)
      constructor
      · intro q
        by_cases e1 : e = n
        · exact e1
        · rw [h0 e (by omega)] at q; cases q
      · intro q; rw [q]; exact hp
    | false =>
      rw [hp, if_neg (by decide), Nat.add_zero] at h
      rw [if_neg (by decide)]
      have ih := cnt_one n h
      by_cases e1 : e = n
      · subst e1
        rw [hp]
        have := lstB_lt p e
        constructor
        · intro q; cases q
        · intro q
          have h1 : 0 < e := by
            cases e with
            | zero => cases h
            | succ e => omega
          omega
      · exact ih e (by omega)
def alP (u : Bu) (e p : Nat) : Bool := barB (uK u) (uX u) (uE u) (dishN p) e && decide (kc u (dishN p) = 1)
theorem kc_cnt {u : Bu} {p : Nat} (hp : p < 1840) : kc u (dishN p) = cntN (barB (uK u) (uX u) (uE u) (dishN p)) (uN u) := by
  unfold kc cB
  rw [if_pos (dishN_ok hp)]
/-- the table of what each entry bars alone, up to a place -/
def AlT (N : Mm) (u : Bu) (q : Nat) : Prop := ∀ e, e < uN u → N.1 60 e = nI (cntN (alP u e) q)
theorem AlT.step {N : Mm} {u : Bu} {q : Nat} (h : AlT N u q) (hq : q < 1840) {v : Int32} (hv : v = if kc u (dishN q) = 1 then 1 else 0) : AlT (upi N 60 (lstB (barB (uK u) (uX u) (uE u) (dishN q)) (uN u)) (N.1 60 (lstB (barB (uK u) (uX u) (uE u) (dishN q)) (uN u)) + v)) u (q + 1) := by
  intro e he
  rw [rd_eq]
  unfold upd
  by_cases hl : e = lstB (barB (uK u) (uX u) (uE u) (dishN q)) (uN u)
  · rw [if_pos hl, ← hl, h e he, hv]
    by_cases h1 : kc u (dishN q) = 1
    · have hb : alP u e q = true := by
        unfold alP
        rw [(cnt_one _ ((kc_cnt hq).symm.trans h1) e he).mpr hl, decide_eq_true h1]
        rfl
      rw [if_pos h1]
      exact (nI_add _ 1).trans (cnt_t hb)
    · have hb : alP u e q = false := by
        unfold alP
        rw [decide_eq_false h1, Bool.and_false]
      rw [if_neg h1]
      exact (nI_add _ 0).trans (cnt_f hb)
  · rw [if_neg hl, h e he]
    refine cnt_f ?_
    unfold alP
    by_cases h1 : kc u (dishN q) = 1
    · have := cnt_one _ ((kc_cnt hq).symm.trans h1) e he
      cases hb : barB (uK u) (uX u) (uE u) (dishN q) e with
      | false => rfl
      | true => exact absurd (this.mp hb) hl
    · rw [decide_eq_false h1, Bool.and_false]
set_option maxRecDepth 20000 in
theorem l_keen2 {G : Gt} {d : Nat} {M0 : Mm} (hG : gS G = SHAPE) {g : Sg} (hg : SgOk g) {q : Nat} (hq : q < 1840) {N : Mm} (hC : ModIs N g) (hout : ∀ o5 : Option Value, Go G (d + 2) mX7_keenest 106 [some (.ref 49), some (.int (nI q)), some (.int (nI (cntN (barB (uK (gU g)) (uX (gU g)) (uE (gU g)) (dishN q)) (uN (gU g))))), some (.int (nI (lstB (barB (uK (gU g)) (uX (gU g)) (uE (gU g)) (dishN q)) (uN (gU g))))), some (.int (nI (uN (gU g)))), o5] [] N (fun v M' => ∃ r, v = some (.int r) ∧ r = (A_keenest g).1 ∧ ModIs M' (A_keenest g).2 ∧ CSame M0 M')) : ∀ (n i : Nat) (o5 : Option Value), i + n = (uN (gU g)) → Go G (d + 2) mX7_keenest 53 [some (.ref 49), some (.int (nI q)), some (.int (nI (cntN (barB (uK (gU g)) (uX (gU g)) (uE (gU g)) (dishN q)) i))), some (.int (nI (lstB (barB (uK (gU g)) (uX (gU g)) (uE (gU g)) (dishN q)) i))), some (.int (nI i)), o5] [] N (fun v M' => ∃ r, v = some (.int r) ∧ r = (A_keenest g).1 ∧ ModIs M' (A_keenest g).2 ∧ CSame M0 M') := by
  intro n
  induction n with
  | zero =>
    intro i o5 hin
    have hB := hC.1.bk hg.1
    have hn30 := hg.1.1
    refine Go.iload dX7_keenest_53 rfl ?_
    refine Go.aload_n dX7_keenest_55 rfl ?_
    refine Go.getI dX7_keenest_56 flX7_93 (shp hG rfl) rfl ?_
    refine Go.eqI (y := nI (uN (gU g))) (hB.2.2.1) ?_
    refine Go.icmp_ge 106 dX7_keenest_59 rfl (fun _ => ?_) (fun h59 => absurd (nI_le (a := uN (gU g)) (b := i) (by omega) (by omega)) h59)
    have e9 : i = uN (gU g) := by omega
    subst e9
    exact hout o5
  | succ n ih =>
    intro i o5 hin
    have hi : i < (uN (gU g)) := by omega
    have hB := hC.1.bk hg.1
    have hn30 := hg.1.1
    refine Go.iload dX7_keenest_53 rfl ?_
    refine Go.aload_n dX7_keenest_55 rfl ?_
    refine Go.getI dX7_keenest_56 flX7_93 (shp hG rfl) rfl ?_
    refine Go.eqI (y := nI (uN (gU g))) (hB.2.2.1) ?_
    refine Go.icmp_ge 106 dX7_keenest_59 rfl (fun h59 => absurd h59 (nI_ge (a := i) (b := uN (gU g)) (by omega) (by omega))) (fun _ => ?_)
    refine Go.aload_n dX7_keenest_62 rfl ?_
    refine Go.iload dX7_keenest_63 rfl ?_
    refine Go.aload_n dX7_keenest_65 rfl ?_
    refine Go.iload_n dX7_keenest_66 rfl ?_
    refine Go.callVI [.int (nI i), .ref 49] dX7_keenest_67 lkX7_150 imX7_dishAt seX7_dishAt cbX7_dishAt (m_dishAt hG hC.2.2.2.2.2.2.2 (p := q) (by omega)) (shp hG rfl) rfl rfl rfl (Nat.le_of_ble_eq_true rfl) (fun r1 M2 hr1 => ?_)
    obtain ⟨er1, emr1⟩ := hr1
    rw [emr1]
    clear emr1 M2
    subst er1
    refine Go.callVI [] dX7_keenest_70 lkX7_124 imX7_barsIt seX7_barsIt cbX7_barsIt (m_barsIt hG hB (e := i) (x := dishN q) (by omega) (dishN_ok (by omega))) (shp hG rfl) rfl rfl rfl (Nat.le_of_ble_eq_true rfl) (fun r3 M4 hr3 => ?_)
    obtain ⟨er3, emr3⟩ := hr3
    rw [emr3]
    clear emr3 M4
    subst er3
    refine Go.istore (ls' := [some (.ref 49), some (.int (nI q)), some (.int (nI (cntN (barB (uK (gU g)) (uX (gU g)) (uE (gU g)) (dishN q)) i))), some (.int (nI (lstB (barB (uK (gU g)) (uX (gU g)) (uE (gU g)) (dishN q)) i))), some (.int (nI i)), some (.int (bi (barB (uK (gU g)) (uX (gU g)) (uE (gU g)) (dishN q) i)))]) dX7_keenest_73 (Nat.le_of_ble_eq_true rfl) rfl rfl ?_
    refine Go.iload_n dX7_keenest_75 rfl ?_
    refine Go.iload dX7_keenest_76 rfl ?_
    refine Go.if_eq 85 dX7_keenest_78 rfl (fun h78 => ?_) (fun h78 => ?_)
    · refine Go.iconst (v := 0) dX7_keenest_85 (by decide) ?_
      refine Go.iadd dX7_keenest_86 ?_
      refine Go.eqI (y := nI (cntN (barB (uK (gU g)) (uX (gU g)) (uE (gU g)) (dishN q)) i + 0)) (nI_add _ _) ?_
      refine Go.istore_n (ls' := [some (.ref 49), some (.int (nI q)), some (.int (nI (cntN (barB (uK (gU g)) (uX (gU g)) (uE (gU g)) (dishN q)) i + 0))), some (.int (nI (lstB (barB (uK (gU g)) (uX (gU g)) (uE (gU g)) (dishN q)) i))), some (.int (nI i)), some (.int (bi (barB (uK (gU g)) (uX (gU g)) (uE (gU g)) (dishN q) i)))]) dX7_keenest_87 (Nat.le_of_ble_eq_true rfl) rfl rfl ?_
      refine Go.iload dX7_keenest_88 rfl ?_
      refine Go.if_eq 98 dX7_keenest_90 rfl (fun _ => ?_) (fun h90 => absurd (h78) h90)
      refine Go.iload_n dX7_keenest_98 rfl ?_
      refine Go.istore_n (ls' := [some (.ref 49), some (.int (nI q)), some (.int (nI (cntN (barB (uK (gU g)) (uX (gU g)) (uE (gU g)) (dishN q)) i + 0))), some (.int (nI (lstB (barB (uK (gU g)) (uX (gU g)) (uE (gU g)) (dishN q)) i))), some (.int (nI i)), some (.int (bi (barB (uK (gU g)) (uX (gU g)) (uE (gU g)) (dishN q) i)))]) dX7_keenest_99 (Nat.le_of_ble_eq_true rfl) rfl rfl ?_
      refine Go.iinc (v := nI (i + 1)) (ls' := [some (.ref 49), some (.int (nI q)), some (.int (nI (cntN (barB (uK (gU g)) (uX (gU g)) (uE (gU g)) (dishN q)) i + 0))), some (.int (nI (lstB (barB (uK (gU g)) (uX (gU g)) (uE (gU g)) (dishN q)) i))), some (.int (nI (i + 1))), some (.int (bi (barB (uK (gU g)) (uX (gU g)) (uE (gU g)) (dishN q) i)))]) dX7_keenest_100 rfl (nI_1 _) rfl rfl ?_
      refine Go.goto 53 dX7_keenest_103 rfl ?_
      rw [show nI (cntN (barB (uK (gU g)) (uX (gU g)) (uE (gU g)) (dishN q)) i + 0) = nI (cntN (barB (uK (gU g)) (uX (gU g)) (uE (gU g)) (dishN q)) (i + 1)) from cnt_f (bi_0.mp h78), show nI (lstB (barB (uK (gU g)) (uX (gU g)) (uE (gU g)) (dishN q)) i) = nI (lstB (barB (uK (gU g)) (uX (gU g)) (uE (gU g)) (dishN q)) (i + 1)) from by rw [lstB, if_neg (by rw [bi_0.mp h78]; decide)]]
      exact ih (i + 1) _ (by omega)
    · refine Go.iconst (v := 1) dX7_keenest_81 (by decide) ?_
      refine Go.goto 86 dX7_keenest_82 rfl ?_
      refine Go.iadd dX7_keenest_86 ?_
      refine Go.eqI (y := nI (cntN (barB (uK (gU g)) (uX (gU g)) (uE (gU g)) (dishN q)) i + 1)) (nI_add _ _) ?_
      refine Go.istore_n (ls' := [some (.ref 49), some (.int (nI q)), some (.int (nI (cntN (barB (uK (gU g)) (uX (gU g)) (uE (gU g)) (dishN q)) i + 1))), some (.int (nI (lstB (barB (uK (gU g)) (uX (gU g)) (uE (gU g)) (dishN q)) i))), some (.int (nI i)), some (.int (bi (barB (uK (gU g)) (uX (gU g)) (uE (gU g)) (dishN q) i)))]) dX7_keenest_87 (Nat.le_of_ble_eq_true rfl) rfl rfl ?_
      refine Go.iload dX7_keenest_88 rfl ?_
      refine Go.if_eq 98 dX7_keenest_90 rfl (fun h90 => absurd h90 (h78)) (fun _ => ?_)
      refine Go.iload dX7_keenest_93 rfl ?_
      refine Go.goto 99 dX7_keenest_95 rfl ?_
      refine Go.istore_n (ls' := [some (.ref 49), some (.int (nI q)), some (.int (nI (cntN (barB (uK (gU g)) (uX (gU g)) (uE (gU g)) (dishN q)) i + 1))), some (.int (nI i)), some (.int (nI i)), some (.int (bi (barB (uK (gU g)) (uX (gU g)) (uE (gU g)) (dishN q) i)))]) dX7_keenest_99 (Nat.le_of_ble_eq_true rfl) rfl rfl ?_
      refine Go.iinc (v := nI (i + 1)) (ls' := [some (.ref 49), some (.int (nI q)), some (.int (nI (cntN (barB (uK (gU g)) (uX (gU g)) (uE (gU g)) (dishN q)) i + 1))), some (.int (nI i)), some (.int (nI (i + 1))), some (.int (bi (barB (uK (gU g)) (uX (gU g)) (uE (gU g)) (dishN q) i)))]) dX7_keenest_100 rfl (nI_1 _) rfl rfl ?_
      refine Go.goto 53 dX7_keenest_103 rfl ?_
      rw [show nI (cntN (barB (uK (gU g)) (uX (gU g)) (uE (gU g)) (dishN q)) i + 1) = nI (cntN (barB (uK (gU g)) (uX (gU g)) (uE (gU g)) (dishN q)) (i + 1)) from cnt_t (bi_n0.mp h78), show nI i = nI (lstB (barB (uK (gU g)) (uX (gU g)) (uE (gU g)) (dishN q)) (i + 1)) from by rw [lstB, if_pos (bi_n0.mp h78)]]
      exact ih (i + 1) _ (by omega)
theorem ModIs.al {M M' : Mm} {g : Sg} (h : ModIs M g) (hs : Same [60] M M') : ModIs M' g ∧ CSame M M' := by
  obtain ⟨h1, h2, h3, h4, h5, h6, h7, h8⟩ := h
  have r : ∀ a, a ≠ 60 → M'.1 a = M.1 a := fun a ha => hs.1 a (by simp [ha])
  refine ⟨⟨?_, by rw [r 49 (by decide)]; exact h2, fun k => (h3 k).same (r 70 (by decide)), by rw [r 49 (by decide)]; exact h4, fun i hi => by rw [r 65 (by decide)]; exact h5 i hi, fun s hs4 => by rw [r 66 (by decide), r 67 (by decide), hs.2]; exact h6 s hs4, fun j hj => by rw [r 56 (by decide)]; exact h7 j hj, h8.same (r 57 (by decide)) (r 58 (by decide))⟩, hs.cs (by decide)⟩
  unfold BuM at h1 ⊢
  rw [r 49 (by decide), r 50 (by decide), r 51 (by decide), r 52 (by decide), r 53 (by decide), r 54 (by decide), r 55 (by decide)]
  exact h1
set_option maxRecDepth 20000 in
theorem l_keen3 {G : Gt} {d : Nat} {M0 : Mm} (hG : gS G = SHAPE) {g : Sg} (hg : SgOk g) (hout : ∀ (N : Mm) (o2 o3 o4 o5 : Option Value), ModIs N g → CSame M0 N → AlT N (gU g) 1840 → Go G (d + 2) mX7_keenest 131 [some (.ref 49), some (.int (nI 1840)), o2, o3, o4, o5] [] N (fun v M' => ∃ r, v = some (.int r) ∧ r = (A_keenest g).1 ∧ ModIs M' (A_keenest g).2 ∧ CSame M0 M')) : ∀ (n i : Nat) (N : Mm) (o2 o3 o4 o5 : Option Value), i + n = 1840 → ModIs N g → CSame M0 N → AlT N (gU g) i → Go G (d + 2) mX7_keenest 39 [some (.ref 49), some (.int (nI i)), o2, o3, o4, o5] [] N (fun v M' => ∃ r, v = some (.int r) ∧ r = (A_keenest g).1 ∧ ModIs M' (A_keenest g).2 ∧ CSame M0 M') := by
  intro n
  induction n with
  | zero =>
    intro i N o2 o3 o4 o5 hin hC hmm hA
    have hn30 := hg.1.1
    refine Go.iload_n dX7_keenest_39 rfl ?_
    refine Go.sipush (v := 1840) dX7_keenest_40 (by decide) ?_
    refine Go.icmp_ge 131 dX7_keenest_43 rfl (fun _ => ?_) (fun h43 => absurd (nI_le (a := 1840) (b := i) (by omega) (by omega)) h43)
    have e9 : i = 1840 := by omega
    subst e9
    exact hout N o2 o3 o4 o5 hC hmm hA
  | succ n ih =>
    intro i N o2 o3 o4 o5 hin hC hmm hA
    have hi : i < 1840 := by omega
    have hn30 := hg.1.1
    refine Go.iload_n dX7_keenest_39 rfl ?_
    refine Go.sipush (v := 1840) dX7_keenest_40 (by decide) ?_
    refine Go.icmp_ge 131 dX7_keenest_43 rfl (fun h43 => absurd h43 (nI_ge (a := i) (b := 1840) (by omega) (by omega))) (fun _ => ?_)
    refine Go.iconst (v := 0) dX7_keenest_46 (by decide) ?_
    refine Go.istore_n (ls' := [some (.ref 49), some (.int (nI i)), some (.int 0), o3, o4, o5]) dX7_keenest_47 (Nat.le_of_ble_eq_true rfl) rfl rfl ?_
    refine Go.iconst (v := 0) dX7_keenest_48 (by decide) ?_
    refine Go.istore_n (ls' := [some (.ref 49), some (.int (nI i)), some (.int 0), some (.int 0), o4, o5]) dX7_keenest_49 (Nat.le_of_ble_eq_true rfl) rfl rfl ?_
    refine Go.iconst (v := 0) dX7_keenest_50 (by decide) ?_
    refine Go.istore (ls' := [some (.ref 49), some (.int (nI i)), some (.int 0), some (.int 0), some (.int 0), o5]) dX7_keenest_51 (Nat.le_of_ble_eq_true rfl) rfl rfl ?_
    refine l_keen2 (q := i) hG hg (by omega) hC (fun o5 => ?_) (uN (gU g)) 0 _ (by omega)
    have hlb := lstB_lt (barB (uK (gU g)) (uX (gU g)) (uE (gU g)) (dishN i)) (uN (gU g))
    have hcn := cnt_le (barB (uK (gU g)) (uX (gU g)) (uE (gU g)) (dishN i)) (uN (gU g))
    by_cases n115 : cntN (barB (uK (gU g)) (uX (gU g)) (uE (gU g)) (dishN i)) (uN (gU g)) = 1
    · skip
      refine Go.aload_n dX7_keenest_106 rfl ?_
      refine Go.getR dX7_keenest_107 flX7_41 (shp hG rfl) rfl ?_
      refine Go.iload_n dX7_keenest_110 rfl ?_
      refine Go.dup2 dX7_keenest_111 rfl rfl ?_
      refine Go.iald dX7_keenest_112 (shp hG rfl) (vin (by omega) (by decide)) ?_
      refine Go.iload_n dX7_keenest_113 rfl ?_
      refine Go.iconst (v := 1) dX7_keenest_114 (by decide) ?_
      refine Go.icmp_ne 122 dX7_keenest_115 rfl (fun h115 => absurd (by rw [n115]; rfl) h115) (fun _ => ?_)
      refine Go.iconst (v := 1) dX7_keenest_118 (by decide) ?_
      refine Go.goto 123 dX7_keenest_119 rfl ?_
      refine Go.iadd dX7_keenest_123 ?_
      refine Go.iast dX7_keenest_124 (shp hG rfl) (vin (by omega) (by decide)) ?_
      refine Go.nmM (fun N1 eN1 => ?_)
      refine Go.iinc (v := nI (i + 1)) (ls' := [some (.ref 49), some (.int (nI (i + 1))), some (.int (nI (cntN (barB (uK (gU g)) (uX (gU g)) (uE (gU g)) (dishN i)) (uN (gU g))))), some (.int (nI (lstB (barB (uK (gU g)) (uX (gU g)) (uE (gU g)) (dishN i)) (uN (gU g))))), some (.int (nI (uN (gU g)))), o5]) dX7_keenest_125 rfl (nI_1 _) rfl rfl ?_
      refine Go.goto 39 dX7_keenest_128 rfl ?_
      have eN9 : N1 = upi N 60 (lstB (barB (uK (gU g)) (uX (gU g)) (uE (gU g)) (dishN i)) (uN (gU g))) (N.1 60 (lstB (barB (uK (gU g)) (uX (gU g)) (uE (gU g)) (dishN i)) (uN (gU g))) + 1) := by rw [eN1, ncl (by omega)]
      have hA2 : AlT N1 (gU g) (i + 1) := by
        rw [eN9]
        exact hA.step (by omega) (by rw [if_pos (by rw [kc_cnt (by omega)]; exact n115)])
      have hC2 := hC.al (M' := N1) (by rw [eN9]; exact Same.upi _ 60 _ _ (by decide))
      exact ih (i + 1) N1 _ _ _ _ (by omega) hC2.1 (hmm.trans hC2.2) hA2
    · skip
      refine Go.aload_n dX7_keenest_106 rfl ?_
      refine Go.getR dX7_keenest_107 flX7_41 (shp hG rfl) rfl ?_
      refine Go.iload_n dX7_keenest_110 rfl ?_
      refine Go.dup2 dX7_keenest_111 rfl rfl ?_
      refine Go.iald dX7_keenest_112 (shp hG rfl) (vin (by omega) (by decide)) ?_
      refine Go.iload_n dX7_keenest_113 rfl ?_
      refine Go.iconst (v := 1) dX7_keenest_114 (by decide) ?_
      refine Go.icmp_ne 122 dX7_keenest_115 rfl (fun _ => ?_) (fun h115 => absurd h115 (fun q => n115 ((nI_inj (a := cntN (barB (uK (gU g)) (uX (gU g)) (uE (gU g)) (dishN i)) (uN (gU g))) (b := 1) (by omega) (by decide)).mp q)))
      refine Go.iconst (v := 0) dX7_keenest_122 (by decide) ?_
      refine Go.iadd dX7_keenest_123 ?_
      refine Go.iast dX7_keenest_124 (shp hG rfl) (vin (by omega) (by decide)) ?_
      refine Go.nmM (fun N2 eN2 => ?_)
      refine Go.iinc (v := nI (i + 1)) (ls' := [some (.ref 49), some (.int (nI (i + 1))), some (.int (nI (cntN (barB (uK (gU g)) (uX (gU g)) (uE (gU g)) (dishN i)) (uN (gU g))))), some (.int (nI (lstB (barB (uK (gU g)) (uX (gU g)) (uE (gU g)) (dishN i)) (uN (gU g))))), some (.int (nI (uN (gU g)))), o5]) dX7_keenest_125 rfl (nI_1 _) rfl rfl ?_
      refine Go.goto 39 dX7_keenest_128 rfl ?_
      have eN9 : N2 = upi N 60 (lstB (barB (uK (gU g)) (uX (gU g)) (uE (gU g)) (dishN i)) (uN (gU g))) (N.1 60 (lstB (barB (uK (gU g)) (uX (gU g)) (uE (gU g)) (dishN i)) (uN (gU g))) + 0) := by rw [eN2, ncl (by omega)]
      have hA2 : AlT N2 (gU g) (i + 1) := by
        rw [eN9]
        exact hA.step (by omega) (by rw [if_neg (by rw [kc_cnt (by omega)]; exact n115)])
      have hC2 := hC.al (M' := N2) (by rw [eN9]; exact Same.upi _ 60 _ _ (by decide))
      exact ih (i + 1) N2 _ _ _ _ (by omega) hC2.1 (hmm.trans hC2.2) hA2
set_option maxRecDepth 20000 in
theorem l_keen1 {G : Gt} {d : Nat} {M0 : Mm} (hG : gS G = SHAPE) {g : Sg} (hg : SgOk g) {o2 o3 o4 o5 : Option Value} (hout : ∀ (N : Mm), ModIs N g → CSame M0 N → AlT N (gU g) 0 → Go G (d + 2) mX7_keenest 37 [some (.ref 49), some (.int (nI (uN (gU g)))), o2, o3, o4, o5] [] N (fun v M' => ∃ r, v = some (.int r) ∧ r = (A_keenest g).1 ∧ ModIs M' (A_keenest g).2 ∧ CSame M0 M')) : ∀ (n i : Nat) (N : Mm), i + n = (uN (gU g)) → ModIs N g → CSame M0 N → (∀ e, e < i → N.1 60 e = 0) → Go G (d + 2) mX7_keenest 16 [some (.ref 49), some (.int (nI i)), o2, o3, o4, o5] [] N (fun v M' => ∃ r, v = some (.int r) ∧ r = (A_keenest g).1 ∧ ModIs M' (A_keenest g).2 ∧ CSame M0 M') := by
  intro n
  induction n with
  | zero =>
    intro i N hin hC hmm hA
    have hB := hC.1.bk hg.1
    have hn30 := hg.1.1
    refine Go.iload_n dX7_keenest_16 rfl ?_
    refine Go.aload_n dX7_keenest_17 rfl ?_
    refine Go.getI dX7_keenest_18 flX7_93 (shp hG rfl) rfl ?_
    refine Go.eqI (y := nI (uN (gU g))) (hB.2.2.1) ?_
    refine Go.icmp_ge 37 dX7_keenest_21 rfl (fun _ => ?_) (fun h21 => absurd (nI_le (a := uN (gU g)) (b := i) (by omega) (by omega)) h21)
    have e9 : i = uN (gU g) := by omega
    subst e9
    exact hout N hC hmm (fun e he => hA e he)
  | succ n ih =>
    intro i N hin hC hmm hA
    have hi : i < (uN (gU g)) := by omega
    have hB := hC.1.bk hg.1
    have hn30 := hg.1.1
    refine Go.iload_n dX7_keenest_16 rfl ?_
    refine Go.aload_n dX7_keenest_17 rfl ?_
    refine Go.getI dX7_keenest_18 flX7_93 (shp hG rfl) rfl ?_
    refine Go.eqI (y := nI (uN (gU g))) (hB.2.2.1) ?_
    refine Go.icmp_ge 37 dX7_keenest_21 rfl (fun h21 => absurd h21 (nI_ge (a := i) (b := uN (gU g)) (by omega) (by omega))) (fun _ => ?_)
    refine Go.aload_n dX7_keenest_24 rfl ?_
    refine Go.getR dX7_keenest_25 flX7_41 (shp hG rfl) rfl ?_
    refine Go.iload_n dX7_keenest_28 rfl ?_
    refine Go.iconst (v := 0) dX7_keenest_29 (by decide) ?_
    refine Go.iast dX7_keenest_30 (shp hG rfl) (vin (by omega) (by decide)) ?_
    refine Go.nmM (fun N1 eN1 => ?_)
    refine Go.iinc (v := nI (i + 1)) (ls' := [some (.ref 49), some (.int (nI (i + 1))), o2, o3, o4, o5]) dX7_keenest_31 rfl (nI_1 _) rfl rfl ?_
    refine Go.goto 16 dX7_keenest_34 rfl ?_
    have hC2 := hC.al (M' := N1) (by rw [eN1]; exact Same.upi _ 60 _ _ (by decide))
    refine ih (i + 1) N1 (by omega) hC2.1 (hmm.trans hC2.2) (fun e he => ?_)
    rw [eN1, ncl (by omega), rd_eq]
    unfold upd
    split
    · rfl
    · exact hA e (by omega)
set_option maxRecDepth 20000 in
theorem l_keen4 {G : Gt} {d : Nat} {M0 : Mm} (hG : gS G = SHAPE) {g : Sg} (hg : SgOk g) {N : Mm} (hC : ModIs N g) (hmm : CSame M0 N) (hA : AlT N (gU g) 1840) {o3 o4 o5 : Option Value} : ∀ (n i : Nat) (b : Nat), i + n = (uN (gU g)) → b < uN (gU g) → kn (alN (gU g)) i = some b → Go G (d + 2) mX7_keenest 135 [some (.ref 49), some (.int (nI b)), some (.int (nI i)), o3, o4, o5] [] N (fun v M' => ∃ r, v = some (.int r) ∧ r = (A_keenest g).1 ∧ ModIs M' (A_keenest g).2 ∧ CSame M0 M') := by
  intro n
  induction n with
  | zero =>
    intro i b hin hbl hb
    have hB := hC.1.bk hg.1
    have hn30 := hg.1.1
    refine Go.iload_n dX7_keenest_135 rfl ?_
    refine Go.aload_n dX7_keenest_136 rfl ?_
    refine Go.getI dX7_keenest_137 flX7_93 (shp hG rfl) rfl ?_
    refine Go.eqI (y := nI (uN (gU g))) (hB.2.2.1) ?_
    refine Go.icmp_ge 170 dX7_keenest_140 rfl (fun _ => ?_) (fun h140 => absurd (nI_le (a := uN (gU g)) (b := i) (by omega) (by omega)) h140)
    refine Go.iload_n dX7_keenest_170 rfl ?_
    refine Go.iret dX7_keenest_171 rfl rfl ?_
    have e9 : i = uN (gU g) := by omega
    subst e9
    refine ⟨_, rfl, ?_⟩
    unfold A_keenest
    rw [hb]
    exact ⟨rfl, hC, hmm⟩
  | succ n ih =>
    intro i b hin hbl hb
    have hi : i < (uN (gU g)) := by omega
    have hB := hC.1.bk hg.1
    have hn30 := hg.1.1
    have hl1 := alN_le (gU g) i
    have hl2 := alN_le (gU g) b
    refine Go.iload_n dX7_keenest_135 rfl ?_
    refine Go.aload_n dX7_keenest_136 rfl ?_
    refine Go.getI dX7_keenest_137 flX7_93 (shp hG rfl) rfl ?_
    refine Go.eqI (y := nI (uN (gU g))) (hB.2.2.1) ?_
    refine Go.icmp_ge 170 dX7_keenest_140 rfl (fun h140 => absurd h140 (nI_ge (a := i) (b := uN (gU g)) (by omega) (by omega))) (fun _ => ?_)
    refine Go.aload_n dX7_keenest_143 rfl ?_
    refine Go.getR dX7_keenest_144 flX7_41 (shp hG rfl) rfl ?_
    refine Go.iload_n dX7_keenest_147 rfl ?_
    refine Go.iald dX7_keenest_148 (shp hG rfl) (vin (by omega) (by decide)) ?_
    refine Go.eqI (y := nI (alN (gU g) i)) (by rw [ncl (by omega)]; exact hA i (by omega)) ?_
    refine Go.aload_n dX7_keenest_149 rfl ?_
    refine Go.getR dX7_keenest_150 flX7_41 (shp hG rfl) rfl ?_
    refine Go.iload_n dX7_keenest_153 rfl ?_
    refine Go.iald dX7_keenest_154 (shp hG rfl) (vin (by omega) (by decide)) ?_
    refine Go.eqI (y := nI (alN (gU g) b)) (by rw [ncl (by omega)]; exact hA b (by omega)) ?_
    refine Go.icmp_le 162 dX7_keenest_155 rfl (fun h155 => ?_) (fun h155 => ?_)
    · have n155 : (alN (gU g) i) ≤ (alN (gU g) b) := (nI_leI (a := (alN (gU g) i)) (b := (alN (gU g) b)) (by omega) (by omega)).mp h155
      refine Go.iload_n dX7_keenest_162 rfl ?_
      refine Go.istore_n (ls' := [some (.ref 49), some (.int (nI b)), some (.int (nI i)), o3, o4, o5]) dX7_keenest_163 (Nat.le_of_ble_eq_true rfl) rfl rfl ?_
      refine Go.iinc (v := nI (i + 1)) (ls' := [some (.ref 49), some (.int (nI b)), some (.int (nI (i + 1))), o3, o4, o5]) dX7_keenest_164 rfl (nI_1 _) rfl rfl ?_
      refine Go.goto 135 dX7_keenest_167 rfl ?_
      exact ih (i + 1) b (by omega) (by omega) (by rw [kn, hb]; simp only []; rw [if_neg (by omega)])
    · have n155 : ¬ (alN (gU g) i) ≤ (alN (gU g) b) := fun q => h155 ((nI_leI (a := (alN (gU g) i)) (b := (alN (gU g) b)) (by omega) (by omega)).mpr q)
      refine Go.iload_n dX7_keenest_158 rfl ?_
      refine Go.goto 163 dX7_keenest_159 rfl ?_
      refine Go.istore_n (ls' := [some (.ref 49), some (.int (nI i)), some (.int (nI i)), o3, o4, o5]) dX7_keenest_163 (Nat.le_of_ble_eq_true rfl) rfl rfl ?_
      refine Go.iinc (v := nI (i + 1)) (ls' := [some (.ref 49), some (.int (nI i)), some (.int (nI (i + 1))), o3, o4, o5]) dX7_keenest_164 rfl (nI_1 _) rfl rfl ?_
      refine Go.goto 135 dX7_keenest_167 rfl ?_
      exact ih (i + 1) i (by omega) (by omega) (by rw [kn, hb]; simp only []; rw [if_pos (by omega)])
set_option maxRecDepth 20000 in
theorem m_keenest {G : Gt} {d : Nat} {M : Mm} (hG : gS G = SHAPE) {g : Sg} (hC : ModIs M g) (hg : SgOk g)  : ExI G (d + 2) mX7_keenest [.ref 49] M (fun r M' => r = (A_keenest g).1 ∧ ModIs M' (A_keenest g).2 ∧ CSame M M') := by
  refine Ex.of (by decide) (Nat.le_of_ble_eq_true rfl) ?_
  have hB := hC.1.bk hg.1
  have hn30 := hg.1.1
  show Go G (d + 2) mX7_keenest 0 [some (.ref 49), none, none, none, none, none] [] M _
  refine Go.aload_n dX7_keenest_0 rfl ?_
  refine Go.getI dX7_keenest_1 flX7_93 (shp hG rfl) rfl ?_
  refine Go.eqI (y := nI (uN (gU g))) (hB.2.2.1) ?_
  refine Go.if_ne 14 dX7_keenest_4 rfl (fun h4 => ?_) (fun h4 => ?_)
  · have n4 : ¬ (uN (gU g)) = 0 := fun q => h4 ((nI_inj (a := (uN (gU g))) (b := 0) (by omega) (by omega)).mpr q)
    refine Go.iconst (v := 0) dX7_keenest_14 (by decide) ?_
    refine Go.istore_n (ls' := [some (.ref 49), some (.int 0), none, none, none, none]) dX7_keenest_15 (Nat.le_of_ble_eq_true rfl) rfl rfl ?_
    have hn0 : 0 < uN (gU g) := by omega
    refine l_keen1 hG hg (fun N hC hmm hA => ?_) (uN (gU g)) 0 M (by omega) hC (CSame.refl M) (fun e he => by omega)
    refine Go.iconst (v := 0) dX7_keenest_37 (by decide) ?_
    refine Go.istore_n (ls' := [some (.ref 49), some (.int 0), none, none, none, none]) dX7_keenest_38 (Nat.le_of_ble_eq_true rfl) rfl rfl ?_
    refine l_keen3 hG hg (fun N o2 o3 o4 o5 hC hmm hA => ?_) 1840 0 N _ _ _ _ (by omega) hC hmm hA
    refine Go.iconst (v := 0) dX7_keenest_131 (by decide) ?_
    refine Go.istore_n (ls' := [some (.ref 49), some (.int 0), o2, o3, o4, o5]) dX7_keenest_132 (Nat.le_of_ble_eq_true rfl) rfl rfl ?_
    refine Go.iconst (v := 1) dX7_keenest_133 (by decide) ?_
    refine Go.istore_n (ls' := [some (.ref 49), some (.int 0), some (.int 1), o3, o4, o5]) dX7_keenest_134 (Nat.le_of_ble_eq_true rfl) rfl rfl ?_
    exact l_keen4 hG hg hC hmm hA (uN (gU g) - 1) 1 0 (by omega) (by omega) rfl
  · have n4 : (uN (gU g)) = 0 := (nI_inj (a := (uN (gU g))) (b := 0) (by omega) (by omega)).mp h4
    refine Go.aload_n dX7_keenest_7 rfl ?_
    refine Go.ldc dX7_keenest_8 kcX7_127 ?_
    refine Go.callVI [] dX7_keenest_10 lkX7_104 imX7_finds seX7_finds cbX7_finds (m_finds hG (code := (-1000000004)) (q := 3) (by decide) (by decide)) (shp hG rfl) rfl rfl rfl (Nat.le_of_ble_eq_true rfl) (fun r1 M2 hr1 => ?_)
    refine Go.iret dX7_keenest_13 rfl rfl ?_
    refine ⟨_, rfl, ?_⟩
    have h9 : uN (gU g) = 0 := by omega
    rw [show A_keenest g = (-1000000004, fndS g 3) from by unfold A_keenest; rw [h9]; rfl, hr1.2]
    exact ⟨hr1.1, hC.fnd⟩
