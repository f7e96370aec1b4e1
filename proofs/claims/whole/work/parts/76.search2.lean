def Fs (N : Mm) (S : Bf) (gd : Nat → Bool) : Prop := N.1 49 18 = nI (bM S) ∧ (∀ p, p < 1840 → N.1 62 p = optI (-1) (bD S p)) ∧ (∀ j, j < bM S → N.1 63 j = nI (bW S j)) ∧ ∀ p, p < 1840 → N.1 64 p = bi (gd p)
def FsF (M N : Mm) : Prop := Same [49, 62, 63] M N ∧ ∀ j, j ≠ 18 → N.1 49 j = M.1 49 j
theorem FsF.refl (M : Mm) : FsF M M := ⟨Same.refl _ _, fun _ _ => rfl⟩
theorem FsF.trans {M N L : Mm} (h1 : FsF M N) (h2 : FsF N L) : FsF M L := ⟨h1.1.trans h2.1, fun j hj => (h2.2 j hj).trans (h1.2 j hj)⟩
theorem FsF.mds {M N : Mm} (h : FsF M N) (hS : MdS M) : MdS N := hS.same (h.1.1 57 (by decide)) (h.1.1 58 (by decide))
theorem Wf.lt {S : Bf} (h : Wf S) {p e : Nat} (hp : p < 1840) (hd : bD S p = some e) : e < 1840 := by
  obtain ⟨j, a, b⟩ := h.2.2.1 p hp e hd
  obtain ⟨e2, c, d⟩ := (h.2.1 j a).2
  rw [b, hd] at c
  cases c
  have := h.1
  omega
set_option maxRecDepth 20000 in
theorem m_comesTo {G : Gt} {d : Nat} {M : Mm} (hG : gS G = SHAPE) {S : Bf} {gd : Nat → Bool} (hF : Fs M S gd) (hW : Wf S) {p e : Nat} (hp : p < 1840) : ExV G (d) mX7_comesTo [.ref 49, .int (nI p), .int (nI e)] M (fun M' => Fs M' (cmS gd S p e) gd ∧ FsF M M') := by
  refine Ex.of (by decide) (Nat.le_of_ble_eq_true rfl) ?_
  show Go G (d) mX7_comesTo 0 [some (.ref 49), some (.int (nI p)), some (.int (nI e))] [] M _
  refine Go.aload_n dX7_comesTo_0 rfl ?_
  refine Go.getR dX7_comesTo_1 flX7_47 (shp hG rfl) rfl ?_
  refine Go.iload_n dX7_comesTo_4 rfl ?_
  refine Go.iald dX7_comesTo_5 (shp hG rfl) (vin (by omega) (by decide)) ?_
  rw [ncl (by omega), hF.2.1 p hp]
  rcases hd : bD S p with _ | e9
  · skip
    refine Go.if_ge 45 dX7_comesTo_6 rfl (fun h6 => absurd h6 (by decide)) (fun _ => ?_)
    refine Go.aload_n dX7_comesTo_9 rfl ?_
    refine Go.getR dX7_comesTo_10 flX7_53 (shp hG rfl) rfl ?_
    refine Go.iload_n dX7_comesTo_13 rfl ?_
    refine Go.zald dX7_comesTo_14 (shp hG rfl) (vin (by omega) (by decide)) ?_
    refine Go.eqI (y := bi (gd p)) (by rw [ncl (by omega)]; exact hF.2.2.2 p hp) ?_
    refine Go.if_eq 45 dX7_comesTo_15 rfl (fun h15 => ?_) (fun h15 => ?_)
    · refine Go.vret dX7_comesTo_45 rfl ?_
      rw [cm_no (fun z => by rw [bi_0.mp h15] at z; cases z.2)]
      exact ⟨rfl, hF, FsF.refl M⟩
    · have hm18 := hW.full hp hd
      refine Go.aload_n dX7_comesTo_18 rfl ?_
      refine Go.getR dX7_comesTo_19 flX7_47 (shp hG rfl) rfl ?_
      refine Go.iload_n dX7_comesTo_22 rfl ?_
      refine Go.iload_n dX7_comesTo_23 rfl ?_
      refine Go.iast dX7_comesTo_24 (shp hG rfl) (vin (by omega) (by decide)) ?_
      refine Go.nmM (fun N1 eN1 => ?_)
      refine Go.aload_n dX7_comesTo_25 rfl ?_
      refine Go.getR dX7_comesTo_26 flX7_50 (shp hG rfl) rfl ?_
      refine Go.aload_n dX7_comesTo_29 rfl ?_
      refine Go.getI dX7_comesTo_30 flX7_206 (shp hG rfl) rfl ?_
      refine Go.eqI (y := nI (bM S)) (by rw [eN1, rd_ne (by decide)]; exact hF.1) ?_
      refine Go.iload_n dX7_comesTo_33 rfl ?_
      refine Go.iast dX7_comesTo_34 (shp hG rfl) (vin (by omega) (by decide)) ?_
      refine Go.nmM (fun N2 eN2 => ?_)
      refine Go.aload_n dX7_comesTo_35 rfl ?_
      refine Go.dup dX7_comesTo_36 rfl ?_
      refine Go.getI dX7_comesTo_37 flX7_206 (shp hG rfl) rfl ?_
      refine Go.eqI (y := nI (bM S)) (by rw [eN2, rd_ne (by decide)]; rw [eN1, rd_ne (by decide)]; exact hF.1) ?_
      refine Go.iconst (v := 1) dX7_comesTo_40 (by decide) ?_
      refine Go.iadd dX7_comesTo_41 ?_
      refine Go.eqI (y := nI (bM S + 1)) (nI_add _ _) ?_
      refine Go.putI dX7_comesTo_42 fpX7_206 (shp hG rfl) rfl rfl rfl ?_
      refine Go.nmM (fun N3 eN3 => ?_)
      refine Go.vret dX7_comesTo_45 rfl ?_
      have eA : N1 = upi M 62 p (nI e) := by rw [eN1, ncl (by omega)]
      have eB : N2 = upi N1 63 (bM S) (nI p) := by rw [eN2, ncl (by omega)]
      rw [cm_yes ⟨hd, bi_n0.mp h15⟩]
      refine ⟨rfl, ⟨?_, fun q hq => ?_, fun j hj => ?_, fun q hq => ?_⟩, ⟨(by rw [eN3, eB, eA]; exact ((Same.upi M 62 _ _ (by decide)).trans (Same.upi _ 63 _ _ (by decide))).trans (Same.upi _ 49 _ _ (by decide))), fun j hj => ?_⟩⟩
      · rw [eN3, rd_eq]
        show upd _ 18 (nI (bM S + 1)) 18 = nI (bM S + 1)
        simp [upd]
      · rw [eN3, rd_ne (by decide), eB, rd_ne (by decide), eA, rd_eq]
        show upd (M.1 62) p (nI e) q = optI (-1) (if q = p then some e else bD S q)
        unfold upd
        by_cases z : q = p
        · rw [if_pos z, if_pos z]; rfl
        · rw [if_neg z, if_neg z]; exact hF.2.1 q hq
      · have hj' : j < bM S + 1 := hj
        rw [eN3, rd_ne (by decide), eB, rd_eq]
        show upd (N1.1 63) (bM S) (nI p) j = nI (if j = bM S then p else bW S j)
        unfold upd
        by_cases z : j = bM S
        · rw [if_pos z, if_pos z]
        · rw [if_neg z, if_neg z, eA, rd_ne (by decide)]; exact hF.2.2.1 j (by omega)
      · rw [eN3, rd_ne (by decide), eB, rd_ne (by decide), eA, rd_ne (by decide)]; exact hF.2.2.2 q hq
      · rw [eN3, rd_eq]
        simp only [upd]
        rw [if_neg hj, eB, rd_ne (by decide), eA, rd_ne (by decide)]
  · show Go _ _ _ _ _ [.int (nI e9)] _ _
    have he9 := hW.lt hp hd
    refine Go.if_ge 45 dX7_comesTo_6 rfl (fun _ => ?_) (fun h6 => absurd (nI_pos' (by omega)) h6)
    refine Go.vret dX7_comesTo_45 rfl ?_
    rw [cm_no (fun z => by rw [hd] at z; cases z.1)]
    exact ⟨rfl, hF, FsF.refl M⟩
def Jv (M : Mm) (S : Bf) (gd : Nat → Bool) (k e0 p0 : Nat) (N : Mm) (S' : Bf) : Prop := Fs N S' gd ∧ FsF M N ∧ Iv S' k e0 ∧ Ext S S' ∧ Snd gd S S' p0 e0
def Dn (S : Bf) (e0 p : Nat) : Prop := ∃ e, bD S p = some e ∧ e ≤ e0 + 1
theorem Dn.ext {S S' : Bf} {e0 p : Nat} (h : Dn S e0 p) (hx : Ext S S') : Dn S' e0 p := by
  obtain ⟨e, a, b⟩ := h
  exact ⟨e, hx.2.2 p e a, b⟩
theorem Jv.step {M N N2 : Mm} {S S' : Bf} {gd : Nat → Bool} {k e0 p0 p : Nat} (h : Jv M S gd k e0 p0 N S') (hp : p < 1840) (ha : adjB (dishN p0) (dishN p)) (h1 : Fs N2 (cmS gd S' p (e0 + 1)) gd) (h2 : FsF N N2) : Jv M S gd k e0 p0 N2 (cmS gd S' p (e0 + 1)) := ⟨h1, h.2.1.trans h2, cm_inv h.2.2.1 hp, h.2.2.2.1.trans cm_ext, cm_snd h.2.2.2.2 ha⟩
theorem dish_div {p : Nat} (_ : p < 1840) : dishN p / 20 = sN (p / 20) ∧ dishN p % 20 = p % 20 := by
  unfold dishN
  constructor <;> omega
theorem sN_inj {a b : Nat} (ha : a < 92) (hb : b < 92) (h : sN a = sN b) : a = b := by rw [← ixN_sN a ha, h, ixN_sN b hb]
/-- the three rows of neighbours of a place -/
theorem adj_t {p0 t : Nat} (h0 : p0 < 1840) (ht : t < 8) (ho : okS (sN (p0 / 20) ^^^ 2 ^ t) = true) : 20 * ixN (sN (p0 / 20) ^^^ 2 ^ t) + p0 % 20 < 1840 ∧ adjB (dishN p0) (dishN (20 * ixN (sN (p0 / 20) ^^^ 2 ^ t) + p0 % 20)) := by
  have hs := xor2 (s := sN (p0 / 20)) (sN_lt (by omega)) ht
  have hi := sN_ixN _ hs ho
  have hlt : 20 * ixN (sN (p0 / 20) ^^^ 2 ^ t) + p0 % 20 < 1840 := by omega
  refine ⟨hlt, Or.inr ⟨t, ht, ?_, ?_⟩⟩
  · rw [dishN_at (by omega), (dish_div h0).1, hi.2]
    omega
  · rw [dishN_at (by omega), (dish_div h0).2]
    omega
theorem adj_w {p0 p : Nat} (h0 : p0 < 1840) (hp : p < 1840) (h1 : p / 20 = p0 / 20) (h2 : p % 20 / 4 = p0 % 20 / 4 ∨ p % 20 % 4 = p0 % 20 % 4) : adjB (dishN p0) (dishN p) := by
  refine Or.inl ⟨by rw [(dish_div h0).1, (dish_div hp).1, h1], ?_⟩
  rw [(dish_div h0).2, (dish_div hp).2]
  exact h2.imp Eq.symm Eq.symm
theorem adj_cases {p0 p : Nat} (h0 : p0 < 1840) (hp : p < 1840) (h : adjB (dishN p0) (dishN p)) : (∃ t, t < 8 ∧ okS (sN (p0 / 20) ^^^ 2 ^ t) = true ∧ p = 20 * ixN (sN (p0 / 20) ^^^ 2 ^ t) + p0 % 20) ∨ (p / 20 = p0 / 20 ∧ p % 20 / 4 = p0 % 20 / 4) ∨ (p / 20 = p0 / 20 ∧ p % 20 % 4 = p0 % 20 % 4) := by
  have a := dish_div h0
  have b := dish_div hp
  rcases h with ⟨h1, h2⟩ | ⟨t, h1, h2, h3⟩
  · rw [a.1, b.1] at h1
    have e := sN_inj (by omega) (by omega) h1
    rw [a.2, b.2] at h2
    rcases h2 with h2 | h2
    · exact Or.inr (Or.inl ⟨e, h2.symm⟩)
    · exact Or.inr (Or.inr ⟨e, h2.symm⟩)
  · rw [a.1, b.1] at h2
    rw [a.2, b.2] at h3
    refine Or.inl ⟨t, h1, by rw [← h2]; exact setsN_ok _ (by omega), ?_⟩
    rw [← h2, ixN_sN _ (by omega)]
    omega
set_option maxRecDepth 20000 in
theorem l_gf1 {G : Gt} {d : Nat} {M : Mm} (hG : gS G = SHAPE) {S : Bf} {gd : Nat → Bool} {k e0 p0 : Nat} (h0 : p0 < 1840) (hMd : MdS M) (hout : ∀ (N : Mm) (S' : Bf) (o7 : Option Value), Jv M S gd k e0 p0 N S' → (∀ t, t < 8 → okS (sN (p0 / 20) ^^^ 2 ^ t) = true → gd (20 * ixN (sN (p0 / 20) ^^^ 2 ^ t) + p0 % 20) = true → Dn S' e0 (20 * ixN (sN (p0 / 20) ^^^ 2 ^ t) + p0 % 20)) → Go G (d + 1) mX7_goesFrom 86 [some (.ref 49), some (.int (nI p0)), some (.int (nI (p0 / 20))), some (.int (nI (sN (p0 / 20)))), some (.int (nI (p0 % 20))), some (.int (nI (e0 + 1))), some (.int (nI 8)), o7] [] N (fun v M' => v = none ∧ ∃ S', Jv M S gd k e0 p0 M' S' ∧ ∀ p, p < 1840 → gd p = true → adjB (dishN p0) (dishN p) → Dn S' e0 p)) : ∀ (n i : Nat) (N : Mm) (S' : Bf) (o7 : Option Value), i + n = 8 → Jv M S gd k e0 p0 N S' → (∀ t, t < i → okS (sN (p0 / 20) ^^^ 2 ^ t) = true → gd (20 * ixN (sN (p0 / 20) ^^^ 2 ^ t) + p0 % 20) = true → Dn S' e0 (20 * ixN (sN (p0 / 20) ^^^ 2 ^ t) + p0 % 20)) → Go G (d + 1) mX7_goesFrom 41 [some (.ref 49), some (.int (nI p0)), some (.int (nI (p0 / 20))), some (.int (nI (sN (p0 / 20)))), some (.int (nI (p0 % 20))), some (.int (nI (e0 + 1))), some (.int (nI i)), o7] [] N (fun v M' => v = none ∧ ∃ S', Jv M S gd k e0 p0 M' S' ∧ ∀ p, p < 1840 → gd p = true → adjB (dishN p0) (dishN p) → Dn S' e0 p) := by
  intro n
  induction n with
  | zero =>
    intro i N S' o7 hin hJ hD
    refine Go.iload dX7_goesFrom_41 rfl ?_
    refine Go.bipush (v := 8) dX7_goesFrom_43 (by decide) ?_
    refine Go.icmp_ge 86 dX7_goesFrom_45 rfl (fun _ => ?_) (fun h45 => absurd (nI_le (a := 8) (b := i) (by omega) (by omega)) h45)
    have e9 : i = 8 := by omega
    subst e9
    exact hout N S' o7 hJ hD
  | succ n ih =>
    intro i N S' o7 hin hJ hD
    have hi : i < 8 := by omega
    have hMd2 := hJ.2.1.mds hMd
    have hx2 := xor2 (s := sN (p0 / 20)) (sN_lt (by omega)) hi
    refine Go.iload dX7_goesFrom_41 rfl ?_
    refine Go.bipush (v := 8) dX7_goesFrom_43 (by decide) ?_
    refine Go.icmp_ge 86 dX7_goesFrom_45 rfl (fun h45 => absurd h45 (nI_ge (a := i) (b := 8) (by omega) (by omega))) (fun _ => ?_)
    refine Go.aload_n dX7_goesFrom_48 rfl ?_
    refine Go.getR dX7_goesFrom_49 flX7_34 (shp hG rfl) rfl ?_
    refine Go.iload_n dX7_goesFrom_52 rfl ?_
    refine Go.iconst (v := 1) dX7_goesFrom_53 (by decide) ?_
    refine Go.iload dX7_goesFrom_54 rfl ?_
    refine Go.ishl dX7_goesFrom_56 ?_
    refine Go.eqI (y := nI (2 ^ i)) (shl1 i (by omega)) ?_
    refine Go.ixor dX7_goesFrom_57 ?_
    refine Go.eqI (y := nI (sN (p0 / 20) ^^^ 2 ^ i)) (nx_xor _ _) ?_
    refine Go.iald dX7_goesFrom_58 (shp hG rfl) (vin hx2 (by decide)) ?_
    rw [ncl (by omega), hMd2.2 _ hx2]
    rcases ho : okS (sN (p0 / 20) ^^^ 2 ^ i) with _ | _
    · show Go _ _ _ _ _ [.int (-1)] _ _
      refine Go.istore (ls' := [some (.ref 49), some (.int (nI p0)), some (.int (nI (p0 / 20))), some (.int (nI (sN (p0 / 20)))), some (.int (nI (p0 % 20))), some (.int (nI (e0 + 1))), some (.int (nI i)), some (.int ((-1)))]) dX7_goesFrom_59 (Nat.le_of_ble_eq_true rfl) rfl rfl ?_
      refine Go.iload dX7_goesFrom_61 rfl ?_
      refine Go.if_lt 80 dX7_goesFrom_63 rfl (fun _ => ?_) (fun h63 => absurd (by decide) h63)
      refine Go.iinc (v := nI (i + 1)) (ls' := [some (.ref 49), some (.int (nI p0)), some (.int (nI (p0 / 20))), some (.int (nI (sN (p0 / 20)))), some (.int (nI (p0 % 20))), some (.int (nI (e0 + 1))), some (.int (nI (i + 1))), some (.int ((-1)))]) dX7_goesFrom_80 rfl (nI_1 _) rfl rfl ?_
      refine Go.goto 41 dX7_goesFrom_83 rfl ?_
      refine ih (i + 1) N S' _ (by omega) hJ (fun t ht h1 h2 => ?_)
      by_cases z : t = i
      · subst z; rw [ho] at h1; cases h1
      · exact hD t (by omega) h1 h2
    · show Go _ _ _ _ _ [.int (nI (ixN (sN (p0 / 20) ^^^ 2 ^ i)))] _ _
      obtain ⟨hpl, had⟩ := adj_t h0 hi ho
      refine Go.istore (ls' := [some (.ref 49), some (.int (nI p0)), some (.int (nI (p0 / 20))), some (.int (nI (sN (p0 / 20)))), some (.int (nI (p0 % 20))), some (.int (nI (e0 + 1))), some (.int (nI i)), some (.int (nI (ixN (sN (p0 / 20) ^^^ 2 ^ i))))]) dX7_goesFrom_59 (Nat.le_of_ble_eq_true rfl) rfl rfl ?_
      refine Go.iload dX7_goesFrom_61 rfl ?_
      refine Go.if_lt 80 dX7_goesFrom_63 rfl (fun h63 => absurd h63 (nI_pos (by omega))) (fun _ => ?_)
      refine Go.aload_n dX7_goesFrom_66 rfl ?_
      refine Go.bipush (v := 20) dX7_goesFrom_67 (by decide) ?_
      refine Go.iload dX7_goesFrom_69 rfl ?_
      refine Go.imul dX7_goesFrom_71 ?_
      refine Go.eqI (y := nI (20 * ixN (sN (p0 / 20) ^^^ 2 ^ i))) (pk_mul _ _) ?_
      refine Go.iload dX7_goesFrom_72 rfl ?_
      refine Go.iadd dX7_goesFrom_74 ?_
      refine Go.eqI (y := nI (20 * ixN (sN (p0 / 20) ^^^ 2 ^ i) + p0 % 20)) (nI_add _ _) ?_
      refine Go.iload dX7_goesFrom_75 rfl ?_
      refine Go.callVV [] dX7_goesFrom_77 lkX7_209 imX7_comesTo seX7_comesTo cbX7_comesTo (m_comesTo hG hJ.1 hJ.2.2.1.1 (p := 20 * ixN (sN (p0 / 20) ^^^ 2 ^ i) + p0 % 20) (e := e0 + 1) hpl) (shp hG rfl) rfl rfl rfl (Nat.le_of_ble_eq_true rfl) (fun M2 hr1 => ?_)
      obtain ⟨hf2, hff2⟩ := hr1
      refine Go.iinc (v := nI (i + 1)) (ls' := [some (.ref 49), some (.int (nI p0)), some (.int (nI (p0 / 20))), some (.int (nI (sN (p0 / 20)))), some (.int (nI (p0 % 20))), some (.int (nI (e0 + 1))), some (.int (nI (i + 1))), some (.int (nI (ixN (sN (p0 / 20) ^^^ 2 ^ i))))]) dX7_goesFrom_80 rfl (nI_1 _) rfl rfl ?_
      refine Go.goto 41 dX7_goesFrom_83 rfl ?_
      refine ih (i + 1) M2 _ _ (by omega) (hJ.step hpl had hf2 hff2) (fun t ht h1 h2 => ?_)
      by_cases z : t = i
      · subst z; exact cm_done hJ.2.2.1 hpl h2
      · exact (hD t (by omega) h1 h2).ext cm_ext
set_option maxRecDepth 20000 in
theorem l_gf2 {G : Gt} {d : Nat} {M : Mm} (hG : gS G = SHAPE) {S : Bf} {gd : Nat → Bool} {k e0 p0 : Nat} (h0 : p0 < 1840) (hMd : MdS M) {S1 : Bf} (hout : ∀ (N : Mm) (S' : Bf) (o7 : Option Value), Jv M S gd k e0 p0 N S' → Ext S1 S' → (∀ w, w < 5 → gd (20 * (p0 / 20) + 4 * w + p0 % 20 % 4) = true → Dn S' e0 (20 * (p0 / 20) + 4 * w + p0 % 20 % 4)) → Go G (d + 1) mX7_goesFrom 121 [some (.ref 49), some (.int (nI p0)), some (.int (nI (p0 / 20))), some (.int (nI (sN (p0 / 20)))), some (.int (nI (p0 % 20))), some (.int (nI (e0 + 1))), some (.int (nI 5)), o7] [] N (fun v M' => v = none ∧ ∃ S', Jv M S gd k e0 p0 M' S' ∧ ∀ p, p < 1840 → gd p = true → adjB (dishN p0) (dishN p) → Dn S' e0 p)) : ∀ (n i : Nat) (N : Mm) (S' : Bf) (o7 : Option Value), i + n = 5 → Jv M S gd k e0 p0 N S' → Ext S1 S' → (∀ w, w < i → gd (20 * (p0 / 20) + 4 * w + p0 % 20 % 4) = true → Dn S' e0 (20 * (p0 / 20) + 4 * w + p0 % 20 % 4)) → Go G (d + 1) mX7_goesFrom 89 [some (.ref 49), some (.int (nI p0)), some (.int (nI (p0 / 20))), some (.int (nI (sN (p0 / 20)))), some (.int (nI (p0 % 20))), some (.int (nI (e0 + 1))), some (.int (nI i)), o7] [] N (fun v M' => v = none ∧ ∃ S', Jv M S gd k e0 p0 M' S' ∧ ∀ p, p < 1840 → gd p = true → adjB (dishN p0) (dishN p) → Dn S' e0 p) := by
  intro n
  induction n with
  | zero =>
    intro i N S' o7 hin hJ hX hD
    refine Go.iload dX7_goesFrom_89 rfl ?_
    refine Go.iconst (v := 5) dX7_goesFrom_91 (by decide) ?_
    refine Go.icmp_ge 121 dX7_goesFrom_92 rfl (fun _ => ?_) (fun h92 => absurd (nI_le (a := 5) (b := i) (by omega) (by omega)) h92)
    have e9 : i = 5 := by omega
    subst e9
    exact hout N S' o7 hJ hX hD
  | succ n ih =>
    intro i N S' o7 hin hJ hX hD
    have hi : i < 5 := by omega
    have hpl : 20 * (p0 / 20) + 4 * i + p0 % 20 % 4 < 1840 := by omega
    have had := adj_w (p := 20 * (p0 / 20) + 4 * i + p0 % 20 % 4) h0 hpl (by omega) (Or.inr (by omega))
    refine Go.iload dX7_goesFrom_89 rfl ?_
    refine Go.iconst (v := 5) dX7_goesFrom_91 (by decide) ?_
    refine Go.icmp_ge 121 dX7_goesFrom_92 rfl (fun h92 => absurd h92 (nI_ge (a := i) (b := 5) (by omega) (by omega))) (fun _ => ?_)
    refine Go.aload_n dX7_goesFrom_95 rfl ?_
    refine Go.bipush (v := 20) dX7_goesFrom_96 (by decide) ?_
    refine Go.iload_n dX7_goesFrom_98 rfl ?_
    refine Go.imul dX7_goesFrom_99 ?_
    refine Go.eqI (y := nI (20 * (p0 / 20))) (pk_mul 20 _) ?_
    refine Go.iconst (v := 4) dX7_goesFrom_100 (by decide) ?_
    refine Go.iload dX7_goesFrom_101 rfl ?_
    refine Go.imul dX7_goesFrom_103 ?_
    refine Go.eqI (y := nI (4 * i)) (pk_mul _ _) ?_
    refine Go.iadd dX7_goesFrom_104 ?_
    refine Go.eqI (y := nI (20 * (p0 / 20) + 4 * i)) (nI_add _ _) ?_
    refine Go.iload dX7_goesFrom_105 rfl ?_
    refine Go.iconst (v := 4) dX7_goesFrom_107 (by decide) ?_
    refine Go.irem dX7_goesFrom_108 (by decide) ?_
    refine Go.eqI (y := nI (p0 % 20 % 4)) (pk_rem (by omega) (by decide) (by decide)) ?_
    refine Go.iadd dX7_goesFrom_109 ?_
    refine Go.eqI (y := nI (20 * (p0 / 20) + 4 * i + p0 % 20 % 4)) (nI_add _ _) ?_
    refine Go.iload dX7_goesFrom_110 rfl ?_
    refine Go.callVV [] dX7_goesFrom_112 lkX7_209 imX7_comesTo seX7_comesTo cbX7_comesTo (m_comesTo hG hJ.1 hJ.2.2.1.1 (p := 20 * (p0 / 20) + 4 * i + p0 % 20 % 4) (e := e0 + 1) hpl) (shp hG rfl) rfl rfl rfl (Nat.le_of_ble_eq_true rfl) (fun M2 hr1 => ?_)
    obtain ⟨hf2, hff2⟩ := hr1
    refine Go.iinc (v := nI (i + 1)) (ls' := [some (.ref 49), some (.int (nI p0)), some (.int (nI (p0 / 20))), some (.int (nI (sN (p0 / 20)))), some (.int (nI (p0 % 20))), some (.int (nI (e0 + 1))), some (.int (nI (i + 1))), o7]) dX7_goesFrom_115 rfl (nI_1 _) rfl rfl ?_
    refine Go.goto 89 dX7_goesFrom_118 rfl ?_
    refine ih (i + 1) M2 _ _ (by omega) (hJ.step hpl had hf2 hff2) (hX.trans cm_ext) (fun t ht h2 => ?_)
    by_cases z : t = i
    · subst z; exact cm_done hJ.2.2.1 hpl h2
    · exact (hD t (by omega) h2).ext cm_ext
set_option maxRecDepth 20000 in
theorem l_gf3 {G : Gt} {d : Nat} {M : Mm} (hG : gS G = SHAPE) {S : Bf} {gd : Nat → Bool} {k e0 p0 : Nat} (h0 : p0 < 1840) (hMd : MdS M) {S1 : Bf} (hout : ∀ (N : Mm) (S' : Bf) (o7 : Option Value), Jv M S gd k e0 p0 N S' → Ext S1 S' → (∀ w, w < 4 → gd (20 * (p0 / 20) + p0 % 20 / 4 * 4 + w) = true → Dn S' e0 (20 * (p0 / 20) + p0 % 20 / 4 * 4 + w)) → Go G (d + 1) mX7_goesFrom 156 [some (.ref 49), some (.int (nI p0)), some (.int (nI (p0 / 20))), some (.int (nI (sN (p0 / 20)))), some (.int (nI (p0 % 20))), some (.int (nI (e0 + 1))), some (.int (nI 4)), o7] [] N (fun v M' => v = none ∧ ∃ S', Jv M S gd k e0 p0 M' S' ∧ ∀ p, p < 1840 → gd p = true → adjB (dishN p0) (dishN p) → Dn S' e0 p)) : ∀ (n i : Nat) (N : Mm) (S' : Bf) (o7 : Option Value), i + n = 4 → Jv M S gd k e0 p0 N S' → Ext S1 S' → (∀ w, w < i → gd (20 * (p0 / 20) + p0 % 20 / 4 * 4 + w) = true → Dn S' e0 (20 * (p0 / 20) + p0 % 20 / 4 * 4 + w)) → Go G (d + 1) mX7_goesFrom 124 [some (.ref 49), some (.int (nI p0)), some (.int (nI (p0 / 20))), some (.int (nI (sN (p0 / 20)))), some (.int (nI (p0 % 20))), some (.int (nI (e0 + 1))), some (.int (nI i)), o7] [] N (fun v M' => v = none ∧ ∃ S', Jv M S gd k e0 p0 M' S' ∧ ∀ p, p < 1840 → gd p = true → adjB (dishN p0) (dishN p) → Dn S' e0 p) := by
  intro n
  induction n with
  | zero =>
    intro i N S' o7 hin hJ hX hD
    refine Go.iload dX7_goesFrom_124 rfl ?_
    refine Go.iconst (v := 4) dX7_goesFrom_126 (by decide) ?_
    refine Go.icmp_ge 156 dX7_goesFrom_127 rfl (fun _ => ?_) (fun h127 => absurd (nI_le (a := 4) (b := i) (by omega) (by omega)) h127)
    have e9 : i = 4 := by omega
    subst e9
    exact hout N S' o7 hJ hX hD
  | succ n ih =>
    intro i N S' o7 hin hJ hX hD
    have hi : i < 4 := by omega
    have hpl : 20 * (p0 / 20) + p0 % 20 / 4 * 4 + i < 1840 := by omega
    have had := adj_w (p := 20 * (p0 / 20) + p0 % 20 / 4 * 4 + i) h0 hpl (by omega) (Or.inl (by omega))
    refine Go.iload dX7_goesFrom_124 rfl ?_
    refine Go.iconst (v := 4) dX7_goesFrom_126 (by decide) ?_
    refine Go.icmp_ge 156 dX7_goesFrom_127 rfl (fun h127 => absurd h127 (nI_ge (a := i) (b := 4) (by omega) (by omega))) (fun _ => ?_)
    refine Go.aload_n dX7_goesFrom_130 rfl ?_
    refine Go.bipush (v := 20) dX7_goesFrom_131 (by decide) ?_
    refine Go.iload_n dX7_goesFrom_133 rfl ?_
    refine Go.imul dX7_goesFrom_134 ?_
    refine Go.eqI (y := nI (20 * (p0 / 20))) (pk_mul 20 _) ?_
    refine Go.iload dX7_goesFrom_135 rfl ?_
    refine Go.iconst (v := 4) dX7_goesFrom_137 (by decide) ?_
    refine Go.idiv dX7_goesFrom_138 (by decide) ?_
    refine Go.eqI (y := nI (p0 % 20 / 4)) (pk_div (by omega) (by decide) (by decide)) ?_
    refine Go.iconst (v := 4) dX7_goesFrom_139 (by decide) ?_
    refine Go.imul dX7_goesFrom_140 ?_
    refine Go.eqI (y := nI (p0 % 20 / 4 * 4)) (pk_mul _ _) ?_
    refine Go.iadd dX7_goesFrom_141 ?_
    refine Go.eqI (y := nI (20 * (p0 / 20) + p0 % 20 / 4 * 4)) (nI_add _ _) ?_
    refine Go.iload dX7_goesFrom_142 rfl ?_
    refine Go.iadd dX7_goesFrom_144 ?_
    refine Go.eqI (y := nI (20 * (p0 / 20) + p0 % 20 / 4 * 4 + i)) (nI_add _ _) ?_
    refine Go.iload dX7_goesFrom_145 rfl ?_
    refine Go.callVV [] dX7_goesFrom_147 lkX7_209 imX7_comesTo seX7_comesTo cbX7_comesTo (m_comesTo hG hJ.1 hJ.2.2.1.1 (p := 20 * (p0 / 20) + p0 % 20 / 4 * 4 + i) (e := e0 + 1) hpl) (shp hG rfl) rfl rfl rfl (Nat.le_of_ble_eq_true rfl) (fun M2 hr1 => ?_)
    obtain ⟨hf2, hff2⟩ := hr1
    refine Go.iinc (v := nI (i + 1)) (ls' := [some (.ref 49), some (.int (nI p0)), some (.int (nI (p0 / 20))), some (.int (nI (sN (p0 / 20)))), some (.int (nI (p0 % 20))), some (.int (nI (e0 + 1))), some (.int (nI (i + 1))), o7]) dX7_goesFrom_150 rfl (nI_1 _) rfl rfl ?_
    refine Go.goto 124 dX7_goesFrom_153 rfl ?_
    refine ih (i + 1) M2 _ _ (by omega) (hJ.step hpl had hf2 hff2) (hX.trans cm_ext) (fun t ht h2 => ?_)
    by_cases z : t = i
    · subst z; exact cm_done hJ.2.2.1 hpl h2
    · exact (hD t (by omega) h2).ext cm_ext
set_option maxRecDepth 20000 in
theorem m_goesFrom {G : Gt} {d : Nat} {M : Mm} (hG : gS G = SHAPE) {S : Bf} {gd : Nat → Bool} {k e0 p0 : Nat} (h0 : p0 < 1840) (hMd : MdS M) (hF : Fs M S gd) (hI : Iv S k e0) (hp0 : bW S k = p0) : ExV G (d + 1) mX7_goesFrom [.ref 49, .int (nI p0)] M (fun M' => ∃ S', Jv M S gd k e0 p0 M' S' ∧ ∀ p, p < 1840 → gd p = true → adjB (dishN p0) (dishN p) → Dn S' e0 p) := by
  refine Ex.of (by decide) (Nat.le_of_ble_eq_true rfl) ?_
  show Go G (d + 1) mX7_goesFrom 0 [some (.ref 49), some (.int (nI p0)), none, none, none, none, none, none] [] M _
  have hsl := sN_lt (k := p0 / 20) (by omega)
  have hd0 : bD S p0 = some e0 := by rw [← hp0]; exact hI.2.2.1
  refine Go.aload_n dX7_goesFrom_0 rfl ?_
  refine Go.getR dX7_goesFrom_1 flX7_34 (shp hG rfl) rfl ?_
  refine Go.aload_n dX7_goesFrom_4 rfl ?_
  refine Go.getR dX7_goesFrom_5 flX7_31 (shp hG rfl) rfl ?_
  refine Go.iload_n dX7_goesFrom_8 rfl ?_
  refine Go.bipush (v := 20) dX7_goesFrom_9 (by decide) ?_
  refine Go.idiv dX7_goesFrom_11 (by decide) ?_
  refine Go.eqI (y := nI (p0 / 20)) (pk_div (by omega) (by decide) (by decide)) ?_
  refine Go.iald dX7_goesFrom_12 (shp hG rfl) (vin (by omega) (by decide)) ?_
  refine Go.eqI (y := nI (sN (p0 / 20))) (by rw [ncl (by omega)]; exact hMd.1 _ (by omega)) ?_
  refine Go.iald dX7_goesFrom_13 (shp hG rfl) (vin hsl (by decide)) ?_
  refine Go.eqI (y := nI (p0 / 20)) (by rw [ncl (by omega), hMd.2 _ hsl, setsN_ok _ (by omega), if_pos rfl, ixN_sN _ (by omega)]) ?_
  refine Go.istore_n (ls' := [some (.ref 49), some (.int (nI p0)), some (.int (nI (p0 / 20))), none, none, none, none, none]) dX7_goesFrom_14 (Nat.le_of_ble_eq_true rfl) rfl rfl ?_
  refine Go.aload_n dX7_goesFrom_15 rfl ?_
  refine Go.getR dX7_goesFrom_16 flX7_31 (shp hG rfl) rfl ?_
  refine Go.iload_n dX7_goesFrom_19 rfl ?_
  refine Go.iald dX7_goesFrom_20 (shp hG rfl) (vin (by omega) (by decide)) ?_
  refine Go.eqI (y := nI (sN (p0 / 20))) (by rw [ncl (by omega)]; exact hMd.1 _ (by omega)) ?_
  refine Go.istore_n (ls' := [some (.ref 49), some (.int (nI p0)), some (.int (nI (p0 / 20))), some (.int (nI (sN (p0 / 20)))), none, none, none, none]) dX7_goesFrom_21 (Nat.le_of_ble_eq_true rfl) rfl rfl ?_
  refine Go.iload_n dX7_goesFrom_22 rfl ?_
  refine Go.bipush (v := 20) dX7_goesFrom_23 (by decide) ?_
  refine Go.irem dX7_goesFrom_25 (by decide) ?_
  refine Go.eqI (y := nI (p0 % 20)) (pk_rem (by omega) (by decide) (by decide)) ?_
  refine Go.istore (ls' := [some (.ref 49), some (.int (nI p0)), some (.int (nI (p0 / 20))), some (.int (nI (sN (p0 / 20)))), some (.int (nI (p0 % 20))), none, none, none]) dX7_goesFrom_26 (Nat.le_of_ble_eq_true rfl) rfl rfl ?_
  refine Go.aload_n dX7_goesFrom_28 rfl ?_
  refine Go.getR dX7_goesFrom_29 flX7_47 (shp hG rfl) rfl ?_
  refine Go.iload_n dX7_goesFrom_32 rfl ?_
  refine Go.iald dX7_goesFrom_33 (shp hG rfl) (vin (by omega) (by decide)) ?_
  refine Go.eqI (y := nI e0) (by rw [ncl (by omega), hF.2.1 p0 h0, hd0]; rfl) ?_
  refine Go.iconst (v := 1) dX7_goesFrom_34 (by decide) ?_
  refine Go.iadd dX7_goesFrom_35 ?_
  refine Go.eqI (y := nI (e0 + 1)) (nI_add _ _) ?_
  refine Go.istore (ls' := [some (.ref 49), some (.int (nI p0)), some (.int (nI (p0 / 20))), some (.int (nI (sN (p0 / 20)))), some (.int (nI (p0 % 20))), some (.int (nI (e0 + 1))), none, none]) dX7_goesFrom_36 (Nat.le_of_ble_eq_true rfl) rfl rfl ?_
  refine Go.iconst (v := 0) dX7_goesFrom_38 (by decide) ?_
  refine Go.istore (ls' := [some (.ref 49), some (.int (nI p0)), some (.int (nI (p0 / 20))), some (.int (nI (sN (p0 / 20)))), some (.int (nI (p0 % 20))), some (.int (nI (e0 + 1))), some (.int 0), none]) dX7_goesFrom_39 (Nat.le_of_ble_eq_true rfl) rfl rfl ?_
  refine l_gf1 hG h0 hMd (fun N1 S1 o7 hJ1 hD1 => ?_) 8 0 M S _ (by omega) ⟨hF, FsF.refl M, hI, Ext.refl S, fun p e h => Or.inl h⟩ (fun t ht => by omega)
  refine Go.iconst (v := 0) dX7_goesFrom_86 (by decide) ?_
  refine Go.istore (ls' := [some (.ref 49), some (.int (nI p0)), some (.int (nI (p0 / 20))), some (.int (nI (sN (p0 / 20)))), some (.int (nI (p0 % 20))), some (.int (nI (e0 + 1))), some (.int 0), o7]) dX7_goesFrom_87 (Nat.le_of_ble_eq_true rfl) rfl rfl ?_
  refine l_gf2 hG h0 hMd (S1 := S1) (fun N2 S2 o7 hJ2 hX2 hD2 => ?_) 5 0 N1 S1 o7 (by omega) hJ1 (Ext.refl _) (fun w hw => by omega)
  refine Go.iconst (v := 0) dX7_goesFrom_121 (by decide) ?_
  refine Go.istore (ls' := [some (.ref 49), some (.int (nI p0)), some (.int (nI (p0 / 20))), some (.int (nI (sN (p0 / 20)))), some (.int (nI (p0 % 20))), some (.int (nI (e0 + 1))), some (.int 0), o7]) dX7_goesFrom_122 (Nat.le_of_ble_eq_true rfl) rfl rfl ?_
  refine l_gf3 hG h0 hMd (S1 := S2) (fun N3 S3 o7 hJ3 hX3 hD3 => ?_) 4 0 N2 S2 o7 (by omega) hJ2 (Ext.refl _) (fun w hw => by omega)
  refine Go.vret dX7_goesFrom_156 rfl ?_
  refine ⟨rfl, S3, hJ3, fun p hp hg ha => ?_⟩
  rcases adj_cases h0 hp ha with ⟨t, h1, h2, h3⟩ | ⟨h1, h2⟩ | ⟨h1, h2⟩
  · subst h3; exact ((hD1 t h1 h2 hg).ext hX2).ext hX3
  · have e : p = 20 * (p0 / 20) + p0 % 20 / 4 * 4 + p % 20 % 4 := by omega
    rw [e] at hg ⊢
    exact hD3 _ (by omega) hg
  · have e : p = 20 * (p0 / 20) + 4 * (p % 20 / 4) + p0 % 20 % 4 := by omega
    rw [e] at hg ⊢
    exact (hD2 _ (by omega) hg).ext hX3
