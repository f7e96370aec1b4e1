/-- what is kept while meals are tried: entries and stores, in the reference's own rows -/
def Had (M M' : Mm) : Prop := M'.1 49 14 = M.1 49 4 ∧ (∀ t, t < 8 → M'.1 61 t = M.1 50 t) ∧ Same [49, 59, 61] M M' ∧ ∀ j, j ≠ 14 → M'.1 49 j = M.1 49 j
set_option maxRecDepth 20000 in
theorem l_begins0 {G : Gt} {d : Nat} {M : Mm} (hG : gS G = SHAPE) {n9 : Nat} {K X : Nat → Nat} {ed : Nat} (hB0 : BkM M n9 K X ed) (hS0 : MdS M) : ∀ (n i : Nat) (N : Mm), i + n = 8 → (N.1 49 14 = M.1 49 4 ∧ (∀ t, t < i → N.1 61 t = M.1 50 t) ∧ Same [49, 59, 61] M N ∧ ∀ j, j ≠ 14 → N.1 49 j = M.1 49 j) → Go G (d + 4) mX7_begins0 10 [some (.ref 49), some (.int (nI i))] [] N (fun v M' => v = none ∧ Had M M' ∧ MarkIs M' (cB n9 K X ed)) := by
  intro n
  induction n with
  | zero =>
    intro i N hin hI
    obtain ⟨h1, h2, h3, h4⟩ := hI
    have hB : BkM N n9 K X ed := hB0.same (h4 4 (by decide)) (h3.1 52 (by decide)) (h3.1 53 (by decide)) (h3.1 54 (by decide))
    have hS : MdS N := hS0.same (h3.1 57 (by decide)) (h3.1 58 (by decide))
    refine Go.iload_n dX7_begins0_10 rfl ?_
    refine Go.bipush (v := 8) dX7_begins0_11 (by decide) ?_
    refine Go.icmp_ge 34 dX7_begins0_13 rfl (fun _ => ?_) (fun h13 => absurd (nI_le (a := 8) (b := i) (by omega) (by omega)) h13)
    refine Go.aload_n dX7_begins0_34 rfl ?_
    refine Go.callVV [] dX7_begins0_35 lkX7_153 imX7_marks seX7_marks cbX7_marks (m_marks hG hB hS) (shp hG rfl) rfl rfl rfl (Nat.le_of_ble_eq_true rfl) (fun M2 hr1 => ?_)
    refine Go.vret dX7_begins0_38 rfl ?_
    have e9 : i = 8 := by omega
    subst e9
    have k1 := hr1.2.1 49 (by decide)
    have k2 := hr1.2.1 61 (by decide)
    exact ⟨rfl, ⟨by rw [k1]; exact h1, fun t ht => by rw [k2]; exact h2 t ht, h3.trans (hr1.2.mono (by decide)), fun j hj => by rw [k1]; exact h4 j hj⟩, hr1.1⟩
  | succ n ih =>
    intro i N hin hI
    have hi : i < 8 := by omega
    obtain ⟨h1, h2, h3, h4⟩ := hI
    refine Go.iload_n dX7_begins0_10 rfl ?_
    refine Go.bipush (v := 8) dX7_begins0_11 (by decide) ?_
    refine Go.icmp_ge 34 dX7_begins0_13 rfl (fun h13 => absurd h13 (nI_ge (a := i) (b := 8) (by omega) (by omega))) (fun _ => ?_)
    refine Go.aload_n dX7_begins0_16 rfl ?_
    refine Go.getR dX7_begins0_17 flX7_44 (shp hG rfl) rfl ?_
    refine Go.iload_n dX7_begins0_20 rfl ?_
    refine Go.aload_n dX7_begins0_21 rfl ?_
    refine Go.getR dX7_begins0_22 flX7_7 (shp hG rfl) rfl ?_
    refine Go.iload_n dX7_begins0_25 rfl ?_
    refine Go.iald dX7_begins0_26 (shp hG rfl) (vin (by omega) (by decide)) ?_
    refine Go.iast dX7_begins0_27 (shp hG rfl) (vin (by omega) (by decide)) ?_
    refine Go.nmM (fun N1 eN1 => ?_)
    refine Go.iinc (v := nI (i + 1)) (ls' := [some (.ref 49), some (.int (nI (i + 1)))]) dX7_begins0_28 rfl (nI_1 _) rfl rfl ?_
    refine Go.goto 10 dX7_begins0_31 rfl ?_
    refine ih (i + 1) N1 (by omega) ⟨by rw [eN1, rd_ne (by decide)]; exact h1, fun t ht => ?_, by rw [eN1]; exact h3.trans (Same.upi _ 61 _ _ (by decide)), fun j hj => by rw [eN1, rd_ne (by decide)]; exact h4 j hj⟩
    rw [eN1, ncl (by omega), rd_eq]
    unfold upd
    by_cases q : t = i
    · rw [if_pos q, q, h3.1 50 (by decide)]
    · rw [if_neg q]; exact h2 t (by omega)
set_option maxRecDepth 20000 in
theorem m_begins0 {G : Gt} {d : Nat} {M : Mm} (hG : gS G = SHAPE) {n9 : Nat} {K X : Nat → Nat} {ed : Nat} (hB0 : BkM M n9 K X ed) (hS0 : MdS M) : ExV G (d + 4) mX7_begins0 [.ref 49] M (fun M' => Had M M' ∧ MarkIs M' (cB n9 K X ed)) := by
  refine Ex.of (by decide) (Nat.le_of_ble_eq_true rfl) ?_
  show Go G (d + 4) mX7_begins0 0 [some (.ref 49), none] [] M _
  refine Go.aload_n dX7_begins0_0 rfl ?_
  refine Go.aload_n dX7_begins0_1 rfl ?_
  refine Go.getI dX7_begins0_2 flX7_93 (shp hG rfl) rfl ?_
  refine Go.putI dX7_begins0_5 fpX7_191 (shp hG rfl) rfl rfl rfl ?_
  refine Go.nmM (fun N1 eN1 => ?_)
  refine Go.iconst (v := 0) dX7_begins0_8 (by decide) ?_
  refine Go.istore_n (ls' := [some (.ref 49), some (.int 0)]) dX7_begins0_9 (Nat.le_of_ble_eq_true rfl) rfl rfl ?_
  exact l_begins0 hG hB0 hS0 8 0 N1 (by omega) ⟨by rw [eN1, rd_eq]; simp [upd], fun t ht => by omega, by rw [eN1]; exact Same.upi _ 49 _ _ (by decide), fun j hj => by rw [eN1, rd_eq]; simp [upd, hj]⟩
set_option maxRecDepth 20000 in
theorem l_back {G : Gt} {d : Nat} {M : Mm} (hG : gS G = SHAPE) : ∀ (n i : Nat) (N : Mm), i + n = 8 → (N.1 49 4 = M.1 49 14 ∧ (∀ t, t < i → N.1 50 t = M.1 61 t) ∧ (∀ t, 8 ≤ t → N.1 50 t = M.1 50 t) ∧ Same [49, 50] M N ∧ ∀ j, j ≠ 4 → N.1 49 j = M.1 49 j) → Go G (d) mX7_back 10 [some (.ref 49), some (.int (nI i))] [] N (fun v M' => v = none ∧ M'.1 49 4 = M.1 49 14 ∧ (∀ t, t < 8 → M'.1 50 t = M.1 61 t) ∧ (∀ t, 8 ≤ t → M'.1 50 t = M.1 50 t) ∧ Same [49, 50] M M' ∧ ∀ j, j ≠ 4 → M'.1 49 j = M.1 49 j) := by
  intro n
  induction n with
  | zero =>
    intro i N hin hI
    obtain ⟨h1, h2, h5, h3, h4⟩ := hI
    refine Go.iload_n dX7_back_10 rfl ?_
    refine Go.bipush (v := 8) dX7_back_11 (by decide) ?_
    refine Go.icmp_ge 34 dX7_back_13 rfl (fun _ => ?_) (fun h13 => absurd (nI_le (a := 8) (b := i) (by omega) (by omega)) h13)
    refine Go.vret dX7_back_34 rfl ?_
    have e9 : i = 8 := by omega
    subst e9
    exact ⟨rfl, h1, h2, h5, h3, h4⟩
  | succ n ih =>
    intro i N hin hI
    have hi : i < 8 := by omega
    obtain ⟨h1, h2, h5, h3, h4⟩ := hI
    refine Go.iload_n dX7_back_10 rfl ?_
    refine Go.bipush (v := 8) dX7_back_11 (by decide) ?_
    refine Go.icmp_ge 34 dX7_back_13 rfl (fun h13 => absurd h13 (nI_ge (a := i) (b := 8) (by omega) (by omega))) (fun _ => ?_)
    refine Go.aload_n dX7_back_16 rfl ?_
    refine Go.getR dX7_back_17 flX7_7 (shp hG rfl) rfl ?_
    refine Go.iload_n dX7_back_20 rfl ?_
    refine Go.aload_n dX7_back_21 rfl ?_
    refine Go.getR dX7_back_22 flX7_44 (shp hG rfl) rfl ?_
    refine Go.iload_n dX7_back_25 rfl ?_
    refine Go.iald dX7_back_26 (shp hG rfl) (vin (by omega) (by decide)) ?_
    refine Go.iast dX7_back_27 (shp hG rfl) (vin (by omega) (by decide)) ?_
    refine Go.nmM (fun N1 eN1 => ?_)
    refine Go.iinc (v := nI (i + 1)) (ls' := [some (.ref 49), some (.int (nI (i + 1)))]) dX7_back_28 rfl (nI_1 _) rfl rfl ?_
    refine Go.goto 10 dX7_back_31 rfl ?_
    refine ih (i + 1) N1 (by omega) ⟨by rw [eN1, rd_ne (by decide)]; exact h1, fun t ht => ?_, fun t ht => ?_, by rw [eN1]; exact h3.trans (Same.upi _ 50 _ _ (by decide)), fun j hj => by rw [eN1, rd_ne (by decide)]; exact h4 j hj⟩
    · rw [eN1, ncl (by omega), rd_eq]
      unfold upd
      by_cases q : t = i
      · rw [if_pos q, q, h3.1 61 (by decide)]
      · rw [if_neg q]; exact h2 t (by omega)
    · rw [eN1, ncl (by omega), rd_eq]
      unfold upd
      rw [if_neg (by omega)]
      exact h5 t ht
set_option maxRecDepth 20000 in
theorem m_back {G : Gt} {d : Nat} {M : Mm} (hG : gS G = SHAPE) : ExV G (d) mX7_back [.ref 49] M (fun M' => M'.1 49 4 = M.1 49 14 ∧ (∀ t, t < 8 → M'.1 50 t = M.1 61 t) ∧ (∀ t, 8 ≤ t → M'.1 50 t = M.1 50 t) ∧ Same [49, 50] M M' ∧ ∀ j, j ≠ 4 → M'.1 49 j = M.1 49 j) := by
  refine Ex.of (by decide) (Nat.le_of_ble_eq_true rfl) ?_
  show Go G (d) mX7_back 0 [some (.ref 49), none] [] M _
  refine Go.aload_n dX7_back_0 rfl ?_
  refine Go.aload_n dX7_back_1 rfl ?_
  refine Go.getI dX7_back_2 flX7_191 (shp hG rfl) rfl ?_
  refine Go.putI dX7_back_5 fpX7_93 (shp hG rfl) rfl rfl rfl ?_
  refine Go.nmM (fun N1 eN1 => ?_)
  refine Go.iconst (v := 0) dX7_back_8 (by decide) ?_
  refine Go.istore_n (ls' := [some (.ref 49), some (.int 0)]) dX7_back_9 (Nat.le_of_ble_eq_true rfl) rfl rfl ?_
  exact l_back hG 8 0 N1 (by omega) ⟨by rw [eN1, rd_eq]; simp [upd], fun t ht => by omega, fun t ht => by rw [eN1, rd_ne (by decide)], by rw [eN1]; exact Same.upi _ 49 _ _ (by decide), fun j hj => by rw [eN1, rd_eq]; simp [upd, hj]⟩
/-- behind meals that were only tried: nothing that counts has changed in the reference -/
def QM (n0 : Nat) (M M' : Mm) : Prop := Same [49, 53, 54, 55, 59, 61] M M' ∧ (∀ j, j ≠ 14 → M'.1 49 j = M.1 49 j) ∧ ∀ e, e < n0 → M'.1 53 e = M.1 53 e ∧ M'.1 54 e = M.1 54 e ∧ M'.1 55 e = M.1 55 e
theorem QM.refl (n0 : Nat) (M : Mm) : QM n0 M M := ⟨Same.refl _ _, fun _ _ => rfl, fun _ _ => ⟨rfl, rfl, rfl⟩⟩
theorem QM.trans {n0 : Nat} {M N L : Mm} (h1 : QM n0 M N) (h2 : QM n0 N L) : QM n0 M L := ⟨h1.1.trans h2.1, fun j hj => (h2.2.1 j hj).trans (h1.2.1 j hj), fun e he => ⟨((h2.2.2 e he).1).trans (h1.2.2 e he).1, ((h2.2.2 e he).2.1).trans (h1.2.2 e he).2.1, ((h2.2.2 e he).2.2).trans (h1.2.2 e he).2.2⟩⟩
theorem tried {n0 : Nat} {M N L M' : Mm} (h1 : Had M N) (h2 : MS n0 N L) (h3 : M'.1 49 4 = L.1 49 14 ∧ (∀ t, t < 8 → M'.1 50 t = L.1 61 t) ∧ (∀ t, 8 ≤ t → M'.1 50 t = L.1 50 t) ∧ Same [49, 50] L M' ∧ ∀ j, j ≠ 4 → M'.1 49 j = L.1 49 j) : QM n0 M M' := by
  obtain ⟨a1, a2, a3, a4⟩ := h1
  obtain ⟨b1, b2, b3, b4⟩ := h2
  obtain ⟨c1, c2, c3, c4, c5⟩ := h3
  have e61 : L.1 61 = N.1 61 := b1.1 61 (by decide)
  refine ⟨⟨fun a ha => ?_, by rw [c4.2, b1.2, a3.2]⟩, fun j hj => ?_, fun e he => ⟨?_, ?_, ?_⟩⟩
  · by_cases q : a = 50
    · subst q
      funext t
      by_cases ht : t < 8
      · rw [c2 t ht, e61, a2 t ht]
      · rw [c3 t (by omega), b4 t (by omega), a3.1 50 (by decide)]
    · simp at ha
      rw [c4.1 a (by simp [ha, q]), b1.1 a (by simp [ha, q]), a3.1 a (by simp [ha])]
  · by_cases q : j = 4
    · rw [q, c1, b2 14 (by decide), a1]
    · rw [c5 j q, b2 j q, a4 j hj]
  · rw [c4.1 53 (by decide), (b3 e he).1, a3.1 53 (by decide)]
  · rw [c4.1 54 (by decide), (b3 e he).2.1, a3.1 54 (by decide)]
  · rw [c4.1 55 (by decide), (b3 e he).2.2, a3.1 55 (by decide)]
theorem Had.start {M N : Mm} {n9 : Nat} {K X : Nat → Nat} {ed : Nat} (hB0 : BkM M n9 K X ed) (hS0 : MdS M) (h : Had M N) (hM : MarkIs N (cB n9 K X ed)) : Sst N n9 (M.1 50) (cB n9 K X ed) (M.1 51) (ml8 M) (ml13 M) ed := by
  obtain ⟨h1, h2, h3, h4⟩ := h
  have e51 := h3.1 51 (by decide)
  exact ⟨⟨K, X, hB0.same (h4 4 (by decide)) (h3.1 52 (by decide)) (h3.1 53 (by decide)) (h3.1 54 (by decide))⟩, hS0.same (h3.1 57 (by decide)) (h3.1 58 (by decide)), hM, h3.1 50 (by decide), e51, by unfold ml8; rw [e51], by unfold ml13; rw [e51]⟩
set_option maxRecDepth 20000 in
theorem l_lastsBy {G : Gt} {d : Nat} {M H : Mm} (hG : gS G = SHAPE) {lt lw ls : Nat → Int32} {ed n0 : Nat} (h30 : n0 ≤ 30) (hH : Had M H) {k : Nat} (hk : k < 6) {T : Nat} : ∀ (n i : Nat) (N : Mm) (f : Nat → Int32) (c : Nat → Nat), i + n = 60 → Sst N (n0 + i) f c lt lw ls ed → MS n0 H N → T = i + lastN (likD lt lw ls) ed k n f c → Go G (d + 5) mX7_lastsBy 6 [some (.ref 49), some (.int (nI k)), some (.int (nI i))] [] N (fun v M' => ∃ r, v = some (.int r) ∧ r = nI T ∧ QM n0 M M') := by
  intro n
  induction n with
  | zero =>
    intro i N f c hin hS hMs hT
    refine Go.iload_n dX7_lastsBy_6 rfl ?_
    refine Go.bipush (v := 60) dX7_lastsBy_7 (by decide) ?_
    refine Go.icmp_ge 26 dX7_lastsBy_9 rfl (fun _ => ?_) (fun h9 => absurd (nI_le (a := 60) (b := i) (by omega) (by omega)) h9)
    refine Go.aload_n dX7_lastsBy_26 rfl ?_
    refine Go.callVV [] dX7_lastsBy_27 lkX7_200 imX7_back seX7_back cbX7_back (m_back hG) (shp hG rfl) rfl rfl rfl (Nat.le_of_ble_eq_true rfl) (fun M2 hr1 => ?_)
    refine Go.iload_n dX7_lastsBy_30 rfl ?_
    refine Go.iret dX7_lastsBy_31 rfl rfl ?_
    have e9 : i = 60 := by omega
    exact ⟨_, rfl, by rw [hT, lastN, e9], tried hH hMs hr1⟩
  | succ n ih =>
    intro i N f c hin hS hMs hT
    have hi : i < 60 := by omega
    have j17 : ∀ (r : Int32) (L : Mm), GoesM N L (n0 + i) f c lt lw ls ed k r → Go G (d + 5) mX7_lastsBy 17 [some (.ref 49), some (.int (nI k)), some (.int (nI i))] [.int r] L (fun v M' => ∃ r, v = some (.int r) ∧ r = nI T ∧ QM n0 M M') := by
      intro r L hr
      rcases hr with ⟨e, hb, eL⟩ | ⟨x, e, hx, hb, hK2, hMs2⟩
      · rw [e]
        refine Go.if_lt 26 dX7_lastsBy_17 rfl (fun _ => ?_) (fun h17 => absurd (by decide) h17)
        refine Go.aload_n dX7_lastsBy_26 rfl ?_
        refine Go.callVV [] dX7_lastsBy_27 lkX7_200 imX7_back seX7_back cbX7_back (m_back hG) (shp hG rfl) rfl rfl rfl (Nat.le_of_ble_eq_true rfl) (fun M2 hr1 => ?_)
        refine Go.iload_n dX7_lastsBy_30 rfl ?_
        refine Go.iret dX7_lastsBy_31 rfl rfl ?_
        exact ⟨_, rfl, by rw [hT, lastN, hb]; rfl, tried hH (by rw [eL]; exact hMs) hr1⟩
      · rw [e]
        refine Go.if_lt 26 dX7_lastsBy_17 rfl (fun h17 => absurd h17 (nI_pos (by omega))) (fun _ => ?_)
        refine Go.iinc (v := nI (i + 1)) (ls' := [some (.ref 49), some (.int (nI k)), some (.int (nI (i + 1)))]) dX7_lastsBy_20 rfl (nI_1 _) rfl rfl ?_
        refine Go.goto 6 dX7_lastsBy_23 rfl ?_
        refine ih (i + 1) L _ _ (by omega) (by rw [show n0 + (i + 1) = n0 + i + 1 by omega]; exact hK2) (hMs.trans (hMs2.mono (by omega))) ?_
        rw [hT, lastN, hb]
        show i + (lastN (likD lt lw ls) ed k n (takeF f (x / 20) 8) (addC c k x ed) + 1) = _
        omega
    refine Go.iload_n dX7_lastsBy_6 rfl ?_
    refine Go.bipush (v := 60) dX7_lastsBy_7 (by decide) ?_
    refine Go.icmp_ge 26 dX7_lastsBy_9 rfl (fun h9 => absurd h9 (nI_ge (a := i) (b := 60) (by omega) (by omega))) (fun _ => ?_)
    refine Go.aload_n dX7_lastsBy_12 rfl ?_
    refine Go.iload_n dX7_lastsBy_13 rfl ?_
    refine Go.callVI [] dX7_lastsBy_14 lkX7_197 imX7_goesOn seX7_goesOn cbX7_goesOn (m_goesOn hG hS hk (by omega)) (shp hG rfl) rfl rfl rfl (Nat.le_of_ble_eq_true rfl) (fun r1 M2 hr1 => ?_)
    exact j17 _ _ hr1
set_option maxRecDepth 20000 in
theorem m_lastsBy {G : Gt} {d : Nat} {M : Mm} (hG : gS G = SHAPE) {n9 : Nat} {K X : Nat → Nat} {ed : Nat} (hB0 : BkM M n9 K X ed) (hS0 : MdS M) (h30 : n9 ≤ 30) {k : Nat} (hk : k < 6) : ExI G (d + 5) mX7_lastsBy [.ref 49, .int (nI k)] M (fun r M' => r = nI (lastN (likD (M.1 51) (ml8 M) (ml13 M)) ed k 60 (M.1 50) (cB n9 K X ed)) ∧ QM n9 M M') := by
  refine Ex.of (by decide) (Nat.le_of_ble_eq_true rfl) ?_
  show Go G (d + 5) mX7_lastsBy 0 [some (.ref 49), some (.int (nI k)), none] [] M _
  refine Go.aload_n dX7_lastsBy_0 rfl ?_
  refine Go.callVV [] dX7_lastsBy_1 lkX7_194 imX7_begins0 seX7_begins0 cbX7_begins0 (m_begins0 hG hB0 hS0) (shp hG rfl) rfl rfl rfl (Nat.le_of_ble_eq_true rfl) (fun M2 hr1 => ?_)
  refine Go.iconst (v := 0) dX7_lastsBy_4 (by decide) ?_
  refine Go.istore_n (ls' := [some (.ref 49), some (.int (nI k)), some (.int 0)]) dX7_lastsBy_5 (Nat.le_of_ble_eq_true rfl) rfl rfl ?_
  exact l_lastsBy hG h30 hr1.1 hk 60 0 _ (M.1 50) (cB n9 K X ed) (by omega) (hr1.1.start hB0 hS0 hr1.2) (MS.refl _ _) (Nat.zero_add _).symm
