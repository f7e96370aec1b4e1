theorem cutbits8 (x : BitVec 64) : (x <<< 56).sshiftRight 56 = (((x.signExtend 32).signExtend 8).signExtend 32).signExtend 64 := by
  apply BitVec.eq_of_getLsbD_eq
  intro i hi
  simp only [BitVec.getLsbD_sshiftRight, BitVec.getLsbD_signExtend, BitVec.getLsbD_shiftLeft, BitVec.msb_eq_getLsbD_last]
  by_cases h : i < 8
  · have e1 : 56 + i < 64 := by omega
    have e2 : i < 32 := by omega
    have e3 : ¬ 64 ≤ i := by omega
    have e4 : ¬ 56 + i < 56 := by omega
    have e5 : 56 + i - 56 = i := by omega
    simp [h, hi, e1, e2, e3, e4, e5]
  · have e1 : ¬ 56 + i < 64 := by omega
    have e3 : ¬ 64 ≤ i := by omega
    by_cases e2 : i < 32
    · simp [h, hi, e1, e2, e3]
    · simp [h, hi, e1, e2, e3]
theorem sh56 : ((((56 : Int32)).toInt64 &&& 63).toBitVec.smod 64).toNat = 56 := by decide
theorem cut8 (v : Int64) : (v <<< (((56 : Int32)).toInt64 &&& 63)) >>> (((56 : Int32)).toInt64 &&& 63) = (Int32.toInt8 v.toInt32).toInt32.toInt64 := by
  apply Int64.toBitVec_inj.1
  rw [Int64.toBitVec_shiftRight, Int64.toBitVec_shiftLeft, Int32.toBitVec_toInt64, Int8.toBitVec_toInt32, Int32.toBitVec_toInt8, Int64.toBitVec_toInt32, BitVec.sshiftRight_eq', BitVec.shiftLeft_eq', sh56]
  exact cutbits8 v.toBitVec
theorem cutbits16 (x : BitVec 64) : (x <<< 48).sshiftRight 48 = (((x.signExtend 32).signExtend 16).signExtend 32).signExtend 64 := by
  apply BitVec.eq_of_getLsbD_eq
  intro i hi
  simp only [BitVec.getLsbD_sshiftRight, BitVec.getLsbD_signExtend, BitVec.getLsbD_shiftLeft, BitVec.msb_eq_getLsbD_last]
  by_cases h : i < 16
  · have e1 : 48 + i < 64 := by omega
    have e2 : i < 32 := by omega
    have e3 : ¬ 64 ≤ i := by omega
    have e4 : ¬ 48 + i < 48 := by omega
    have e5 : 48 + i - 48 = i := by omega
    simp [h, hi, e1, e2, e3, e4, e5]
  · have e1 : ¬ 48 + i < 64 := by omega
    have e3 : ¬ 64 ≤ i := by omega
    by_cases e2 : i < 32
    · simp [h, hi, e1, e2, e3]
    · simp [h, hi, e1, e2, e3]
theorem sh48 : ((((48 : Int32)).toInt64 &&& 63).toBitVec.smod 64).toNat = 48 := by decide
theorem cut16 (v : Int64) : (v <<< (((48 : Int32)).toInt64 &&& 63)) >>> (((48 : Int32)).toInt64 &&& 63) = (Int32.toInt16 v.toInt32).toInt32.toInt64 := by
  apply Int64.toBitVec_inj.1
  rw [Int64.toBitVec_shiftRight, Int64.toBitVec_shiftLeft, Int32.toBitVec_toInt64, Int16.toBitVec_toInt32, Int32.toBitVec_toInt16, Int64.toBitVec_toInt32, BitVec.sshiftRight_eq', BitVec.shiftLeft_eq', sh48]
  exact cutbits16 v.toBitVec
/-- a number as a sheet of so many bits keeps it -/
def cutL (b : Int32) (v : Int64) : Int64 := if b = 8 then (Int32.toInt8 v.toInt32).toInt32.toInt64 else if b = 16 then (Int32.toInt16 v.toInt32).toInt32.toInt64 else v
theorem sheetAt {G : Gt} (hG : gS G = SHAPE) {s : Nat} (h : s < 4) : ∃ q r : Nat, q = 40 + s ∧ r = 44 + s ∧ (gS G)[q]? = some (.inr (4, [.inr true, .inr true, .inl (some r)])) ∧ (gS G)[r]? = some (.inl (2, 40, [])) ∧ ([some 40, some 41, some 42, some 43] : List (Option Nat)).getD s none = some q := by
  match s, h with
  | 0, _ => exact ⟨40, 44, rfl, rfl, shp hG rfl, shp hG rfl, rfl⟩
  | 1, _ => exact ⟨41, 45, rfl, rfl, shp hG rfl, shp hG rfl, rfl⟩
  | 2, _ => exact ⟨42, 46, rfl, rfl, shp hG rfl, shp hG rfl, rfl⟩
  | 3, _ => exact ⟨43, 47, rfl, rfl, shp hG rfl, shp hG rfl, rfl⟩
def setS (g : Sg) (B : Nat → Int32) (L : Nat → Nat) (V : Nat → Nat → Int64) : Sg := (g.1, g.2.1, g.2.2.1, g.2.2.2.1, (B, L, V), g.2.2.2.2.2)
theorem comp_setS {M M' : Mm} {g : Sg} {B : Nat → Int32} {L : Nat → Nat} {V : Nat → Nat → Int64} (h : CompIs M g) (h1 : ∀ a, a < 40 ∨ 44 ≤ a → M'.1 a = M.1 a) (h2 : ∀ a, a < 44 ∨ 48 ≤ a → M'.2 a = M.2 a) (h3 : ∀ s, s < 4 → M'.1 (40 + s) 0 = B s ∧ M'.1 (40 + s) 1 = nI (L s) ∧ ∀ i, i < 40 → M'.2 (44 + s) i = V s i) : CompIs M' (setS g B L V) ∧ MSame M M' := by
  obtain ⟨k1, k2, k3, k4, k5, k6, k7, k8⟩ := h
  exact ⟨⟨k1.same (fun j hj => h1 _ (by omega)), by rw [h1 0 (by decide)]; exact k2, fun k => (k3 k).same (fun j hj => h1 _ (by omega)), by rw [h1 37 (by decide)]; exact k4, fun i hi => by rw [h1 38 (by decide)]; exact k5 i hi, h3, fun j hj => by rw [h1 48 (by decide)]; exact k7 j hj, fun s hs4 => by rw [h1 33 (by decide)]; exact k8 s hs4⟩, fun a ha => ⟨h1 a (by omega), h2 a (by omega)⟩⟩
theorem mod_setS {M M' : Mm} {g : Sg} {B : Nat → Int32} {L : Nat → Nat} {V : Nat → Nat → Int64} (h : ModIs M g) (h1 : ∀ a, a ≠ 66 → a ≠ 67 → M'.1 a = M.1 a) (h2 : ∀ a, a ≠ 68 → a ≠ 69 → M'.2 a = M.2 a) (h3 : ∀ s, s < 4 → M'.1 66 s = B s ∧ M'.1 67 s = nI (L s) ∧ ∀ i, i < 40 → M'.2 68 (40 * s + i) = V s i) : ModIs M' (setS g B L V) ∧ CSame M M' := by
  obtain ⟨k1, k2, k3, k4, k5, k6, k7, k8⟩ := h
  have r : ∀ a, a < 66 ∨ 67 < a → M'.1 a = M.1 a := fun a ha => h1 a (by omega) (by omega)
  refine ⟨⟨?_, by rw [r 49 (by decide)]; exact k2, fun k => (k3 k).same (r 70 (by decide)), by rw [r 49 (by decide)]; exact k4, fun i hi => by rw [r 65 (by decide)]; exact k5 i hi, h3, fun j hj => by rw [r 56 (by decide)]; exact k7 j hj, k8.same (r 57 (by decide)) (r 58 (by decide))⟩, fun a ha => ⟨h1 a (by omega) (by omega), h2 a (by omega) (by omega)⟩⟩
  show BuM M' (gU g)
  unfold BuM at k1 ⊢
  rw [r 49 (by decide), r 50 (by decide), r 51 (by decide), r 52 (by decide), r 53 (by decide), r 54 (by decide), r 55 (by decide)]
  exact k1
theorem rl_eq {M : Mm} {k j : Nat} {x : Int64} : (upl M k j x).2 k = vp_updL (M.2 k) j x := by simp [upl, setl]
theorem rl_ne {M : Mm} {k j a : Nat} {x : Int64} (h : a ≠ k) : (upl M k j x).2 a = M.2 a := by simp [upl, setl, h]
theorem rl_i {M : Mm} {k j : Nat} {x : Int64} : (upl M k j x).1 = M.1 := rfl
set_option maxRecDepth 20000 in
theorem s_isMissing {G : Gt} {d : Nat} {M : Mm} {q r : Nat} (hq : (gS G)[q]? = some (.inr (4, [.inr true, .inr true, .inl (some r)]))) (hr : (gS G)[r]? = some (.inl (2, 40, []))) : ExI G (d) mX4_isMissing [.ref q] M (fun r9 M' => r9 = bi (decide (M.1 q 0 = 0)) ∧ M' = M) := by
  refine Ex.of (by decide) (Nat.le_of_ble_eq_true rfl) ?_
  show Go G (d) mX4_isMissing 0 [some (.ref q)] [] M _
  refine Go.aload_n dX4_isMissing_0 rfl ?_
  refine Go.getI dX4_isMissing_1 flX4_9 hq rfl ?_
  refine Go.if_ne 11 dX4_isMissing_4 rfl (fun h4 => ?_) (fun h4 => ?_)
  · refine Go.iconst (v := 0) dX4_isMissing_11 (by decide) ?_
    refine Go.iret dX4_isMissing_12 rfl (by decide) ?_
    refine ⟨_, rfl, ?_, rfl⟩
    simp [bi, h4]
  · refine Go.iconst (v := 1) dX4_isMissing_7 (by decide) ?_
    refine Go.goto 12 dX4_isMissing_8 rfl ?_
    refine Go.iret dX4_isMissing_12 rfl (by decide) ?_
    refine ⟨_, rfl, ?_, rfl⟩
    simp [bi, h4]
set_option maxRecDepth 20000 in
theorem s_cut {G : Gt} {d : Nat} {M : Mm} {q r : Nat} (hq : (gS G)[q]? = some (.inr (4, [.inr true, .inr true, .inl (some r)]))) (hr : (gS G)[r]? = some (.inl (2, 40, []))) (v : Int64) : ExL G (d) mX4_cut [.ref q, .long v] M (fun r9 M' => r9 = cutL (M.1 q 0) v ∧ M' = M) := by
  refine Ex.of (by decide) (Nat.le_of_ble_eq_true rfl) ?_
  show Go G (d) mX4_cut 0 [some (.ref q), some (.long v), none] [] M _
  refine Go.aload_n dX4_cut_0 rfl ?_
  refine Go.getI dX4_cut_1 flX4_9 hq rfl ?_
  refine Go.bipush (v := 8) dX4_cut_4 (by decide) ?_
  refine Go.icmp_ne 14 dX4_cut_6 rfl (fun h6 => ?_) (fun h6 => ?_)
  · refine Go.aload_n dX4_cut_14 rfl ?_
    refine Go.getI dX4_cut_15 flX4_9 hq rfl ?_
    refine Go.bipush (v := 16) dX4_cut_18 (by decide) ?_
    refine Go.icmp_ne 30 dX4_cut_20 rfl (fun h20 => ?_) (fun h20 => ?_)
    · refine Go.lload_n dX4_cut_30 rfl ?_
      refine Go.lret dX4_cut_31 rfl ?_
      refine ⟨_, rfl, ?_, rfl⟩
      simp [cutL, h6, h20]
    · refine Go.lload_n dX4_cut_23 rfl ?_
      refine Go.l2i dX4_cut_24 ?_
      refine Go.i2s dX4_cut_25 ?_
      refine Go.i2l dX4_cut_26 ?_
      refine Go.goto 31 dX4_cut_27 rfl ?_
      refine Go.lret dX4_cut_31 rfl ?_
      refine ⟨_, rfl, ?_, rfl⟩
      simp [cutL, h6, h20]
  · refine Go.lload_n dX4_cut_9 rfl ?_
    refine Go.l2i dX4_cut_10 ?_
    refine Go.i2b dX4_cut_11 ?_
    refine Go.i2l dX4_cut_12 ?_
    refine Go.lret dX4_cut_13 rfl ?_
    refine ⟨_, rfl, ?_, rfl⟩
    simp [cutL, h6]
set_option maxRecDepth 20000 in
theorem s_put {G : Gt} {d : Nat} {M : Mm} {q r : Nat} (hq : (gS G)[q]? = some (.inr (4, [.inr true, .inr true, .inl (some r)]))) (hr : (gS G)[r]? = some (.inl (2, 40, []))) {n i : Nat} (hn : M.1 q 1 = nI n) (h40 : n ≤ 40) (hi : i < n) (v : Int64) : ExV G (d + 1) mX4_put [.ref q, .int (nI i), .long v] M (fun M' => M' = upl M r i (cutL (M.1 q 0) v)) := by
  refine Ex.of (by decide) (Nat.le_of_ble_eq_true rfl) ?_
  show Go G (d + 1) mX4_put 0 [some (.ref q), some (.int (nI i)), some (.long v), none] [] M _
  refine Go.iload_n dX4_put_0 rfl ?_
  refine Go.aload_n dX4_put_1 rfl ?_
  refine Go.getI dX4_put_2 flX4_15 hq rfl ?_
  refine Go.eqI (y := nI n) (hn) ?_
  refine Go.callSI [] dX4_put_5 lkX4_28 stX6_isBelow cbX6_isBelow (s_isBelow (nI i) (nI n)) rfl rfl (Nat.le_of_ble_eq_true rfl) (fun r1 M2 hr1 => ?_)
  obtain ⟨er1, emr1⟩ := hr1
  rw [emr1]
  clear emr1 M2
  subst er1
  refine Go.eqI (y := 1) (by rw [inb_nI (by omega) (by omega), decide_eq_true hi]; rfl) ?_
  refine Go.if_eq 22 dX4_put_8 rfl (fun h8 => absurd h8 (by decide)) (fun _ => ?_)
  refine Go.aload_n dX4_put_11 rfl ?_
  refine Go.getR dX4_put_12 flX4_18 hq rfl ?_
  refine Go.iload_n dX4_put_15 rfl ?_
  refine Go.aload_n dX4_put_16 rfl ?_
  refine Go.lload_n dX4_put_17 rfl ?_
  refine Go.callVL [.int (nI i), .ref r] dX4_put_18 lkX4_32 imX4_cut seX4_cut cbX4_cut (s_cut hq hr v) hq rfl rfl rfl (Nat.le_of_ble_eq_true rfl) (fun r3 M4 hr3 => ?_)
  obtain ⟨er3, emr3⟩ := hr3
  rw [emr3]
  clear emr3 M4
  subst er3
  refine Go.last dX4_put_21 hr (vin (by omega) (by decide)) ?_
  refine Go.nmM (fun N5 eN5 => ?_)
  refine Go.vret dX4_put_22 rfl ?_
  refine ⟨rfl, ?_⟩
  rw [eN5, ncl (by omega)]
def partB (n : Nat) (f m : Int32) : Bool := decide (0 ≤ f.toInt ∧ 0 ≤ m.toInt ∧ f.toInt + m.toInt ≤ n)
theorem i_ge0 {a : Int32} : 0 ≤ a ↔ 0 ≤ a.toInt := by
  rw [i_le]
  have : ((0 : Int32)).toInt = 0 := by decide
  omega
theorem i_lt0 {a : Int32} : a < 0 ↔ a.toInt < 0 := by
  rw [i_lt]
  have : ((0 : Int32)).toInt = 0 := by decide
  omega
theorem subInt {a b : Int32} (ha : 0 ≤ a.toInt ∧ a.toInt ≤ 40) (hb : 0 ≤ b.toInt) : (a - b).toInt = a.toInt - b.toInt := by
  rw [Int32.toInt_sub]
  have := Int32.toInt_lt b
  exact Int.bmod_eq_of_le (by omega) (by omega)
set_option maxRecDepth 20000 in
theorem s_hasPart {G : Gt} {d : Nat} {M : Mm} {q r : Nat} (hq : (gS G)[q]? = some (.inr (4, [.inr true, .inr true, .inl (some r)]))) (hr : (gS G)[r]? = some (.inl (2, 40, []))) {n : Nat} (hn : M.1 q 1 = nI n) (h40 : n ≤ 40) (f m : Int32) : ExI G (d) mX4_hasPart [.ref q, .int f, .int m] M (fun r9 M' => r9 = bi (partB n f m) ∧ M' = M) := by
  refine Ex.of (by decide) (Nat.le_of_ble_eq_true rfl) ?_
  show Go G (d) mX4_hasPart 0 [some (.ref q), some (.int f), some (.int m)] [] M _
  refine Go.iload_n dX4_hasPart_0 rfl ?_
  refine Go.if_lt 22 dX4_hasPart_1 rfl (fun h1 => ?_) (fun h1 => ?_)
  · refine Go.iconst (v := 0) dX4_hasPart_22 (by decide) ?_
    refine Go.iret dX4_hasPart_23 rfl (by decide) ?_
    refine ⟨_, rfl, ?_, rfl⟩
    have hn9 := nI_toInt (n := n) (by omega)
    rw [i_lt0] at h1
    rw [show partB n f m = false from decide_eq_false (by omega)]
    rfl
  · refine Go.iload_n dX4_hasPart_4 rfl ?_
    refine Go.if_lt 22 dX4_hasPart_5 rfl (fun h5 => ?_) (fun h5 => ?_)
    · refine Go.iconst (v := 0) dX4_hasPart_22 (by decide) ?_
      refine Go.iret dX4_hasPart_23 rfl (by decide) ?_
      refine ⟨_, rfl, ?_, rfl⟩
      have hn9 := nI_toInt (n := n) (by omega)
      rw [i_lt0] at h1
      rw [i_lt0] at h5
      rw [show partB n f m = false from decide_eq_false (by omega)]
      rfl
    · refine Go.iload_n dX4_hasPart_8 rfl ?_
      refine Go.aload_n dX4_hasPart_9 rfl ?_
      refine Go.getI dX4_hasPart_10 flX4_15 hq rfl ?_
      refine Go.eqI (y := nI n) (hn) ?_
      refine Go.iload_n dX4_hasPart_13 rfl ?_
      refine Go.isub dX4_hasPart_14 ?_
      refine Go.icmp_gt 22 dX4_hasPart_15 rfl (fun h15 => ?_) (fun h15 => ?_)
      · refine Go.iconst (v := 0) dX4_hasPart_22 (by decide) ?_
        refine Go.iret dX4_hasPart_23 rfl (by decide) ?_
        refine ⟨_, rfl, ?_, rfl⟩
        have hn9 := nI_toInt (n := n) (by omega)
        rw [i_lt0] at h1
        rw [i_lt0] at h5
        rw [i_lt, subInt (by omega) (by omega), hn9] at h15
        rw [show partB n f m = false from decide_eq_false (by omega)]
        rfl
      · refine Go.iconst (v := 1) dX4_hasPart_18 (by decide) ?_
        refine Go.goto 23 dX4_hasPart_19 rfl ?_
        refine Go.iret dX4_hasPart_23 rfl (by decide) ?_
        refine ⟨_, rfl, ?_, rfl⟩
        have hn9 := nI_toInt (n := n) (by omega)
        rw [i_lt0] at h1
        rw [i_lt0] at h5
        rw [i_lt, subInt (by omega) (by omega), hn9] at h15
        rw [show partB n f m = true from decide_eq_true (by omega)]
        rfl
def filL (f : Nat → Int64) (v : Int64) (n : Nat) : Nat → Int64 := fun j => if j < n then v else f j
theorem filL_step (M : Mm) (k i : Nat) (v : Int64) : upl (setl M k (filL (M.2 k) v i)) k i v = setl M k (filL (M.2 k) v (i + 1)) := by
  unfold upl
  have e : (setl M k (filL (M.2 k) v i)).2 k = filL (M.2 k) v i := by simp [setl]
  rw [e]
  unfold setl
  refine Prod.ext rfl ?_
  funext a
  simp only []
  by_cases h : a = k
  · rw [if_pos h, if_pos h]
    funext j
    unfold vp_updL filL
    by_cases q : j = i
    · rw [if_pos q, if_pos (by omega)]
    · rw [if_neg q]
      by_cases q2 : j < i
      · rw [if_pos q2, if_pos (by omega)]
      · rw [if_neg q2, if_neg (by omega)]
  · rw [if_neg h, if_neg h, if_neg h]
theorem filL_0 (M : Mm) (k : Nat) (v : Int64) : setl M k (filL (M.2 k) v 0) = M := by
  unfold setl
  refine Prod.ext rfl ?_
  funext a
  simp only []
  by_cases h : a = k
  · rw [if_pos h, h]
    funext j
    simp [filL]
  · rw [if_neg h]
