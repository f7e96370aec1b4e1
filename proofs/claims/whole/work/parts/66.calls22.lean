set_option maxRecDepth 20000 in
theorem l_fillL {G : Gt} {d : Nat} {M : Mm} {r : Nat} {v : Int64} (hr : (gS G)[r]? = some (.inl (2, 40, []))) : ∀ (n i : Nat), i + n = 40 → Go G (d) mJ7_fill_d0a16 6 [some (.ref r), some (.long v), none, some (.int (nI i)), some (.int 40)] [] (setl M r (filL (M.2 r) v i)) (fun w M' => w = none ∧ M' = setl M r (filL (M.2 r) v 40)) := by
  intro n
  induction n with
  | zero =>
    intro i  hin
    refine Go.iload_n dJ7_fill_d0a16_6 rfl ?_
    refine Go.iload dJ7_fill_d0a16_7 rfl ?_
    refine Go.icmp_ge 22 dJ7_fill_d0a16_9 rfl (fun _ => ?_) (fun h9 => absurd (nI_le (a := 40) (b := i) (by omega) (by omega)) h9)
    refine Go.vret dJ7_fill_d0a16_22 rfl ?_
    have e9 : i = 40 := by omega
    subst e9
    exact ⟨rfl, rfl⟩
  | succ n ih =>
    intro i  hin
    have hi : i < 40 := by omega
    refine Go.iload_n dJ7_fill_d0a16_6 rfl ?_
    refine Go.iload dJ7_fill_d0a16_7 rfl ?_
    refine Go.icmp_ge 22 dJ7_fill_d0a16_9 rfl (fun h9 => absurd h9 (nI_ge (a := i) (b := 40) (by omega) (by omega))) (fun _ => ?_)
    refine Go.aload_n dJ7_fill_d0a16_12 rfl ?_
    refine Go.iload_n dJ7_fill_d0a16_13 rfl ?_
    refine Go.lload_n dJ7_fill_d0a16_14 rfl ?_
    refine Go.last dJ7_fill_d0a16_15 hr (vin (by omega) (by decide)) ?_
    refine Go.nmM (fun N1 eN1 => ?_)
    refine Go.iinc (v := nI (i + 1)) (ls' := [some (.ref r), some (.long v), none, some (.int (nI (i + 1))), some (.int 40)]) dJ7_fill_d0a16_16 rfl (nI_1 _) rfl rfl ?_
    refine Go.goto 6 dJ7_fill_d0a16_19 rfl ?_
    rw [eN1, ncl (by omega), filL_step]
    exact ih (i + 1) (by omega)
set_option maxRecDepth 20000 in
theorem s_fillL {G : Gt} {d : Nat} {M : Mm} {r : Nat} {v : Int64} (hr : (gS G)[r]? = some (.inl (2, 40, []))) : ExV G (d) mJ7_fill_d0a16 [.ref r, .long v] M (fun M' => M' = setl M r (filL (M.2 r) v 40)) := by
  refine Ex.of (by decide) (Nat.le_of_ble_eq_true rfl) ?_
  show Go G (d) mJ7_fill_d0a16 0 [some (.ref r), some (.long v), none, none, none] [] M _
  refine Go.iconst (v := 0) dJ7_fill_d0a16_0 (by decide) ?_
  refine Go.istore_n (ls' := [some (.ref r), some (.long v), none, some (.int 0), none]) dJ7_fill_d0a16_1 (Nat.le_of_ble_eq_true rfl) rfl rfl ?_
  refine Go.aload_n dJ7_fill_d0a16_2 rfl ?_
  refine Go.alenI (v := 40) dJ7_fill_d0a16_3 hr (by decide) ?_
  refine Go.istore (ls' := [some (.ref r), some (.long v), none, some (.int 0), some (.int 40)]) dJ7_fill_d0a16_4 (Nat.le_of_ble_eq_true rfl) rfl rfl ?_
  have h9 := l_fillL (d := d) (M := M) (v := v) hr 40 0 (by omega)
  rw [filL_0] at h9
  exact h9
set_option maxRecDepth 20000 in
theorem s_lay {G : Gt} {d : Nat} {M : Mm} {q r : Nat} (hq : (gS G)[q]? = some (.inr (4, [.inr true, .inr true, .inl (some r)]))) (hr : (gS G)[r]? = some (.inl (2, 40, []))) (b n : Int32) : ExV G (d + 1) mX4_lay [.ref q, .int b, .int n] M (fun M' => M' = setl (upi (upi M q 0 b) q 1 (if b = 0 then 0 else n)) r (filL (M.2 r) 0 40)) := by
  refine Ex.of (by decide) (Nat.le_of_ble_eq_true rfl) ?_
  show Go G (d + 1) mX4_lay 0 [some (.ref q), some (.int b), some (.int n)] [] M _
  refine Go.aload_n dX4_lay_0 rfl ?_
  refine Go.iload_n dX4_lay_1 rfl ?_
  refine Go.putI dX4_lay_2 fpX4_9 hq rfl rfl rfl ?_
  refine Go.nmM (fun N1 eN1 => ?_)
  refine Go.aload_n dX4_lay_5 rfl ?_
  refine Go.iload_n dX4_lay_6 rfl ?_
  refine Go.if_ne 14 dX4_lay_7 rfl (fun h7 => ?_) (fun h7 => ?_)
  · refine Go.iload_n dX4_lay_14 rfl ?_
    refine Go.putI dX4_lay_15 fpX4_15 hq rfl rfl rfl ?_
    refine Go.nmM (fun N2 eN2 => ?_)
    refine Go.aload_n dX4_lay_18 rfl ?_
    refine Go.getR dX4_lay_19 flX4_18 hq rfl ?_
    refine Go.lconst (v := 0) dX4_lay_22 rfl ?_
    refine Go.callSV [] dX4_lay_23 lkX4_22 stJ7_fill_d0a16 cbJ7_fill_d0a16 (s_fillL (r := r) (v := 0) hr) rfl rfl (Nat.le_of_ble_eq_true rfl) (fun M4 hr3 => ?_)
    refine Go.vret dX4_lay_26 rfl ?_
    refine ⟨rfl, ?_⟩
    rw [hr3, eN2, eN1]
    simp only [h7, if_true, if_false]
    rfl
  · refine Go.iconst (v := 0) dX4_lay_10 (by decide) ?_
    refine Go.goto 15 dX4_lay_11 rfl ?_
    refine Go.putI dX4_lay_15 fpX4_15 hq rfl rfl rfl ?_
    refine Go.nmM (fun N5 eN5 => ?_)
    refine Go.aload_n dX4_lay_18 rfl ?_
    refine Go.getR dX4_lay_19 flX4_18 hq rfl ?_
    refine Go.lconst (v := 0) dX4_lay_22 rfl ?_
    refine Go.callSV [] dX4_lay_23 lkX4_22 stJ7_fill_d0a16 cbJ7_fill_d0a16 (s_fillL (r := r) (v := 0) hr) rfl rfl (Nat.le_of_ble_eq_true rfl) (fun M7 hr6 => ?_)
    refine Go.vret dX4_lay_26 rfl ?_
    refine ⟨rfl, ?_⟩
    rw [hr6, eN5, eN1]
    simp only [h7, if_true, if_false]
    rfl
def fltS (g : Sg) (s : Int32) : Int32 := if inb s 4 then (if gSb g (tN s) = 0 then -1000000006 else 0) else -1000000001
theorem sht {M : Mm} {g : Sg} (hC : CompIs M g) {s : Nat} (hs : s < 4) : M.1 (40 + s) 0 = gSb g s ∧ M.1 (40 + s) 1 = nI (gSl g s) ∧ ∀ i, i < 40 → M.2 (44 + s) i = gSn g s i := hC.2.2.2.2.2.1 s hs
theorem shm {M : Mm} {g : Sg} (hC : ModIs M g) {s : Nat} (hs : s < 4) : M.1 66 s = gSb g s ∧ M.1 67 s = nI (gSl g s) ∧ ∀ i, i < 40 → M.2 68 (40 * s + i) = gSn g s i := hC.2.2.2.2.2.1 s hs
set_option maxRecDepth 20000 in
theorem s_sheetFault {G : Gt} {d : Nat} {M : Mm} (hG : gS G = SHAPE) {g : Sg} (hC : CompIs M g) (s0 : Int32) : ExI G (d + 1) mX6_sheetFault [.ref 0, .int s0] M (fun r9 M' => r9 = fltS g s0 ∧ M' = M) := by
  refine Ex.of (by decide) (Nat.le_of_ble_eq_true rfl) ?_
  show Go G (d + 1) mX6_sheetFault 0 [some (.ref 0), some (.int s0)] [] M _
  refine Go.iload_n dX6_sheetFault_0 rfl ?_
  refine Go.iconst (v := 4) dX6_sheetFault_1 (by decide) ?_
  refine Go.callSI [] dX6_sheetFault_2 lkX6_58 stX6_isBelow cbX6_isBelow (s_isBelow s0 4) rfl rfl (Nat.le_of_ble_eq_true rfl) (fun r1 M2 hr1 => ?_)
  obtain ⟨er1, emr1⟩ := hr1
  rw [emr1]
  clear emr1 M2
  subst er1
  refine Go.if_ne 11 dX6_sheetFault_5 rfl (fun h5 => ?_) (fun h5 => ?_)
  · have hin := bi_n0.mp h5
    obtain ⟨s, hs4, es⟩ := inb_ex (n := 4) hin (by decide)
    subst es
    obtain ⟨q, r, eq, er, hq, hr, hrf⟩ := sheetAt hG hs4
    have hsc := sht hC hs4
    rw [← eq, ← er] at hsc
    refine Go.aload_n dX6_sheetFault_11 rfl ?_
    refine Go.getR dX6_sheetFault_12 flX6_49 (shp hG rfl) rfl ?_
    refine Go.iload_n dX6_sheetFault_15 rfl ?_
    refine Go.aald dX6_sheetFault_16 (shp hG rfl) (vin (by omega) (by decide)) (by rw [ncl (by omega)]; exact hrf) ?_
    refine Go.callVI [] dX6_sheetFault_17 lkX6_264 imX4_isMissing seX4_isMissing cbX4_isMissing (s_isMissing hq hr) hq rfl rfl rfl (Nat.le_of_ble_eq_true rfl) (fun r3 M4 hr3 => ?_)
    obtain ⟨er3, emr3⟩ := hr3
    rw [emr3]
    clear emr3 M4
    subst er3
    refine Go.if_eq 29 dX6_sheetFault_20 rfl (fun h20 => ?_) (fun h20 => ?_)
    · refine Go.iconst (v := 0) dX6_sheetFault_29 (by decide) ?_
      refine Go.iret dX6_sheetFault_30 rfl rfl ?_
      refine ⟨_, rfl, ?_, rfl⟩
      unfold fltS
      rw [if_pos (by first | exact bi_n0.mp h5 | exact hin), tN_nI (by omega), if_neg (by rw [← hsc.1]; exact of_decide_eq_false (bi_0.mp h20))]
    · refine Go.ldcw dX6_sheetFault_23 kcX6_267 ?_
      refine Go.goto 30 dX6_sheetFault_26 rfl ?_
      refine Go.iret dX6_sheetFault_30 rfl rfl ?_
      refine ⟨_, rfl, ?_, rfl⟩
      unfold fltS
      rw [if_pos (by first | exact bi_n0.mp h5 | exact hin), tN_nI (by omega), if_pos (by rw [← hsc.1]; exact of_decide_eq_true (bi_n0.mp h20))]
  · refine Go.ldc dX6_sheetFault_8 kcX6_62 ?_
    refine Go.iret dX6_sheetFault_10 rfl rfl ?_
    refine ⟨_, rfl, ?_, rfl⟩
    rw [show fltS g s0 = -1000000001 from if_neg (by rw [bi_0.mp h5]; decide)]
set_option maxRecDepth 20000 in
theorem m_isSheet {G : Gt} {d : Nat} {M : Mm} (a : Int32) : ExI G (d + 1) mX7_isSheet [.int a] M (fun r M' => r = bi (inb a 4) ∧ M' = M) := by
  refine Ex.of (by decide) (Nat.le_of_ble_eq_true rfl) ?_
  show Go G (d + 1) mX7_isSheet 0 [some (.int a)] [] M _
  refine Go.iload_n dX7_isSheet_0 rfl ?_
  refine Go.iconst (v := 0) dX7_isSheet_1 (by decide) ?_
  refine Go.iconst (v := 3) dX7_isSheet_2 (by decide) ?_
  refine Go.callSI [] dX7_isSheet_3 lkX7_86 stX7_in cbX7_in (m_in a 0 3) rfl rfl (Nat.le_of_ble_eq_true rfl) (fun r1 M2 hr1 => ?_)
  obtain ⟨er1, emr1⟩ := hr1
  rw [emr1]
  clear emr1 M2
  subst er1
  refine Go.iret dX7_isSheet_6 rfl (bi_nar _) ?_
  refine ⟨_, rfl, ?_, rfl⟩
  rw [inI_four]
set_option maxRecDepth 20000 in
theorem m_narrow {G : Gt} {d : Nat} {M : Mm} (b : Int32) (v : Int64) : ExL G (d) mX7_narrow [.int b, .long v] M (fun r M' => r = cutL b v ∧ M' = M) := by
  refine Ex.of (by decide) (Nat.le_of_ble_eq_true rfl) ?_
  show Go G (d) mX7_narrow 0 [some (.int b), some (.long v), none] [] M _
  refine Go.iload_n dX7_narrow_0 rfl ?_
  refine Go.bipush (v := 8) dX7_narrow_1 (by decide) ?_
  refine Go.icmp_ne 16 dX7_narrow_3 rfl (fun h3 => ?_) (fun h3 => ?_)
  · refine Go.iload_n dX7_narrow_16 rfl ?_
    refine Go.bipush (v := 16) dX7_narrow_17 (by decide) ?_
    refine Go.icmp_ne 32 dX7_narrow_19 rfl (fun h19 => ?_) (fun h19 => ?_)
    · refine Go.lload_n dX7_narrow_32 rfl ?_
      refine Go.lret dX7_narrow_33 rfl ?_
      refine ⟨_, rfl, ?_, rfl⟩
      unfold cutL
      rw [if_neg h3, if_neg h19]
    · refine Go.lload_n dX7_narrow_22 rfl ?_
      refine Go.bipush (v := 48) dX7_narrow_23 (by decide) ?_
      refine Go.lshl dX7_narrow_25 ?_
      refine Go.bipush (v := 48) dX7_narrow_26 (by decide) ?_
      refine Go.lshr dX7_narrow_28 ?_
      refine Go.goto 33 dX7_narrow_29 rfl ?_
      refine Go.lret dX7_narrow_33 rfl ?_
      refine ⟨_, rfl, ?_, rfl⟩
      unfold cutL
      rw [if_neg h3, if_pos h19]
      exact cut16 v
  · refine Go.lload_n dX7_narrow_6 rfl ?_
    refine Go.bipush (v := 56) dX7_narrow_7 (by decide) ?_
    refine Go.lshl dX7_narrow_9 ?_
    refine Go.bipush (v := 56) dX7_narrow_10 (by decide) ?_
    refine Go.lshr dX7_narrow_12 ?_
    refine Go.goto 33 dX7_narrow_13 rfl ?_
    refine Go.lret dX7_narrow_33 rfl ?_
    refine ⟨_, rfl, ?_, rfl⟩
    unfold cutL
    rw [if_pos h3]
    exact cut8 v
set_option maxRecDepth 20000 in
theorem m_isPart {G : Gt} {d : Nat} {M : Mm} (hG : gS G = SHAPE) {s n : Nat} (hs4 : s < 4) (hn : M.1 67 s = nI n) (h40 : n ≤ 40) (f m : Int32) : ExI G (d) mX7_isPart [.ref 49, .int (nI s), .int f, .int m] M (fun r9 M' => r9 = bi (partB n f m) ∧ M' = M) := by
  refine Ex.of (by decide) (Nat.le_of_ble_eq_true rfl) ?_
  show Go G (d) mX7_isPart 0 [some (.ref 49), some (.int (nI s)), some (.int f), some (.int m)] [] M _
  refine Go.iload_n dX7_isPart_0 rfl ?_
  refine Go.if_lt 34 dX7_isPart_1 rfl (fun h1 => ?_) (fun h1 => ?_)
  · refine Go.iconst (v := 0) dX7_isPart_34 (by decide) ?_
    refine Go.iret dX7_isPart_35 rfl (by decide) ?_
    refine ⟨_, rfl, ?_, rfl⟩
    have hn9 := nI_toInt (n := n) (by omega)
    rw [i_lt0] at h1
    rw [show partB n f m = false from decide_eq_false (by omega)]
    rfl
  · refine Go.iload_n dX7_isPart_4 rfl ?_
    refine Go.if_lt 34 dX7_isPart_5 rfl (fun h5 => ?_) (fun h5 => ?_)
    · refine Go.iconst (v := 0) dX7_isPart_34 (by decide) ?_
      refine Go.iret dX7_isPart_35 rfl (by decide) ?_
      refine ⟨_, rfl, ?_, rfl⟩
      have hn9 := nI_toInt (n := n) (by omega)
      rw [i_lt0] at h1
      rw [i_lt0] at h5
      rw [show partB n f m = false from decide_eq_false (by omega)]
      rfl
    · refine Go.iload_n dX7_isPart_8 rfl ?_
      refine Go.aload_n dX7_isPart_9 rfl ?_
      refine Go.getR dX7_isPart_10 flX7_62 (shp hG rfl) rfl ?_
      refine Go.iload_n dX7_isPart_13 rfl ?_
      refine Go.iald dX7_isPart_14 (shp hG rfl) (vin (by omega) (by decide)) ?_
      refine Go.eqI (y := nI n) (by rw [ncl (by omega)]; exact hn) ?_
      refine Go.icmp_gt 34 dX7_isPart_15 rfl (fun h15 => ?_) (fun h15 => ?_)
      · refine Go.iconst (v := 0) dX7_isPart_34 (by decide) ?_
        refine Go.iret dX7_isPart_35 rfl (by decide) ?_
        refine ⟨_, rfl, ?_, rfl⟩
        have hn9 := nI_toInt (n := n) (by omega)
        rw [i_lt0] at h1
        rw [i_lt0] at h5
        rw [i_lt, hn9] at h15
        rw [show partB n f m = false from decide_eq_false (by omega)]
        rfl
      · refine Go.iload_n dX7_isPart_18 rfl ?_
        refine Go.aload_n dX7_isPart_19 rfl ?_
        refine Go.getR dX7_isPart_20 flX7_62 (shp hG rfl) rfl ?_
        refine Go.iload_n dX7_isPart_23 rfl ?_
        refine Go.iald dX7_isPart_24 (shp hG rfl) (vin (by omega) (by decide)) ?_
        refine Go.eqI (y := nI n) (by rw [ncl (by omega)]; exact hn) ?_
        refine Go.iload_n dX7_isPart_25 rfl ?_
        refine Go.isub dX7_isPart_26 ?_
        refine Go.icmp_gt 34 dX7_isPart_27 rfl (fun h27 => ?_) (fun h27 => ?_)
        · refine Go.iconst (v := 0) dX7_isPart_34 (by decide) ?_
          refine Go.iret dX7_isPart_35 rfl (by decide) ?_
          refine ⟨_, rfl, ?_, rfl⟩
          have hn9 := nI_toInt (n := n) (by omega)
          rw [i_lt0] at h1
          rw [i_lt0] at h5
          rw [i_lt, hn9] at h15
          rw [i_lt, subInt (by omega) (by omega), hn9] at h27
          rw [show partB n f m = false from decide_eq_false (by omega)]
          rfl
        · refine Go.iconst (v := 1) dX7_isPart_30 (by decide) ?_
          refine Go.goto 35 dX7_isPart_31 rfl ?_
          refine Go.iret dX7_isPart_35 rfl (by decide) ?_
          refine ⟨_, rfl, ?_, rfl⟩
          have hn9 := nI_toInt (n := n) (by omega)
          rw [i_lt0] at h1
          rw [i_lt0] at h5
          rw [i_lt, hn9] at h15
          rw [i_lt, subInt (by omega) (by omega), hn9] at h27
          rw [show partB n f m = true from decide_eq_true (by omega)]
          rfl
def layS (g : Sg) (s : Nat) (b : Int32) (n : Nat) : Sg := setS g (fun j => if j = s then b else gSb g j) (fun j => if j = s then n else gSl g j) (fun j i => if j = s then 0 else gSn g j i)
def bitsOk (b : Int32) : Bool := decide (b = 0) || decide (b = 8) || decide (b = 16) || decide (b = 64)
def A_sheet (g : Sg) (s b n : Int32) : Int32 × Sg := if inb s 4 && bitsOk b then (if n < 0 then (-1000000007, fndS g 6) else if n ≤ 40 then (nI (if b = 0 then 0 else tN n), layS g (tN s) b (if b = 0 then 0 else tN n)) else (-1000000001, fndS g 0)) else (-1000000001, fndS g 0)
set_option maxRecDepth 20000 in
theorem j_sheetC {G : Gt} {d : Nat} {M : Mm} (hG : gS G = SHAPE) {g : Sg} (hC : CompIs M g) {s : Nat} (hs4 : s < 4) {b n : Int32} : Go G (d + 2) mX6_sheet 37 [some (.ref 0), some (.int (nI s)), some (.int b), some (.int n)] [] M (fun v M' => ∃ r, v = some (.int r) ∧ r = ((if n < 0 then (-1000000007, fndS g 6) else if n ≤ 40 then (nI (if b = 0 then 0 else tN n), layS g s b (if b = 0 then 0 else tN n)) else (-1000000001, fndS g 0) : Int32 × Sg)).1 ∧ CompIs M' ((if n < 0 then (-1000000007, fndS g 6) else if n ≤ 40 then (nI (if b = 0 then 0 else tN n), layS g s b (if b = 0 then 0 else tN n)) else (-1000000001, fndS g 0) : Int32 × Sg)).2 ∧ MSame M M') := by
  refine Go.iload_n dX6_sheet_37 rfl ?_
  refine Go.if_ge 48 dX6_sheet_38 rfl (fun h38 => ?_) (fun h38 => ?_)
  · refine Go.iload_n dX6_sheet_48 rfl ?_
    refine Go.bipush (v := 40) dX6_sheet_49 (by decide) ?_
    refine Go.icmp_le 61 dX6_sheet_51 rfl (fun h51 => ?_) (fun h51 => ?_)
    · obtain ⟨q, r, eq, er, hq, hr, hrf⟩ := sheetAt hG hs4
      have hsc := sht hC hs4
      rw [← eq, ← er] at hsc
      refine Go.aload_n dX6_sheet_61 rfl ?_
      refine Go.getR dX6_sheet_62 flX6_49 (shp hG rfl) rfl ?_
      refine Go.iload_n dX6_sheet_65 rfl ?_
      refine Go.aald dX6_sheet_66 (shp hG rfl) (vin (by omega) (by decide)) (by rw [ncl (by omega)]; exact hrf) ?_
      refine Go.iload_n dX6_sheet_67 rfl ?_
      refine Go.iload_n dX6_sheet_68 rfl ?_
      refine Go.callVV [] dX6_sheet_69 lkX6_249 imX4_lay seX4_lay cbX4_lay (s_lay hq hr b n) hq rfl rfl rfl (Nat.le_of_ble_eq_true rfl) (fun M2 hr1 => ?_)
      refine Go.aload_n dX6_sheet_72 rfl ?_
      refine Go.getR dX6_sheet_73 flX6_49 (shp hG rfl) rfl ?_
      refine Go.iload_n dX6_sheet_76 rfl ?_
      refine Go.aald dX6_sheet_77 (shp hG rfl) (vin (by omega) (by decide)) (by rw [ncl (by omega)]; exact hrf) ?_
      refine Go.getI dX6_sheet_78 flX6_253 hq rfl ?_
      refine Go.iret dX6_sheet_81 rfl rfl ?_
      obtain ⟨m, hm, em⟩ := nI_of2 (M := 40) (n := 40) (by decide) (i_le_n h38) h51
      subst em
      rw [if_neg (i_le_n h38), if_pos h51, tN_nI (by omega)]
      have hif : (if b = 0 then (0 : Int32) else nI m) = nI (if b = 0 then 0 else m) := by split <;> rfl
      have hm1 : M2.1 = (upi (upi M q 0 b) q 1 (nI (if b = 0 then 0 else m))).1 := by rw [hr1, hif]; rfl
      have hm2 : M2.2 = fun a => if a = r then filL (M.2 r) 0 40 else M.2 a := by rw [hr1]; rfl
      refine ⟨_, rfl, ?_, comp_setS hC (fun a ha => ?_) (fun a ha => ?_) (fun j hj => ?_)⟩
      · show M2.1 q 1 = _
        rw [hm1, rd_eq]
        simp [upd]
      · rw [hm1, rd_ne (by omega), rd_ne (by omega)]
      · rw [hm2]
        simp only []
        rw [if_neg (by omega)]
      · have hold := sht hC hj
        by_cases e : j = s
        · subst e
          rw [← eq, ← er, hm1, hm2]
          refine ⟨?_, ?_, fun i hi => ?_⟩
          · rw [rd_eq]; simp only [upd]; simp; rw [rd_eq]; simp [upd]
          · rw [rd_eq]; simp [upd]
          · simp [filL, hi]
        · rw [hm1, hm2, rd_ne (by omega), rd_ne (by omega)]
          simp only [if_neg e]
          rw [if_neg (by omega)]
          exact hold
    · refine Go.aload_n dX6_sheet_54 rfl ?_
      refine Go.ldc dX6_sheet_55 kcX6_62 ?_
      refine Go.callVI [] dX6_sheet_57 lkX6_63 imX6_finding seX6_finding cbX6_finding (s_finding hG (code := (-1000000001)) (q := 0) (by decide) (by decide)) (shp hG rfl) rfl rfl rfl (Nat.le_of_ble_eq_true rfl) (fun r3 M4 hr3 => ?_)
      refine Go.iret dX6_sheet_60 rfl rfl ?_
      refine ⟨_, rfl, ?_⟩
      rw [if_neg (i_le_n h38), if_neg h51, hr3.2]
      exact ⟨hr3.1, hC.fnd⟩
  · refine Go.aload_n dX6_sheet_41 rfl ?_
    refine Go.ldc dX6_sheet_42 kcX6_248 ?_
    refine Go.callVI [] dX6_sheet_44 lkX6_63 imX6_finding seX6_finding cbX6_finding (s_finding hG (code := (-1000000007)) (q := 6) (by decide) (by decide)) (shp hG rfl) rfl rfl rfl (Nat.le_of_ble_eq_true rfl) (fun r5 M6 hr5 => ?_)
    refine Go.iret dX6_sheet_47 rfl rfl ?_
    refine ⟨_, rfl, ?_⟩
    rw [if_pos (i_nle h38), hr5.2]
    exact ⟨hr5.1, hC.fnd⟩
set_option maxRecDepth 20000 in
theorem c_sheet {G : Gt} {d : Nat} {M : Mm} (hG : gS G = SHAPE) {g : Sg} (hC : CompIs M g) (hg : SgOk g) (s0 b n : Int32) : ExI G (d + 2) mX6_sheet [.ref 0, .int s0, .int b, .int n] M (fun r M' => r = (A_sheet g s0 b n).1 ∧ CompIs M' (A_sheet g s0 b n).2 ∧ MSame M M') := by
  refine Ex.of (by decide) (Nat.le_of_ble_eq_true rfl) ?_
  show Go G (d + 2) mX6_sheet 0 [some (.ref 0), some (.int s0), some (.int b), some (.int n)] [] M _
  by_cases hgd : (inb s0 4 && bitsOk b) = true
  · rw [Bool.and_eq_true] at hgd
    obtain ⟨s, hs4, es⟩ := inb_ex (n := 4) hgd.1 (by decide)
    subst es
    have hA0 : A_sheet g (nI s) b n = (if n < 0 then (-1000000007, fndS g 6) else if n ≤ 40 then (nI (if b = 0 then 0 else tN n), layS g s b (if b = 0 then 0 else tN n)) else (-1000000001, fndS g 0)) := by
      have h9 : A_sheet g (nI s) b n = _ := if_pos (by rw [hgd.1, hgd.2]; rfl)
      rw [tN_nI (x := s) (by omega)] at h9
      exact h9
    rw [hA0]
    clear hA0
    refine Go.iload_n dX6_sheet_0 rfl ?_
    refine Go.iconst (v := 4) dX6_sheet_1 (by decide) ?_
    refine Go.callSI [] dX6_sheet_2 lkX6_58 stX6_isBelow cbX6_isBelow (s_isBelow (nI s) 4) rfl rfl (Nat.le_of_ble_eq_true rfl) (fun r1 M2 hr1 => ?_)
    obtain ⟨er1, emr1⟩ := hr1
    rw [emr1]
    clear emr1 M2
    subst er1
    refine Go.eqI (y := 1) (by rw [show inb (nI s) 4 = decide (s < 4) from inb_nI (by omega) (by decide), decide_eq_true (by omega)]; rfl) ?_
    refine Go.if_eq 30 dX6_sheet_5 rfl (fun h5 => absurd h5 (by decide)) (fun _ => ?_)
    have hbb := hgd.2
    unfold bitsOk at hbb
    simp only [Bool.or_eq_true, decide_eq_true_eq] at hbb
    rcases hbb with ((hb0 | hb0) | hb0) | hb0
    · subst hb0
      refine Go.iload_n dX6_sheet_8 rfl ?_
      refine Go.if_eq 37 dX6_sheet_9 rfl (fun _ => ?_) (fun h9 => absurd (by decide) h9)
      exact j_sheetC hG hC hs4
    · subst hb0
      refine Go.iload_n dX6_sheet_8 rfl ?_
      refine Go.if_eq 37 dX6_sheet_9 rfl (fun h9 => absurd h9 (by decide)) (fun _ => ?_)
      refine Go.iload_n dX6_sheet_12 rfl ?_
      refine Go.bipush (v := 8) dX6_sheet_13 (by decide) ?_
      refine Go.icmp_eq 37 dX6_sheet_15 rfl (fun _ => ?_) (fun h15 => absurd (by decide) h15)
      exact j_sheetC hG hC hs4
    · subst hb0
      refine Go.iload_n dX6_sheet_8 rfl ?_
      refine Go.if_eq 37 dX6_sheet_9 rfl (fun h9 => absurd h9 (by decide)) (fun _ => ?_)
      refine Go.iload_n dX6_sheet_12 rfl ?_
      refine Go.bipush (v := 8) dX6_sheet_13 (by decide) ?_
      refine Go.icmp_eq 37 dX6_sheet_15 rfl (fun h15 => absurd h15 (by decide)) (fun _ => ?_)
      refine Go.iload_n dX6_sheet_18 rfl ?_
      refine Go.bipush (v := 16) dX6_sheet_19 (by decide) ?_
      refine Go.icmp_eq 37 dX6_sheet_21 rfl (fun _ => ?_) (fun h21 => absurd (by decide) h21)
      exact j_sheetC hG hC hs4
    · subst hb0
      refine Go.iload_n dX6_sheet_8 rfl ?_
      refine Go.if_eq 37 dX6_sheet_9 rfl (fun h9 => absurd h9 (by decide)) (fun _ => ?_)
      refine Go.iload_n dX6_sheet_12 rfl ?_
      refine Go.bipush (v := 8) dX6_sheet_13 (by decide) ?_
      refine Go.icmp_eq 37 dX6_sheet_15 rfl (fun h15 => absurd h15 (by decide)) (fun _ => ?_)
      refine Go.iload_n dX6_sheet_18 rfl ?_
      refine Go.bipush (v := 16) dX6_sheet_19 (by decide) ?_
      refine Go.icmp_eq 37 dX6_sheet_21 rfl (fun h21 => absurd h21 (by decide)) (fun _ => ?_)
      refine Go.iload_n dX6_sheet_24 rfl ?_
      refine Go.bipush (v := 64) dX6_sheet_25 (by decide) ?_
      refine Go.icmp_eq 37 dX6_sheet_27 rfl (fun _ => ?_) (fun h27 => absurd (by decide) h27)
      exact j_sheetC hG hC hs4
  · refine Go.iload_n dX6_sheet_0 rfl ?_
    refine Go.iconst (v := 4) dX6_sheet_1 (by decide) ?_
    refine Go.callSI [] dX6_sheet_2 lkX6_58 stX6_isBelow cbX6_isBelow (s_isBelow s0 4) rfl rfl (Nat.le_of_ble_eq_true rfl) (fun r1 M2 hr1 => ?_)
    obtain ⟨er1, emr1⟩ := hr1
    rw [emr1]
    clear emr1 M2
    subst er1
    refine Go.if_eq 30 dX6_sheet_5 rfl (fun h5 => ?_) (fun h5 => ?_)
    · refine Go.aload_n dX6_sheet_30 rfl ?_
      refine Go.ldc dX6_sheet_31 kcX6_62 ?_
      refine Go.callVI [] dX6_sheet_33 lkX6_63 imX6_finding seX6_finding cbX6_finding (s_finding hG (code := (-1000000001)) (q := 0) (by decide) (by decide)) (shp hG rfl) rfl rfl rfl (Nat.le_of_ble_eq_true rfl) (fun r3 M4 hr3 => ?_)
      refine Go.iret dX6_sheet_36 rfl rfl ?_
      refine ⟨_, rfl, ?_⟩
      rw [show A_sheet g s0 b n = ((-1000000001), fndS g 0) from if_neg hgd, hr3.2]
      exact ⟨hr3.1, hC.fnd⟩
    · refine Go.iload_n dX6_sheet_8 rfl ?_
      refine Go.if_eq 37 dX6_sheet_9 rfl (fun h9 => ?_) (fun h9 => ?_)
      · exact absurd (by rw [bi_n0.mp h5]; simp [bitsOk, h9]) hgd
      · refine Go.iload_n dX6_sheet_12 rfl ?_
        refine Go.bipush (v := 8) dX6_sheet_13 (by decide) ?_
        refine Go.icmp_eq 37 dX6_sheet_15 rfl (fun h15 => ?_) (fun h15 => ?_)
        · exact absurd (by rw [bi_n0.mp h5]; simp [bitsOk, h15]) hgd
        · refine Go.iload_n dX6_sheet_18 rfl ?_
          refine Go.bipush (v := 16) dX6_sheet_19 (by decide) ?_
          refine Go.icmp_eq 37 dX6_sheet_21 rfl (fun h21 => ?_) (fun h21 => ?_)
          · exact absurd (by rw [bi_n0.mp h5]; simp [bitsOk, h21]) hgd
          · refine Go.iload_n dX6_sheet_24 rfl ?_
            refine Go.bipush (v := 64) dX6_sheet_25 (by decide) ?_
            refine Go.icmp_eq 37 dX6_sheet_27 rfl (fun h27 => ?_) (fun h27 => ?_)
            · exact absurd (by rw [bi_n0.mp h5]; simp [bitsOk, h27]) hgd
            · refine Go.aload_n dX6_sheet_30 rfl ?_
              refine Go.ldc dX6_sheet_31 kcX6_62 ?_
              refine Go.callVI [] dX6_sheet_33 lkX6_63 imX6_finding seX6_finding cbX6_finding (s_finding hG (code := (-1000000001)) (q := 0) (by decide) (by decide)) (shp hG rfl) rfl rfl rfl (Nat.le_of_ble_eq_true rfl) (fun r5 M6 hr5 => ?_)
              refine Go.iret dX6_sheet_36 rfl rfl ?_
              refine ⟨_, rfl, ?_⟩
              rw [show A_sheet g s0 b n = ((-1000000001), fndS g 0) from if_neg hgd, hr5.2]
              exact ⟨hr5.1, hC.fnd⟩
