def fndC (M : Mm) (q : Nat) : Mm := upi M 48 q (M.1 48 q + 1)
def fndM (M : Mm) (q : Nat) : Mm := upi M 56 q (M.1 56 q + 1)
theorem inb_nI {a b : Nat} (ha : a < 2 ^ 31) (hb : b < 2 ^ 31) : inb (nI a) (nI b) = decide (a < b) := by
  unfold inb
  have h1 : decide (0 ≤ nI a) = true := decide_eq_true (nI_pos' ha)
  rw [h1, Bool.true_and]
  have := nI_ltI ha hb
  simp only [this]
set_option maxRecDepth 20000 in
theorem s_finding {G : Gt} {d : Nat} {M : Mm} (hG : gS G = SHAPE) {code : Int32} {q : Nat} (hq : q < 7) (hc : (-1000000001) - code = nI q) : ExI G (d + 1) mX6_finding [.ref 0, .int code] M (fun r M' => r = code ∧ M' = fndC M q) := by
  refine Ex.of (by decide) (Nat.le_of_ble_eq_true rfl) ?_
  show Go G (d + 1) mX6_finding 0 [some (.ref 0), some (.int code), none] [] M _
  refine Go.ldc dX6_finding_0 kcX6_62 ?_
  refine Go.iload_n dX6_finding_2 rfl ?_
  refine Go.isub dX6_finding_3 ?_
  refine Go.eqI (y := nI q) (hc) ?_
  refine Go.istore_n (ls' := [some (.ref 0), some (.int code), some (.int (nI q))]) dX6_finding_4 (Nat.le_of_ble_eq_true rfl) rfl rfl ?_
  refine Go.iload_n dX6_finding_5 rfl ?_
  refine Go.bipush (v := 7) dX6_finding_6 (by decide) ?_
  refine Go.callSI [] dX6_finding_8 lkX6_58 stX6_isBelow cbX6_isBelow (s_isBelow (nI q) 7) rfl rfl (Nat.le_of_ble_eq_true rfl) (fun r1 M2 hr1 => ?_)
  obtain ⟨er1, emr1⟩ := hr1
  rw [emr1]
  clear emr1 M2
  subst er1
  refine Go.eqI (y := 1) (by rw [show inb (nI q) 7 = decide (q < 7) from inb_nI (by omega) (by decide), decide_eq_true hq]; rfl) ?_
  refine Go.if_eq 24 dX6_finding_11 rfl (fun h11 => absurd h11 (by decide)) (fun _ => ?_)
  refine Go.aload_n dX6_finding_14 rfl ?_
  refine Go.getR dX6_finding_15 flX6_53 (shp hG rfl) rfl ?_
  refine Go.iload_n dX6_finding_18 rfl ?_
  refine Go.dup2 dX6_finding_19 rfl rfl ?_
  refine Go.iald dX6_finding_20 (shp hG rfl) (vin (by omega) (by decide)) ?_
  refine Go.iconst (v := 1) dX6_finding_21 (by decide) ?_
  refine Go.iadd dX6_finding_22 ?_
  refine Go.iast dX6_finding_23 (shp hG rfl) (vin (by omega) (by decide)) ?_
  refine Go.nmM (fun N3 eN3 => ?_)
  refine Go.iload_n dX6_finding_24 rfl ?_
  refine Go.iret dX6_finding_25 rfl rfl ?_
  refine ⟨_, rfl, rfl, ?_⟩
  rw [eN3, ncl (by omega)]
  rfl
set_option maxRecDepth 20000 in
theorem m_finds {G : Gt} {d : Nat} {M : Mm} (hG : gS G = SHAPE) {code : Int32} {q : Nat} (hq : q < 7) (hc : (-1000000001) - code = nI q) : ExI G (d) mX7_finds [.ref 49, .int code] M (fun r M' => r = code ∧ M' = fndM M q) := by
  refine Ex.of (by decide) (Nat.le_of_ble_eq_true rfl) ?_
  show Go G (d) mX7_finds 0 [some (.ref 49), some (.int code)] [] M _
  refine Go.aload_n dX7_finds_0 rfl ?_
  refine Go.getR dX7_finds_1 flX7_28 (shp hG rfl) rfl ?_
  refine Go.ldc dX7_finds_4 kcX7_85 ?_
  refine Go.iload_n dX7_finds_6 rfl ?_
  refine Go.isub dX7_finds_7 ?_
  refine Go.eqI (y := nI q) (hc) ?_
  refine Go.dup2 dX7_finds_8 rfl rfl ?_
  refine Go.iald dX7_finds_9 (shp hG rfl) (vin (by omega) (by decide)) ?_
  refine Go.iconst (v := 1) dX7_finds_10 (by decide) ?_
  refine Go.iadd dX7_finds_11 ?_
  refine Go.iast dX7_finds_12 (shp hG rfl) (vin (by omega) (by decide)) ?_
  refine Go.nmM (fun N1 eN1 => ?_)
  refine Go.iload_n dX7_finds_13 rfl ?_
  refine Go.iret dX7_finds_14 rfl rfl ?_
  refine ⟨_, rfl, rfl, ?_⟩
  rw [eN1, ncl (by omega)]
  rfl
set_option maxRecDepth 20000 in
theorem s_orNone {G : Gt} {d : Nat} {M : Mm} (hG : gS G = SHAPE) (a : Int32) : ExI G (d + 2) mX6_orNone [.ref 0, .int a] M (fun r M' => (0 ≤ a ∧ r = a ∧ M' = M) ∨ (a < 0 ∧ r = -1000000004 ∧ M' = fndC M 3)) := by
  refine Ex.of (by decide) (Nat.le_of_ble_eq_true rfl) ?_
  show Go G (d + 2) mX6_orNone 0 [some (.ref 0), some (.int a)] [] M _
  refine Go.iload_n dX6_orNone_0 rfl ?_
  refine Go.if_ge 13 dX6_orNone_1 rfl (fun h1 => ?_) (fun h1 => ?_)
  · refine Go.iload_n dX6_orNone_13 rfl ?_
    refine Go.iret dX6_orNone_14 rfl rfl ?_
    exact ⟨_, rfl, Or.inl ⟨h1, rfl, rfl⟩⟩
  · refine Go.aload_n dX6_orNone_4 rfl ?_
    refine Go.ldc dX6_orNone_5 kcX6_171 ?_
    refine Go.callVI [] dX6_orNone_7 lkX6_63 imX6_finding seX6_finding cbX6_finding (s_finding hG (code := (-1000000004)) (q := 3) (by decide) (by decide)) (shp hG rfl) rfl rfl rfl (Nat.le_of_ble_eq_true rfl) (fun r1 M2 hr1 => ?_)
    refine Go.goto 14 dX6_orNone_10 rfl ?_
    refine Go.iret dX6_orNone_14 rfl rfl ?_
    exact ⟨_, rfl, Or.inr ⟨i_nle h1, hr1.1, hr1.2⟩⟩
