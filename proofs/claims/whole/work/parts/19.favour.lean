def dishN (p : Nat) : Nat := 20 * sN (p / 20) + p % 20
def fromP (f : Nat → Int32) (c : Nat → Nat) (number : Int32) (p : Nat) : Bool := decide (number ≤ nI (dishN p)) && goodP f c (dishN p)
def optD : Option Nat → Int32
  | some p => nI (dishN p)
  | none => -1
theorem dishN_at {i m : Nat} (hm : m < 20) : dishN (20 * i + m) = 20 * sN i + m := by
  unfold dishN
  rw [show (20 * i + m) / 20 = i by omega, show (20 * i + m) % 20 = m by omega]
theorem dishN_ok {p : Nat} (hp : p < 1840) : okD (dishN p) = true := by
  unfold okD dishN
  rw [show (20 * sN (p / 20) + p % 20) / 20 = sN (p / 20) by omega]
  exact setsN_ok _ (by omega)
set_option maxRecDepth 20000 in
theorem l_firstFrom {G : Gt} {d : Nat} {M : Mm} (hG : gS G = SHAPE) {c : Nat → Nat} (hO : OnceIs M c) {number : Int32} {i : Nat} (hi : i < 92) (hout : ∀ a4 a5 a6 : Int32, fstF (fromP (M.1 26) c number) 0 1840 = fstF (fromP (M.1 26) c number) (20 * (i + 1)) (1840 - 20 * (i + 1)) → Go G (d + 1) mX2_firstFrom 10 [some (.ref 25), some (.int number), some (.int (nI (maskN (posN (M.1 26)) 8))), some (.int (nI (i + 1))), some (.int a4), some (.int a5), some (.int a6)] [] M (fun v M' => ∃ r, v = some (.int r) ∧ r = optD (fstF (fromP (M.1 26) c number) 0 1840) ∧ M' = M)) : ∀ (n m : Nat), m + n = 20 → fstF (fromP (M.1 26) c number) 0 1840 = fstF (fromP (M.1 26) c number) (20 * i + m) (n + (1820 - 20 * i)) → Go G (d + 1) mX2_firstFrom 43 [some (.ref 25), some (.int number), some (.int (nI (maskN (posN (M.1 26)) 8))), some (.int (nI i)), some (.int (nI (svM (M.1 26) c (sN i)))), some (.int (nI (20 * sN i))), some (.int (nI m))] [] M (fun v M' => ∃ r, v = some (.int r) ∧ r = optD (fstF (fromP (M.1 26) c number) 0 1840) ∧ M' = M) := by
  have hsi := okS_lt (setsN_ok i hi)
  intro n
  induction n with
  | zero =>
    intro m hin hf
    refine Go.iload dX2_firstFrom_43 rfl ?_
    refine Go.bipush (v := 20) dX2_firstFrom_45 (by decide) ?_
    refine Go.icmp_ge 81 dX2_firstFrom_47 rfl (fun _ => ?_) (fun h47 => absurd (nI_le (a := 20) (b := m) (by omega) (by omega)) h47)
    refine Go.iinc (v := nI (i + 1)) (ls' := [some (.ref 25), some (.int number), some (.int (nI (maskN (posN (M.1 26)) 8))), some (.int (nI (i + 1))), some (.int (nI (svM (M.1 26) c (sN i)))), some (.int (nI (20 * sN i))), some (.int (nI m))]) dX2_firstFrom_81 rfl (nI_1 _) rfl rfl ?_
    refine Go.goto 10 dX2_firstFrom_84 rfl ?_
    exact hout _ _ _ (by rw [hf, show 20 * i + m = 20 * (i + 1) by omega, show 0 + (1820 - 20 * i) = 1840 - 20 * (i + 1) by omega])
  | succ n ih =>
    intro m hin hf
    have hm : m < 20 := by omega
    rw [show n + 1 + (1820 - 20 * i) = (n + (1820 - 20 * i)) + 1 by omega] at hf
    refine Go.iload dX2_firstFrom_43 rfl ?_
    refine Go.bipush (v := 20) dX2_firstFrom_45 (by decide) ?_
    refine Go.icmp_ge 81 dX2_firstFrom_47 rfl (fun h47 => absurd h47 (nI_ge (a := m) (b := 20) (by omega) (by decide))) (fun _ => ?_)
    refine Go.iload dX2_firstFrom_50 rfl ?_
    refine Go.iload dX2_firstFrom_52 rfl ?_
    refine Go.iadd dX2_firstFrom_54 ?_
    refine Go.eqI (y := nI (20 * sN i + m)) (nI_add _ _) ?_
    refine Go.iload_n dX2_firstFrom_55 rfl ?_
    refine Go.icmp_lt 75 dX2_firstFrom_56 rfl (fun h56 => ?_) (fun h56 => ?_)
    · refine Go.iinc (v := nI (m + 1)) (ls' := [some (.ref 25), some (.int number), some (.int (nI (maskN (posN (M.1 26)) 8))), some (.int (nI i)), some (.int (nI (svM (M.1 26) c (sN i)))), some (.int (nI (20 * sN i))), some (.int (nI (m + 1)))]) dX2_firstFrom_75 rfl (nI_1 _) rfl rfl ?_
      refine Go.goto 43 dX2_firstFrom_78 rfl ?_
      exact ih (m + 1) (by omega) (by rw [hf, fstF, if_neg (by rw [show fromP (M.1 26) c number (20 * i + m) = false from by simp [fromP, dishN_at hm, i_lt_n h56]]; decide)]; rfl)
    · refine Go.iload dX2_firstFrom_59 rfl ?_
      refine Go.iload dX2_firstFrom_61 rfl ?_
      refine Go.callSI [] dX2_firstFrom_63 lkX2_78 stX6_hasBit cbX6_hasBit (s_hasBit (nI (svM (M.1 26) c (sN i))) (nI m)) rfl rfl (Nat.le_of_ble_eq_true rfl) (fun r1 M2 hr1 => ?_)
      obtain ⟨er1, emr1⟩ := hr1
      rw [emr1]
      clear emr1 M2
      subst er1
      refine Go.eqI (y := bi (goodP (M.1 26) c (20 * sN i + m))) (by rw [bitI_nI (Nat.lt_trans (svM_lt _ _ _) (by decide)) (by omega), svM_bit _ _ _ _ hm]) ?_
      refine Go.if_eq 75 dX2_firstFrom_66 rfl (fun h66 => ?_) (fun h66 => ?_)
      · refine Go.iinc (v := nI (m + 1)) (ls' := [some (.ref 25), some (.int number), some (.int (nI (maskN (posN (M.1 26)) 8))), some (.int (nI i)), some (.int (nI (svM (M.1 26) c (sN i)))), some (.int (nI (20 * sN i))), some (.int (nI (m + 1)))]) dX2_firstFrom_75 rfl (nI_1 _) rfl rfl ?_
        refine Go.goto 43 dX2_firstFrom_78 rfl ?_
        exact ih (m + 1) (by omega) (by rw [hf, fstF, if_neg (by rw [show fromP (M.1 26) c number (20 * i + m) = false from by simp [fromP, dishN_at hm, bi_0.mp h66]]; decide)]; rfl)
      · refine Go.iload dX2_firstFrom_69 rfl ?_
        refine Go.iload dX2_firstFrom_71 rfl ?_
        refine Go.iadd dX2_firstFrom_73 ?_
        refine Go.eqI (y := nI (20 * sN i + m)) (nI_add _ _) ?_
        refine Go.iret dX2_firstFrom_74 rfl rfl ?_
        have h9 : fromP (M.1 26) c number (20 * i + m) = true := by simp [fromP, dishN_at hm, i_nlt h56, bi_n0.mp h66]
        exact ⟨_, rfl, by rw [hf, fstF, if_pos h9, optD, dishN_at hm], rfl⟩
set_option maxRecDepth 20000 in
theorem l_firstFrom2 {G : Gt} {d : Nat} {M : Mm} (hG : gS G = SHAPE) {c : Nat → Nat} (hO : OnceIs M c) {number : Int32} : ∀ (n i : Nat) (a4 a5 a6 : Int32), i + n = 92 → fstF (fromP (M.1 26) c number) 0 1840 = fstF (fromP (M.1 26) c number) (20 * i) (1840 - 20 * i) → Go G (d + 1) mX2_firstFrom 10 [some (.ref 25), some (.int number), some (.int (nI (maskN (posN (M.1 26)) 8))), some (.int (nI i)), some (.int a4), some (.int a5), some (.int a6)] [] M (fun v M' => ∃ r, v = some (.int r) ∧ r = optD (fstF (fromP (M.1 26) c number) 0 1840) ∧ M' = M) := by
  intro n
  induction n with
  | zero =>
    intro i a4 a5 a6 hin hf
    refine Go.iload_n dX2_firstFrom_10 rfl ?_
    refine Go.getSets dX2_firstFrom_11 (Or.inr fnX2_75) ?_
    refine Go.setsLen dX2_firstFrom_14 ?_
    refine Go.icmp_ge 87 dX2_firstFrom_15 rfl (fun _ => ?_) (fun h15 => absurd (nI_le (a := 92) (b := i) (by omega) (by omega)) h15)
    refine Go.iconst (v := -1) dX2_firstFrom_87 (by decide) ?_
    refine Go.iret dX2_firstFrom_88 rfl rfl ?_
    have e9 : i = 92 := by omega
    subst e9
    exact ⟨_, rfl, by rw [hf]; rfl, rfl⟩
  | succ n ih =>
    intro i a4 a5 a6 hin hf
    have hi : i < 92 := by omega
    have hsi := okS_lt (setsN_ok i hi)
    refine Go.iload_n dX2_firstFrom_10 rfl ?_
    refine Go.getSets dX2_firstFrom_11 (Or.inr fnX2_75) ?_
    refine Go.setsLen dX2_firstFrom_14 ?_
    refine Go.icmp_ge 87 dX2_firstFrom_15 rfl (fun h15 => absurd h15 (nI_ge (a := i) (b := 92) (by omega) (by decide))) (fun _ => ?_)
    refine Go.aload_n dX2_firstFrom_18 rfl ?_
    refine Go.getSets dX2_firstFrom_19 (Or.inr fnX2_75) ?_
    refine Go.iload_n dX2_firstFrom_22 rfl ?_
    refine Go.sets dX2_firstFrom_23 (vin (by omega) (by decide)) ?_
    refine Go.eqI (y := nI (sN i)) (by rw [ncl (by omega)]; exact setsF_nI i (by omega)) ?_
    refine Go.iload_n dX2_firstFrom_24 rfl ?_
    refine Go.callVI [] dX2_firstFrom_25 lkX2_102 imX2_servableManners seX2_servableManners cbX2_servableManners (s_servableManners hG (c := c) (s := sN i) (by omega) hO) (shp hG rfl) rfl rfl rfl (Nat.le_of_ble_eq_true rfl) (fun r1 M2 hr1 => ?_)
    obtain ⟨er1, emr1⟩ := hr1
    rw [emr1]
    clear emr1 M2
    subst er1
    refine Go.istore (ls' := [some (.ref 25), some (.int number), some (.int (nI (maskN (posN (M.1 26)) 8))), some (.int (nI i)), some (.int (nI (svM (M.1 26) c (sN i)))), some (.int a5), some (.int a6)]) dX2_firstFrom_28 (Nat.le_of_ble_eq_true rfl) rfl rfl ?_
    refine Go.bipush (v := 20) dX2_firstFrom_30 (by decide) ?_
    refine Go.getSets dX2_firstFrom_32 (Or.inr fnX2_75) ?_
    refine Go.iload_n dX2_firstFrom_35 rfl ?_
    refine Go.sets dX2_firstFrom_36 (vin (by omega) (by decide)) ?_
    refine Go.eqI (y := nI (sN i)) (by rw [ncl (by omega)]; exact setsF_nI i (by omega)) ?_
    refine Go.imul dX2_firstFrom_37 ?_
    refine Go.eqI (y := nI (20 * sN i)) (pk_mul _ _) ?_
    refine Go.istore (ls' := [some (.ref 25), some (.int number), some (.int (nI (maskN (posN (M.1 26)) 8))), some (.int (nI i)), some (.int (nI (svM (M.1 26) c (sN i)))), some (.int (nI (20 * sN i))), some (.int a6)]) dX2_firstFrom_38 (Nat.le_of_ble_eq_true rfl) rfl rfl ?_
    refine Go.iconst (v := 0) dX2_firstFrom_40 (by decide) ?_
    refine Go.istore (ls' := [some (.ref 25), some (.int number), some (.int (nI (maskN (posN (M.1 26)) 8))), some (.int (nI i)), some (.int (nI (svM (M.1 26) c (sN i)))), some (.int (nI (20 * sN i))), some (.int 0)]) dX2_firstFrom_41 (Nat.le_of_ble_eq_true rfl) rfl rfl ?_
    exact l_firstFrom hG hO hi (fun b4 b5 b6 h => ih (i + 1) b4 b5 b6 (by omega) h) 20 0 (by omega) (by rw [hf, show 20 * i + 0 = 20 * i by omega, show 20 + (1820 - 20 * i) = 1840 - 20 * i by omega])
