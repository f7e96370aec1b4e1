def tyI (x : Int32) : Nat := if 97 ≤ x ∧ x ≤ 122 then 1 else if 48 ≤ x ∧ x ≤ 57 then 2 else if x = 59 then 3 else if x = 32 then 4 else 5
def typ (L : Nat) (b : Nat → Int32) (i : Nat) : Nat := if i < L then tyI (b i) else 0
def skp (L : Nat) (b : Nat → Int32) : Nat → Nat → Nat
  | 0, e => e
  | n + 1, e => if typ L b e = 4 then skp L b n (e + 1) else e
def tS (L : Nat) (b : Nat → Int32) (e : Nat) : Nat := skp L b (L - e) e
def tT (L : Nat) (b : Nat → Int32) (e : Nat) : Nat := typ L b (tS L b e)
def runT (L : Nat) (b : Nat → Int32) (ty : Nat) : Nat → Nat → Nat
  | 0, p => p
  | n + 1, p => if typ L b p = ty then runT L b ty n (p + 1) else p
def tE (L : Nat) (b : Nat → Int32) (e : Nat) : Nat := if tT L b e = 1 ∨ tT L b e = 2 then runT L b (tT L b e) (L - (tS L b e + 1)) (tS L b e + 1) else min L (tS L b e + 1)
def vF (b : Nat → Int32) (s : Nat) : Nat → Nat
  | 0 => 0
  | n + 1 => if 999 < vF b s n then 10000 else 10 * vF b s n + ((b (s + n)).toNatClampNeg - 48)
def tV (L : Nat) (b : Nat → Int32) (e : Nat) : Nat := vF b (tS L b e) (tE L b e - tS L b e)
theorem tyI_pos (x : Int32) : 1 ≤ tyI x ∧ tyI x ≤ 5 := by
  unfold tyI
  split
  · omega
  · split
    · omega
    · split
      · omega
      · split <;> omega
theorem typ_0 {L : Nat} {b : Nat → Int32} {i : Nat} : typ L b i = 0 ↔ L ≤ i := by
  unfold typ
  by_cases h : i < L
  · rw [if_pos h]
    have := tyI_pos (b i)
    omega
  · rw [if_neg h]
    omega
theorem typ_le (L : Nat) (b : Nat → Int32) (i : Nat) : typ L b i ≤ 5 := by
  unfold typ
  split
  · exact (tyI_pos _).2
  · omega
theorem skp_spec (L : Nat) (b : Nat → Int32) : ∀ n e, e + n = L → e ≤ skp L b n e ∧ skp L b n e ≤ L ∧ typ L b (skp L b n e) ≠ 4
  | 0, e, h => by
    refine ⟨Nat.le_refl _, by show e ≤ L; omega, ?_⟩
    rw [show skp L b 0 e = e from rfl, typ_0.mpr (by omega)]
    decide
  | n + 1, e, h => by
    rw [skp]
    split
    · have := skp_spec L b n (e + 1) (by omega)
      omega
    · rename_i h2
      exact ⟨Nat.le_refl _, by omega, h2⟩
theorem tS_spec {L : Nat} {b : Nat → Int32} {e : Nat} (h : e ≤ L) : e ≤ tS L b e ∧ tS L b e ≤ L ∧ tT L b e ≠ 4 := skp_spec L b (L - e) e (by omega)
theorem run_spec (L : Nat) (b : Nat → Int32) (ty : Nat) : ∀ n p, p + n = L → p ≤ runT L b ty n p ∧ runT L b ty n p ≤ L ∧ ∀ i, p ≤ i → i < runT L b ty n p → typ L b i = ty
  | 0, p, h => ⟨Nat.le_refl _, by show p ≤ L; omega, fun i h1 h2 => by have h3 : i < p := h2; omega⟩
  | n + 1, p, h => by
    rw [runT]
    split
    · rename_i hq
      have ih := run_spec L b ty n (p + 1) (by omega)
      refine ⟨by omega, ih.2.1, fun i h1 h2 => ?_⟩
      by_cases z : i = p
      · rw [z]; exact hq
      · exact ih.2.2 i (by omega) h2
    · exact ⟨Nat.le_refl _, by omega, fun i h1 h2 => by omega⟩
theorem tE_spec {L : Nat} {b : Nat → Int32} {e : Nat} (h : e ≤ L) : tS L b e ≤ tE L b e ∧ tE L b e ≤ L ∧ (tT L b e ≠ 0 → tS L b e + 1 ≤ tE L b e ∧ tS L b e < L) ∧ ((tT L b e = 1 ∨ tT L b e = 2) → ∀ i, tS L b e ≤ i → i < tE L b e → typ L b i = tT L b e) := by
  have hs := tS_spec (b := b) h
  unfold tE
  by_cases h0 : tT L b e = 0
  · have h1 : L ≤ tS L b e := typ_0.mp h0
    rw [if_neg (by omega)]
    exact ⟨by omega, by omega, fun q => absurd h0 q, fun q => by omega⟩
  · have h1 : ¬ L ≤ tS L b e := fun q => h0 (typ_0.mpr q)
    by_cases h2 : tT L b e = 1 ∨ tT L b e = 2
    · rw [if_pos h2]
      have hr := run_spec L b (tT L b e) (L - (tS L b e + 1)) (tS L b e + 1) (by omega)
      refine ⟨by omega, hr.2.1, fun _ => ⟨hr.1, by omega⟩, fun _ i h3 h4 => ?_⟩
      by_cases z : i = tS L b e
      · rw [z]; rfl
      · exact hr.2.2 i (by omega) h4
    · rw [if_neg h2]
      exact ⟨by omega, by omega, fun _ => by omega, fun q => absurd q h2⟩
theorem vF_le (b : Nat → Int32) (s : Nat) : ∀ n, (∀ i, s ≤ i → i < s + n → (b i).toNatClampNeg ≤ 57) → vF b s n ≤ 10000
  | 0, _ => by show 0 ≤ 10000; omega
  | n + 1, h => by
    have ih := vF_le b s n (fun i h1 h2 => h i h1 (by omega))
    have := h (s + n) (by omega) (by omega)
    rw [vF]
    split <;> omega
theorem dig {L : Nat} {b : Nat → Int32} {i : Nat} (h : typ L b i = 2) : ∃ d, d ≤ 9 ∧ b i = nI (48 + d) ∧ (b i).toNatClampNeg = 48 + d := by
  unfold typ at h
  by_cases hi : i < L
  · rw [if_pos hi] at h
    unfold tyI at h
    by_cases h1 : 97 ≤ b i ∧ b i ≤ 122
    · rw [if_pos h1] at h; cases h
    · rw [if_neg h1] at h
      by_cases h2 : 48 ≤ b i ∧ b i ≤ 57
      · obtain ⟨x, a1, a2, a3⟩ := inI_nI (v := b i) (a := 48) (b := 57) (by decide) (by decide) (by show (decide ((48 : Int32) ≤ b i) && decide (b i ≤ (57 : Int32))) = true; rw [decide_eq_true h2.1, decide_eq_true h2.2]; rfl)
        refine ⟨x - 48, by omega, by rw [a3]; congr 1; omega, by rw [a3, ncl (by omega)]; omega⟩
      · rw [if_neg h2] at h
        split at h
        · cases h
        · split at h <;> cases h
  · rw [if_neg hi] at h
    cases h
/-- the class's tape, and its token -/
def TpC (M : Mm) (L : Nat) (b : Nat → Int32) : Prop := M.1 37 0 = nI L ∧ L ≤ 120 ∧ ∀ i, i < L → M.1 38 i = b i
def CTok (M : Mm) (L : Nat) (b : Nat → Int32) (e : Nat) : Prop := M.1 37 2 = nI (tT L b e) ∧ M.1 37 3 = nI (tS L b e) ∧ M.1 37 4 = nI (tE L b e) ∧ M.1 37 5 = nI (if tT L b e = 2 then tV L b e else 0)
theorem TpC.same {M M' : Mm} {L : Nat} {b : Nat → Int32} (h : TpC M L b) (h1 : M'.1 37 0 = M.1 37 0) (h2 : M'.1 38 = M.1 38) : TpC M' L b := ⟨by rw [h1]; exact h.1, h.2.1, fun i hi => by rw [h2]; exact h.2.2 i hi⟩
set_option maxRecDepth 20000 in
theorem s_typeAt {G : Gt} {d : Nat} {M : Mm} (hG : gS G = SHAPE) {L : Nat} {b : Nat → Int32} (hT : TpC M L b) {i : Nat} (hi : i ≤ 200) : ExI G (d) mX5_typeAt [.ref 37, .int (nI i)] M (fun r M' => r = nI (typ L b i) ∧ M' = M) := by
  refine Ex.of (by decide) (Nat.le_of_ble_eq_true rfl) ?_
  show Go G (d) mX5_typeAt 0 [some (.ref 37), some (.int (nI i)), none] [] M _
  have hL := hT.2.1
  refine Go.iload_n dX5_typeAt_0 rfl ?_
  refine Go.if_lt 18 dX5_typeAt_1 rfl (fun h1 => absurd h1 (nI_pos (by omega))) (fun _ => ?_)
  refine Go.iload_n dX5_typeAt_4 rfl ?_
  refine Go.aload_n dX5_typeAt_5 rfl ?_
  refine Go.getI dX5_typeAt_6 flX5_9 (shp hG rfl) rfl ?_
  refine Go.eqI (y := nI L) (hT.1) ?_
  refine Go.icmp_ge 18 dX5_typeAt_9 rfl (fun h9 => ?_) (fun h9 => ?_)
  · have n9 : L ≤ i := (nI_leI (a := L) (b := i) (by omega) (by omega)).mp h9
    refine Go.iconst (v := 0) dX5_typeAt_18 (by decide) ?_
    refine Go.iret dX5_typeAt_19 rfl rfl ?_
    refine ⟨_, rfl, ?_, rfl⟩
    rw [show typ L b i = 0 from typ_0.mpr (by omega)]
    rfl
  · have n9 : ¬ L ≤ i := fun q => h9 ((nI_leI (a := L) (b := i) (by omega) (by omega)).mpr q)
    refine Go.iload_n dX5_typeAt_12 rfl ?_
    refine Go.bipush (v := 120) dX5_typeAt_13 (by decide) ?_
    refine Go.icmp_lt 20 dX5_typeAt_15 rfl (fun h15 => ?_) (fun h15 => ?_)
    · have n15 : i < 120 := (nI_ltI (a := i) (b := 120) (by omega) (by omega)).mp h15
      refine Go.aload_n dX5_typeAt_20 rfl ?_
      refine Go.getR dX5_typeAt_21 flX5_15 (shp hG rfl) rfl ?_
      refine Go.iload_n dX5_typeAt_24 rfl ?_
      refine Go.iald dX5_typeAt_25 (shp hG rfl) (vin (by omega) (by decide)) ?_
      refine Go.eqI (y := b i) (by rw [ncl (by omega)]; exact hT.2.2 i (by omega)) ?_
      refine Go.nmI (fun x1 ex1 => ?_)
      refine Go.istore_n (ls' := [some (.ref 37), some (.int (nI i)), some (.int x1)]) dX5_typeAt_26 (Nat.le_of_ble_eq_true rfl) rfl rfl ?_
      refine Go.iload_n dX5_typeAt_27 rfl ?_
      refine Go.bipush (v := 97) dX5_typeAt_28 (by decide) ?_
      refine Go.icmp_lt 41 dX5_typeAt_30 rfl (fun h30 => ?_) (fun h30 => ?_)
      · refine Go.iload_n dX5_typeAt_41 rfl ?_
        refine Go.bipush (v := 48) dX5_typeAt_42 (by decide) ?_
        refine Go.icmp_lt 55 dX5_typeAt_44 rfl (fun h44 => ?_) (fun h44 => ?_)
        · refine Go.iload_n dX5_typeAt_55 rfl ?_
          refine Go.bipush (v := 59) dX5_typeAt_56 (by decide) ?_
          refine Go.icmp_ne 63 dX5_typeAt_58 rfl (fun h58 => ?_) (fun h58 => ?_)
          · refine Go.iload_n dX5_typeAt_63 rfl ?_
            refine Go.bipush (v := 32) dX5_typeAt_64 (by decide) ?_
            refine Go.icmp_ne 73 dX5_typeAt_66 rfl (fun h66 => ?_) (fun h66 => ?_)
            · refine Go.iconst (v := 5) dX5_typeAt_73 (by decide) ?_
              refine Go.iret dX5_typeAt_74 rfl rfl ?_
              refine ⟨_, rfl, ?_, rfl⟩
              subst ex1
              have h9 : typ L b i = 5 := by
                unfold typ tyI
                rw [if_pos (by omega)]
                simp [h30, i_lt_n h30, h44, i_lt_n h44, h58, h66]
              rw [h9]
              rfl
            · refine Go.iconst (v := 4) dX5_typeAt_69 (by decide) ?_
              refine Go.goto 74 dX5_typeAt_70 rfl ?_
              refine Go.iret dX5_typeAt_74 rfl rfl ?_
              refine ⟨_, rfl, ?_, rfl⟩
              subst ex1
              have h9 : typ L b i = 4 := by
                unfold typ tyI
                rw [if_pos (by omega)]
                simp [h30, i_lt_n h30, h44, i_lt_n h44, h58, h66]
              rw [h9]
              rfl
          · refine Go.iconst (v := 3) dX5_typeAt_61 (by decide) ?_
            refine Go.iret dX5_typeAt_62 rfl rfl ?_
            refine ⟨_, rfl, ?_, rfl⟩
            subst ex1
            have h9 : typ L b i = 3 := by
              unfold typ tyI
              rw [if_pos (by omega)]
              simp [h30, i_lt_n h30, h44, i_lt_n h44, h58]
            rw [h9]
            rfl
        · refine Go.iload_n dX5_typeAt_47 rfl ?_
          refine Go.bipush (v := 57) dX5_typeAt_48 (by decide) ?_
          refine Go.icmp_gt 55 dX5_typeAt_50 rfl (fun h50 => ?_) (fun h50 => ?_)
          · refine Go.iload_n dX5_typeAt_55 rfl ?_
            refine Go.bipush (v := 59) dX5_typeAt_56 (by decide) ?_
            refine Go.icmp_ne 63 dX5_typeAt_58 rfl (fun h58 => ?_) (fun h58 => ?_)
            · refine Go.iload_n dX5_typeAt_63 rfl ?_
              refine Go.bipush (v := 32) dX5_typeAt_64 (by decide) ?_
              refine Go.icmp_ne 73 dX5_typeAt_66 rfl (fun h66 => ?_) (fun h66 => ?_)
              · refine Go.iconst (v := 5) dX5_typeAt_73 (by decide) ?_
                refine Go.iret dX5_typeAt_74 rfl rfl ?_
                refine ⟨_, rfl, ?_, rfl⟩
                subst ex1
                have h9 : typ L b i = 5 := by
                  unfold typ tyI
                  rw [if_pos (by omega)]
                  simp [h30, i_lt_n h30, h44, i_nlt h44, h50, i_lt_n h50, h58, h66]
                rw [h9]
                rfl
              · refine Go.iconst (v := 4) dX5_typeAt_69 (by decide) ?_
                refine Go.goto 74 dX5_typeAt_70 rfl ?_
                refine Go.iret dX5_typeAt_74 rfl rfl ?_
                refine ⟨_, rfl, ?_, rfl⟩
                subst ex1
                have h9 : typ L b i = 4 := by
                  unfold typ tyI
                  rw [if_pos (by omega)]
                  simp [h30, i_lt_n h30, h44, i_nlt h44, h50, i_lt_n h50, h58, h66]
                rw [h9]
                rfl
            · refine Go.iconst (v := 3) dX5_typeAt_61 (by decide) ?_
              refine Go.iret dX5_typeAt_62 rfl rfl ?_
              refine ⟨_, rfl, ?_, rfl⟩
              subst ex1
              have h9 : typ L b i = 3 := by
                unfold typ tyI
                rw [if_pos (by omega)]
                simp [h30, i_lt_n h30, h44, i_nlt h44, h50, i_lt_n h50, h58]
              rw [h9]
              rfl
          · refine Go.iconst (v := 2) dX5_typeAt_53 (by decide) ?_
            refine Go.iret dX5_typeAt_54 rfl rfl ?_
            refine ⟨_, rfl, ?_, rfl⟩
            subst ex1
            have h9 : typ L b i = 2 := by
              unfold typ tyI
              rw [if_pos (by omega)]
              simp [h30, i_lt_n h30, h44, i_nlt h44, h50, i_nlt h50]
            rw [h9]
            rfl
      · refine Go.iload_n dX5_typeAt_33 rfl ?_
        refine Go.bipush (v := 122) dX5_typeAt_34 (by decide) ?_
        refine Go.icmp_gt 41 dX5_typeAt_36 rfl (fun h36 => ?_) (fun h36 => ?_)
        · refine Go.iload_n dX5_typeAt_41 rfl ?_
          refine Go.bipush (v := 48) dX5_typeAt_42 (by decide) ?_
          refine Go.icmp_lt 55 dX5_typeAt_44 rfl (fun h44 => ?_) (fun h44 => ?_)
          · refine Go.iload_n dX5_typeAt_55 rfl ?_
            refine Go.bipush (v := 59) dX5_typeAt_56 (by decide) ?_
            refine Go.icmp_ne 63 dX5_typeAt_58 rfl (fun h58 => ?_) (fun h58 => ?_)
            · refine Go.iload_n dX5_typeAt_63 rfl ?_
              refine Go.bipush (v := 32) dX5_typeAt_64 (by decide) ?_
              refine Go.icmp_ne 73 dX5_typeAt_66 rfl (fun h66 => ?_) (fun h66 => ?_)
              · refine Go.iconst (v := 5) dX5_typeAt_73 (by decide) ?_
                refine Go.iret dX5_typeAt_74 rfl rfl ?_
                refine ⟨_, rfl, ?_, rfl⟩
                subst ex1
                have h9 : typ L b i = 5 := by
                  unfold typ tyI
                  rw [if_pos (by omega)]
                  simp [h30, i_nlt h30, h36, i_lt_n h36, h44, i_lt_n h44, h58, h66]
                rw [h9]
                rfl
              · refine Go.iconst (v := 4) dX5_typeAt_69 (by decide) ?_
                refine Go.goto 74 dX5_typeAt_70 rfl ?_
                refine Go.iret dX5_typeAt_74 rfl rfl ?_
                refine ⟨_, rfl, ?_, rfl⟩
                subst ex1
                have h9 : typ L b i = 4 := by
                  unfold typ tyI
                  rw [if_pos (by omega)]
                  simp [h30, i_nlt h30, h36, i_lt_n h36, h44, i_lt_n h44, h58, h66]
                rw [h9]
                rfl
            · refine Go.iconst (v := 3) dX5_typeAt_61 (by decide) ?_
              refine Go.iret dX5_typeAt_62 rfl rfl ?_
              refine ⟨_, rfl, ?_, rfl⟩
              subst ex1
              have h9 : typ L b i = 3 := by
                unfold typ tyI
                rw [if_pos (by omega)]
                simp [h30, i_nlt h30, h36, i_lt_n h36, h44, i_lt_n h44, h58]
              rw [h9]
              rfl
          · refine Go.iload_n dX5_typeAt_47 rfl ?_
            refine Go.bipush (v := 57) dX5_typeAt_48 (by decide) ?_
            refine Go.icmp_gt 55 dX5_typeAt_50 rfl (fun h50 => ?_) (fun h50 => ?_)
            · refine Go.iload_n dX5_typeAt_55 rfl ?_
              refine Go.bipush (v := 59) dX5_typeAt_56 (by decide) ?_
              refine Go.icmp_ne 63 dX5_typeAt_58 rfl (fun h58 => ?_) (fun h58 => ?_)
              · refine Go.iload_n dX5_typeAt_63 rfl ?_
                refine Go.bipush (v := 32) dX5_typeAt_64 (by decide) ?_
                refine Go.icmp_ne 73 dX5_typeAt_66 rfl (fun h66 => ?_) (fun h66 => ?_)
                · refine Go.iconst (v := 5) dX5_typeAt_73 (by decide) ?_
                  refine Go.iret dX5_typeAt_74 rfl rfl ?_
                  refine ⟨_, rfl, ?_, rfl⟩
                  subst ex1
                  have h9 : typ L b i = 5 := by
                    unfold typ tyI
                    rw [if_pos (by omega)]
                    simp [h30, i_nlt h30, h36, i_lt_n h36, h44, i_nlt h44, h50, i_lt_n h50, h58, h66]
                  rw [h9]
                  rfl
                · refine Go.iconst (v := 4) dX5_typeAt_69 (by decide) ?_
                  refine Go.goto 74 dX5_typeAt_70 rfl ?_
                  refine Go.iret dX5_typeAt_74 rfl rfl ?_
                  refine ⟨_, rfl, ?_, rfl⟩
                  subst ex1
                  have h9 : typ L b i = 4 := by
                    unfold typ tyI
                    rw [if_pos (by omega)]
                    simp [h30, i_nlt h30, h36, i_lt_n h36, h44, i_nlt h44, h50, i_lt_n h50, h58, h66]
                  rw [h9]
                  rfl
              · refine Go.iconst (v := 3) dX5_typeAt_61 (by decide) ?_
                refine Go.iret dX5_typeAt_62 rfl rfl ?_
                refine ⟨_, rfl, ?_, rfl⟩
                subst ex1
                have h9 : typ L b i = 3 := by
                  unfold typ tyI
                  rw [if_pos (by omega)]
                  simp [h30, i_nlt h30, h36, i_lt_n h36, h44, i_nlt h44, h50, i_lt_n h50, h58]
                rw [h9]
                rfl
            · refine Go.iconst (v := 2) dX5_typeAt_53 (by decide) ?_
              refine Go.iret dX5_typeAt_54 rfl rfl ?_
              refine ⟨_, rfl, ?_, rfl⟩
              subst ex1
              have h9 : typ L b i = 2 := by
                unfold typ tyI
                rw [if_pos (by omega)]
                simp [h30, i_nlt h30, h36, i_lt_n h36, h44, i_nlt h44, h50, i_nlt h50]
              rw [h9]
              rfl
        · refine Go.iconst (v := 1) dX5_typeAt_39 (by decide) ?_
          refine Go.iret dX5_typeAt_40 rfl rfl ?_
          refine ⟨_, rfl, ?_, rfl⟩
          subst ex1
          have h9 : typ L b i = 1 := by
            unfold typ tyI
            rw [if_pos (by omega)]
            simp [h30, i_nlt h30, h36, i_nlt h36]
          rw [h9]
          rfl
    · have n15 : ¬ i < 120 := fun q => h15 ((nI_ltI (a := i) (b := 120) (by omega) (by omega)).mpr q)
      refine Go.iconst (v := 0) dX5_typeAt_18 (by decide) ?_
      refine Go.iret dX5_typeAt_19 rfl rfl ?_
      refine ⟨_, rfl, ?_, rfl⟩
      rw [show typ L b i = 0 from typ_0.mpr (by omega)]
      rfl
set_option maxRecDepth 20000 in
theorem l_digits {G : Gt} {d : Nat} {M : Mm} (hG : gS G = SHAPE) {L : Nat} {b : Nat → Int32} (hT : TpC M L b) {s0 k : Nat} (hk : s0 + k ≤ L) (hdg : ∀ i, s0 ≤ i → i < s0 + k → typ L b i = 2) (h3 : M.1 37 3 = nI s0) (h4 : M.1 37 4 = nI (s0 + k)) : ∀ (n i : Nat) (o3 : Option Value), i + n = k → Go G (d) mX5_valueOfDigits 7 [some (.ref 37), some (.int (nI (vF b s0 i))), some (.int (nI (s0 + i))), o3] [] M (fun v M' => ∃ r, v = some (.int r) ∧ r = nI (vF b s0 k) ∧ M' = M) := by
  intro n
  induction n with
  | zero =>
    intro i o3 hin
    have hL := hT.2.1
    refine Go.iload_n dX5_valueOfDigits_7 rfl ?_
    refine Go.aload_n dX5_valueOfDigits_8 rfl ?_
    refine Go.getI dX5_valueOfDigits_9 flX5_25 (shp hG rfl) rfl ?_
    refine Go.eqI (y := nI (s0 + k)) (h4) ?_
    refine Go.icmp_ge 57 dX5_valueOfDigits_12 rfl (fun _ => ?_) (fun h12 => absurd (nI_le (a := s0 + k) (b := s0 + i) (by omega) (by omega)) h12)
    refine Go.iload_n dX5_valueOfDigits_57 rfl ?_
    refine Go.iret dX5_valueOfDigits_58 rfl rfl ?_
    have e9 : i = k := by omega
    subst e9
    exact ⟨_, rfl, rfl, rfl⟩
  | succ n ih =>
    intro i o3 hin
    have hi : i < k := by omega
    have hL := hT.2.1
    obtain ⟨d0, hd9, hd0, hdn⟩ := dig (hdg (s0 + i) (by omega) (by omega))
    have hv4 := vF_le b s0 i (fun j h1 h2 => by obtain ⟨d, a1, a2, a3⟩ := dig (hdg j h1 (by omega)); omega)
    refine Go.iload_n dX5_valueOfDigits_7 rfl ?_
    refine Go.aload_n dX5_valueOfDigits_8 rfl ?_
    refine Go.getI dX5_valueOfDigits_9 flX5_25 (shp hG rfl) rfl ?_
    refine Go.eqI (y := nI (s0 + k)) (h4) ?_
    refine Go.icmp_ge 57 dX5_valueOfDigits_12 rfl (fun h12 => absurd h12 (nI_ge (a := s0 + i) (b := s0 + k) (by omega) (by omega))) (fun _ => ?_)
    refine Go.iload_n dX5_valueOfDigits_15 rfl ?_
    refine Go.bipush (v := 120) dX5_valueOfDigits_16 (by decide) ?_
    refine Go.icmp_ge 57 dX5_valueOfDigits_18 rfl (fun h18 => absurd h18 (nI_ge (a := s0 + i) (b := 120) (by omega) (by omega))) (fun _ => ?_)
    refine Go.bipush (v := 10) dX5_valueOfDigits_21 (by decide) ?_
    refine Go.iload_n dX5_valueOfDigits_23 rfl ?_
    refine Go.imul dX5_valueOfDigits_24 ?_
    refine Go.eqI (y := nI (10 * (vF b s0 i))) (pk_mul _ _) ?_
    refine Go.aload_n dX5_valueOfDigits_25 rfl ?_
    refine Go.getR dX5_valueOfDigits_26 flX5_15 (shp hG rfl) rfl ?_
    refine Go.iload_n dX5_valueOfDigits_29 rfl ?_
    refine Go.iald dX5_valueOfDigits_30 (shp hG rfl) (vin (by omega) (by decide)) ?_
    refine Go.eqI (y := nI (48 + d0)) (by rw [ncl (by omega), hT.2.2 _ (by omega)]; exact hd0) ?_
    refine Go.iadd dX5_valueOfDigits_31 ?_
    refine Go.eqI (y := nI (10 * vF b s0 i + d0 + 48)) ((nI_add _ _).trans (by congr 1; omega)) ?_
    refine Go.bipush (v := 48) dX5_valueOfDigits_32 (by decide) ?_
    refine Go.isub dX5_valueOfDigits_34 ?_
    refine Go.eqI (y := nI (10 * vF b s0 i + d0)) ((pk_sub (a := 10 * vF b s0 i + d0 + 48) (b := 48) (by omega)).trans (by congr 1)) ?_
    refine Go.istore_n (ls' := [some (.ref 37), some (.int (nI (vF b s0 i))), some (.int (nI (s0 + i))), some (.int (nI (10 * vF b s0 i + d0)))]) dX5_valueOfDigits_35 (Nat.le_of_ble_eq_true rfl) rfl rfl ?_
    refine Go.iload_n dX5_valueOfDigits_36 rfl ?_
    refine Go.sipush (v := 10000) dX5_valueOfDigits_37 (by decide) ?_
    refine Go.icmp_ge 47 dX5_valueOfDigits_40 rfl (fun h40 => ?_) (fun h40 => ?_)
    · have n40 : 10000 ≤ (10 * vF b s0 i + d0) := (nI_leI (a := 10000) (b := (10 * vF b s0 i + d0)) (by omega) (by omega)).mp h40
      refine Go.sipush (v := 10000) dX5_valueOfDigits_47 (by decide) ?_
      refine Go.istore_n (ls' := [some (.ref 37), some (.int 10000), some (.int (nI (s0 + i))), some (.int (nI (10 * vF b s0 i + d0)))]) dX5_valueOfDigits_50 (Nat.le_of_ble_eq_true rfl) rfl rfl ?_
      refine Go.iinc (v := nI (s0 + i + 1)) (ls' := [some (.ref 37), some (.int 10000), some (.int (nI (s0 + i + 1))), some (.int (nI (10 * vF b s0 i + d0)))]) dX5_valueOfDigits_51 rfl (nI_1 _) rfl rfl ?_
      refine Go.goto 7 dX5_valueOfDigits_54 rfl ?_
      have e9 : vF b s0 (i + 1) = 10000 := by
        rw [vF]
        by_cases z : 999 < vF b s0 i
        · rw [if_pos z]
        · omega
      rw [show (10000 : Int32) = nI (vF b s0 (i + 1)) by rw [e9]; rfl]
      rw [show s0 + i + 1 = s0 + (i + 1) by omega]
      exact ih (i + 1) _ (by omega)
    · have n40 : ¬ 10000 ≤ (10 * vF b s0 i + d0) := fun q => h40 ((nI_leI (a := 10000) (b := (10 * vF b s0 i + d0)) (by omega) (by omega)).mpr q)
      refine Go.iload_n dX5_valueOfDigits_43 rfl ?_
      refine Go.goto 50 dX5_valueOfDigits_44 rfl ?_
      refine Go.istore_n (ls' := [some (.ref 37), some (.int (nI (10 * vF b s0 i + d0))), some (.int (nI (s0 + i))), some (.int (nI (10 * vF b s0 i + d0)))]) dX5_valueOfDigits_50 (Nat.le_of_ble_eq_true rfl) rfl rfl ?_
      refine Go.iinc (v := nI (s0 + i + 1)) (ls' := [some (.ref 37), some (.int (nI (10 * vF b s0 i + d0))), some (.int (nI (s0 + i + 1))), some (.int (nI (10 * vF b s0 i + d0)))]) dX5_valueOfDigits_51 rfl (nI_1 _) rfl rfl ?_
      refine Go.goto 7 dX5_valueOfDigits_54 rfl ?_
      have e9 : vF b s0 (i + 1) = 10 * vF b s0 i + d0 := by
        rw [vF, if_neg (by omega), hdn]
        omega
      rw [show nI (10 * vF b s0 i + d0) = nI (vF b s0 (i + 1)) by rw [e9], show s0 + i + 1 = s0 + (i + 1) by omega]
      exact ih (i + 1) _ (by omega)
set_option maxRecDepth 20000 in
theorem s_digits {G : Gt} {d : Nat} {M : Mm} (hG : gS G = SHAPE) {L : Nat} {b : Nat → Int32} (hT : TpC M L b) {s0 k : Nat} (hk : s0 + k ≤ L) (hdg : ∀ i, s0 ≤ i → i < s0 + k → typ L b i = 2) (h3 : M.1 37 3 = nI s0) (h4 : M.1 37 4 = nI (s0 + k)) : ExI G (d) mX5_valueOfDigits [.ref 37] M (fun r M' => r = nI (vF b s0 k) ∧ M' = M) := by
  refine Ex.of (by decide) (Nat.le_of_ble_eq_true rfl) ?_
  show Go G (d) mX5_valueOfDigits 0 [some (.ref 37), none, none, none] [] M _
  refine Go.iconst (v := 0) dX5_valueOfDigits_0 (by decide) ?_
  refine Go.istore_n (ls' := [some (.ref 37), some (.int 0), none, none]) dX5_valueOfDigits_1 (Nat.le_of_ble_eq_true rfl) rfl rfl ?_
  refine Go.aload_n dX5_valueOfDigits_2 rfl ?_
  refine Go.getI dX5_valueOfDigits_3 flX5_22 (shp hG rfl) rfl ?_
  refine Go.eqI (y := nI s0) (h3) ?_
  refine Go.istore_n (ls' := [some (.ref 37), some (.int 0), some (.int (nI s0)), none]) dX5_valueOfDigits_6 (Nat.le_of_ble_eq_true rfl) rfl rfl ?_
  exact l_digits hG hT hk hdg h3 h4 k 0 _ (by omega)
