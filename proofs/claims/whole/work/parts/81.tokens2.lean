/-- whether the token is one of the words -/
def isWP (L : Nat) (b : Nat → Int32) (e k : Nat) : Bool := decide (tT L b e = 1) && (decide (tE L b e - tS L b e = strLn.getD k 0) && allN (fun i => decide (b (tS L b e + i) = (strBy.getD k []).getD i 0)) (strLn.getD k 0))
set_option maxRecDepth 20000 in
theorem l_isWord {G : Gt} {d : Nat} {M : Mm} (hG : gS G = SHAPE) {L : Nat} {b : Nat → Int32} (hT : TpC M L b) {e : Nat} (heL : e ≤ L) (hK : CTok M L b e) {k : Nat} (hk18 : k < 18) (h1 : tT L b e = 1) (h2 : tE L b e - tS L b e = strLn.getD k 0) : ∀ (n i : Nat), i + n = (strLn.getD k 0) → (∀ j, j < i → b (tS L b e + j) = (strBy.getD k []).getD j 0) → Go G (d + 4) mX5_isWord 37 [some (.ref 37), some (.ref (2000 + k)), some (.int (nI i))] [] M (fun v M' => ∃ r, v = some (.int r) ∧ r = bi (isWP L b e k) ∧ M' = M) := by
  intro n
  induction n with
  | zero =>
    intro i  hin hA
    have hL := hT.2.1
    have hs1 := tS_spec (b := b) heL
    have he1 := tE_spec (b := b) heL
    have hl7 := (len_sh k hk18).2.1
    have ht5 := typ_le L b (tS L b e)
    have ht5 : tT L b e ≤ 5 := ht5
    refine Go.iload_n dX5_isWord_37 rfl ?_
    refine Go.aload_n dX5_isWord_38 rfl ?_
    refine Go.callTI [.int (nI i)] hk18 dX5_isWord_39 lkX5_142 imJ0_length_8abf5 seJ0_length_8abf5 cbJ0_length_8abf5 rfl (s_len hk18) rfl rfl (Nat.le_of_ble_eq_true rfl) (fun r1 M2 hr1 => ?_)
    obtain ⟨er1, emr1⟩ := hr1
    rw [emr1]
    clear emr1 M2
    subst er1
    refine Go.icmp_ge 72 dX5_isWord_42 rfl (fun _ => ?_) (fun h42 => absurd (nI_le (a := strLn.getD k 0) (b := i) (by omega) (by omega)) h42)
    refine Go.iconst (v := 1) dX5_isWord_72 (by decide) ?_
    refine Go.iret dX5_isWord_73 rfl (by decide) ?_
    refine ⟨_, rfl, ?_, rfl⟩
    rw [show isWP L b e k = true from by unfold isWP; rw [decide_eq_true h1, decide_eq_true h2, (allN_iff _ _).mpr (fun j hj => decide_eq_true (hA j (by omega)))]; rfl]
    rfl
  | succ n ih =>
    intro i  hin hA
    have hi : i < (strLn.getD k 0) := by omega
    have hL := hT.2.1
    have hs1 := tS_spec (b := b) heL
    have he1 := tE_spec (b := b) heL
    have hl7 := (len_sh k hk18).2.1
    have ht5 := typ_le L b (tS L b e)
    have ht5 : tT L b e ≤ 5 := ht5
    refine Go.iload_n dX5_isWord_37 rfl ?_
    refine Go.aload_n dX5_isWord_38 rfl ?_
    refine Go.callTI [.int (nI i)] hk18 dX5_isWord_39 lkX5_142 imJ0_length_8abf5 seJ0_length_8abf5 cbJ0_length_8abf5 rfl (s_len hk18) rfl rfl (Nat.le_of_ble_eq_true rfl) (fun r1 M2 hr1 => ?_)
    obtain ⟨er1, emr1⟩ := hr1
    rw [emr1]
    clear emr1 M2
    subst er1
    refine Go.icmp_ge 72 dX5_isWord_42 rfl (fun h42 => absurd h42 (nI_ge (a := i) (b := strLn.getD k 0) (by omega) (by omega))) (fun _ => ?_)
    refine Go.aload_n dX5_isWord_45 rfl ?_
    refine Go.getR dX5_isWord_46 flX5_15 (shp hG rfl) rfl ?_
    refine Go.aload_n dX5_isWord_49 rfl ?_
    refine Go.getI dX5_isWord_50 flX5_22 (shp hG rfl) rfl ?_
    refine Go.eqI (y := nI (tS L b e)) (hK.2.1) ?_
    refine Go.iload_n dX5_isWord_53 rfl ?_
    refine Go.iadd dX5_isWord_54 ?_
    refine Go.eqI (y := nI (tS L b e + i)) (nI_add _ _) ?_
    refine Go.iald dX5_isWord_55 (shp hG rfl) (vin (by omega) (by decide)) ?_
    refine Go.eqI (y := b (tS L b e + i)) (by rw [ncl (by omega)]; exact hT.2.2 _ (by omega)) ?_
    refine Go.aload_n dX5_isWord_56 rfl ?_
    refine Go.iload_n dX5_isWord_57 rfl ?_
    refine Go.callTI [.int (b (tS L b e + i))] hk18 dX5_isWord_58 lkX5_146 imJ0_charAt_5068e seJ0_charAt_5068e cbJ0_charAt_5068e rfl (s_chr hk18 (k := i) (by omega)) rfl rfl (Nat.le_of_ble_eq_true rfl) (fun r3 M4 hr3 => ?_)
    obtain ⟨er3, emr3⟩ := hr3
    rw [emr3]
    clear emr3 M4
    subst er3
    refine Go.icmp_eq 66 dX5_isWord_61 rfl (fun h61 => ?_) (fun h61 => ?_)
    · refine Go.iinc (v := nI (i + 1)) (ls' := [some (.ref 37), some (.ref (2000 + k)), some (.int (nI (i + 1)))]) dX5_isWord_66 rfl (nI_1 _) rfl rfl ?_
      refine Go.goto 37 dX5_isWord_69 rfl ?_
      refine ih (i + 1) (by omega) (fun j hj => ?_)
      by_cases z : j = i
      · rw [z]; exact h61
      · exact hA j (by omega)
    · refine Go.iconst (v := 0) dX5_isWord_64 (by decide) ?_
      refine Go.iret dX5_isWord_65 rfl (by decide) ?_
      refine ⟨_, rfl, ?_, rfl⟩
      rw [show isWP L b e k = false from ?_]
      · rfl
      cases hz : isWP L b e k with
      | false => rfl
      | true =>
        unfold isWP at hz
        rw [Bool.and_eq_true, Bool.and_eq_true] at hz
        exact absurd (of_decide_eq_true ((allN_iff _ _).mp hz.2.2 i hi)) h61
set_option maxRecDepth 20000 in
theorem s_isWord {G : Gt} {d : Nat} {M : Mm} (hG : gS G = SHAPE) {L : Nat} {b : Nat → Int32} (hT : TpC M L b) {e : Nat} (heL : e ≤ L) (hK : CTok M L b e) {k : Nat} (hk18 : k < 18) : ExI G (d + 4) mX5_isWord [.ref 37, .ref (2000 + k)] M (fun r M' => r = bi (isWP L b e k) ∧ M' = M) := by
  refine Ex.of (by decide) (Nat.le_of_ble_eq_true rfl) ?_
  show Go G (d + 4) mX5_isWord 0 [some (.ref 37), some (.ref (2000 + k)), none] [] M _
  have hL := hT.2.1
  have hs1 := tS_spec (b := b) heL
  have he1 := tE_spec (b := b) heL
  have hl7 := (len_sh k hk18).2.1
  have ht5 := typ_le L b (tS L b e)
  have ht5 : tT L b e ≤ 5 := ht5
  refine Go.aload_n dX5_isWord_0 rfl ?_
  refine Go.getI dX5_isWord_1 flX5_19 (shp hG rfl) rfl ?_
  refine Go.eqI (y := nI (tT L b e)) (hK.1) ?_
  refine Go.iconst (v := 1) dX5_isWord_4 (by decide) ?_
  refine Go.icmp_ne 33 dX5_isWord_5 rfl (fun h5 => ?_) (fun h5 => ?_)
  · have n5 : ¬ (tT L b e) = 1 := fun q => h5 ((nI_inj (a := (tT L b e)) (b := 1) (by omega) (by omega)).mpr q)
    refine Go.iconst (v := 0) dX5_isWord_33 (by decide) ?_
    refine Go.iret dX5_isWord_34 rfl (by decide) ?_
    refine ⟨_, rfl, ?_, rfl⟩
    rw [show isWP L b e k = false from by unfold isWP; rw [decide_eq_false n5]; rfl]
    rfl
  · have n5 : (tT L b e) = 1 := (nI_inj (a := (tT L b e)) (b := 1) (by omega) (by omega)).mp h5
    refine Go.aload_n dX5_isWord_8 rfl ?_
    refine Go.getI dX5_isWord_9 flX5_25 (shp hG rfl) rfl ?_
    refine Go.eqI (y := nI (tE L b e)) (hK.2.2.1) ?_
    refine Go.aload_n dX5_isWord_12 rfl ?_
    refine Go.getI dX5_isWord_13 flX5_22 (shp hG rfl) rfl ?_
    refine Go.eqI (y := nI (tS L b e)) (hK.2.1) ?_
    refine Go.isub dX5_isWord_16 ?_
    refine Go.eqI (y := nI (tE L b e - tS L b e)) (pk_sub (by omega)) ?_
    refine Go.aload_n dX5_isWord_17 rfl ?_
    refine Go.callTI [.int (nI (tE L b e - tS L b e))] hk18 dX5_isWord_18 lkX5_142 imJ0_length_8abf5 seJ0_length_8abf5 cbJ0_length_8abf5 rfl (s_len hk18) rfl rfl (Nat.le_of_ble_eq_true rfl) (fun r1 M2 hr1 => ?_)
    obtain ⟨er1, emr1⟩ := hr1
    rw [emr1]
    clear emr1 M2
    subst er1
    refine Go.icmp_ne 33 dX5_isWord_21 rfl (fun h21 => ?_) (fun h21 => ?_)
    · have n21 : ¬ (tE L b e - tS L b e) = (strLn.getD k 0) := fun q => h21 ((nI_inj (a := (tE L b e - tS L b e)) (b := (strLn.getD k 0)) (by omega) (by omega)).mpr q)
      refine Go.iconst (v := 0) dX5_isWord_33 (by decide) ?_
      refine Go.iret dX5_isWord_34 rfl (by decide) ?_
      refine ⟨_, rfl, ?_, rfl⟩
      rw [show isWP L b e k = false from by unfold isWP; rw [decide_eq_false n21, Bool.false_and, Bool.and_false]]
      rfl
    · have n21 : (tE L b e - tS L b e) = (strLn.getD k 0) := (nI_inj (a := (tE L b e - tS L b e)) (b := (strLn.getD k 0)) (by omega) (by omega)).mp h21
      refine Go.aload_n dX5_isWord_24 rfl ?_
      refine Go.getI dX5_isWord_25 flX5_25 (shp hG rfl) rfl ?_
      refine Go.eqI (y := nI (tE L b e)) (hK.2.2.1) ?_
      refine Go.bipush (v := 120) dX5_isWord_28 (by decide) ?_
      refine Go.icmp_le 35 dX5_isWord_30 rfl (fun _ => ?_) (fun h30 => absurd (nI_le (a := tE L b e) (b := 120) (by omega) (by omega)) h30)
      refine Go.iconst (v := 0) dX5_isWord_35 (by decide) ?_
      refine Go.istore_n (ls' := [some (.ref 37), some (.ref (2000 + k)), some (.int 0)]) dX5_isWord_36 (Nat.le_of_ble_eq_true rfl) rfl rfl ?_
      exact l_isWord hG hT heL hK hk18 n5 n21 (strLn.getD k 0) 0 (by omega) (fun j hj => by omega)
theorem TpC.up {M : Mm} {L : Nat} {b : Nat → Int32} (h : TpC M L b) {j : Nat} {x : Int32} (hj : j ≠ 0) : TpC (upi M 37 j x) L b := h.same (by rw [rd_eq]; simp [upd]; intro q; exact absurd q.symm hj) (rd_ne (by decide))
set_option maxRecDepth 20000 in
theorem l_adv1 {G : Gt} {d : Nat} {M : Mm} (hG : gS G = SHAPE) {L : Nat} {b : Nat → Int32} {e : Nat} {post : Option Value → Mm → Prop} (hout : ∀ N, TpC N L b → Same [37] M N → N.1 37 3 = nI (tS L b e) → Go G (d + 1) mX5_advance 44 [some (.ref 37)] [] N post) : ∀ (n i : Nat) (N : Mm), i + n = L → TpC N L b → Same [37] M N → N.1 37 3 = nI i → tS L b e = skp L b n i → Go G (d + 1) mX5_advance 8 [some (.ref 37)] [] N post := by
  intro n
  induction n with
  | zero =>
    intro i N hin hN hSm h3 hk
    have hL := hN.2.1
    refine Go.aload_n dX5_advance_8 rfl ?_
    refine Go.getI dX5_advance_9 flX5_22 (shp hG rfl) rfl ?_
    refine Go.eqI (y := nI i) (h3) ?_
    refine Go.aload_n dX5_advance_12 rfl ?_
    refine Go.getI dX5_advance_13 flX5_9 (shp hG rfl) rfl ?_
    refine Go.eqI (y := nI L) (hN.1) ?_
    refine Go.icmp_ge 44 dX5_advance_16 rfl (fun _ => ?_) (fun h16 => absurd (nI_le (a := L) (b := i) (by omega) (by omega)) h16)
    exact hout N hN hSm (by rw [h3, hk]; rfl)
  | succ n ih =>
    intro i N hin hN hSm h3 hk
    have hi : i < L := by omega
    have hL := hN.2.1
    have ht5 := typ_le L b i
    refine Go.aload_n dX5_advance_8 rfl ?_
    refine Go.getI dX5_advance_9 flX5_22 (shp hG rfl) rfl ?_
    refine Go.eqI (y := nI i) (h3) ?_
    refine Go.aload_n dX5_advance_12 rfl ?_
    refine Go.getI dX5_advance_13 flX5_9 (shp hG rfl) rfl ?_
    refine Go.eqI (y := nI L) (hN.1) ?_
    refine Go.icmp_ge 44 dX5_advance_16 rfl (fun h16 => absurd h16 (nI_ge (a := i) (b := L) (by omega) (by omega))) (fun _ => ?_)
    refine Go.aload_n dX5_advance_19 rfl ?_
    refine Go.aload_n dX5_advance_20 rfl ?_
    refine Go.getI dX5_advance_21 flX5_22 (shp hG rfl) rfl ?_
    refine Go.eqI (y := nI i) (h3) ?_
    refine Go.callVI [] dX5_advance_24 lkX5_150 imX5_typeAt seX5_typeAt cbX5_typeAt (s_typeAt hG hN (i := i) (by omega)) (shp hG rfl) rfl rfl rfl (Nat.le_of_ble_eq_true rfl) (fun r1 M2 hr1 => ?_)
    obtain ⟨er1, emr1⟩ := hr1
    rw [emr1]
    clear emr1 M2
    subst er1
    refine Go.iconst (v := 4) dX5_advance_27 (by decide) ?_
    refine Go.icmp_ne 44 dX5_advance_28 rfl (fun h28 => ?_) (fun h28 => ?_)
    · have n28 : ¬ (typ L b i) = 4 := fun q => h28 ((nI_inj (a := (typ L b i)) (b := 4) (by omega) (by omega)).mpr q)
      exact hout N hN hSm (by rw [h3, hk, skp, if_neg n28])
    · have n28 : (typ L b i) = 4 := (nI_inj (a := (typ L b i)) (b := 4) (by omega) (by omega)).mp h28
      refine Go.aload_n dX5_advance_31 rfl ?_
      refine Go.dup dX5_advance_32 rfl ?_
      refine Go.getI dX5_advance_33 flX5_22 (shp hG rfl) rfl ?_
      refine Go.eqI (y := nI i) (h3) ?_
      refine Go.iconst (v := 1) dX5_advance_36 (by decide) ?_
      refine Go.iadd dX5_advance_37 ?_
      refine Go.eqI (y := nI (i + 1)) (nI_add _ _) ?_
      refine Go.putI dX5_advance_38 fpX5_22 (shp hG rfl) rfl rfl rfl ?_
      refine Go.nmM (fun N3 eN3 => ?_)
      refine Go.goto 8 dX5_advance_41 rfl ?_
      exact ih (i + 1) N3 (by omega) (by rw [eN3]; exact hN.up (by decide)) (hSm.trans (by rw [eN3]; exact Same.upi _ 37 _ _ (by decide))) (by rw [eN3, rd_eq]; simp [upd]) (by rw [hk, skp, if_pos n28])
set_option maxRecDepth 20000 in
theorem l_adv2 {G : Gt} {d : Nat} {M : Mm} (hG : gS G = SHAPE) {L : Nat} {b : Nat → Int32} {ty s0 t0 : Nat} (hty : ty = 1 ∨ ty = 2) {post : Option Value → Mm → Prop} (hout : ∀ N, TpC N L b → Same [37] M N → N.1 37 4 = nI t0 → N.1 37 2 = nI ty → N.1 37 3 = nI s0 → Go G (d + 1) mX5_advance 128 [some (.ref 37)] [] N post) : ∀ (n i : Nat) (N : Mm), i + n = L → TpC N L b → Same [37] M N → N.1 37 4 = nI i → N.1 37 2 = nI ty → N.1 37 3 = nI s0 → t0 = runT L b ty n i → Go G (d + 1) mX5_advance 73 [some (.ref 37)] [] N post := by
  intro n
  induction n with
  | zero =>
    intro i N hin hN hSm h4 h2 h3 hk
    have hL := hN.2.1
    refine Go.aload_n dX5_advance_73 rfl ?_
    refine Go.getI dX5_advance_74 flX5_25 (shp hG rfl) rfl ?_
    refine Go.eqI (y := nI i) (h4) ?_
    refine Go.aload_n dX5_advance_77 rfl ?_
    refine Go.getI dX5_advance_78 flX5_9 (shp hG rfl) rfl ?_
    refine Go.eqI (y := nI L) (hN.1) ?_
    refine Go.icmp_ge 128 dX5_advance_81 rfl (fun _ => ?_) (fun h81 => absurd (nI_le (a := L) (b := i) (by omega) (by omega)) h81)
    exact hout N hN hSm (by rw [h4, hk]; rfl) h2 h3
  | succ n ih =>
    intro i N hin hN hSm h4 h2 h3 hk
    have hi : i < L := by omega
    have hL := hN.2.1
    have ht5 := typ_le L b i
    refine Go.aload_n dX5_advance_73 rfl ?_
    refine Go.getI dX5_advance_74 flX5_25 (shp hG rfl) rfl ?_
    refine Go.eqI (y := nI i) (h4) ?_
    refine Go.aload_n dX5_advance_77 rfl ?_
    refine Go.getI dX5_advance_78 flX5_9 (shp hG rfl) rfl ?_
    refine Go.eqI (y := nI L) (hN.1) ?_
    refine Go.icmp_ge 128 dX5_advance_81 rfl (fun h81 => absurd h81 (nI_ge (a := i) (b := L) (by omega) (by omega))) (fun _ => ?_)
    refine Go.aload_n dX5_advance_84 rfl ?_
    refine Go.getI dX5_advance_85 flX5_19 (shp hG rfl) rfl ?_
    refine Go.eqI (y := nI ty) (h2) ?_
    refine Go.iconst (v := 1) dX5_advance_88 (by decide) ?_
    refine Go.icmp_eq 100 dX5_advance_89 rfl (fun h89 => ?_) (fun h89 => ?_)
    · have n89 : ty = 1 := (nI_inj (a := ty) (b := 1) (by omega) (by omega)).mp h89
      refine Go.aload_n dX5_advance_100 rfl ?_
      refine Go.aload_n dX5_advance_101 rfl ?_
      refine Go.getI dX5_advance_102 flX5_25 (shp hG rfl) rfl ?_
      refine Go.eqI (y := nI i) (h4) ?_
      refine Go.callVI [] dX5_advance_105 lkX5_150 imX5_typeAt seX5_typeAt cbX5_typeAt (s_typeAt hG hN (i := i) (by omega)) (shp hG rfl) rfl rfl rfl (Nat.le_of_ble_eq_true rfl) (fun r1 M2 hr1 => ?_)
      obtain ⟨er1, emr1⟩ := hr1
      rw [emr1]
      clear emr1 M2
      subst er1
      refine Go.aload_n dX5_advance_108 rfl ?_
      refine Go.getI dX5_advance_109 flX5_19 (shp hG rfl) rfl ?_
      refine Go.eqI (y := nI ty) (h2) ?_
      refine Go.icmp_ne 128 dX5_advance_112 rfl (fun h112 => ?_) (fun h112 => ?_)
      · have n112 : ¬ (typ L b i) = ty := fun q => h112 ((nI_inj (a := (typ L b i)) (b := ty) (by omega) (by omega)).mpr q)
        exact hout N hN hSm (by rw [h4, hk, runT, if_neg n112]) h2 h3
      · have n112 : (typ L b i) = ty := (nI_inj (a := (typ L b i)) (b := ty) (by omega) (by omega)).mp h112
        refine Go.aload_n dX5_advance_115 rfl ?_
        refine Go.dup dX5_advance_116 rfl ?_
        refine Go.getI dX5_advance_117 flX5_25 (shp hG rfl) rfl ?_
        refine Go.eqI (y := nI i) (h4) ?_
        refine Go.iconst (v := 1) dX5_advance_120 (by decide) ?_
        refine Go.iadd dX5_advance_121 ?_
        refine Go.eqI (y := nI (i + 1)) (nI_add _ _) ?_
        refine Go.putI dX5_advance_122 fpX5_25 (shp hG rfl) rfl rfl rfl ?_
        refine Go.nmM (fun N3 eN3 => ?_)
        refine Go.goto 73 dX5_advance_125 rfl ?_
        exact ih (i + 1) N3 (by omega) (by rw [eN3]; exact hN.up (by decide)) (hSm.trans (by rw [eN3]; exact Same.upi _ 37 _ _ (by decide))) (by rw [eN3, rd_eq]; simp [upd]) (by rw [eN3, rd_eq]; simp [upd]; exact h2) (by rw [eN3, rd_eq]; simp [upd]; exact h3) (by rw [hk, runT, if_pos n112])
    · have n89 : ¬ ty = 1 := fun q => h89 ((nI_inj (a := ty) (b := 1) (by omega) (by omega)).mpr q)
      refine Go.aload_n dX5_advance_92 rfl ?_
      refine Go.getI dX5_advance_93 flX5_19 (shp hG rfl) rfl ?_
      refine Go.eqI (y := nI ty) (h2) ?_
      refine Go.iconst (v := 2) dX5_advance_96 (by decide) ?_
      refine Go.icmp_ne 128 dX5_advance_97 rfl (fun h97 => absurd (by rw [show ty = 2 by omega]; rfl) h97) (fun _ => ?_)
      refine Go.aload_n dX5_advance_100 rfl ?_
      refine Go.aload_n dX5_advance_101 rfl ?_
      refine Go.getI dX5_advance_102 flX5_25 (shp hG rfl) rfl ?_
      refine Go.eqI (y := nI i) (h4) ?_
      refine Go.callVI [] dX5_advance_105 lkX5_150 imX5_typeAt seX5_typeAt cbX5_typeAt (s_typeAt hG hN (i := i) (by omega)) (shp hG rfl) rfl rfl rfl (Nat.le_of_ble_eq_true rfl) (fun r4 M5 hr4 => ?_)
      obtain ⟨er4, emr4⟩ := hr4
      rw [emr4]
      clear emr4 M5
      subst er4
      refine Go.aload_n dX5_advance_108 rfl ?_
      refine Go.getI dX5_advance_109 flX5_19 (shp hG rfl) rfl ?_
      refine Go.eqI (y := nI ty) (h2) ?_
      refine Go.icmp_ne 128 dX5_advance_112 rfl (fun h112 => ?_) (fun h112 => ?_)
      · have n112 : ¬ (typ L b i) = ty := fun q => h112 ((nI_inj (a := (typ L b i)) (b := ty) (by omega) (by omega)).mpr q)
        exact hout N hN hSm (by rw [h4, hk, runT, if_neg n112]) h2 h3
      · have n112 : (typ L b i) = ty := (nI_inj (a := (typ L b i)) (b := ty) (by omega) (by omega)).mp h112
        refine Go.aload_n dX5_advance_115 rfl ?_
        refine Go.dup dX5_advance_116 rfl ?_
        refine Go.getI dX5_advance_117 flX5_25 (shp hG rfl) rfl ?_
        refine Go.eqI (y := nI i) (h4) ?_
        refine Go.iconst (v := 1) dX5_advance_120 (by decide) ?_
        refine Go.iadd dX5_advance_121 ?_
        refine Go.eqI (y := nI (i + 1)) (nI_add _ _) ?_
        refine Go.putI dX5_advance_122 fpX5_25 (shp hG rfl) rfl rfl rfl ?_
        refine Go.nmM (fun N6 eN6 => ?_)
        refine Go.goto 73 dX5_advance_125 rfl ?_
        exact ih (i + 1) N6 (by omega) (by rw [eN6]; exact hN.up (by decide)) (hSm.trans (by rw [eN6]; exact Same.upi _ 37 _ _ (by decide))) (by rw [eN6, rd_eq]; simp [upd]) (by rw [eN6, rd_eq]; simp [upd]; exact h2) (by rw [eN6, rd_eq]; simp [upd]; exact h3) (by rw [hk, runT, if_pos n112])
set_option maxRecDepth 20000 in
theorem j_adv3 {G : Gt} {d : Nat} {M N : Mm} (hG : gS G = SHAPE) {L : Nat} {b : Nat → Int32} {e : Nat} (heL : e ≤ L) (hN : TpC N L b) (hSm : Same [37] M N) (h2 : N.1 37 2 = nI (tT L b e)) (h3 : N.1 37 3 = nI (tS L b e)) (h4 : N.1 37 4 = nI (tE L b e)) : Go G (d + 1) mX5_advance 128 [some (.ref 37)] [] N (fun v M' => v = none ∧ TpC M' L b ∧ CTok M' L b e ∧ Same [37] M M')   := by
  have hL := hN.2.1
  have hs1 := tS_spec (b := b) heL
  have he1 := tE_spec (b := b) heL
  have ht5 : tT L b e ≤ 5 := typ_le L b (tS L b e)
  refine Go.aload_n dX5_advance_128 rfl ?_
  refine Go.aload_n dX5_advance_129 rfl ?_
  refine Go.getI dX5_advance_130 flX5_19 (shp hG rfl) rfl ?_
  refine Go.eqI (y := nI (tT L b e)) (h2) ?_
  refine Go.iconst (v := 2) dX5_advance_133 (by decide) ?_
  refine Go.icmp_ne 144 dX5_advance_134 rfl (fun h134 => ?_) (fun h134 => ?_)
  · have n134 : ¬ (tT L b e) = 2 := fun q => h134 ((nI_inj (a := (tT L b e)) (b := 2) (by omega) (by omega)).mpr q)
    refine Go.iconst (v := 0) dX5_advance_144 (by decide) ?_
    refine Go.putI dX5_advance_145 fpX5_28 (shp hG rfl) rfl rfl rfl ?_
    refine Go.nmM (fun N1 eN1 => ?_)
    refine Go.vret dX5_advance_148 rfl ?_
    refine ⟨rfl, by rw [eN1]; exact hN.up (by decide), ⟨by rw [eN1, rd_eq]; simp [upd]; exact h2, by rw [eN1, rd_eq]; simp [upd]; exact h3, by rw [eN1, rd_eq]; simp [upd]; exact h4, ?_⟩, hSm.trans (by rw [eN1]; exact Same.upi _ 37 _ _ (by decide))⟩
    rw [eN1, rd_eq]
    simp only [upd, if_true, n134, if_false]
    try rfl
  · have n134 : (tT L b e) = 2 := (nI_inj (a := (tT L b e)) (b := 2) (by omega) (by omega)).mp h134
    refine Go.aload_n dX5_advance_137 rfl ?_
    refine Go.callVI [.ref 37] dX5_advance_138 lkX5_158 imX5_valueOfDigits seX5_valueOfDigits cbX5_valueOfDigits (s_digits hG hN (s0 := tS L b e) (k := tE L b e - tS L b e) (by omega) (fun i h1 h2 => by rw [he1.2.2.2 (Or.inr n134) i h1 (by omega)]; exact n134) h3 (by rw [h4, show tS L b e + (tE L b e - tS L b e) = tE L b e by omega])) (shp hG rfl) rfl rfl rfl (Nat.le_of_ble_eq_true rfl) (fun r2 M3 hr2 => ?_)
    obtain ⟨er2, emr2⟩ := hr2
    rw [emr2]
    clear emr2 M3
    subst er2
    refine Go.goto 145 dX5_advance_141 rfl ?_
    refine Go.putI dX5_advance_145 fpX5_28 (shp hG rfl) rfl rfl rfl ?_
    refine Go.nmM (fun N4 eN4 => ?_)
    refine Go.vret dX5_advance_148 rfl ?_
    refine ⟨rfl, by rw [eN4]; exact hN.up (by decide), ⟨by rw [eN4, rd_eq]; simp [upd]; exact h2, by rw [eN4, rd_eq]; simp [upd]; exact h3, by rw [eN4, rd_eq]; simp [upd]; exact h4, ?_⟩, hSm.trans (by rw [eN4]; exact Same.upi _ 37 _ _ (by decide))⟩
    rw [eN4, rd_eq]
    simp only [upd, if_true, n134, if_false]
    try rfl
set_option maxRecDepth 20000 in
theorem s_adv {G : Gt} {d : Nat} {M : Mm} (hG : gS G = SHAPE) {L : Nat} {b : Nat → Int32} (hT : TpC M L b) {e : Nat} (heL : e ≤ L) (he : M.1 37 4 = nI e) : ExV G (d + 1) mX5_advance [.ref 37] M (fun M' => TpC M' L b ∧ CTok M' L b e ∧ Same [37] M M') := by
  refine Ex.of (by decide) (Nat.le_of_ble_eq_true rfl) ?_
  show Go G (d + 1) mX5_advance 0 [some (.ref 37)] [] M _
  have hL := hT.2.1
  have hs1 := tS_spec (b := b) heL
  have he1 := tE_spec (b := b) heL
  have ht5 : tT L b e ≤ 5 := typ_le L b (tS L b e)
  refine Go.aload_n dX5_advance_0 rfl ?_
  refine Go.aload_n dX5_advance_1 rfl ?_
  refine Go.getI dX5_advance_2 flX5_25 (shp hG rfl) rfl ?_
  refine Go.putI dX5_advance_5 fpX5_22 (shp hG rfl) rfl rfl rfl ?_
  refine Go.nmM (fun N1 eN1 => ?_)
  refine l_adv1 (M := M) hG (L := L) (b := b) (e := e) (fun N hN hSmN h3N => ?_) (L - e) e N1 (by omega) (by rw [eN1]; exact hT.up (by decide)) (by rw [eN1]; exact Same.upi _ 37 _ _ (by decide)) (by rw [eN1, rd_eq]; simp [upd]; exact he) rfl
  refine Go.aload_n dX5_advance_44 rfl ?_
  refine Go.aload_n dX5_advance_45 rfl ?_
  refine Go.aload_n dX5_advance_46 rfl ?_
  refine Go.getI dX5_advance_47 flX5_22 (shp hG rfl) rfl ?_
  refine Go.eqI (y := nI (tS L b e)) (h3N) ?_
  refine Go.callVI [.ref 37] dX5_advance_50 lkX5_150 imX5_typeAt seX5_typeAt cbX5_typeAt (s_typeAt hG hN (i := tS L b e) (by omega)) (shp hG rfl) rfl rfl rfl (Nat.le_of_ble_eq_true rfl) (fun r1 M2 hr1 => ?_)
  obtain ⟨er1, emr1⟩ := hr1
  rw [emr1]
  clear emr1 M2
  subst er1
  refine Go.putI dX5_advance_53 fpX5_19 (shp hG rfl) rfl rfl rfl ?_
  refine Go.nmM (fun N3 eN3 => ?_)
  refine Go.aload_n dX5_advance_56 rfl ?_
  refine Go.aload_n dX5_advance_57 rfl ?_
  refine Go.getI dX5_advance_58 flX5_9 (shp hG rfl) rfl ?_
  refine Go.eqI (y := nI L) (by rw [eN3, rd_eq]; simp [upd]; exact hN.1) ?_
  refine Go.aload_n dX5_advance_61 rfl ?_
  refine Go.getI dX5_advance_62 flX5_22 (shp hG rfl) rfl ?_
  refine Go.eqI (y := nI (tS L b e)) (by rw [eN3, rd_eq]; simp [upd]; exact h3N) ?_
  refine Go.iconst (v := 1) dX5_advance_65 (by decide) ?_
  refine Go.iadd dX5_advance_66 ?_
  refine Go.eqI (y := nI (tS L b e + 1)) (nI_add _ _) ?_
  refine Go.mmin dX5_advance_67 rfl (Nat.le_of_ble_eq_true rfl) ?_
  refine Go.eqI (y := nI (min L (tS L b e + 1))) (min_nI (by omega) (by omega)) ?_
  refine Go.putI dX5_advance_70 fpX5_25 (shp hG rfl) rfl rfl rfl ?_
  refine Go.nmM (fun N71 eN71 => ?_)
  have h2 : N71.1 37 2 = nI (tT L b e) := by rw [eN71, rd_eq]; simp [upd]; rw [eN3, rd_eq]; simp [upd]; rfl
  have h3 : N71.1 37 3 = nI (tS L b e) := by rw [eN71, rd_eq]; simp [upd]; rw [eN3, rd_eq]; simp [upd]; exact h3N
  have h4 : N71.1 37 4 = nI (min L (tS L b e + 1)) := by rw [eN71, rd_eq]; simp [upd]
  have hN2 : TpC N71 L b := by rw [eN71, eN3]; exact (hN.up (by decide)).up (by decide)
  have hSm2 : Same [37] M N71 := hSmN.trans (by rw [eN71, eN3]; exact (Same.upi N 37 _ _ (by decide)).trans (Same.upi _ 37 _ _ (by decide)))
  by_cases hty : tT L b e = 1 ∨ tT L b e = 2
  · have hlt : tS L b e + 1 ≤ L := (he1.2.2.1 (by omega)).2
    rw [show min L (tS L b e + 1) = tS L b e + 1 by omega] at h4
    refine l_adv2 (M := M) hG (L := L) (b := b) (s0 := tS L b e) (t0 := tE L b e) hty (fun N9 a1 a2 a3 a4 a5 => j_adv3 hG heL a1 a2 a4 a5 a3) (L - (tS L b e + 1)) (tS L b e + 1) N71 (by omega) hN2 hSm2 h4 h2 h3 ?_
    show tE L b e = _
    unfold tE
    rw [if_pos hty]
  · have h4' : N71.1 37 4 = nI (tE L b e) := by
      rw [h4]
      unfold tE
      rw [if_neg hty]
    refine Go.aload_n dX5_advance_73 rfl ?_
    refine Go.getI dX5_advance_74 flX5_25 (shp hG rfl) rfl ?_
    refine Go.eqI (y := nI (min L (tS L b e + 1))) (h4) ?_
    refine Go.aload_n dX5_advance_77 rfl ?_
    refine Go.getI dX5_advance_78 flX5_9 (shp hG rfl) rfl ?_
    refine Go.eqI (y := nI L) (hN2.1) ?_
    refine Go.icmp_ge 128 dX5_advance_81 rfl (fun h81 => ?_) (fun h81 => ?_)
    · exact j_adv3 hG heL hN2 hSm2 h2 h3 h4'
    · refine Go.aload_n dX5_advance_84 rfl ?_
      refine Go.getI dX5_advance_85 flX5_19 (shp hG rfl) rfl ?_
      refine Go.eqI (y := nI (tT L b e)) (h2) ?_
      refine Go.iconst (v := 1) dX5_advance_88 (by decide) ?_
      refine Go.icmp_eq 100 dX5_advance_89 rfl (fun h89 => absurd h89 (fun q => hty (Or.inl ((nI_inj (a := tT L b e) (b := 1) (by omega) (by decide)).mp q)))) (fun _ => ?_)
      refine Go.aload_n dX5_advance_92 rfl ?_
      refine Go.getI dX5_advance_93 flX5_19 (shp hG rfl) rfl ?_
      refine Go.eqI (y := nI (tT L b e)) (h2) ?_
      refine Go.iconst (v := 2) dX5_advance_96 (by decide) ?_
      refine Go.icmp_ne 128 dX5_advance_97 rfl (fun _ => ?_) (fun h97 => absurd h97 (fun q => hty (Or.inr ((nI_inj (a := tT L b e) (b := 2) (by omega) (by decide)).mp q))))
      exact j_adv3 hG heL hN2 hSm2 h2 h3 h4'
