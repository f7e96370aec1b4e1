def Rs (M : Mm) (L : Nat) (b : Nat → Int32) (g : Bool) (p : Nat) : Prop := TpM M L b ∧ MTok M L b p ∧ p ≤ L ∧ M.1 49 26 = bi g
def Fm (M M' : Mm) : Prop := (∀ a, a ≠ 49 → M'.1 a = M.1 a ∧ M'.2 a = M.2 a) ∧ ∀ j, j ≠ 21 → j ≠ 22 → j ≠ 23 → j ≠ 25 → j ≠ 26 → M'.1 49 j = M.1 49 j
theorem Fm.refl (M : Mm) : Fm M M := ⟨fun _ _ => ⟨rfl, rfl⟩, fun _ _ _ _ _ _ => rfl⟩
theorem Fm.trans {M N K : Mm} (h1 : Fm M N) (h2 : Fm N K) : Fm M K := ⟨fun a ha => ⟨(h2.1 a ha).1.trans (h1.1 a ha).1, (h2.1 a ha).2.trans (h1.1 a ha).2⟩, fun j a b c d e => (h2.2 j a b c d e).trans (h1.2 j a b c d e)⟩
theorem FmA.fm {M N : Mm} (h : FmA M N) : Fm M N := ⟨h.1, fun j a b c d _ => h.2 j a b c d⟩
theorem Fm.good (M : Mm) (x : Int32) : Fm M (upi M 49 26 x) := ⟨fun a ha => ⟨rd_ne ha, rfl⟩, fun j _ _ _ _ e => by rw [rd_eq]; unfold upd; rw [if_neg e]⟩
theorem Rs.put {M : Mm} {L : Nat} {b : Nat → Int32} {g : Bool} {p : Nat} (h : Rs M L b g p) (g' : Bool) : Rs (upi M 49 26 (bi g')) L b g' p := by
  obtain ⟨⟨a1, a2, a3, a4⟩, ⟨b1, b2, b3, b4, b5, b6⟩, c, d⟩ := h
  have r : ∀ j, j ≠ 26 → (upi M 49 26 (bi g')).1 49 j = M.1 49 j := fun j hj => by rw [rd_eq]; unfold upd; rw [if_neg hj]
  exact ⟨⟨by rw [r 20 (by decide)]; exact a1, a2, fun i hi => by rw [rd_ne (by decide)]; exact a3 i hi, a4⟩, ⟨by rw [r 21 (by decide)]; exact b1, by rw [r 22 (by decide)]; exact b2, by rw [r 23 (by decide)]; exact b3, fun z => by rw [r 25 (by decide)]; exact b4 z, fun z => by rw [r 25 (by decide)]; exact b5 z, fun z => by rw [rd_l]; exact b6 z⟩, c, by rw [rd_eq]; simp [upd]⟩
theorem Rs.le {M : Mm} {L : Nat} {b : Nat → Int32} {g : Bool} {p : Nat} (h : Rs M L b g p) : tE L b p ≤ L := (tE_spec h.2.2.1).2.1
theorem r_adv {G : Gt} {d : Nat} {M : Mm} (hG : gS G = SHAPE) {L : Nat} {b : Nat → Int32} {g : Bool} {p : Nat} (hR : Rs M L b g p) : ExV G (d + 2) mX7_advance [.ref 49] M (fun M' => Rs M' L b g (tE L b p) ∧ Fm M M') := (m_adv hG hR.1 hR.le hR.2.1.2.2.1).mono (fun M' ⟨a, b, c⟩ => ⟨⟨a, b, hR.le, by rw [c.2 26 (by decide) (by decide) (by decide) (by decide)]; exact hR.2.2.2⟩, c.fm⟩)
theorem lg_eq {x y : Int64} : lg_cmp x y = 0 ↔ x = y := by
  unfold lg_cmp
  by_cases h : x > y
  · rw [if_pos h]
    exact ⟨fun q => absurd q (by decide), fun q => absurd (q ▸ h) Int64.lt_irrefl⟩
  · rw [if_neg h]
    by_cases e : x = y
    · rw [if_pos e]
      exact ⟨fun _ => e, fun _ => rfl⟩
    · rw [if_neg e]
      exact ⟨fun q => absurd q (by decide), fun q => absurd q e⟩
theorem BuM.fm {M M' : Mm} {u : Bu} (h : BuM M u) (hf : Fm M M') : BuM M' u := by
  unfold BuM at h ⊢
  rw [hf.2 4 (by decide) (by decide) (by decide) (by decide) (by decide), hf.2 3 (by decide) (by decide) (by decide) (by decide) (by decide), (hf.1 50 (by decide)).1, (hf.1 51 (by decide)).1, (hf.1 52 (by decide)).1, (hf.1 53 (by decide)).1, (hf.1 54 (by decide)).1, (hf.1 55 (by decide)).1]
  exact h
/-- what an item may change -/
def Fi (M M' : Mm) : Prop := (∀ a, a < 49 ∨ 55 < a → M'.1 a = M.1 a) ∧ (∀ a, a ≠ 49 → M'.2 a = M.2 a) ∧ ∀ j, j ≠ 3 → j ≠ 4 → j ≠ 21 → j ≠ 22 → j ≠ 23 → j ≠ 25 → j ≠ 26 → M'.1 49 j = M.1 49 j
theorem Fm.fi {M M' : Mm} (h : Fm M M') : Fi M M' := ⟨fun a ha => (h.1 a (by omega)).1, fun a ha => (h.1 a ha).2, fun j _ _ c d e f g => h.2 j c d e f g⟩
theorem Fi.refl (M : Mm) : Fi M M := (Fm.refl M).fi
theorem Fi.trans {M N K : Mm} (h1 : Fi M N) (h2 : Fi N K) : Fi M K := ⟨fun a ha => (h2.1 a ha).trans (h1.1 a ha), fun a ha => (h2.2.1 a ha).trans (h1.2.1 a ha), fun j a b c d e f g => (h2.2.2 j a b c d e f g).trans (h1.2.2 j a b c d e f g)⟩
/-- writes of a bureau's cells leave the token -/
theorem Rs.keep {M M' : Mm} {L : Nat} {b : Nat → Int32} {g : Bool} {p : Nat} (h : Rs M L b g p) (h1 : ∀ j, j ≠ 3 → j ≠ 4 → M'.1 49 j = M.1 49 j) (h2 : M'.1 65 = M.1 65) (h3 : M'.2 49 = M.2 49) : Rs M' L b g p := by
  obtain ⟨⟨a1, a2, a3, a4⟩, ⟨b1, b2, b3, b4, b5, b6⟩, c, d⟩ := h
  exact ⟨⟨by rw [h1 20 (by decide) (by decide)]; exact a1, a2, fun i hi => by rw [h2]; exact a3 i hi, a4⟩, ⟨by rw [h1 21 (by decide) (by decide)]; exact b1, by rw [h1 22 (by decide) (by decide)]; exact b2, by rw [h1 23 (by decide) (by decide)]; exact b3, fun z => by rw [h1 25 (by decide) (by decide)]; exact b4 z, fun z => by rw [h1 25 (by decide) (by decide)]; exact b5 z, fun z => by rw [h3]; exact b6 z⟩, c, by rw [h1 26 (by decide) (by decide)]; exact d⟩
def Im (M M' : Mm) (L : Nat) (b : Nat → Int32) (a : Bool × Nat × Bu) : Prop := Rs M' L b a.1 a.2.1 ∧ (a.1 = true → BuM M' a.2.2) ∧ Fi M M'
theorem fi_up (M : Mm) {k j : Nat} (x : Int32) (h : 50 ≤ k ∧ k ≤ 55) : Fi M (upi M k j x) := ⟨fun a ha => rd_ne (by omega), fun a ha => rfl, fun i _ _ _ _ _ _ _ => by rw [rd_ne (by omega)]⟩
set_option maxRecDepth 20000 in
theorem r_isWord {G : Gt} {d : Nat} {M : Mm} (hG : gS G = SHAPE) {L : Nat} {b : Nat → Int32} {p : Nat} {g : Bool} (hR : Rs M L b g p) {k : Nat} (hk18 : k < 18) {w : Int64} (hw : w = wdL.getD k 0) : ExI G (d) mX7_isWord [.ref 49, .long w] M (fun r M' => r = bi (isWP L b p k) ∧ M' = M) := by
  refine Ex.of (by decide) (Nat.le_of_ble_eq_true rfl) ?_
  show Go G (d) mX7_isWord 0 [some (.ref 49), some (.long w), none] [] M _
  have hs3 := srt_le (tT L b p)
  refine Go.aload_n dX7_isWord_0 rfl ?_
  refine Go.getI dX7_isWord_1 flX7_240 (shp hG rfl) rfl ?_
  refine Go.eqI (y := nI (srt (tT L b p))) (hR.2.1.1) ?_
  refine Go.iconst (v := 1) dX7_isWord_4 (by decide) ?_
  refine Go.icmp_ne 21 dX7_isWord_5 rfl (fun h5 => ?_) (fun h5 => ?_)
  · have n5 : ¬ (srt (tT L b p)) = 1 := fun q => h5 ((nI_inj (a := (srt (tT L b p))) (b := 1) (by omega) (by omega)).mpr q)
    refine Go.iconst (v := 0) dX7_isWord_21 (by decide) ?_
    refine Go.iret dX7_isWord_22 rfl (by decide) ?_
    refine ⟨_, rfl, ?_, rfl⟩
    rw [show isWP L b p k = false from ?_]
    · rfl
    cases hz : isWP L b p k with
    | false => rfl
    | true => exact absurd (srt_1.mpr (isWP_t hz)) n5
  · have n5 : (srt (tT L b p)) = 1 := (nI_inj (a := (srt (tT L b p))) (b := 1) (by omega) (by omega)).mp h5
    refine Go.aload_n dX7_isWord_8 rfl ?_
    refine Go.getL dX7_isWord_9 flX7_243 (shp hG rfl) rfl ?_
    refine Go.lload_n dX7_isWord_12 rfl ?_
    refine Go.lcmp dX7_isWord_13 ?_
    refine Go.if_ne 21 dX7_isWord_14 rfl (fun h14 => ?_) (fun h14 => ?_)
    · refine Go.iconst (v := 0) dX7_isWord_21 (by decide) ?_
      refine Go.iret dX7_isWord_22 rfl (by decide) ?_
      refine ⟨_, rfl, ?_, rfl⟩
      rw [show isWP L b p k = false from ?_]
      · rfl
      cases hz : isWP L b p k with
      | false => rfl
      | true => exact absurd (lg_eq.mpr (by rw [hR.2.1.2.2.2.2.2 (srt_1.mp n5), hw]; exact (code_iff hR.2.2.1 hk18 (srt_1.mp n5)).mpr hz)) h14
    · refine Go.iconst (v := 1) dX7_isWord_17 (by decide) ?_
      refine Go.goto 22 dX7_isWord_18 rfl ?_
      refine Go.iret dX7_isWord_22 rfl (by decide) ?_
      refine ⟨_, rfl, ?_, rfl⟩
      rw [(code_iff hR.2.2.1 hk18 (srt_1.mp n5)).mp (by rw [← hR.2.1.2.2.2.2.2 (srt_1.mp n5), ← hw]; exact lg_eq.mp h14)]
      rfl
set_option maxRecDepth 20000 in
theorem r_word1 {G : Gt} {d : Nat} {M : Mm} (hG : gS G = SHAPE) {L : Nat} {b : Nat → Int32} {p : Nat} (hR : Rs M L b true p) {k : Nat} (hk18 : k < 18) {w : Int64} (hw : w = wdL.getD k 0) : ExV G (d + 3) mX7_wantWord [.ref 49, .long w] M (fun M' => (isWP L b p k = true ∧ Rs M' L b true (tE L b p) ∧ Fm M M') ∨ (isWP L b p k = false ∧ Rs M' L b false p ∧ Fm M M')) := by
  refine Ex.of (by decide) (Nat.le_of_ble_eq_true rfl) ?_
  show Go G (d + 3) mX7_wantWord 0 [some (.ref 49), some (.long w), none] [] M _
  refine Go.aload_n dX7_wantWord_0 rfl ?_
  refine Go.aload_n dX7_wantWord_1 rfl ?_
  refine Go.getI dX7_wantWord_2 flX7_272 (shp hG rfl) rfl ?_
  refine Go.eqI (y := 1) (hR.2.2.2) ?_
  refine Go.if_eq 20 dX7_wantWord_5 rfl (fun h5 => absurd h5 (by decide)) (fun _ => ?_)
  refine Go.aload_n dX7_wantWord_8 rfl ?_
  refine Go.lload_n dX7_wantWord_9 rfl ?_
  refine Go.callVI [.ref 49] dX7_wantWord_10 lkX7_258 imX7_isWord seX7_isWord cbX7_isWord (r_isWord hG hR hk18 (w := w) hw) (shp hG rfl) rfl rfl rfl (Nat.le_of_ble_eq_true rfl) (fun r1 M2 hr1 => ?_)
  obtain ⟨er1, emr1⟩ := hr1
  rw [emr1]
  clear emr1 M2
  subst er1
  refine Go.if_eq 20 dX7_wantWord_13 rfl (fun h13 => ?_) (fun h13 => ?_)
  · refine Go.iconst (v := 0) dX7_wantWord_20 (by decide) ?_
    refine Go.putI dX7_wantWord_21 fpX7_272 (shp hG rfl) rfl (by decide) (by decide) ?_
    refine Go.nmM (fun N3 eN3 => ?_)
    have hR1 : Rs N3 L b false p := by rw [eN3]; exact hR.put false
    have hf1 : Fm M N3 := by rw [eN3]; exact Fm.good M _
    refine Go.aload_n dX7_wantWord_24 rfl ?_
    refine Go.getI dX7_wantWord_25 flX7_272 (shp hG rfl) rfl ?_
    refine Go.eqI (y := 0) (hR1.2.2.2) ?_
    refine Go.if_eq 35 dX7_wantWord_28 rfl (fun _ => ?_) (fun h28 => absurd (by decide) h28)
    refine Go.vret dX7_wantWord_35 rfl ?_
    exact ⟨rfl, Or.inr ⟨bi_0.mp h13, hR1, hf1⟩⟩
  · refine Go.iconst (v := 1) dX7_wantWord_16 (by decide) ?_
    refine Go.goto 21 dX7_wantWord_17 rfl ?_
    refine Go.putI dX7_wantWord_21 fpX7_272 (shp hG rfl) rfl (by decide) (by decide) ?_
    refine Go.nmM (fun N4 eN4 => ?_)
    have hR1 : Rs N4 L b true p := by rw [eN4]; exact hR.put true
    have hf1 : Fm M N4 := by rw [eN4]; exact Fm.good M _
    refine Go.aload_n dX7_wantWord_24 rfl ?_
    refine Go.getI dX7_wantWord_25 flX7_272 (shp hG rfl) rfl ?_
    refine Go.eqI (y := 1) (hR1.2.2.2) ?_
    refine Go.if_eq 35 dX7_wantWord_28 rfl (fun h28 => absurd h28 (by decide)) (fun _ => ?_)
    refine Go.aload_n dX7_wantWord_31 rfl ?_
    refine Go.callVV [] dX7_wantWord_32 lkX7_276 imX7_advance seX7_advance cbX7_advance (r_adv hG hR1) (shp hG rfl) rfl rfl rfl (Nat.le_of_ble_eq_true rfl) (fun M6 hr5 => ?_)
    obtain ⟨hR2, hf2⟩ := hr5
    refine Go.vret dX7_wantWord_35 rfl ?_
    exact ⟨rfl, Or.inl ⟨bi_n0.mp h13, hR2, hf1.trans hf2⟩⟩
set_option maxRecDepth 20000 in
theorem r_word0 {G : Gt} {d : Nat} {M : Mm} (hG : gS G = SHAPE) {L : Nat} {b : Nat → Int32} {p : Nat} (hR : Rs M L b false p) (w : Int64) : ExV G (d + 3) mX7_wantWord [.ref 49, .long w] M (fun M' => Rs M' L b false p ∧ Fm M M') := by
  refine Ex.of (by decide) (Nat.le_of_ble_eq_true rfl) ?_
  show Go G (d + 3) mX7_wantWord 0 [some (.ref 49), some (.long w), none] [] M _
  refine Go.aload_n dX7_wantWord_0 rfl ?_
  refine Go.aload_n dX7_wantWord_1 rfl ?_
  refine Go.getI dX7_wantWord_2 flX7_272 (shp hG rfl) rfl ?_
  refine Go.eqI (y := 0) (hR.2.2.2) ?_
  refine Go.if_eq 20 dX7_wantWord_5 rfl (fun _ => ?_) (fun h5 => absurd (by decide) h5)
  refine Go.iconst (v := 0) dX7_wantWord_20 (by decide) ?_
  refine Go.putI dX7_wantWord_21 fpX7_272 (shp hG rfl) rfl (by decide) (by decide) ?_
  refine Go.nmM (fun N1 eN1 => ?_)
  have hR1 : Rs N1 L b false p := by rw [eN1]; exact hR.put false
  have hf1 : Fm M N1 := by rw [eN1]; exact Fm.good M _
  refine Go.aload_n dX7_wantWord_24 rfl ?_
  refine Go.getI dX7_wantWord_25 flX7_272 (shp hG rfl) rfl ?_
  refine Go.eqI (y := 0) (hR1.2.2.2) ?_
  refine Go.if_eq 35 dX7_wantWord_28 rfl (fun _ => ?_) (fun h28 => absurd (by decide) h28)
  refine Go.vret dX7_wantWord_35 rfl ?_
  exact ⟨rfl, hR1, hf1⟩
theorem inI_dec {a m : Nat} (ha : a < 2 ^ 31) (hm : m < 2 ^ 31) : inI (nI a) 0 (nI m) = decide (a ≤ m) := by
  unfold inI
  rw [decide_eq_true (nI_pos' ha), Bool.true_and]
  simp only [nI_leI ha hm]
set_option maxRecDepth 20000 in
theorem r_num1 {G : Gt} {d : Nat} {M : Mm} (hG : gS G = SHAPE) {L : Nat} {b : Nat → Int32} {p : Nat} (hR : Rs M L b true p) {m : Nat} (hm : m ≤ 10000) : ExI G (d + 3) mX7_wantNumber [.ref 49, .int 0, .int (nI m)] M (fun r M' => (nOk L b p m = true ∧ r = nI (tV L b p) ∧ Rs M' L b true (tE L b p) ∧ Fm M M') ∨ (nOk L b p m = false ∧ Rs M' L b false p ∧ Fm M M')) := by
  refine Ex.of (by decide) (Nat.le_of_ble_eq_true rfl) ?_
  show Go G (d + 3) mX7_wantNumber 0 [some (.ref 49), some (.int 0), some (.int (nI m)), none] [] M _
  have hs3 := srt_le (tT L b p)
  refine Go.aload_n dX7_wantNumber_0 rfl ?_
  refine Go.getI dX7_wantNumber_1 flX7_247 (shp hG rfl) rfl ?_
  refine Go.nmI (fun x1 ex1 => ?_)
  refine Go.istore_n (ls' := [some (.ref 49), some (.int 0), some (.int (nI m)), some (.int x1)]) dX7_wantNumber_4 (Nat.le_of_ble_eq_true rfl) rfl rfl ?_
  refine Go.aload_n dX7_wantNumber_5 rfl ?_
  refine Go.aload_n dX7_wantNumber_6 rfl ?_
  refine Go.getI dX7_wantNumber_7 flX7_272 (shp hG rfl) rfl ?_
  refine Go.eqI (y := 1) (hR.2.2.2) ?_
  refine Go.if_eq 34 dX7_wantNumber_10 rfl (fun h10 => absurd h10 (by decide)) (fun _ => ?_)
  refine Go.aload_n dX7_wantNumber_13 rfl ?_
  refine Go.getI dX7_wantNumber_14 flX7_240 (shp hG rfl) rfl ?_
  refine Go.eqI (y := nI (srt (tT L b p))) (hR.2.1.1) ?_
  refine Go.iconst (v := 2) dX7_wantNumber_17 (by decide) ?_
  refine Go.icmp_ne 34 dX7_wantNumber_18 rfl (fun h18 => ?_) (fun h18 => ?_)
  · have n18 : ¬ (srt (tT L b p)) = 2 := fun q => h18 ((nI_inj (a := (srt (tT L b p))) (b := 2) (by omega) (by omega)).mpr q)
    refine Go.iconst (v := 0) dX7_wantNumber_34 (by decide) ?_
    refine Go.putI dX7_wantNumber_35 fpX7_272 (shp hG rfl) rfl (by decide) (by decide) ?_
    refine Go.nmM (fun N2 eN2 => ?_)
    have hR1 : Rs N2 L b false p := by rw [eN2]; exact hR.put false
    have hf1 : Fm M N2 := by rw [eN2]; exact Fm.good M _
    refine Go.aload_n dX7_wantNumber_38 rfl ?_
    refine Go.getI dX7_wantNumber_39 flX7_272 (shp hG rfl) rfl ?_
    refine Go.eqI (y := 0) (hR1.2.2.2) ?_
    refine Go.if_eq 49 dX7_wantNumber_42 rfl (fun _ => ?_) (fun h42 => absurd (by decide) h42)
    refine Go.iload_n dX7_wantNumber_49 rfl ?_
    refine Go.iret dX7_wantNumber_50 rfl rfl ?_
    exact ⟨_, rfl, Or.inr ⟨nOk_f (fun z => n18 (srt_2.mpr z.1)), hR1, hf1⟩⟩
  · have n18 : (srt (tT L b p)) = 2 := (nI_inj (a := (srt (tT L b p))) (b := 2) (by omega) (by omega)).mp h18
    have ht2 := srt_2.mp n18
    have hv := hR.2.1.2.2.2.1 ht2
    have hv4 := tV_le (b := b) hR.2.2.1 ht2
    rw [← ex1] at hv
    clear ex1
    subst hv
    refine Go.iload_n dX7_wantNumber_21 rfl ?_
    refine Go.iload_n dX7_wantNumber_22 rfl ?_
    refine Go.iload_n dX7_wantNumber_23 rfl ?_
    refine Go.callSI [.ref 49] dX7_wantNumber_24 lkX7_86 stX7_in cbX7_in (m_in (nI (tV L b p)) 0 (nI m)) rfl rfl (Nat.le_of_ble_eq_true rfl) (fun r3 M4 hr3 => ?_)
    obtain ⟨er3, emr3⟩ := hr3
    rw [emr3]
    clear emr3 M4
    subst er3
    refine Go.eqI (y := bi (decide (tV L b p ≤ m))) (by rw [inI_dec (by omega) (by omega)]) ?_
    refine Go.if_eq 34 dX7_wantNumber_27 rfl (fun h27 => ?_) (fun h27 => ?_)
    · refine Go.iconst (v := 0) dX7_wantNumber_34 (by decide) ?_
      refine Go.putI dX7_wantNumber_35 fpX7_272 (shp hG rfl) rfl (by decide) (by decide) ?_
      refine Go.nmM (fun N5 eN5 => ?_)
      have hR1 : Rs N5 L b false p := by rw [eN5]; exact hR.put false
      have hf1 : Fm M N5 := by rw [eN5]; exact Fm.good M _
      refine Go.aload_n dX7_wantNumber_38 rfl ?_
      refine Go.getI dX7_wantNumber_39 flX7_272 (shp hG rfl) rfl ?_
      refine Go.eqI (y := 0) (hR1.2.2.2) ?_
      refine Go.if_eq 49 dX7_wantNumber_42 rfl (fun _ => ?_) (fun h42 => absurd (by decide) h42)
      refine Go.iload_n dX7_wantNumber_49 rfl ?_
      refine Go.iret dX7_wantNumber_50 rfl rfl ?_
      exact ⟨_, rfl, Or.inr ⟨nOk_f (fun z => of_decide_eq_false (bi_0.mp h27) z.2), hR1, hf1⟩⟩
    · refine Go.iconst (v := 1) dX7_wantNumber_30 (by decide) ?_
      refine Go.goto 35 dX7_wantNumber_31 rfl ?_
      refine Go.putI dX7_wantNumber_35 fpX7_272 (shp hG rfl) rfl (by decide) (by decide) ?_
      refine Go.nmM (fun N6 eN6 => ?_)
      have hR1 : Rs N6 L b true p := by rw [eN6]; exact hR.put true
      have hf1 : Fm M N6 := by rw [eN6]; exact Fm.good M _
      refine Go.aload_n dX7_wantNumber_38 rfl ?_
      refine Go.getI dX7_wantNumber_39 flX7_272 (shp hG rfl) rfl ?_
      refine Go.eqI (y := 1) (hR1.2.2.2) ?_
      refine Go.if_eq 49 dX7_wantNumber_42 rfl (fun h42 => absurd h42 (by decide)) (fun _ => ?_)
      refine Go.aload_n dX7_wantNumber_45 rfl ?_
      refine Go.callVV [] dX7_wantNumber_46 lkX7_276 imX7_advance seX7_advance cbX7_advance (r_adv hG hR1) (shp hG rfl) rfl rfl rfl (Nat.le_of_ble_eq_true rfl) (fun M8 hr7 => ?_)
      obtain ⟨hR2, hf2⟩ := hr7
      refine Go.iload_n dX7_wantNumber_49 rfl ?_
      refine Go.iret dX7_wantNumber_50 rfl rfl ?_
      exact ⟨_, rfl, Or.inl ⟨nOk_t ht2 (of_decide_eq_true (bi_n0.mp h27)), rfl, hR2, hf1.trans hf2⟩⟩
set_option maxRecDepth 20000 in
theorem r_num0 {G : Gt} {d : Nat} {M : Mm} (hG : gS G = SHAPE) {L : Nat} {b : Nat → Int32} {p : Nat} (hR : Rs M L b false p) (m : Int32) : ExI G (d + 3) mX7_wantNumber [.ref 49, .int 0, .int m] M (fun r M' => Rs M' L b false p ∧ Fm M M') := by
  refine Ex.of (by decide) (Nat.le_of_ble_eq_true rfl) ?_
  show Go G (d + 3) mX7_wantNumber 0 [some (.ref 49), some (.int 0), some (.int m), none] [] M _
  have hs3 := srt_le (tT L b p)
  refine Go.aload_n dX7_wantNumber_0 rfl ?_
  refine Go.getI dX7_wantNumber_1 flX7_247 (shp hG rfl) rfl ?_
  refine Go.nmI (fun x1 ex1 => ?_)
  refine Go.istore_n (ls' := [some (.ref 49), some (.int 0), some (.int m), some (.int x1)]) dX7_wantNumber_4 (Nat.le_of_ble_eq_true rfl) rfl rfl ?_
  refine Go.aload_n dX7_wantNumber_5 rfl ?_
  refine Go.aload_n dX7_wantNumber_6 rfl ?_
  refine Go.getI dX7_wantNumber_7 flX7_272 (shp hG rfl) rfl ?_
  refine Go.eqI (y := 0) (hR.2.2.2) ?_
  refine Go.if_eq 34 dX7_wantNumber_10 rfl (fun _ => ?_) (fun h10 => absurd (by decide) h10)
  refine Go.iconst (v := 0) dX7_wantNumber_34 (by decide) ?_
  refine Go.putI dX7_wantNumber_35 fpX7_272 (shp hG rfl) rfl (by decide) (by decide) ?_
  refine Go.nmM (fun N2 eN2 => ?_)
  have hR1 : Rs N2 L b false p := by rw [eN2]; exact hR.put false
  have hf1 : Fm M N2 := by rw [eN2]; exact Fm.good M _
  refine Go.aload_n dX7_wantNumber_38 rfl ?_
  refine Go.getI dX7_wantNumber_39 flX7_272 (shp hG rfl) rfl ?_
  refine Go.eqI (y := 0) (hR1.2.2.2) ?_
  refine Go.if_eq 49 dX7_wantNumber_42 rfl (fun _ => ?_) (fun h42 => absurd (by decide) h42)
  refine Go.iload_n dX7_wantNumber_49 rfl ?_
  refine Go.iret dX7_wantNumber_50 rfl rfl ?_
  exact ⟨_, rfl, hR1, hf1⟩
set_option maxRecDepth 20000 in
theorem r_either1 {G : Gt} {d : Nat} {M : Mm} (hG : gS G = SHAPE) {L : Nat} {b : Nat → Int32} {p : Nat} (hR : Rs M L b true p) {k : Nat} (hk18 : k < 18) {w : Int64} (hw : w = wdL.getD k 0) {k2 : Nat} (hk28 : k2 < 18) {w2 : Int64} (hw2 : w2 = wdL.getD k2 0) : ExI G (d + 3) mX7_wantEither [.ref 49, .long w, .long w2] M (fun r M' => (isWP L b p k = true ∧ r = 1 ∧ Rs M' L b true (tE L b p) ∧ Fm M M') ∨ (isWP L b p k = false ∧ isWP L b p k2 = true ∧ r = 0 ∧ Rs M' L b true (tE L b p) ∧ Fm M M') ∨ (isWP L b p k = false ∧ isWP L b p k2 = false ∧ Rs M' L b false p ∧ Fm M M')) := by
  refine Ex.of (by decide) (Nat.le_of_ble_eq_true rfl) ?_
  show Go G (d + 3) mX7_wantEither 0 [some (.ref 49), some (.long w), none, some (.long w2), none, none] [] M _
  refine Go.aload_n dX7_wantEither_0 rfl ?_
  refine Go.lload_n dX7_wantEither_1 rfl ?_
  refine Go.callVI [] dX7_wantEither_2 lkX7_258 imX7_isWord seX7_isWord cbX7_isWord (r_isWord hG hR hk18 (w := w) hw) (shp hG rfl) rfl rfl rfl (Nat.le_of_ble_eq_true rfl) (fun r1 M2 hr1 => ?_)
  obtain ⟨er1, emr1⟩ := hr1
  rw [emr1]
  clear emr1 M2
  subst er1
  refine Go.istore (ls' := [some (.ref 49), some (.long w), none, some (.long w2), none, some (.int (bi (isWP L b p k)))]) dX7_wantEither_5 (Nat.le_of_ble_eq_true rfl) rfl rfl ?_
  refine Go.aload_n dX7_wantEither_7 rfl ?_
  refine Go.aload_n dX7_wantEither_8 rfl ?_
  refine Go.getI dX7_wantEither_9 flX7_272 (shp hG rfl) rfl ?_
  refine Go.eqI (y := 1) (hR.2.2.2) ?_
  refine Go.if_eq 32 dX7_wantEither_12 rfl (fun h12 => absurd h12 (by decide)) (fun _ => ?_)
  refine Go.iload dX7_wantEither_15 rfl ?_
  refine Go.if_ne 28 dX7_wantEither_17 rfl (fun h17 => ?_) (fun h17 => ?_)
  · refine Go.iconst (v := 1) dX7_wantEither_28 (by decide) ?_
    refine Go.goto 33 dX7_wantEither_29 rfl ?_
    refine Go.putI dX7_wantEither_33 fpX7_272 (shp hG rfl) rfl (by decide) (by decide) ?_
    refine Go.nmM (fun N3 eN3 => ?_)
    have hR1 : Rs N3 L b true p := by rw [eN3]; exact hR.put true
    have hf1 : Fm M N3 := by rw [eN3]; exact Fm.good M _
    refine Go.aload_n dX7_wantEither_36 rfl ?_
    refine Go.getI dX7_wantEither_37 flX7_272 (shp hG rfl) rfl ?_
    refine Go.eqI (y := 1) (hR1.2.2.2) ?_
    refine Go.if_eq 47 dX7_wantEither_40 rfl (fun h40 => absurd h40 (by decide)) (fun _ => ?_)
    refine Go.aload_n dX7_wantEither_43 rfl ?_
    refine Go.callVV [] dX7_wantEither_44 lkX7_276 imX7_advance seX7_advance cbX7_advance (r_adv hG hR1) (shp hG rfl) rfl rfl rfl (Nat.le_of_ble_eq_true rfl) (fun M5 hr4 => ?_)
    obtain ⟨hR2, hf2⟩ := hr4
    refine Go.iload dX7_wantEither_47 rfl ?_
    refine Go.iret dX7_wantEither_49 rfl (bi_nar _) ?_
    exact ⟨_, rfl, Or.inl ⟨bi_n0.mp h17, by rw [bi_n0.mp h17]; rfl, hR2, hf1.trans hf2⟩⟩
  · refine Go.aload_n dX7_wantEither_20 rfl ?_
    refine Go.lload_n dX7_wantEither_21 rfl ?_
    refine Go.callVI [.ref 49] dX7_wantEither_22 lkX7_258 imX7_isWord seX7_isWord cbX7_isWord (r_isWord hG hR hk28 (w := w2) hw2) (shp hG rfl) rfl rfl rfl (Nat.le_of_ble_eq_true rfl) (fun r6 M7 hr6 => ?_)
    obtain ⟨er6, emr6⟩ := hr6
    rw [emr6]
    clear emr6 M7
    subst er6
    refine Go.if_eq 32 dX7_wantEither_25 rfl (fun h25 => ?_) (fun h25 => ?_)
    · refine Go.iconst (v := 0) dX7_wantEither_32 (by decide) ?_
      refine Go.putI dX7_wantEither_33 fpX7_272 (shp hG rfl) rfl (by decide) (by decide) ?_
      refine Go.nmM (fun N8 eN8 => ?_)
      have hR1 : Rs N8 L b false p := by rw [eN8]; exact hR.put false
      have hf1 : Fm M N8 := by rw [eN8]; exact Fm.good M _
      refine Go.aload_n dX7_wantEither_36 rfl ?_
      refine Go.getI dX7_wantEither_37 flX7_272 (shp hG rfl) rfl ?_
      refine Go.eqI (y := 0) (hR1.2.2.2) ?_
      refine Go.if_eq 47 dX7_wantEither_40 rfl (fun _ => ?_) (fun h40 => absurd (by decide) h40)
      refine Go.iload dX7_wantEither_47 rfl ?_
      refine Go.iret dX7_wantEither_49 rfl (bi_nar _) ?_
      exact ⟨_, rfl, Or.inr (Or.inr ⟨bi_0.mp h17, bi_0.mp h25, hR1, hf1⟩)⟩
    · refine Go.iconst (v := 1) dX7_wantEither_28 (by decide) ?_
      refine Go.goto 33 dX7_wantEither_29 rfl ?_
      refine Go.putI dX7_wantEither_33 fpX7_272 (shp hG rfl) rfl (by decide) (by decide) ?_
      refine Go.nmM (fun N9 eN9 => ?_)
      have hR1 : Rs N9 L b true p := by rw [eN9]; exact hR.put true
      have hf1 : Fm M N9 := by rw [eN9]; exact Fm.good M _
      refine Go.aload_n dX7_wantEither_36 rfl ?_
      refine Go.getI dX7_wantEither_37 flX7_272 (shp hG rfl) rfl ?_
      refine Go.eqI (y := 1) (hR1.2.2.2) ?_
      refine Go.if_eq 47 dX7_wantEither_40 rfl (fun h40 => absurd h40 (by decide)) (fun _ => ?_)
      refine Go.aload_n dX7_wantEither_43 rfl ?_
      refine Go.callVV [] dX7_wantEither_44 lkX7_276 imX7_advance seX7_advance cbX7_advance (r_adv hG hR1) (shp hG rfl) rfl rfl rfl (Nat.le_of_ble_eq_true rfl) (fun M11 hr10 => ?_)
      obtain ⟨hR2, hf2⟩ := hr10
      refine Go.iload dX7_wantEither_47 rfl ?_
      refine Go.iret dX7_wantEither_49 rfl (bi_nar _) ?_
      exact ⟨_, rfl, Or.inr (Or.inl ⟨bi_0.mp h17, bi_n0.mp h25, by rw [bi_0.mp h17]; rfl, hR2, hf1.trans hf2⟩)⟩
set_option maxRecDepth 20000 in
theorem r_either0 {G : Gt} {d : Nat} {M : Mm} (hG : gS G = SHAPE) {L : Nat} {b : Nat → Int32} {p : Nat} (hR : Rs M L b false p) {k : Nat} (hk18 : k < 18) {w : Int64} (hw : w = wdL.getD k 0) {k2 : Nat} (hk28 : k2 < 18) {w2 : Int64} (hw2 : w2 = wdL.getD k2 0) : ExI G (d + 3) mX7_wantEither [.ref 49, .long w, .long w2] M (fun r M' => Rs M' L b false p ∧ Fm M M') := by
  refine Ex.of (by decide) (Nat.le_of_ble_eq_true rfl) ?_
  show Go G (d + 3) mX7_wantEither 0 [some (.ref 49), some (.long w), none, some (.long w2), none, none] [] M _
  refine Go.aload_n dX7_wantEither_0 rfl ?_
  refine Go.lload_n dX7_wantEither_1 rfl ?_
  refine Go.callVI [] dX7_wantEither_2 lkX7_258 imX7_isWord seX7_isWord cbX7_isWord (r_isWord hG hR hk18 (w := w) hw) (shp hG rfl) rfl rfl rfl (Nat.le_of_ble_eq_true rfl) (fun r1 M2 hr1 => ?_)
  obtain ⟨er1, emr1⟩ := hr1
  rw [emr1]
  clear emr1 M2
  subst er1
  refine Go.istore (ls' := [some (.ref 49), some (.long w), none, some (.long w2), none, some (.int (bi (isWP L b p k)))]) dX7_wantEither_5 (Nat.le_of_ble_eq_true rfl) rfl rfl ?_
  refine Go.aload_n dX7_wantEither_7 rfl ?_
  refine Go.aload_n dX7_wantEither_8 rfl ?_
  refine Go.getI dX7_wantEither_9 flX7_272 (shp hG rfl) rfl ?_
  refine Go.eqI (y := 0) (hR.2.2.2) ?_
  refine Go.if_eq 32 dX7_wantEither_12 rfl (fun _ => ?_) (fun h12 => absurd (by decide) h12)
  refine Go.iconst (v := 0) dX7_wantEither_32 (by decide) ?_
  refine Go.putI dX7_wantEither_33 fpX7_272 (shp hG rfl) rfl (by decide) (by decide) ?_
  refine Go.nmM (fun N3 eN3 => ?_)
  have hR1 : Rs N3 L b false p := by rw [eN3]; exact hR.put false
  have hf1 : Fm M N3 := by rw [eN3]; exact Fm.good M _
  refine Go.aload_n dX7_wantEither_36 rfl ?_
  refine Go.getI dX7_wantEither_37 flX7_272 (shp hG rfl) rfl ?_
  refine Go.eqI (y := 0) (hR1.2.2.2) ?_
  refine Go.if_eq 47 dX7_wantEither_40 rfl (fun _ => ?_) (fun h40 => absurd (by decide) h40)
  refine Go.iload dX7_wantEither_47 rfl ?_
  refine Go.iret dX7_wantEither_49 rfl (bi_nar _) ?_
  exact ⟨_, rfl, hR1, hf1⟩
