def Dr (M : Mm) (L : Nat) (b : Nat → Int32) (p : Nat) (u : Bu) : Prop := At M L b p ∧ BuC M 17 u
/-- what an item comes to -/
def It (M M' : Mm) (L : Nat) (b : Nat → Int32) (r : Int32) (a : Bool × Nat × Bu) : Prop := r = bi a.1 ∧ At M' L b a.2.1 ∧ (a.1 = true → BuC M' 17 a.2.2) ∧ Same [17, 18, 19, 20, 21, 22, 23, 24, 37] M M'
theorem BuC.s37 {M M' : Mm} {u : Bu} (h : BuC M 17 u) (hs : Same [37] M M') : BuC M' 17 u := h.same (fun j hj => hs.1 _ (by simp; omega))
theorem At.keep {M M' : Mm} {L : Nat} {b : Nat → Int32} {p : Nat} (h : At M L b p) (hs : Same [17, 18, 19, 20, 21, 22, 23, 24] M M') : At M' L b p := h.same (hs.1 37 (by decide)) (hs.1 38 (by decide))
theorem sm37 {M M' : Mm} (h : Same [37] M M') : Same [17, 18, 19, 20, 21, 22, 23, 24, 37] M M' := h.mono (by decide)
theorem sm17 {M M' : Mm} (h : Same [17, 18, 19, 20, 21, 22, 23, 24] M M') : Same [17, 18, 19, 20, 21, 22, 23, 24, 37] M M' := h.mono (by decide)
theorem thC_ok (L : Nat) (b : Nat → Int32) : ∀ r set p, set < 256 → p ≤ L → (thC L b r set p).1 < 256 ∧ p ≤ (thC L b r set p).2 ∧ (thC L b r set p).2 ≤ L ∧ pop8 (thC L b r set p).1 ≤ pop8 set + r
  | 0, set, p, hs, hp => ⟨hs, Nat.le_refl _, hp, Nat.le_refl _⟩
  | r + 1, set, p, hs, hp => by
    rw [thC]
    split
    · exact ⟨hs, Nat.le_refl _, hp, by show pop8 set ≤ _; omega⟩
    · split
      · rename_i h
        have h2v : 2 ^ tV L b p < 256 := show 2 ^ tV L b p < 2 ^ 8 from Nat.pow_lt_pow_right (by decide) (by omega)
        have he := tE_spec (b := b) hp
        have hs2 := tS_spec (b := b) hp
        have ih := thC_ok L b r (set ||| 2 ^ tV L b p) (tE L b p) (Nat.or_lt_two_pow (n := 8) hs h2v) he.2.1
        have hpop : ∀ s, s < 256 → ∀ t, t < 8 → pop8 (s ||| 2 ^ t) ≤ pop8 s + 1 := by decide +kernel
        have := hpop set hs (tV L b p) h.2.1
        exact ⟨ih.1, by omega, ih.2.2.1, by omega⟩
      · have e0 : pop8 0 = 0 := by decide
        exact ⟨by show 0 < 256; omega, Nat.le_refl _, hp, by show pop8 0 ≤ _; omega⟩
theorem th_dish {L : Nat} {b : Nat → Int32} {p way sau : Nat} (hp : p ≤ L) (h0 : ¬ (thC L b 3 0 p).1 = 0) (hw : way ≤ 4) (hs : sau ≤ 3) : okD (20 * (thC L b 3 0 p).1 + 4 * way + sau) = true := by
  have h := thC_ok L b 3 0 p (by decide) hp
  have e0 : pop8 0 = 0 := by decide
  unfold okD
  rw [show (20 * (thC L b 3 0 p).1 + 4 * way + sau) / 20 = (thC L b 3 0 p).1 by omega, okS_pop _ h.1, decide_eq_true (show 0 < (thC L b 3 0 p).1 by omega), decide_eq_true (by omega)]
  rfl
set_option maxRecDepth 20000 in
theorem a_store {G : Gt} {d : Nat} {M : Mm} (hG : gS G = SHAPE) {L : Nat} {b : Nat → Int32} {p : Nat} {u : Bu} (hD : Dr M L b p u) (hu : BuOk u) : ExI G (d + 3) mX5_takeStore [.ref 37, .ref 17] M (fun r M' => It M M' L b r (pStore L b u p)) := by
  refine Ex.of (by decide) (Nat.le_of_ble_eq_true rfl) ?_
  show Go G (d + 3) mX5_takeStore 0 [some (.ref 37), some (.ref 17), none, none] [] M _
  refine Go.aload_n dX5_takeStore_0 rfl ?_
  refine Go.bipush (v := 7) dX5_takeStore_1 (by decide) ?_
  refine Go.callVI [] dX5_takeStore_3 lkX5_98 imX5_takeNumber seX5_takeNumber cbX5_takeNumber (a_takeNumber hG hD.1 (m := 7) (by omega)) (shp hG rfl) rfl rfl rfl (Nat.le_of_ble_eq_true rfl) (fun r1 M2 hr1 => ?_)
  rcases hr1 with ⟨hn3q, ex9, hA1q, hs2q⟩ | ⟨hn3q, ex9, hA1q, hs2q⟩
  · rw [ex9]
    have hn3ql := (nOk_le hn3q).2
    refine Go.istore_n (ls' := [some (.ref 37), some (.ref 17), some (.int (nI (tV L b p))), none]) dX5_takeStore_6 (Nat.le_of_ble_eq_true rfl) rfl rfl ?_
    refine Go.iload_n dX5_takeStore_7 rfl ?_
    refine Go.if_ge 15 dX5_takeStore_8 rfl (fun _ => ?_) (fun h8 => absurd (nI_pos' (by omega)) h8)
    refine Go.aload_n dX5_takeStore_15 rfl ?_
    refine Go.bipush (v := 99) dX5_takeStore_16 (by decide) ?_
    refine Go.callVI [] dX5_takeStore_18 lkX5_98 imX5_takeNumber seX5_takeNumber cbX5_takeNumber (a_takeNumber hG hA1q (m := 99) (by omega)) (shp hG rfl) rfl rfl rfl (Nat.le_of_ble_eq_true rfl) (fun r3 M4 hr3 => ?_)
    rcases hr3 with ⟨hn6q, ex9, hA4q, hs5q⟩ | ⟨hn6q, ex9, hA4q, hs5q⟩
    · rw [ex9]
      have hn6ql := (nOk_le hn6q).2
      refine Go.istore_n (ls' := [some (.ref 37), some (.ref 17), some (.int (nI (tV L b p))), some (.int (nI (tV L b (tE L b p))))]) dX5_takeStore_21 (Nat.le_of_ble_eq_true rfl) rfl rfl ?_
      refine Go.iload_n dX5_takeStore_22 rfl ?_
      refine Go.if_ge 28 dX5_takeStore_23 rfl (fun _ => ?_) (fun h23 => absurd (nI_pos' (by omega)) h23)
      refine Go.aload_n dX5_takeStore_28 rfl ?_
      refine Go.getR dX5_takeStore_29 flX5_116 (shp hG rfl) rfl ?_
      refine Go.iload_n dX5_takeStore_32 rfl ?_
      refine Go.iload_n dX5_takeStore_33 rfl ?_
      refine Go.iast dX5_takeStore_34 (shp hG rfl) (vin (by omega) (by decide)) ?_
      refine Go.nmM (fun N5 eN5 => ?_)
      refine Go.iconst (v := 1) dX5_takeStore_35 (by decide) ?_
      refine Go.iret dX5_takeStore_36 rfl (by decide) ?_
      refine ⟨_, rfl, ?_⟩
      unfold pStore
      rw [if_pos hn3q, if_pos hn6q]
      have eM : N5 = upi M4 18 (tV L b p) (nI (tV L b (tE L b p))) := by rw [eN5, ncl (by omega)]
      have hsm : Same [17, 18, 19, 20, 21, 22, 23, 24] M4 N5 := by rw [eM]; exact Same.upi _ 18 _ _ (by decide)
      exact ⟨rfl, hA4q.keep hsm, fun _ => by rw [eM]; exact BuC.st (((hD.2).s37 hs2q).s37 hs5q) _ _, ((sm37 hs2q).trans (sm37 hs5q)).trans (sm17 hsm)⟩
    · rw [ex9]
      refine Go.istore_n (ls' := [some (.ref 37), some (.ref 17), some (.int (nI (tV L b p))), some (.int ((-1)))]) dX5_takeStore_21 (Nat.le_of_ble_eq_true rfl) rfl rfl ?_
      refine Go.iload_n dX5_takeStore_22 rfl ?_
      refine Go.if_ge 28 dX5_takeStore_23 rfl (fun h23 => absurd h23 (by decide)) (fun _ => ?_)
      refine Go.iconst (v := 0) dX5_takeStore_26 (by decide) ?_
      refine Go.iret dX5_takeStore_27 rfl (by decide) ?_
      refine ⟨_, rfl, ?_⟩
      unfold pStore
      rw [if_pos hn3q, if_neg (by rw [hn6q]; decide)]
      exact ⟨rfl, hA4q, fun q => (by cases q), (sm37 hs2q).trans (sm37 hs5q)⟩
  · rw [ex9]
    refine Go.istore_n (ls' := [some (.ref 37), some (.ref 17), some (.int ((-1))), none]) dX5_takeStore_6 (Nat.le_of_ble_eq_true rfl) rfl rfl ?_
    refine Go.iload_n dX5_takeStore_7 rfl ?_
    refine Go.if_ge 15 dX5_takeStore_8 rfl (fun h8 => absurd h8 (by decide)) (fun _ => ?_)
    refine Go.iconst (v := -1) dX5_takeStore_11 (by decide) ?_
    refine Go.goto 21 dX5_takeStore_12 rfl ?_
    refine Go.istore_n (ls' := [some (.ref 37), some (.ref 17), some (.int ((-1))), some (.int ((-1)))]) dX5_takeStore_21 (Nat.le_of_ble_eq_true rfl) rfl rfl ?_
    refine Go.iload_n dX5_takeStore_22 rfl ?_
    refine Go.if_ge 28 dX5_takeStore_23 rfl (fun h23 => absurd h23 (by decide)) (fun _ => ?_)
    refine Go.iconst (v := 0) dX5_takeStore_26 (by decide) ?_
    refine Go.iret dX5_takeStore_27 rfl (by decide) ?_
    refine ⟨_, rfl, ?_⟩
    unfold pStore
    rw [if_neg (by rw [hn3q]; decide)]
    exact ⟨rfl, hA1q, fun q => (by cases q), sm37 hs2q⟩
set_option maxRecDepth 20000 in
theorem a_day {G : Gt} {d : Nat} {M : Mm} (hG : gS G = SHAPE) {L : Nat} {b : Nat → Int32} {p : Nat} {u : Bu} (hD : Dr M L b p u) (hu : BuOk u) : ExI G (d + 3) mX5_takeDay [.ref 37, .ref 17] M (fun r M' => It M M' L b r (pDay L b u p)) := by
  refine Ex.of (by decide) (Nat.le_of_ble_eq_true rfl) ?_
  show Go G (d + 3) mX5_takeDay 0 [some (.ref 37), some (.ref 17), none] [] M _
  refine Go.aload_n dX5_takeDay_0 rfl ?_
  refine Go.sipush (v := 9999) dX5_takeDay_1 (by decide) ?_
  refine Go.callVI [] dX5_takeDay_4 lkX5_98 imX5_takeNumber seX5_takeNumber cbX5_takeNumber (a_takeNumber hG hD.1 (m := 9999) (by omega)) (shp hG rfl) rfl rfl rfl (Nat.le_of_ble_eq_true rfl) (fun r1 M2 hr1 => ?_)
  rcases hr1 with ⟨hn9q, ex9, hA7q, hs8q⟩ | ⟨hn9q, ex9, hA7q, hs8q⟩
  · rw [ex9]
    have hn9ql := (nOk_le hn9q).2
    refine Go.istore_n (ls' := [some (.ref 37), some (.ref 17), some (.int (nI (tV L b p)))]) dX5_takeDay_7 (Nat.le_of_ble_eq_true rfl) rfl rfl ?_
    refine Go.iload_n dX5_takeDay_8 rfl ?_
    refine Go.if_ge 14 dX5_takeDay_9 rfl (fun _ => ?_) (fun h9 => absurd (nI_pos' (by omega)) h9)
    refine Go.aload_n dX5_takeDay_14 rfl ?_
    refine Go.iload_n dX5_takeDay_15 rfl ?_
    refine Go.putI dX5_takeDay_16 fpX5_140 (shp hG rfl) rfl rfl rfl ?_
    refine Go.nmM (fun N3 eN3 => ?_)
    refine Go.iconst (v := 1) dX5_takeDay_19 (by decide) ?_
    refine Go.iret dX5_takeDay_20 rfl (by decide) ?_
    refine ⟨_, rfl, ?_⟩
    unfold pDay
    rw [if_pos hn9q]
    have hsm : Same [17, 18, 19, 20, 21, 22, 23, 24] M2 N3 := by rw [eN3]; exact Same.upi _ 17 _ _ (by decide)
    exact ⟨rfl, hA7q.keep hsm, fun _ => by rw [eN3]; exact BuC.day ((hD.2).s37 hs8q) _, (sm37 hs8q).trans (sm17 hsm)⟩
  · rw [ex9]
    refine Go.istore_n (ls' := [some (.ref 37), some (.ref 17), some (.int ((-1)))]) dX5_takeDay_7 (Nat.le_of_ble_eq_true rfl) rfl rfl ?_
    refine Go.iload_n dX5_takeDay_8 rfl ?_
    refine Go.if_ge 14 dX5_takeDay_9 rfl (fun h9 => absurd h9 (by decide)) (fun _ => ?_)
    refine Go.iconst (v := 0) dX5_takeDay_12 (by decide) ?_
    refine Go.iret dX5_takeDay_13 rfl (by decide) ?_
    refine ⟨_, rfl, ?_⟩
    unfold pDay
    rw [if_neg (by rw [hn9q]; decide)]
    exact ⟨rfl, hA7q, fun q => (by cases q), sm37 hs8q⟩
set_option maxRecDepth 20000 in
theorem a_edict {G : Gt} {d : Nat} {M : Mm} (hG : gS G = SHAPE) {L : Nat} {b : Nat → Int32} {p : Nat} {u : Bu} (hD : Dr M L b p u) (hu : BuOk u) : ExI G (d + 6) mX5_takeEdict [.ref 37, .ref 17] M (fun r M' => It M M' L b r (pEd L b u p)) := by
  refine Ex.of (by decide) (Nat.le_of_ble_eq_true rfl) ?_
  show Go G (d + 6) mX5_takeEdict 0 [some (.ref 37), some (.ref 17), none, none] [] M _
  refine Go.aload_n dX5_takeEdict_0 rfl ?_
  refine Go.ldcS 13 (by decide) dX5_takeEdict_1 rfl rfl ?_
  refine Go.callVI [] dX5_takeEdict_3 lkX5_48 imX5_takeWord seX5_takeWord cbX5_takeWord (a_takeWord hG hD.1 (k := 13) (by decide)) (shp hG rfl) rfl rfl rfl (Nat.le_of_ble_eq_true rfl) (fun r1 M2 hr1 => ?_)
  rcases hr1 with ⟨hw12q, ex9, hA10q, hs11q⟩ | ⟨hw12q, ex9, hA10q, hs11q⟩
  · rw [ex9]
    refine Go.istore_n (ls' := [some (.ref 37), some (.ref 17), some (.int 1), none]) dX5_takeEdict_6 (Nat.le_of_ble_eq_true rfl) rfl rfl ?_
    refine Go.iload_n dX5_takeEdict_7 rfl ?_
    refine Go.if_ne 22 dX5_takeEdict_8 rfl (fun _ => ?_) (fun h8 => absurd h8 (by decide))
    refine Go.aload_n dX5_takeEdict_22 rfl ?_
    refine Go.ldcS 15 (by decide) dX5_takeEdict_23 rfl rfl ?_
    refine Go.callVI [] dX5_takeEdict_25 lkX5_48 imX5_takeWord seX5_takeWord cbX5_takeWord (a_takeWord hG hA10q (k := 15) (by decide)) (shp hG rfl) rfl rfl rfl (Nat.le_of_ble_eq_true rfl) (fun r3 M4 hr3 => ?_)
    rcases hr3 with ⟨hw15q, ex9, hA13q, hs14q⟩ | ⟨hw15q, ex9, hA13q, hs14q⟩
    · rw [ex9]
      refine Go.istore_n (ls' := [some (.ref 37), some (.ref 17), some (.int 1), some (.int 1)]) dX5_takeEdict_28 (Nat.le_of_ble_eq_true rfl) rfl rfl ?_
      refine Go.iload_n dX5_takeEdict_29 rfl ?_
      refine Go.if_ne 44 dX5_takeEdict_30 rfl (fun _ => ?_) (fun h30 => absurd h30 (by decide))
      refine Go.aload_n dX5_takeEdict_44 rfl ?_
      refine Go.iload_n dX5_takeEdict_45 rfl ?_
      refine Go.if_eq 53 dX5_takeEdict_46 rfl (fun h46 => absurd h46 (by decide)) (fun _ => ?_)
      refine Go.iconst (v := 0) dX5_takeEdict_49 (by decide) ?_
      refine Go.goto 54 dX5_takeEdict_50 rfl ?_
      refine Go.iload_n dX5_takeEdict_54 rfl ?_
      refine Go.callVI [] dX5_takeEdict_55 lkX5_136 imX1_decree seX1_decree cbX1_decree (s_decree17 hG (ed := uE u) (w := 0) hu.2.1 (by decide) (((hD.2).s37 hs11q).s37 hs14q).2.2.2.2.2.1 true) (shp hG rfl) rfl rfl rfl (Nat.le_of_ble_eq_true rfl) (fun r5 M6 hr5 => ?_)
      refine Go.pop dX5_takeEdict_58 rfl ?_
      refine Go.iconst (v := 1) dX5_takeEdict_59 (by decide) ?_
      refine Go.iret dX5_takeEdict_60 rfl (by decide) ?_
      refine ⟨_, rfl, ?_⟩
      unfold pEd
      rw [if_pos hw12q]
      unfold pOn
      rw [if_pos hw15q]
      have hq := hr5
      have hsm : Same [17, 18, 19, 20, 21, 22, 23, 24] M4 M6 := by rw [hq.2]; exact dec_same _ 17 _ _ _ (by decide)
      exact ⟨rfl, hA13q.keep hsm, fun _ => by rw [hq.2]; exact BuC.ed (((hD.2).s37 hs11q).s37 hs14q) 0 true, ((sm37 hs11q).trans (sm37 hs14q)).trans (sm17 hsm)⟩
    · rw [ex9]
      refine Go.istore_n (ls' := [some (.ref 37), some (.ref 17), some (.int 1), some (.int 0)]) dX5_takeEdict_28 (Nat.le_of_ble_eq_true rfl) rfl rfl ?_
      refine Go.iload_n dX5_takeEdict_29 rfl ?_
      refine Go.if_ne 44 dX5_takeEdict_30 rfl (fun h30 => absurd (by decide) h30) (fun _ => ?_)
      refine Go.aload_n dX5_takeEdict_33 rfl ?_
      refine Go.ldcS 16 (by decide) dX5_takeEdict_34 rfl rfl ?_
      refine Go.callVI [] dX5_takeEdict_36 lkX5_48 imX5_takeWord seX5_takeWord cbX5_takeWord (a_takeWord hG hA13q (k := 16) (by decide)) (shp hG rfl) rfl rfl rfl (Nat.le_of_ble_eq_true rfl) (fun r7 M8 hr7 => ?_)
      rcases hr7 with ⟨hw18q, ex9, hA16q, hs17q⟩ | ⟨hw18q, ex9, hA16q, hs17q⟩
      · rw [ex9]
        refine Go.if_ne 44 dX5_takeEdict_39 rfl (fun _ => ?_) (fun h39 => absurd h39 (by decide))
        refine Go.aload_n dX5_takeEdict_44 rfl ?_
        refine Go.iload_n dX5_takeEdict_45 rfl ?_
        refine Go.if_eq 53 dX5_takeEdict_46 rfl (fun h46 => absurd h46 (by decide)) (fun _ => ?_)
        refine Go.iconst (v := 0) dX5_takeEdict_49 (by decide) ?_
        refine Go.goto 54 dX5_takeEdict_50 rfl ?_
        refine Go.iload_n dX5_takeEdict_54 rfl ?_
        refine Go.callVI [] dX5_takeEdict_55 lkX5_136 imX1_decree seX1_decree cbX1_decree (s_decree17 hG (ed := uE u) (w := 0) hu.2.1 (by decide) ((((hD.2).s37 hs11q).s37 hs14q).s37 hs17q).2.2.2.2.2.1 false) (shp hG rfl) rfl rfl rfl (Nat.le_of_ble_eq_true rfl) (fun r9 M10 hr9 => ?_)
        refine Go.pop dX5_takeEdict_58 rfl ?_
        refine Go.iconst (v := 1) dX5_takeEdict_59 (by decide) ?_
        refine Go.iret dX5_takeEdict_60 rfl (by decide) ?_
        refine ⟨_, rfl, ?_⟩
        unfold pEd
        rw [if_pos hw12q]
        unfold pOn
        rw [if_neg (by rw [hw15q]; decide), if_pos hw18q]
        have hq := hr9
        have hsm : Same [17, 18, 19, 20, 21, 22, 23, 24] M8 M10 := by rw [hq.2]; exact dec_same _ 17 _ _ _ (by decide)
        exact ⟨rfl, hA16q.keep hsm, fun _ => by rw [hq.2]; exact BuC.ed ((((hD.2).s37 hs11q).s37 hs14q).s37 hs17q) 0 false, (((sm37 hs11q).trans (sm37 hs14q)).trans (sm37 hs17q)).trans (sm17 hsm)⟩
      · rw [ex9]
        refine Go.if_ne 44 dX5_takeEdict_39 rfl (fun h39 => absurd (by decide) h39) (fun _ => ?_)
        refine Go.iconst (v := 0) dX5_takeEdict_42 (by decide) ?_
        refine Go.iret dX5_takeEdict_43 rfl (by decide) ?_
        refine ⟨_, rfl, ?_⟩
        unfold pEd
        rw [if_pos hw12q]
        unfold pOn
        rw [if_neg (by rw [hw15q]; decide), if_neg (by rw [hw18q]; decide)]
        exact ⟨rfl, hA16q, fun q => (by cases q), ((sm37 hs11q).trans (sm37 hs14q)).trans (sm37 hs17q)⟩
  · rw [ex9]
    refine Go.istore_n (ls' := [some (.ref 37), some (.ref 17), some (.int 0), none]) dX5_takeEdict_6 (Nat.le_of_ble_eq_true rfl) rfl rfl ?_
    refine Go.iload_n dX5_takeEdict_7 rfl ?_
    refine Go.if_ne 22 dX5_takeEdict_8 rfl (fun h8 => absurd (by decide) h8) (fun _ => ?_)
    refine Go.aload_n dX5_takeEdict_11 rfl ?_
    refine Go.ldcS 14 (by decide) dX5_takeEdict_12 rfl rfl ?_
    refine Go.callVI [] dX5_takeEdict_14 lkX5_48 imX5_takeWord seX5_takeWord cbX5_takeWord (a_takeWord hG hA10q (k := 14) (by decide)) (shp hG rfl) rfl rfl rfl (Nat.le_of_ble_eq_true rfl) (fun r11 M12 hr11 => ?_)
    rcases hr11 with ⟨hw21q, ex9, hA19q, hs20q⟩ | ⟨hw21q, ex9, hA19q, hs20q⟩
    · rw [ex9]
      refine Go.if_ne 22 dX5_takeEdict_17 rfl (fun _ => ?_) (fun h17 => absurd h17 (by decide))
      refine Go.aload_n dX5_takeEdict_22 rfl ?_
      refine Go.ldcS 15 (by decide) dX5_takeEdict_23 rfl rfl ?_
      refine Go.callVI [] dX5_takeEdict_25 lkX5_48 imX5_takeWord seX5_takeWord cbX5_takeWord (a_takeWord hG hA19q (k := 15) (by decide)) (shp hG rfl) rfl rfl rfl (Nat.le_of_ble_eq_true rfl) (fun r13 M14 hr13 => ?_)
      rcases hr13 with ⟨hw24q, ex9, hA22q, hs23q⟩ | ⟨hw24q, ex9, hA22q, hs23q⟩
      · rw [ex9]
        refine Go.istore_n (ls' := [some (.ref 37), some (.ref 17), some (.int 0), some (.int 1)]) dX5_takeEdict_28 (Nat.le_of_ble_eq_true rfl) rfl rfl ?_
        refine Go.iload_n dX5_takeEdict_29 rfl ?_
        refine Go.if_ne 44 dX5_takeEdict_30 rfl (fun _ => ?_) (fun h30 => absurd h30 (by decide))
        refine Go.aload_n dX5_takeEdict_44 rfl ?_
        refine Go.iload_n dX5_takeEdict_45 rfl ?_
        refine Go.if_eq 53 dX5_takeEdict_46 rfl (fun _ => ?_) (fun h46 => absurd (by decide) h46)
        refine Go.iconst (v := 1) dX5_takeEdict_53 (by decide) ?_
        refine Go.iload_n dX5_takeEdict_54 rfl ?_
        refine Go.callVI [] dX5_takeEdict_55 lkX5_136 imX1_decree seX1_decree cbX1_decree (s_decree17 hG (ed := uE u) (w := 1) hu.2.1 (by decide) ((((hD.2).s37 hs11q).s37 hs20q).s37 hs23q).2.2.2.2.2.1 true) (shp hG rfl) rfl rfl rfl (Nat.le_of_ble_eq_true rfl) (fun r15 M16 hr15 => ?_)
        refine Go.pop dX5_takeEdict_58 rfl ?_
        refine Go.iconst (v := 1) dX5_takeEdict_59 (by decide) ?_
        refine Go.iret dX5_takeEdict_60 rfl (by decide) ?_
        refine ⟨_, rfl, ?_⟩
        unfold pEd
        rw [if_neg (by rw [hw12q]; decide), if_pos hw21q]
        unfold pOn
        rw [if_pos hw24q]
        have hq := hr15
        have hsm : Same [17, 18, 19, 20, 21, 22, 23, 24] M14 M16 := by rw [hq.2]; exact dec_same _ 17 _ _ _ (by decide)
        exact ⟨rfl, hA22q.keep hsm, fun _ => by rw [hq.2]; exact BuC.ed ((((hD.2).s37 hs11q).s37 hs20q).s37 hs23q) 1 true, (((sm37 hs11q).trans (sm37 hs20q)).trans (sm37 hs23q)).trans (sm17 hsm)⟩
      · rw [ex9]
        refine Go.istore_n (ls' := [some (.ref 37), some (.ref 17), some (.int 0), some (.int 0)]) dX5_takeEdict_28 (Nat.le_of_ble_eq_true rfl) rfl rfl ?_
        refine Go.iload_n dX5_takeEdict_29 rfl ?_
        refine Go.if_ne 44 dX5_takeEdict_30 rfl (fun h30 => absurd (by decide) h30) (fun _ => ?_)
        refine Go.aload_n dX5_takeEdict_33 rfl ?_
        refine Go.ldcS 16 (by decide) dX5_takeEdict_34 rfl rfl ?_
        refine Go.callVI [] dX5_takeEdict_36 lkX5_48 imX5_takeWord seX5_takeWord cbX5_takeWord (a_takeWord hG hA22q (k := 16) (by decide)) (shp hG rfl) rfl rfl rfl (Nat.le_of_ble_eq_true rfl) (fun r17 M18 hr17 => ?_)
        rcases hr17 with ⟨hw27q, ex9, hA25q, hs26q⟩ | ⟨hw27q, ex9, hA25q, hs26q⟩
        · rw [ex9]
          refine Go.if_ne 44 dX5_takeEdict_39 rfl (fun _ => ?_) (fun h39 => absurd h39 (by decide))
          refine Go.aload_n dX5_takeEdict_44 rfl ?_
          refine Go.iload_n dX5_takeEdict_45 rfl ?_
          refine Go.if_eq 53 dX5_takeEdict_46 rfl (fun _ => ?_) (fun h46 => absurd (by decide) h46)
          refine Go.iconst (v := 1) dX5_takeEdict_53 (by decide) ?_
          refine Go.iload_n dX5_takeEdict_54 rfl ?_
          refine Go.callVI [] dX5_takeEdict_55 lkX5_136 imX1_decree seX1_decree cbX1_decree (s_decree17 hG (ed := uE u) (w := 1) hu.2.1 (by decide) (((((hD.2).s37 hs11q).s37 hs20q).s37 hs23q).s37 hs26q).2.2.2.2.2.1 false) (shp hG rfl) rfl rfl rfl (Nat.le_of_ble_eq_true rfl) (fun r19 M20 hr19 => ?_)
          refine Go.pop dX5_takeEdict_58 rfl ?_
          refine Go.iconst (v := 1) dX5_takeEdict_59 (by decide) ?_
          refine Go.iret dX5_takeEdict_60 rfl (by decide) ?_
          refine ⟨_, rfl, ?_⟩
          unfold pEd
          rw [if_neg (by rw [hw12q]; decide), if_pos hw21q]
          unfold pOn
          rw [if_neg (by rw [hw24q]; decide), if_pos hw27q]
          have hq := hr19
          have hsm : Same [17, 18, 19, 20, 21, 22, 23, 24] M18 M20 := by rw [hq.2]; exact dec_same _ 17 _ _ _ (by decide)
          exact ⟨rfl, hA25q.keep hsm, fun _ => by rw [hq.2]; exact BuC.ed (((((hD.2).s37 hs11q).s37 hs20q).s37 hs23q).s37 hs26q) 1 false, ((((sm37 hs11q).trans (sm37 hs20q)).trans (sm37 hs23q)).trans (sm37 hs26q)).trans (sm17 hsm)⟩
        · rw [ex9]
          refine Go.if_ne 44 dX5_takeEdict_39 rfl (fun h39 => absurd (by decide) h39) (fun _ => ?_)
          refine Go.iconst (v := 0) dX5_takeEdict_42 (by decide) ?_
          refine Go.iret dX5_takeEdict_43 rfl (by decide) ?_
          refine ⟨_, rfl, ?_⟩
          unfold pEd
          rw [if_neg (by rw [hw12q]; decide), if_pos hw21q]
          unfold pOn
          rw [if_neg (by rw [hw24q]; decide), if_neg (by rw [hw27q]; decide)]
          exact ⟨rfl, hA25q, fun q => (by cases q), (((sm37 hs11q).trans (sm37 hs20q)).trans (sm37 hs23q)).trans (sm37 hs26q)⟩
    · rw [ex9]
      refine Go.if_ne 22 dX5_takeEdict_17 rfl (fun h17 => absurd (by decide) h17) (fun _ => ?_)
      refine Go.iconst (v := 0) dX5_takeEdict_20 (by decide) ?_
      refine Go.iret dX5_takeEdict_21 rfl (by decide) ?_
      refine ⟨_, rfl, ?_⟩
      unfold pEd
      rw [if_neg (by rw [hw12q]; decide), if_neg (by rw [hw21q]; decide)]
      exact ⟨rfl, hA19q, fun q => (by cases q), (sm37 hs11q).trans (sm37 hs20q)⟩
