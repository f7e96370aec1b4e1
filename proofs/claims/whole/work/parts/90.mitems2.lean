set_option maxRecDepth 20000 in
theorem r_store {G : Gt} {d : Nat} {M : Mm} (hG : gS G = SHAPE) {L : Nat} {b : Nat → Int32} {p : Nat} {u : Bu} (hR : Rs M L b true p) (hU : BuM M u) (hu : BuOk u) : ExV G (d + 4) mX7_wantStore [.ref 49] M (fun M' => Im M M' L b (pStore L b u (tE L b p))) := by
  refine Ex.of (by decide) (Nat.le_of_ble_eq_true rfl) ?_
  show Go G (d + 4) mX7_wantStore 0 [some (.ref 49), none, none] [] M _
  refine Go.aload_n dX7_wantStore_0 rfl ?_
  refine Go.callVV [] dX7_wantStore_1 lkX7_276 imX7_advance seX7_advance cbX7_advance (r_adv hG hR) (shp hG rfl) rfl rfl rfl (Nat.le_of_ble_eq_true rfl) (fun M2 hr1 => ?_)
  obtain ⟨hR108q, hf109q⟩ := hr1
  refine Go.aload_n dX7_wantStore_4 rfl ?_
  refine Go.iconst (v := 0) dX7_wantStore_5 (by decide) ?_
  refine Go.bipush (v := 7) dX7_wantStore_6 (by decide) ?_
  refine Go.callVI [] dX7_wantStore_8 lkX7_285 imX7_wantNumber seX7_wantNumber cbX7_wantNumber (r_num1 hG hR108q (m := 7) (by omega)) (shp hG rfl) rfl rfl rfl (Nat.le_of_ble_eq_true rfl) (fun r3 M4 hr3 => ?_)
  rcases hr3 with ⟨hn112q, ex9, hR110q, hf111q⟩ | ⟨hn112q, hR110q, hf111q⟩
  · rw [ex9]
    have hn112ql := (nOk_le hn112q).2
    refine Go.istore_n (ls' := [some (.ref 49), some (.int (nI (tV L b (tE L b p)))), none]) dX7_wantStore_11 (Nat.le_of_ble_eq_true rfl) rfl rfl ?_
    refine Go.aload_n dX7_wantStore_12 rfl ?_
    refine Go.iconst (v := 0) dX7_wantStore_13 (by decide) ?_
    refine Go.bipush (v := 99) dX7_wantStore_14 (by decide) ?_
    refine Go.callVI [] dX7_wantStore_16 lkX7_285 imX7_wantNumber seX7_wantNumber cbX7_wantNumber (r_num1 hG hR110q (m := 99) (by omega)) (shp hG rfl) rfl rfl rfl (Nat.le_of_ble_eq_true rfl) (fun r5 M6 hr5 => ?_)
    rcases hr5 with ⟨hn115q, ex9, hR113q, hf114q⟩ | ⟨hn115q, hR113q, hf114q⟩
    · rw [ex9]
      have hn115ql := (nOk_le hn115q).2
      refine Go.istore_n (ls' := [some (.ref 49), some (.int (nI (tV L b (tE L b p)))), some (.int (nI (tV L b (tE L b (tE L b p)))))]) dX7_wantStore_19 (Nat.le_of_ble_eq_true rfl) rfl rfl ?_
      refine Go.aload_n dX7_wantStore_20 rfl ?_
      refine Go.getI dX7_wantStore_21 flX7_272 (shp hG rfl) rfl ?_
      refine Go.eqI (y := 1) (hR113q.2.2.2) ?_
      refine Go.if_eq 34 dX7_wantStore_24 rfl (fun h24 => absurd h24 (by decide)) (fun _ => ?_)
      refine Go.aload_n dX7_wantStore_27 rfl ?_
      refine Go.getR dX7_wantStore_28 flX7_7 (shp hG rfl) rfl ?_
      refine Go.iload_n dX7_wantStore_31 rfl ?_
      refine Go.iload_n dX7_wantStore_32 rfl ?_
      refine Go.iast dX7_wantStore_33 (shp hG rfl) (vin (by omega) (by decide)) ?_
      refine Go.nmM (fun N7 eN7 => ?_)
      refine Go.vret dX7_wantStore_34 rfl ?_
      have eM : N7 = upi M6 50 (tV L b (tE L b p)) (nI (tV L b (tE L b (tE L b p)))) := by rw [eN7, ncl (by omega)]
      unfold pStore
      rw [if_pos hn112q, if_pos hn115q]
      exact ⟨rfl, hR113q.keep (fun j _ _ => by rw [eM, rd_ne (by decide)]) (by rw [eM, rd_ne (by decide)]) (by rw [eM]; rfl), fun _ => by rw [eM]; exact BuM.st (hU.fm (((hf109q).trans (hf111q)).trans (hf114q))) _ _, (((hf109q).trans (hf111q)).trans (hf114q)).fi.trans (by rw [eM]; exact fi_up _ _ (by decide))⟩
    · skip
      refine Go.istore_n (ls' := [some (.ref 49), some (.int (nI (tV L b (tE L b p)))), some (.int r5)]) dX7_wantStore_19 (Nat.le_of_ble_eq_true rfl) rfl rfl ?_
      refine Go.aload_n dX7_wantStore_20 rfl ?_
      refine Go.getI dX7_wantStore_21 flX7_272 (shp hG rfl) rfl ?_
      refine Go.eqI (y := 0) (hR113q.2.2.2) ?_
      refine Go.if_eq 34 dX7_wantStore_24 rfl (fun _ => ?_) (fun h24 => absurd (by decide) h24)
      refine Go.vret dX7_wantStore_34 rfl ?_
      unfold pStore
      rw [if_pos hn112q, if_neg (by rw [hn115q]; decide)]
      exact ⟨rfl, hR113q, fun q => (by cases q), (((hf109q).trans (hf111q)).trans (hf114q)).fi⟩
  · skip
    refine Go.istore_n (ls' := [some (.ref 49), some (.int r3), none]) dX7_wantStore_11 (Nat.le_of_ble_eq_true rfl) rfl rfl ?_
    refine Go.aload_n dX7_wantStore_12 rfl ?_
    refine Go.iconst (v := 0) dX7_wantStore_13 (by decide) ?_
    refine Go.bipush (v := 99) dX7_wantStore_14 (by decide) ?_
    refine Go.callVI [] dX7_wantStore_16 lkX7_285 imX7_wantNumber seX7_wantNumber cbX7_wantNumber (r_num0 hG hR110q 99) (shp hG rfl) rfl rfl rfl (Nat.le_of_ble_eq_true rfl) (fun r8 M9 hr8 => ?_)
    obtain ⟨hR116q, hf117q⟩ := hr8
    refine Go.istore_n (ls' := [some (.ref 49), some (.int r3), some (.int r8)]) dX7_wantStore_19 (Nat.le_of_ble_eq_true rfl) rfl rfl ?_
    refine Go.aload_n dX7_wantStore_20 rfl ?_
    refine Go.getI dX7_wantStore_21 flX7_272 (shp hG rfl) rfl ?_
    refine Go.eqI (y := 0) (hR116q.2.2.2) ?_
    refine Go.if_eq 34 dX7_wantStore_24 rfl (fun _ => ?_) (fun h24 => absurd (by decide) h24)
    refine Go.vret dX7_wantStore_34 rfl ?_
    unfold pStore
    rw [if_neg (by rw [hn112q]; decide)]
    exact ⟨rfl, hR116q, fun q => (by cases q), (((hf109q).trans (hf111q)).trans (hf117q)).fi⟩
set_option maxRecDepth 20000 in
theorem r_day {G : Gt} {d : Nat} {M : Mm} (hG : gS G = SHAPE) {L : Nat} {b : Nat → Int32} {p : Nat} {u : Bu} (hR : Rs M L b true p) (hU : BuM M u) (hu : BuOk u) : ExV G (d + 4) mX7_wantDay [.ref 49] M (fun M' => Im M M' L b (pDay L b u (tE L b p))) := by
  refine Ex.of (by decide) (Nat.le_of_ble_eq_true rfl) ?_
  show Go G (d + 4) mX7_wantDay 0 [some (.ref 49), none] [] M _
  refine Go.aload_n dX7_wantDay_0 rfl ?_
  refine Go.callVV [] dX7_wantDay_1 lkX7_276 imX7_advance seX7_advance cbX7_advance (r_adv hG hR) (shp hG rfl) rfl rfl rfl (Nat.le_of_ble_eq_true rfl) (fun M2 hr1 => ?_)
  obtain ⟨hR118q, hf119q⟩ := hr1
  refine Go.aload_n dX7_wantDay_4 rfl ?_
  refine Go.iconst (v := 0) dX7_wantDay_5 (by decide) ?_
  refine Go.sipush (v := 9999) dX7_wantDay_6 (by decide) ?_
  refine Go.callVI [] dX7_wantDay_9 lkX7_285 imX7_wantNumber seX7_wantNumber cbX7_wantNumber (r_num1 hG hR118q (m := 9999) (by omega)) (shp hG rfl) rfl rfl rfl (Nat.le_of_ble_eq_true rfl) (fun r3 M4 hr3 => ?_)
  rcases hr3 with ⟨hn122q, ex9, hR120q, hf121q⟩ | ⟨hn122q, hR120q, hf121q⟩
  · rw [ex9]
    have hn122ql := (nOk_le hn122q).2
    refine Go.istore_n (ls' := [some (.ref 49), some (.int (nI (tV L b (tE L b p))))]) dX7_wantDay_12 (Nat.le_of_ble_eq_true rfl) rfl rfl ?_
    refine Go.aload_n dX7_wantDay_13 rfl ?_
    refine Go.getI dX7_wantDay_14 flX7_272 (shp hG rfl) rfl ?_
    refine Go.eqI (y := 1) (hR120q.2.2.2) ?_
    refine Go.if_eq 25 dX7_wantDay_17 rfl (fun h17 => absurd h17 (by decide)) (fun _ => ?_)
    refine Go.aload_n dX7_wantDay_20 rfl ?_
    refine Go.iload_n dX7_wantDay_21 rfl ?_
    refine Go.putI dX7_wantDay_22 fpX7_163 (shp hG rfl) rfl rfl rfl ?_
    refine Go.nmM (fun N5 eN5 => ?_)
    refine Go.vret dX7_wantDay_25 rfl ?_
    have eM : N5 = upi M4 49 3 (nI (tV L b (tE L b p))) := eN5
    unfold pDay
    rw [if_pos hn122q]
    exact ⟨rfl, hR120q.keep (fun j h3 _ => by rw [eM, rd_eq]; unfold upd; rw [if_neg h3]) (by rw [eM, rd_ne (by decide)]) (by rw [eM]; rfl), fun _ => by rw [eM]; exact BuM.day (hU.fm ((hf119q).trans (hf121q))) _, ((hf119q).trans (hf121q)).fi.trans (by rw [eM]; exact ⟨fun a ha => rd_ne (by omega), fun a ha => rfl, fun j h3 _ _ _ _ _ _ => by rw [rd_eq]; unfold upd; rw [if_neg h3]⟩)⟩
  · skip
    refine Go.istore_n (ls' := [some (.ref 49), some (.int r3)]) dX7_wantDay_12 (Nat.le_of_ble_eq_true rfl) rfl rfl ?_
    refine Go.aload_n dX7_wantDay_13 rfl ?_
    refine Go.getI dX7_wantDay_14 flX7_272 (shp hG rfl) rfl ?_
    refine Go.eqI (y := 0) (hR120q.2.2.2) ?_
    refine Go.if_eq 25 dX7_wantDay_17 rfl (fun _ => ?_) (fun h17 => absurd (by decide) h17)
    refine Go.vret dX7_wantDay_25 rfl ?_
    unfold pDay
    rw [if_neg (by rw [hn122q]; decide)]
    exact ⟨rfl, hR120q, fun q => (by cases q), ((hf119q).trans (hf121q)).fi⟩
set_option maxRecDepth 20000 in
theorem r_edict {G : Gt} {d : Nat} {M : Mm} (hG : gS G = SHAPE) {L : Nat} {b : Nat → Int32} {p : Nat} {u : Bu} (hR : Rs M L b true p) (hU : BuM M u) (hu : BuOk u) : ExV G (d + 4) mX7_wantEdict [.ref 49] M (fun M' => Im M M' L b (pEd L b u (tE L b p))) := by
  refine Ex.of (by decide) (Nat.le_of_ble_eq_true rfl) ?_
  show Go G (d + 4) mX7_wantEdict 0 [some (.ref 49), none, none] [] M _
  refine Go.aload_n dX7_wantEdict_0 rfl ?_
  refine Go.callVV [] dX7_wantEdict_1 lkX7_276 imX7_advance seX7_advance cbX7_advance (r_adv hG hR) (shp hG rfl) rfl rfl rfl (Nat.le_of_ble_eq_true rfl) (fun M2 hr1 => ?_)
  obtain ⟨hR123q, hf124q⟩ := hr1
  refine Go.aload_n dX7_wantEdict_4 rfl ?_
  refine Go.ldc2 dX7_wantEdict_5 klX7_292 ?_
  refine Go.ldc2 dX7_wantEdict_8 klX7_294 ?_
  refine Go.callVI [] dX7_wantEdict_11 lkX7_296 imX7_wantEither seX7_wantEither cbX7_wantEither (r_either1 hG hR123q (k := 13) (by decide) (w := 273576358) rfl (k2 := 14) (by decide) (w2 := 454132) rfl) (shp hG rfl) rfl rfl rfl (Nat.le_of_ble_eq_true rfl) (fun r3 M4 hr3 => ?_)
  rcases hr3 with ⟨hw127q, ex9, hR125q, hf126q⟩ | ⟨hw127q, hv128q, ex9, hR125q, hf126q⟩ | ⟨hw127q, hv128q, hR125q, hf126q⟩
  · rw [ex9]
    refine Go.istore_n (ls' := [some (.ref 49), some (.int 1), none]) dX7_wantEdict_14 (Nat.le_of_ble_eq_true rfl) rfl rfl ?_
    refine Go.aload_n dX7_wantEdict_15 rfl ?_
    refine Go.ldc2 dX7_wantEdict_16 klX7_300 ?_
    refine Go.ldc2 dX7_wantEdict_19 klX7_302 ?_
    refine Go.callVI [] dX7_wantEdict_22 lkX7_296 imX7_wantEither seX7_wantEither cbX7_wantEither (r_either1 hG hR125q (k := 15) (by decide) (w := 419) rfl (k2 := 16) (by decide) (w2 := 11103) rfl) (shp hG rfl) rfl rfl rfl (Nat.le_of_ble_eq_true rfl) (fun r5 M6 hr5 => ?_)
    rcases hr5 with ⟨hw131q, ex9, hR129q, hf130q⟩ | ⟨hw131q, hv132q, ex9, hR129q, hf130q⟩ | ⟨hw131q, hv132q, hR129q, hf130q⟩
    · rw [ex9]
      refine Go.istore_n (ls' := [some (.ref 49), some (.int 1), some (.int 1)]) dX7_wantEdict_25 (Nat.le_of_ble_eq_true rfl) rfl rfl ?_
      refine Go.aload_n dX7_wantEdict_26 rfl ?_
      refine Go.getI dX7_wantEdict_27 flX7_272 (shp hG rfl) rfl ?_
      refine Go.eqI (y := 1) (hR129q.2.2.2) ?_
      refine Go.if_eq 56 dX7_wantEdict_30 rfl (fun h30 => absurd h30 (by decide)) (fun _ => ?_)
      refine Go.aload_n dX7_wantEdict_33 rfl ?_
      refine Go.getR dX7_wantEdict_34 flX7_16 (shp hG rfl) rfl ?_
      refine Go.iload_n dX7_wantEdict_37 rfl ?_
      refine Go.if_eq 45 dX7_wantEdict_38 rfl (fun h38 => absurd h38 (by decide)) (fun _ => ?_)
      refine Go.iconst (v := 0) dX7_wantEdict_41 (by decide) ?_
      refine Go.goto 46 dX7_wantEdict_42 rfl ?_
      refine Go.iload_n dX7_wantEdict_46 rfl ?_
      refine Go.if_eq 54 dX7_wantEdict_47 rfl (fun h47 => absurd h47 (by decide)) (fun _ => ?_)
      refine Go.iconst (v := 1) dX7_wantEdict_50 (by decide) ?_
      refine Go.goto 55 dX7_wantEdict_51 rfl ?_
      refine Go.iast dX7_wantEdict_55 (shp hG rfl) (vin (i := 0) (by decide) (by decide)) ?_
      refine Go.nmM (fun N7 eN7 => ?_)
      refine Go.vret dX7_wantEdict_56 rfl ?_
      have eM : N7 = upi M6 52 0 (bi true) := by rw [eN7, cl0]; rfl
      unfold pEd
      rw [if_pos hw127q]
      unfold pOn
      rw [if_pos hw131q]
      exact ⟨rfl, hR129q.keep (fun j _ _ => by rw [eM, rd_ne (by decide)]) (by rw [eM, rd_ne (by decide)]) (by rw [eM]; rfl), fun _ => by rw [eM]; exact BuM.ed (hU.fm (((hf124q).trans (hf126q)).trans (hf130q))) hu.2.1 (by decide) _, (((hf124q).trans (hf126q)).trans (hf130q)).fi.trans (by rw [eM]; exact fi_up _ _ (by decide))⟩
    · rw [ex9]
      refine Go.istore_n (ls' := [some (.ref 49), some (.int 1), some (.int 0)]) dX7_wantEdict_25 (Nat.le_of_ble_eq_true rfl) rfl rfl ?_
      refine Go.aload_n dX7_wantEdict_26 rfl ?_
      refine Go.getI dX7_wantEdict_27 flX7_272 (shp hG rfl) rfl ?_
      refine Go.eqI (y := 1) (hR129q.2.2.2) ?_
      refine Go.if_eq 56 dX7_wantEdict_30 rfl (fun h30 => absurd h30 (by decide)) (fun _ => ?_)
      refine Go.aload_n dX7_wantEdict_33 rfl ?_
      refine Go.getR dX7_wantEdict_34 flX7_16 (shp hG rfl) rfl ?_
      refine Go.iload_n dX7_wantEdict_37 rfl ?_
      refine Go.if_eq 45 dX7_wantEdict_38 rfl (fun h38 => absurd h38 (by decide)) (fun _ => ?_)
      refine Go.iconst (v := 0) dX7_wantEdict_41 (by decide) ?_
      refine Go.goto 46 dX7_wantEdict_42 rfl ?_
      refine Go.iload_n dX7_wantEdict_46 rfl ?_
      refine Go.if_eq 54 dX7_wantEdict_47 rfl (fun _ => ?_) (fun h47 => absurd (by decide) h47)
      refine Go.iconst (v := 0) dX7_wantEdict_54 (by decide) ?_
      refine Go.iast dX7_wantEdict_55 (shp hG rfl) (vin (i := 0) (by decide) (by decide)) ?_
      refine Go.nmM (fun N8 eN8 => ?_)
      refine Go.vret dX7_wantEdict_56 rfl ?_
      have eM : N8 = upi M6 52 0 (bi false) := by rw [eN8, cl0]; rfl
      unfold pEd
      rw [if_pos hw127q]
      unfold pOn
      rw [if_neg (by rw [hw131q]; decide), if_pos hv132q]
      exact ⟨rfl, hR129q.keep (fun j _ _ => by rw [eM, rd_ne (by decide)]) (by rw [eM, rd_ne (by decide)]) (by rw [eM]; rfl), fun _ => by rw [eM]; exact BuM.ed (hU.fm (((hf124q).trans (hf126q)).trans (hf130q))) hu.2.1 (by decide) _, (((hf124q).trans (hf126q)).trans (hf130q)).fi.trans (by rw [eM]; exact fi_up _ _ (by decide))⟩
    · skip
      refine Go.istore_n (ls' := [some (.ref 49), some (.int 1), some (.int r5)]) dX7_wantEdict_25 (Nat.le_of_ble_eq_true rfl) rfl rfl ?_
      refine Go.aload_n dX7_wantEdict_26 rfl ?_
      refine Go.getI dX7_wantEdict_27 flX7_272 (shp hG rfl) rfl ?_
      refine Go.eqI (y := 0) (hR129q.2.2.2) ?_
      refine Go.if_eq 56 dX7_wantEdict_30 rfl (fun _ => ?_) (fun h30 => absurd (by decide) h30)
      refine Go.vret dX7_wantEdict_56 rfl ?_
      unfold pEd
      rw [if_pos hw127q]
      unfold pOn
      rw [if_neg (by rw [hw131q]; decide), if_neg (by rw [hv132q]; decide)]
      exact ⟨rfl, hR129q, fun q => (by cases q), (((hf124q).trans (hf126q)).trans (hf130q)).fi⟩
  · rw [ex9]
    refine Go.istore_n (ls' := [some (.ref 49), some (.int 0), none]) dX7_wantEdict_14 (Nat.le_of_ble_eq_true rfl) rfl rfl ?_
    refine Go.aload_n dX7_wantEdict_15 rfl ?_
    refine Go.ldc2 dX7_wantEdict_16 klX7_300 ?_
    refine Go.ldc2 dX7_wantEdict_19 klX7_302 ?_
    refine Go.callVI [] dX7_wantEdict_22 lkX7_296 imX7_wantEither seX7_wantEither cbX7_wantEither (r_either1 hG hR125q (k := 15) (by decide) (w := 419) rfl (k2 := 16) (by decide) (w2 := 11103) rfl) (shp hG rfl) rfl rfl rfl (Nat.le_of_ble_eq_true rfl) (fun r9 M10 hr9 => ?_)
    rcases hr9 with ⟨hw135q, ex9, hR133q, hf134q⟩ | ⟨hw135q, hv136q, ex9, hR133q, hf134q⟩ | ⟨hw135q, hv136q, hR133q, hf134q⟩
    · rw [ex9]
      refine Go.istore_n (ls' := [some (.ref 49), some (.int 0), some (.int 1)]) dX7_wantEdict_25 (Nat.le_of_ble_eq_true rfl) rfl rfl ?_
      refine Go.aload_n dX7_wantEdict_26 rfl ?_
      refine Go.getI dX7_wantEdict_27 flX7_272 (shp hG rfl) rfl ?_
      refine Go.eqI (y := 1) (hR133q.2.2.2) ?_
      refine Go.if_eq 56 dX7_wantEdict_30 rfl (fun h30 => absurd h30 (by decide)) (fun _ => ?_)
      refine Go.aload_n dX7_wantEdict_33 rfl ?_
      refine Go.getR dX7_wantEdict_34 flX7_16 (shp hG rfl) rfl ?_
      refine Go.iload_n dX7_wantEdict_37 rfl ?_
      refine Go.if_eq 45 dX7_wantEdict_38 rfl (fun _ => ?_) (fun h38 => absurd (by decide) h38)
      refine Go.iconst (v := 1) dX7_wantEdict_45 (by decide) ?_
      refine Go.iload_n dX7_wantEdict_46 rfl ?_
      refine Go.if_eq 54 dX7_wantEdict_47 rfl (fun h47 => absurd h47 (by decide)) (fun _ => ?_)
      refine Go.iconst (v := 1) dX7_wantEdict_50 (by decide) ?_
      refine Go.goto 55 dX7_wantEdict_51 rfl ?_
      refine Go.iast dX7_wantEdict_55 (shp hG rfl) (vin (i := 1) (by decide) (by decide)) ?_
      refine Go.nmM (fun N11 eN11 => ?_)
      refine Go.vret dX7_wantEdict_56 rfl ?_
      have eM : N11 = upi M10 52 1 (bi true) := by rw [eN11, cl1]; rfl
      unfold pEd
      rw [if_neg (by rw [hw127q]; decide), if_pos hv128q]
      unfold pOn
      rw [if_pos hw135q]
      exact ⟨rfl, hR133q.keep (fun j _ _ => by rw [eM, rd_ne (by decide)]) (by rw [eM, rd_ne (by decide)]) (by rw [eM]; rfl), fun _ => by rw [eM]; exact BuM.ed (hU.fm (((hf124q).trans (hf126q)).trans (hf134q))) hu.2.1 (by decide) _, (((hf124q).trans (hf126q)).trans (hf134q)).fi.trans (by rw [eM]; exact fi_up _ _ (by decide))⟩
    · rw [ex9]
      refine Go.istore_n (ls' := [some (.ref 49), some (.int 0), some (.int 0)]) dX7_wantEdict_25 (Nat.le_of_ble_eq_true rfl) rfl rfl ?_
      refine Go.aload_n dX7_wantEdict_26 rfl ?_
      refine Go.getI dX7_wantEdict_27 flX7_272 (shp hG rfl) rfl ?_
      refine Go.eqI (y := 1) (hR133q.2.2.2) ?_
      refine Go.if_eq 56 dX7_wantEdict_30 rfl (fun h30 => absurd h30 (by decide)) (fun _ => ?_)
      refine Go.aload_n dX7_wantEdict_33 rfl ?_
      refine Go.getR dX7_wantEdict_34 flX7_16 (shp hG rfl) rfl ?_
      refine Go.iload_n dX7_wantEdict_37 rfl ?_
      refine Go.if_eq 45 dX7_wantEdict_38 rfl (fun _ => ?_) (fun h38 => absurd (by decide) h38)
      refine Go.iconst (v := 1) dX7_wantEdict_45 (by decide) ?_
      refine Go.iload_n dX7_wantEdict_46 rfl ?_
      refine Go.if_eq 54 dX7_wantEdict_47 rfl (fun _ => ?_) (fun h47 => absurd (by decide) h47)
      refine Go.iconst (v := 0) dX7_wantEdict_54 (by decide) ?_
      refine Go.iast dX7_wantEdict_55 (shp hG rfl) (vin (i := 1) (by decide) (by decide)) ?_
      refine Go.nmM (fun N12 eN12 => ?_)
      refine Go.vret dX7_wantEdict_56 rfl ?_
      have eM : N12 = upi M10 52 1 (bi false) := by rw [eN12, cl1]; rfl
      unfold pEd
      rw [if_neg (by rw [hw127q]; decide), if_pos hv128q]
      unfold pOn
      rw [if_neg (by rw [hw135q]; decide), if_pos hv136q]
      exact ⟨rfl, hR133q.keep (fun j _ _ => by rw [eM, rd_ne (by decide)]) (by rw [eM, rd_ne (by decide)]) (by rw [eM]; rfl), fun _ => by rw [eM]; exact BuM.ed (hU.fm (((hf124q).trans (hf126q)).trans (hf134q))) hu.2.1 (by decide) _, (((hf124q).trans (hf126q)).trans (hf134q)).fi.trans (by rw [eM]; exact fi_up _ _ (by decide))⟩
    · skip
      refine Go.istore_n (ls' := [some (.ref 49), some (.int 0), some (.int r9)]) dX7_wantEdict_25 (Nat.le_of_ble_eq_true rfl) rfl rfl ?_
      refine Go.aload_n dX7_wantEdict_26 rfl ?_
      refine Go.getI dX7_wantEdict_27 flX7_272 (shp hG rfl) rfl ?_
      refine Go.eqI (y := 0) (hR133q.2.2.2) ?_
      refine Go.if_eq 56 dX7_wantEdict_30 rfl (fun _ => ?_) (fun h30 => absurd (by decide) h30)
      refine Go.vret dX7_wantEdict_56 rfl ?_
      unfold pEd
      rw [if_neg (by rw [hw127q]; decide), if_pos hv128q]
      unfold pOn
      rw [if_neg (by rw [hw135q]; decide), if_neg (by rw [hv136q]; decide)]
      exact ⟨rfl, hR133q, fun q => (by cases q), (((hf124q).trans (hf126q)).trans (hf134q)).fi⟩
  · skip
    refine Go.istore_n (ls' := [some (.ref 49), some (.int r3), none]) dX7_wantEdict_14 (Nat.le_of_ble_eq_true rfl) rfl rfl ?_
    refine Go.aload_n dX7_wantEdict_15 rfl ?_
    refine Go.ldc2 dX7_wantEdict_16 klX7_300 ?_
    refine Go.ldc2 dX7_wantEdict_19 klX7_302 ?_
    refine Go.callVI [] dX7_wantEdict_22 lkX7_296 imX7_wantEither seX7_wantEither cbX7_wantEither (r_either0 hG hR125q (k := 15) (by decide) (w := 419) rfl (k2 := 16) (by decide) (w2 := 11103) rfl) (shp hG rfl) rfl rfl rfl (Nat.le_of_ble_eq_true rfl) (fun r13 M14 hr13 => ?_)
    obtain ⟨hR137q, hf138q⟩ := hr13
    refine Go.istore_n (ls' := [some (.ref 49), some (.int r3), some (.int r13)]) dX7_wantEdict_25 (Nat.le_of_ble_eq_true rfl) rfl rfl ?_
    refine Go.aload_n dX7_wantEdict_26 rfl ?_
    refine Go.getI dX7_wantEdict_27 flX7_272 (shp hG rfl) rfl ?_
    refine Go.eqI (y := 0) (hR137q.2.2.2) ?_
    refine Go.if_eq 56 dX7_wantEdict_30 rfl (fun _ => ?_) (fun h30 => absurd (by decide) h30)
    refine Go.vret dX7_wantEdict_56 rfl ?_
    unfold pEd
    rw [if_neg (by rw [hw127q]; decide), if_neg (by rw [hv128q]; decide)]
    exact ⟨rfl, hR137q, fun q => (by cases q), (((hf124q).trans (hf126q)).trans (hf138q)).fi⟩
set_option maxRecDepth 20000 in
theorem r_likes {G : Gt} {d : Nat} {M : Mm} (hG : gS G = SHAPE) {L : Nat} {b : Nat → Int32} {p : Nat} {u : Bu} (hR : Rs M L b true p) (hU : BuM M u) (hu : BuOk u) : ExV G (d + 4) mX7_wantLiking [.ref 49, .int 1] M (fun M' => Im M M' L b (pLik L b true u (tE L b p))) := by
  refine Ex.of (by decide) (Nat.le_of_ble_eq_true rfl) ?_
  show Go G (d + 4) mX7_wantLiking 0 [some (.ref 49), some (.int 1), none, none, none] [] M _
  refine Go.aload_n dX7_wantLiking_0 rfl ?_
  refine Go.callVV [] dX7_wantLiking_1 lkX7_276 imX7_advance seX7_advance cbX7_advance (r_adv hG hR) (shp hG rfl) rfl rfl rfl (Nat.le_of_ble_eq_true rfl) (fun M2 hr1 => ?_)
  obtain ⟨hR139q, hf140q⟩ := hr1
  refine Go.aload_n dX7_wantLiking_4 rfl ?_
  refine Go.ldc2 dX7_wantLiking_5 klX7_290 ?_
  refine Go.callVI [] dX7_wantLiking_8 lkX7_258 imX7_isWord seX7_isWord cbX7_isWord (r_isWord hG hR139q (k := 10) (by decide) (w := 10793230) rfl) (shp hG rfl) rfl rfl rfl (Nat.le_of_ble_eq_true rfl) (fun r3 M4 hr3 => ?_)
  obtain ⟨er3, emr3⟩ := hr3
  rw [emr3]
  clear emr3 M4
  subst er3
  refine Go.if_eq 18 dX7_wantLiking_11 rfl (fun h11 => ?_) (fun h11 => ?_)
  · refine Go.aload_n dX7_wantLiking_18 rfl ?_
    refine Go.ldc2 dX7_wantLiking_19 klX7_279 ?_
    refine Go.callVI [] dX7_wantLiking_22 lkX7_258 imX7_isWord seX7_isWord cbX7_isWord (r_isWord hG hR139q (k := 6) (by decide) (w := 16819) rfl) (shp hG rfl) rfl rfl rfl (Nat.le_of_ble_eq_true rfl) (fun r5 M6 hr5 => ?_)
    obtain ⟨er5, emr5⟩ := hr5
    rw [emr5]
    clear emr5 M6
    subst er5
    refine Go.if_eq 32 dX7_wantLiking_25 rfl (fun h25 => ?_) (fun h25 => ?_)
    · refine Go.aload_n dX7_wantLiking_32 rfl ?_
      refine Go.ldc2 dX7_wantLiking_33 klX7_288 ?_
      refine Go.callVI [] dX7_wantLiking_36 lkX7_258 imX7_isWord seX7_isWord cbX7_isWord (r_isWord hG hR139q (k := 7) (by decide) (w := 10132457) rfl) (shp hG rfl) rfl rfl rfl (Nat.le_of_ble_eq_true rfl) (fun r7 M8 hr7 => ?_)
      obtain ⟨er7, emr7⟩ := hr7
      rw [emr7]
      clear emr7 M8
      subst er7
      refine Go.if_eq 46 dX7_wantLiking_39 rfl (fun h39 => ?_) (fun h39 => ?_)
      · refine Go.iconst (v := -1) dX7_wantLiking_46 (by decide) ?_
        refine Go.istore_n (ls' := [some (.ref 49), some (.int 1), some (.int ((-1))), none, none]) dX7_wantLiking_47 (Nat.le_of_ble_eq_true rfl) rfl rfl ?_
        refine Go.aload_n dX7_wantLiking_48 rfl ?_
        refine Go.iload_n dX7_wantLiking_49 rfl ?_
        refine Go.if_lt 57 dX7_wantLiking_50 rfl (fun _ => ?_) (fun h50 => absurd (by decide) h50)
        refine Go.iconst (v := 0) dX7_wantLiking_57 (by decide) ?_
        refine Go.putI dX7_wantLiking_58 fpX7_272 (shp hG rfl) rfl (by decide) (by decide) ?_
        refine Go.nmM (fun N9 eN9 => ?_)
        have hR141q : Rs N9 L b false (tE L b p) := by rw [eN9]; exact hR139q.put false
        have hf142q : Fm M2 N9 := by rw [eN9]; exact Fm.good _ _
        refine Go.aload_n dX7_wantLiking_61 rfl ?_
        refine Go.getI dX7_wantLiking_62 flX7_272 (shp hG rfl) rfl ?_
        refine Go.eqI (y := 0) (hR141q.2.2.2) ?_
        refine Go.if_eq 72 dX7_wantLiking_65 rfl (fun _ => ?_) (fun h65 => absurd (by decide) h65)
        refine Go.aload_n dX7_wantLiking_72 rfl ?_
        refine Go.iconst (v := 0) dX7_wantLiking_73 (by decide) ?_
        refine Go.iload_n dX7_wantLiking_74 rfl ?_
        refine Go.callSI [.int 0, .ref 49] dX7_wantLiking_75 lkX7_107 stX7_mostOf cbX7_mostOf (m_mostOf ((-1))) rfl rfl (Nat.le_of_ble_eq_true rfl) (fun r10 M11 hr10 => ?_)
        obtain ⟨er10, emr10⟩ := hr10
        rw [emr10]
        clear emr10 M11
        subst er10
        refine Go.eqI (y := 3) (by decide) ?_
        refine Go.callVI [] dX7_wantLiking_78 lkX7_285 imX7_wantNumber seX7_wantNumber cbX7_wantNumber (r_num0 hG hR141q 3) (shp hG rfl) rfl rfl rfl (Nat.le_of_ble_eq_true rfl) (fun r12 M13 hr12 => ?_)
        obtain ⟨hR143q, hf144q⟩ := hr12
        refine Go.istore_n (ls' := [some (.ref 49), some (.int 1), some (.int ((-1))), some (.int r12), none]) dX7_wantLiking_81 (Nat.le_of_ble_eq_true rfl) rfl rfl ?_
        refine Go.aload_n dX7_wantLiking_82 rfl ?_
        refine Go.iconst (v := 0) dX7_wantLiking_83 (by decide) ?_
        refine Go.bipush (v := 9) dX7_wantLiking_84 (by decide) ?_
        refine Go.callVI [] dX7_wantLiking_86 lkX7_285 imX7_wantNumber seX7_wantNumber cbX7_wantNumber (r_num0 hG hR143q 9) (shp hG rfl) rfl rfl rfl (Nat.le_of_ble_eq_true rfl) (fun r14 M15 hr14 => ?_)
        obtain ⟨hR145q, hf146q⟩ := hr14
        refine Go.istore (ls' := [some (.ref 49), some (.int 1), some (.int ((-1))), some (.int r12), some (.int r14)]) dX7_wantLiking_89 (Nat.le_of_ble_eq_true rfl) rfl rfl ?_
        refine Go.aload_n dX7_wantLiking_91 rfl ?_
        refine Go.getI dX7_wantLiking_92 flX7_272 (shp hG rfl) rfl ?_
        refine Go.eqI (y := 0) (hR145q.2.2.2) ?_
        refine Go.if_eq 121 dX7_wantLiking_95 rfl (fun _ => ?_) (fun h95 => absurd (by decide) h95)
        refine Go.vret dX7_wantLiking_121 rfl ?_
        have hwh : whtF L b (tE L b p) = none := by
          unfold whtF
          simp only [bi_0.mp h11, bi_0.mp h25, bi_0.mp h39, if_true, Bool.false_eq_true, if_false]
        unfold pLik
        rw [hwh]
        exact ⟨rfl, hR145q, fun q => (by cases q), ((((hf140q).trans (hf142q)).trans (hf144q)).trans (hf146q)).fi⟩
      · refine Go.iconst (v := 2) dX7_wantLiking_42 (by decide) ?_
        refine Go.goto 47 dX7_wantLiking_43 rfl ?_
        refine Go.istore_n (ls' := [some (.ref 49), some (.int 1), some (.int 2), none, none]) dX7_wantLiking_47 (Nat.le_of_ble_eq_true rfl) rfl rfl ?_
        refine Go.aload_n dX7_wantLiking_48 rfl ?_
        refine Go.iload_n dX7_wantLiking_49 rfl ?_
        refine Go.if_lt 57 dX7_wantLiking_50 rfl (fun h50 => absurd h50 (by decide)) (fun _ => ?_)
        refine Go.iconst (v := 1) dX7_wantLiking_53 (by decide) ?_
        refine Go.goto 58 dX7_wantLiking_54 rfl ?_
        refine Go.putI dX7_wantLiking_58 fpX7_272 (shp hG rfl) rfl (by decide) (by decide) ?_
        refine Go.nmM (fun N16 eN16 => ?_)
        have hR147q : Rs N16 L b true (tE L b p) := by rw [eN16]; exact hR139q.put true
        have hf148q : Fm M2 N16 := by rw [eN16]; exact Fm.good _ _
        refine Go.aload_n dX7_wantLiking_61 rfl ?_
        refine Go.getI dX7_wantLiking_62 flX7_272 (shp hG rfl) rfl ?_
        refine Go.eqI (y := 1) (hR147q.2.2.2) ?_
        refine Go.if_eq 72 dX7_wantLiking_65 rfl (fun h65 => absurd h65 (by decide)) (fun _ => ?_)
        refine Go.aload_n dX7_wantLiking_68 rfl ?_
        refine Go.callVV [] dX7_wantLiking_69 lkX7_276 imX7_advance seX7_advance cbX7_advance (r_adv hG hR147q) (shp hG rfl) rfl rfl rfl (Nat.le_of_ble_eq_true rfl) (fun M18 hr17 => ?_)
        obtain ⟨hR149q, hf150q⟩ := hr17
        refine Go.aload_n dX7_wantLiking_72 rfl ?_
        refine Go.iconst (v := 0) dX7_wantLiking_73 (by decide) ?_
        refine Go.iload_n dX7_wantLiking_74 rfl ?_
        refine Go.callSI [.int 0, .ref 49] dX7_wantLiking_75 lkX7_107 stX7_mostOf cbX7_mostOf (m_mostOf 2) rfl rfl (Nat.le_of_ble_eq_true rfl) (fun r19 M20 hr19 => ?_)
        obtain ⟨er19, emr19⟩ := hr19
        rw [emr19]
        clear emr19 M20
        subst er19
        refine Go.eqI (y := 3) (by decide) ?_
        refine Go.callVI [] dX7_wantLiking_78 lkX7_285 imX7_wantNumber seX7_wantNumber cbX7_wantNumber (r_num1 hG hR149q (m := 3) (by omega)) (shp hG rfl) rfl rfl rfl (Nat.le_of_ble_eq_true rfl) (fun r21 M22 hr21 => ?_)
        rcases hr21 with ⟨hn153q, ex9, hR151q, hf152q⟩ | ⟨hn153q, hR151q, hf152q⟩
        · rw [ex9]
          have hn153ql := (nOk_le hn153q).2
          refine Go.istore_n (ls' := [some (.ref 49), some (.int 1), some (.int 2), some (.int (nI (tV L b (tE L b (tE L b p))))), none]) dX7_wantLiking_81 (Nat.le_of_ble_eq_true rfl) rfl rfl ?_
          refine Go.aload_n dX7_wantLiking_82 rfl ?_
          refine Go.iconst (v := 0) dX7_wantLiking_83 (by decide) ?_
          refine Go.bipush (v := 9) dX7_wantLiking_84 (by decide) ?_
          refine Go.callVI [] dX7_wantLiking_86 lkX7_285 imX7_wantNumber seX7_wantNumber cbX7_wantNumber (r_num1 hG hR151q (m := 9) (by omega)) (shp hG rfl) rfl rfl rfl (Nat.le_of_ble_eq_true rfl) (fun r23 M24 hr23 => ?_)
          rcases hr23 with ⟨hn156q, ex9, hR154q, hf155q⟩ | ⟨hn156q, hR154q, hf155q⟩
          · rw [ex9]
            have hn156ql := (nOk_le hn156q).2
            refine Go.istore (ls' := [some (.ref 49), some (.int 1), some (.int 2), some (.int (nI (tV L b (tE L b (tE L b p))))), some (.int (nI (tV L b (tE L b (tE L b (tE L b p))))))]) dX7_wantLiking_89 (Nat.le_of_ble_eq_true rfl) rfl rfl ?_
            refine Go.aload_n dX7_wantLiking_91 rfl ?_
            refine Go.getI dX7_wantLiking_92 flX7_272 (shp hG rfl) rfl ?_
            refine Go.eqI (y := 1) (hR154q.2.2.2) ?_
            refine Go.if_eq 121 dX7_wantLiking_95 rfl (fun h95 => absurd h95 (by decide)) (fun _ => ?_)
            refine Go.aload_n dX7_wantLiking_98 rfl ?_
            refine Go.getR dX7_wantLiking_99 flX7_13 (shp hG rfl) rfl ?_
            refine Go.iload_n dX7_wantLiking_102 rfl ?_
            refine Go.iload_n dX7_wantLiking_103 rfl ?_
            refine Go.callSI [.ref 51] dX7_wantLiking_104 lkX7_110 stX7_likedAt cbX7_likedAt (m_likedAt 2 (nI (tV L b (tE L b (tE L b p))))) rfl rfl (Nat.le_of_ble_eq_true rfl) (fun r25 M26 hr25 => ?_)
            obtain ⟨er25, emr25⟩ := hr25
            rw [emr25]
            clear emr25 M26
            subst er25
            refine Go.eqI (y := nI (13 + tV L b (tE L b (tE L b p)))) (by rw [if_neg (by decide), if_neg (by decide)]; exact nI_add 13 _) ?_
            refine Go.iload_n dX7_wantLiking_107 rfl ?_
            refine Go.if_eq 116 dX7_wantLiking_108 rfl (fun h108 => absurd h108 (by decide)) (fun _ => ?_)
            refine Go.iload dX7_wantLiking_111 rfl ?_
            refine Go.goto 120 dX7_wantLiking_113 rfl ?_
            refine Go.iast dX7_wantLiking_120 (shp hG rfl) (vin (by omega) (by decide)) ?_
            refine Go.nmM (fun N27 eN27 => ?_)
            refine Go.vret dX7_wantLiking_121 rfl ?_
            have eM : N27 = upi M24 51 (atL 2 + tV L b (tE L b (tE L b p))) (lkv true (tV L b (tE L b (tE L b (tE L b p))))) := by rw [eN27, ncl (by omega)]; rfl
            have hwh : whtF L b (tE L b p) = some 2 := by
              unfold whtF
              simp only [bi_0.mp h11, bi_0.mp h25, bi_n0.mp h39, if_true, Bool.false_eq_true, if_false]
            unfold pLik
            rw [hwh]
            show _ ∧ Im _ _ _ _ (if nOk L b (tE L b (tE L b p)) (4 - 1) then _ else _)
            rw [if_pos hn153q, if_pos hn156q]
            exact ⟨rfl, hR154q.keep (fun j _ _ => by rw [eM, rd_ne (by decide)]) (by rw [eM, rd_ne (by decide)]) (by rw [eM]; rfl), fun _ => by rw [eM]; exact BuM.lik (hU.fm (((((hf140q).trans (hf148q)).trans (hf150q)).trans (hf152q)).trans (hf155q))) (by decide) (show tV L b (tE L b (tE L b p)) < 4 by omega) _, (((((hf140q).trans (hf148q)).trans (hf150q)).trans (hf152q)).trans (hf155q)).fi.trans (by rw [eM]; exact fi_up _ _ (by decide))⟩
          · skip
            refine Go.istore (ls' := [some (.ref 49), some (.int 1), some (.int 2), some (.int (nI (tV L b (tE L b (tE L b p))))), some (.int r23)]) dX7_wantLiking_89 (Nat.le_of_ble_eq_true rfl) rfl rfl ?_
            refine Go.aload_n dX7_wantLiking_91 rfl ?_
            refine Go.getI dX7_wantLiking_92 flX7_272 (shp hG rfl) rfl ?_
            refine Go.eqI (y := 0) (hR154q.2.2.2) ?_
            refine Go.if_eq 121 dX7_wantLiking_95 rfl (fun _ => ?_) (fun h95 => absurd (by decide) h95)
            refine Go.vret dX7_wantLiking_121 rfl ?_
            have hwh : whtF L b (tE L b p) = some 2 := by
              unfold whtF
              simp only [bi_0.mp h11, bi_0.mp h25, bi_n0.mp h39, if_true, Bool.false_eq_true, if_false]
            unfold pLik
            rw [hwh]
            show _ ∧ Im _ _ _ _ (if nOk L b (tE L b (tE L b p)) (4 - 1) then _ else _)
            rw [if_pos hn153q, if_neg (by rw [hn156q]; decide)]
            exact ⟨rfl, hR154q, fun q => (by cases q), (((((hf140q).trans (hf148q)).trans (hf150q)).trans (hf152q)).trans (hf155q)).fi⟩
        · skip
          refine Go.istore_n (ls' := [some (.ref 49), some (.int 1), some (.int 2), some (.int r21), none]) dX7_wantLiking_81 (Nat.le_of_ble_eq_true rfl) rfl rfl ?_
          refine Go.aload_n dX7_wantLiking_82 rfl ?_
          refine Go.iconst (v := 0) dX7_wantLiking_83 (by decide) ?_
          refine Go.bipush (v := 9) dX7_wantLiking_84 (by decide) ?_
          refine Go.callVI [] dX7_wantLiking_86 lkX7_285 imX7_wantNumber seX7_wantNumber cbX7_wantNumber (r_num0 hG hR151q 9) (shp hG rfl) rfl rfl rfl (Nat.le_of_ble_eq_true rfl) (fun r28 M29 hr28 => ?_)
          obtain ⟨hR157q, hf158q⟩ := hr28
          refine Go.istore (ls' := [some (.ref 49), some (.int 1), some (.int 2), some (.int r21), some (.int r28)]) dX7_wantLiking_89 (Nat.le_of_ble_eq_true rfl) rfl rfl ?_
          refine Go.aload_n dX7_wantLiking_91 rfl ?_
          refine Go.getI dX7_wantLiking_92 flX7_272 (shp hG rfl) rfl ?_
          refine Go.eqI (y := 0) (hR157q.2.2.2) ?_
          refine Go.if_eq 121 dX7_wantLiking_95 rfl (fun _ => ?_) (fun h95 => absurd (by decide) h95)
          refine Go.vret dX7_wantLiking_121 rfl ?_
          have hwh : whtF L b (tE L b p) = some 2 := by
            unfold whtF
            simp only [bi_0.mp h11, bi_0.mp h25, bi_n0.mp h39, if_true, Bool.false_eq_true, if_false]
          unfold pLik
          rw [hwh]
          show _ ∧ Im _ _ _ _ (if nOk L b (tE L b (tE L b p)) (4 - 1) then _ else _)
          rw [if_neg (by rw [hn153q]; decide)]
          exact ⟨rfl, hR157q, fun q => (by cases q), (((((hf140q).trans (hf148q)).trans (hf150q)).trans (hf152q)).trans (hf158q)).fi⟩
    · refine Go.iconst (v := 1) dX7_wantLiking_28 (by decide) ?_
      refine Go.goto 47 dX7_wantLiking_29 rfl ?_
      refine Go.istore_n (ls' := [some (.ref 49), some (.int 1), some (.int 1), none, none]) dX7_wantLiking_47 (Nat.le_of_ble_eq_true rfl) rfl rfl ?_
      refine Go.aload_n dX7_wantLiking_48 rfl ?_
      refine Go.iload_n dX7_wantLiking_49 rfl ?_
      refine Go.if_lt 57 dX7_wantLiking_50 rfl (fun h50 => absurd h50 (by decide)) (fun _ => ?_)
      refine Go.iconst (v := 1) dX7_wantLiking_53 (by decide) ?_
      refine Go.goto 58 dX7_wantLiking_54 rfl ?_
      refine Go.putI dX7_wantLiking_58 fpX7_272 (shp hG rfl) rfl (by decide) (by decide) ?_
      refine Go.nmM (fun N30 eN30 => ?_)
      have hR159q : Rs N30 L b true (tE L b p) := by rw [eN30]; exact hR139q.put true
      have hf160q : Fm M2 N30 := by rw [eN30]; exact Fm.good _ _
      refine Go.aload_n dX7_wantLiking_61 rfl ?_
      refine Go.getI dX7_wantLiking_62 flX7_272 (shp hG rfl) rfl ?_
      refine Go.eqI (y := 1) (hR159q.2.2.2) ?_
      refine Go.if_eq 72 dX7_wantLiking_65 rfl (fun h65 => absurd h65 (by decide)) (fun _ => ?_)
      refine Go.aload_n dX7_wantLiking_68 rfl ?_
      refine Go.callVV [] dX7_wantLiking_69 lkX7_276 imX7_advance seX7_advance cbX7_advance (r_adv hG hR159q) (shp hG rfl) rfl rfl rfl (Nat.le_of_ble_eq_true rfl) (fun M32 hr31 => ?_)
      obtain ⟨hR161q, hf162q⟩ := hr31
      refine Go.aload_n dX7_wantLiking_72 rfl ?_
      refine Go.iconst (v := 0) dX7_wantLiking_73 (by decide) ?_
      refine Go.iload_n dX7_wantLiking_74 rfl ?_
      refine Go.callSI [.int 0, .ref 49] dX7_wantLiking_75 lkX7_107 stX7_mostOf cbX7_mostOf (m_mostOf 1) rfl rfl (Nat.le_of_ble_eq_true rfl) (fun r33 M34 hr33 => ?_)
      obtain ⟨er33, emr33⟩ := hr33
      rw [emr33]
      clear emr33 M34
      subst er33
      refine Go.eqI (y := 4) (by decide) ?_
      refine Go.callVI [] dX7_wantLiking_78 lkX7_285 imX7_wantNumber seX7_wantNumber cbX7_wantNumber (r_num1 hG hR161q (m := 4) (by omega)) (shp hG rfl) rfl rfl rfl (Nat.le_of_ble_eq_true rfl) (fun r35 M36 hr35 => ?_)
      rcases hr35 with ⟨hn165q, ex9, hR163q, hf164q⟩ | ⟨hn165q, hR163q, hf164q⟩
      · rw [ex9]
        have hn165ql := (nOk_le hn165q).2
        refine Go.istore_n (ls' := [some (.ref 49), some (.int 1), some (.int 1), some (.int (nI (tV L b (tE L b (tE L b p))))), none]) dX7_wantLiking_81 (Nat.le_of_ble_eq_true rfl) rfl rfl ?_
        refine Go.aload_n dX7_wantLiking_82 rfl ?_
        refine Go.iconst (v := 0) dX7_wantLiking_83 (by decide) ?_
        refine Go.bipush (v := 9) dX7_wantLiking_84 (by decide) ?_
        refine Go.callVI [] dX7_wantLiking_86 lkX7_285 imX7_wantNumber seX7_wantNumber cbX7_wantNumber (r_num1 hG hR163q (m := 9) (by omega)) (shp hG rfl) rfl rfl rfl (Nat.le_of_ble_eq_true rfl) (fun r37 M38 hr37 => ?_)
        rcases hr37 with ⟨hn168q, ex9, hR166q, hf167q⟩ | ⟨hn168q, hR166q, hf167q⟩
        · rw [ex9]
          have hn168ql := (nOk_le hn168q).2
          refine Go.istore (ls' := [some (.ref 49), some (.int 1), some (.int 1), some (.int (nI (tV L b (tE L b (tE L b p))))), some (.int (nI (tV L b (tE L b (tE L b (tE L b p))))))]) dX7_wantLiking_89 (Nat.le_of_ble_eq_true rfl) rfl rfl ?_
          refine Go.aload_n dX7_wantLiking_91 rfl ?_
          refine Go.getI dX7_wantLiking_92 flX7_272 (shp hG rfl) rfl ?_
          refine Go.eqI (y := 1) (hR166q.2.2.2) ?_
          refine Go.if_eq 121 dX7_wantLiking_95 rfl (fun h95 => absurd h95 (by decide)) (fun _ => ?_)
          refine Go.aload_n dX7_wantLiking_98 rfl ?_
          refine Go.getR dX7_wantLiking_99 flX7_13 (shp hG rfl) rfl ?_
          refine Go.iload_n dX7_wantLiking_102 rfl ?_
          refine Go.iload_n dX7_wantLiking_103 rfl ?_
          refine Go.callSI [.ref 51] dX7_wantLiking_104 lkX7_110 stX7_likedAt cbX7_likedAt (m_likedAt 1 (nI (tV L b (tE L b (tE L b p))))) rfl rfl (Nat.le_of_ble_eq_true rfl) (fun r39 M40 hr39 => ?_)
          obtain ⟨er39, emr39⟩ := hr39
          rw [emr39]
          clear emr39 M40
          subst er39
          refine Go.eqI (y := nI (8 + tV L b (tE L b (tE L b p)))) (by rw [if_neg (by decide), if_pos (by decide)]; exact nI_add 8 _) ?_
          refine Go.iload_n dX7_wantLiking_107 rfl ?_
          refine Go.if_eq 116 dX7_wantLiking_108 rfl (fun h108 => absurd h108 (by decide)) (fun _ => ?_)
          refine Go.iload dX7_wantLiking_111 rfl ?_
          refine Go.goto 120 dX7_wantLiking_113 rfl ?_
          refine Go.iast dX7_wantLiking_120 (shp hG rfl) (vin (by omega) (by decide)) ?_
          refine Go.nmM (fun N41 eN41 => ?_)
          refine Go.vret dX7_wantLiking_121 rfl ?_
          have eM : N41 = upi M38 51 (atL 1 + tV L b (tE L b (tE L b p))) (lkv true (tV L b (tE L b (tE L b (tE L b p))))) := by rw [eN41, ncl (by omega)]; rfl
          have hwh : whtF L b (tE L b p) = some 1 := by
            unfold whtF
            simp only [bi_0.mp h11, bi_n0.mp h25, if_true, Bool.false_eq_true, if_false]
          unfold pLik
          rw [hwh]
          show _ ∧ Im _ _ _ _ (if nOk L b (tE L b (tE L b p)) (5 - 1) then _ else _)
          rw [if_pos hn165q, if_pos hn168q]
          exact ⟨rfl, hR166q.keep (fun j _ _ => by rw [eM, rd_ne (by decide)]) (by rw [eM, rd_ne (by decide)]) (by rw [eM]; rfl), fun _ => by rw [eM]; exact BuM.lik (hU.fm (((((hf140q).trans (hf160q)).trans (hf162q)).trans (hf164q)).trans (hf167q))) (by decide) (show tV L b (tE L b (tE L b p)) < 5 by omega) _, (((((hf140q).trans (hf160q)).trans (hf162q)).trans (hf164q)).trans (hf167q)).fi.trans (by rw [eM]; exact fi_up _ _ (by decide))⟩
        · skip
          refine Go.istore (ls' := [some (.ref 49), some (.int 1), some (.int 1), some (.int (nI (tV L b (tE L b (tE L b p))))), some (.int r37)]) dX7_wantLiking_89 (Nat.le_of_ble_eq_true rfl) rfl rfl ?_
          refine Go.aload_n dX7_wantLiking_91 rfl ?_
          refine Go.getI dX7_wantLiking_92 flX7_272 (shp hG rfl) rfl ?_
          refine Go.eqI (y := 0) (hR166q.2.2.2) ?_
          refine Go.if_eq 121 dX7_wantLiking_95 rfl (fun _ => ?_) (fun h95 => absurd (by decide) h95)
          refine Go.vret dX7_wantLiking_121 rfl ?_
          have hwh : whtF L b (tE L b p) = some 1 := by
            unfold whtF
            simp only [bi_0.mp h11, bi_n0.mp h25, if_true, Bool.false_eq_true, if_false]
          unfold pLik
          rw [hwh]
          show _ ∧ Im _ _ _ _ (if nOk L b (tE L b (tE L b p)) (5 - 1) then _ else _)
          rw [if_pos hn165q, if_neg (by rw [hn168q]; decide)]
          exact ⟨rfl, hR166q, fun q => (by cases q), (((((hf140q).trans (hf160q)).trans (hf162q)).trans (hf164q)).trans (hf167q)).fi⟩
      · skip
        refine Go.istore_n (ls' := [some (.ref 49), some (.int 1), some (.int 1), some (.int r35), none]) dX7_wantLiking_81 (Nat.le_of_ble_eq_true rfl) rfl rfl ?_
        refine Go.aload_n dX7_wantLiking_82 rfl ?_
        refine Go.iconst (v := 0) dX7_wantLiking_83 (by decide) ?_
        refine Go.bipush (v := 9) dX7_wantLiking_84 (by decide) ?_
        refine Go.callVI [] dX7_wantLiking_86 lkX7_285 imX7_wantNumber seX7_wantNumber cbX7_wantNumber (r_num0 hG hR163q 9) (shp hG rfl) rfl rfl rfl (Nat.le_of_ble_eq_true rfl) (fun r42 M43 hr42 => ?_)
        obtain ⟨hR169q, hf170q⟩ := hr42
        refine Go.istore (ls' := [some (.ref 49), some (.int 1), some (.int 1), some (.int r35), some (.int r42)]) dX7_wantLiking_89 (Nat.le_of_ble_eq_true rfl) rfl rfl ?_
        refine Go.aload_n dX7_wantLiking_91 rfl ?_
        refine Go.getI dX7_wantLiking_92 flX7_272 (shp hG rfl) rfl ?_
        refine Go.eqI (y := 0) (hR169q.2.2.2) ?_
        refine Go.if_eq 121 dX7_wantLiking_95 rfl (fun _ => ?_) (fun h95 => absurd (by decide) h95)
        refine Go.vret dX7_wantLiking_121 rfl ?_
        have hwh : whtF L b (tE L b p) = some 1 := by
          unfold whtF
          simp only [bi_0.mp h11, bi_n0.mp h25, if_true, Bool.false_eq_true, if_false]
        unfold pLik
        rw [hwh]
        show _ ∧ Im _ _ _ _ (if nOk L b (tE L b (tE L b p)) (5 - 1) then _ else _)
        rw [if_neg (by rw [hn165q]; decide)]
        exact ⟨rfl, hR169q, fun q => (by cases q), (((((hf140q).trans (hf160q)).trans (hf162q)).trans (hf164q)).trans (hf170q)).fi⟩
  · refine Go.iconst (v := 0) dX7_wantLiking_14 (by decide) ?_
    refine Go.goto 47 dX7_wantLiking_15 rfl ?_
    refine Go.istore_n (ls' := [some (.ref 49), some (.int 1), some (.int 0), none, none]) dX7_wantLiking_47 (Nat.le_of_ble_eq_true rfl) rfl rfl ?_
    refine Go.aload_n dX7_wantLiking_48 rfl ?_
    refine Go.iload_n dX7_wantLiking_49 rfl ?_
    refine Go.if_lt 57 dX7_wantLiking_50 rfl (fun h50 => absurd h50 (by decide)) (fun _ => ?_)
    refine Go.iconst (v := 1) dX7_wantLiking_53 (by decide) ?_
    refine Go.goto 58 dX7_wantLiking_54 rfl ?_
    refine Go.putI dX7_wantLiking_58 fpX7_272 (shp hG rfl) rfl (by decide) (by decide) ?_
    refine Go.nmM (fun N44 eN44 => ?_)
    have hR171q : Rs N44 L b true (tE L b p) := by rw [eN44]; exact hR139q.put true
    have hf172q : Fm M2 N44 := by rw [eN44]; exact Fm.good _ _
    refine Go.aload_n dX7_wantLiking_61 rfl ?_
    refine Go.getI dX7_wantLiking_62 flX7_272 (shp hG rfl) rfl ?_
    refine Go.eqI (y := 1) (hR171q.2.2.2) ?_
    refine Go.if_eq 72 dX7_wantLiking_65 rfl (fun h65 => absurd h65 (by decide)) (fun _ => ?_)
    refine Go.aload_n dX7_wantLiking_68 rfl ?_
    refine Go.callVV [] dX7_wantLiking_69 lkX7_276 imX7_advance seX7_advance cbX7_advance (r_adv hG hR171q) (shp hG rfl) rfl rfl rfl (Nat.le_of_ble_eq_true rfl) (fun M46 hr45 => ?_)
    obtain ⟨hR173q, hf174q⟩ := hr45
    refine Go.aload_n dX7_wantLiking_72 rfl ?_
    refine Go.iconst (v := 0) dX7_wantLiking_73 (by decide) ?_
    refine Go.iload_n dX7_wantLiking_74 rfl ?_
    refine Go.callSI [.int 0, .ref 49] dX7_wantLiking_75 lkX7_107 stX7_mostOf cbX7_mostOf (m_mostOf 0) rfl rfl (Nat.le_of_ble_eq_true rfl) (fun r47 M48 hr47 => ?_)
    obtain ⟨er47, emr47⟩ := hr47
    rw [emr47]
    clear emr47 M48
    subst er47
    refine Go.eqI (y := 7) (by decide) ?_
    refine Go.callVI [] dX7_wantLiking_78 lkX7_285 imX7_wantNumber seX7_wantNumber cbX7_wantNumber (r_num1 hG hR173q (m := 7) (by omega)) (shp hG rfl) rfl rfl rfl (Nat.le_of_ble_eq_true rfl) (fun r49 M50 hr49 => ?_)
    rcases hr49 with ⟨hn177q, ex9, hR175q, hf176q⟩ | ⟨hn177q, hR175q, hf176q⟩
    · rw [ex9]
      have hn177ql := (nOk_le hn177q).2
      refine Go.istore_n (ls' := [some (.ref 49), some (.int 1), some (.int 0), some (.int (nI (tV L b (tE L b (tE L b p))))), none]) dX7_wantLiking_81 (Nat.le_of_ble_eq_true rfl) rfl rfl ?_
      refine Go.aload_n dX7_wantLiking_82 rfl ?_
      refine Go.iconst (v := 0) dX7_wantLiking_83 (by decide) ?_
      refine Go.bipush (v := 9) dX7_wantLiking_84 (by decide) ?_
      refine Go.callVI [] dX7_wantLiking_86 lkX7_285 imX7_wantNumber seX7_wantNumber cbX7_wantNumber (r_num1 hG hR175q (m := 9) (by omega)) (shp hG rfl) rfl rfl rfl (Nat.le_of_ble_eq_true rfl) (fun r51 M52 hr51 => ?_)
      rcases hr51 with ⟨hn180q, ex9, hR178q, hf179q⟩ | ⟨hn180q, hR178q, hf179q⟩
      · rw [ex9]
        have hn180ql := (nOk_le hn180q).2
        refine Go.istore (ls' := [some (.ref 49), some (.int 1), some (.int 0), some (.int (nI (tV L b (tE L b (tE L b p))))), some (.int (nI (tV L b (tE L b (tE L b (tE L b p))))))]) dX7_wantLiking_89 (Nat.le_of_ble_eq_true rfl) rfl rfl ?_
        refine Go.aload_n dX7_wantLiking_91 rfl ?_
        refine Go.getI dX7_wantLiking_92 flX7_272 (shp hG rfl) rfl ?_
        refine Go.eqI (y := 1) (hR178q.2.2.2) ?_
        refine Go.if_eq 121 dX7_wantLiking_95 rfl (fun h95 => absurd h95 (by decide)) (fun _ => ?_)
        refine Go.aload_n dX7_wantLiking_98 rfl ?_
        refine Go.getR dX7_wantLiking_99 flX7_13 (shp hG rfl) rfl ?_
        refine Go.iload_n dX7_wantLiking_102 rfl ?_
        refine Go.iload_n dX7_wantLiking_103 rfl ?_
        refine Go.callSI [.ref 51] dX7_wantLiking_104 lkX7_110 stX7_likedAt cbX7_likedAt (m_likedAt 0 (nI (tV L b (tE L b (tE L b p))))) rfl rfl (Nat.le_of_ble_eq_true rfl) (fun r53 M54 hr53 => ?_)
        obtain ⟨er53, emr53⟩ := hr53
        rw [emr53]
        clear emr53 M54
        subst er53
        refine Go.eqI (y := nI (0 + tV L b (tE L b (tE L b p)))) (by rw [if_pos (by decide), Nat.zero_add]) ?_
        refine Go.iload_n dX7_wantLiking_107 rfl ?_
        refine Go.if_eq 116 dX7_wantLiking_108 rfl (fun h108 => absurd h108 (by decide)) (fun _ => ?_)
        refine Go.iload dX7_wantLiking_111 rfl ?_
        refine Go.goto 120 dX7_wantLiking_113 rfl ?_
        refine Go.iast dX7_wantLiking_120 (shp hG rfl) (vin (by omega) (by decide)) ?_
        refine Go.nmM (fun N55 eN55 => ?_)
        refine Go.vret dX7_wantLiking_121 rfl ?_
        have eM : N55 = upi M52 51 (atL 0 + tV L b (tE L b (tE L b p))) (lkv true (tV L b (tE L b (tE L b (tE L b p))))) := by rw [eN55, ncl (by omega)]; rfl
        have hwh : whtF L b (tE L b p) = some 0 := by
          unfold whtF
          simp only [bi_n0.mp h11, if_true, Bool.false_eq_true, if_false]
        unfold pLik
        rw [hwh]
        show _ ∧ Im _ _ _ _ (if nOk L b (tE L b (tE L b p)) (8 - 1) then _ else _)
        rw [if_pos hn177q, if_pos hn180q]
        exact ⟨rfl, hR178q.keep (fun j _ _ => by rw [eM, rd_ne (by decide)]) (by rw [eM, rd_ne (by decide)]) (by rw [eM]; rfl), fun _ => by rw [eM]; exact BuM.lik (hU.fm (((((hf140q).trans (hf172q)).trans (hf174q)).trans (hf176q)).trans (hf179q))) (by decide) (show tV L b (tE L b (tE L b p)) < 8 by omega) _, (((((hf140q).trans (hf172q)).trans (hf174q)).trans (hf176q)).trans (hf179q)).fi.trans (by rw [eM]; exact fi_up _ _ (by decide))⟩
      · skip
        refine Go.istore (ls' := [some (.ref 49), some (.int 1), some (.int 0), some (.int (nI (tV L b (tE L b (tE L b p))))), some (.int r51)]) dX7_wantLiking_89 (Nat.le_of_ble_eq_true rfl) rfl rfl ?_
        refine Go.aload_n dX7_wantLiking_91 rfl ?_
        refine Go.getI dX7_wantLiking_92 flX7_272 (shp hG rfl) rfl ?_
        refine Go.eqI (y := 0) (hR178q.2.2.2) ?_
        refine Go.if_eq 121 dX7_wantLiking_95 rfl (fun _ => ?_) (fun h95 => absurd (by decide) h95)
        refine Go.vret dX7_wantLiking_121 rfl ?_
        have hwh : whtF L b (tE L b p) = some 0 := by
          unfold whtF
          simp only [bi_n0.mp h11, if_true, Bool.false_eq_true, if_false]
        unfold pLik
        rw [hwh]
        show _ ∧ Im _ _ _ _ (if nOk L b (tE L b (tE L b p)) (8 - 1) then _ else _)
        rw [if_pos hn177q, if_neg (by rw [hn180q]; decide)]
        exact ⟨rfl, hR178q, fun q => (by cases q), (((((hf140q).trans (hf172q)).trans (hf174q)).trans (hf176q)).trans (hf179q)).fi⟩
    · skip
      refine Go.istore_n (ls' := [some (.ref 49), some (.int 1), some (.int 0), some (.int r49), none]) dX7_wantLiking_81 (Nat.le_of_ble_eq_true rfl) rfl rfl ?_
      refine Go.aload_n dX7_wantLiking_82 rfl ?_
      refine Go.iconst (v := 0) dX7_wantLiking_83 (by decide) ?_
      refine Go.bipush (v := 9) dX7_wantLiking_84 (by decide) ?_
      refine Go.callVI [] dX7_wantLiking_86 lkX7_285 imX7_wantNumber seX7_wantNumber cbX7_wantNumber (r_num0 hG hR175q 9) (shp hG rfl) rfl rfl rfl (Nat.le_of_ble_eq_true rfl) (fun r56 M57 hr56 => ?_)
      obtain ⟨hR181q, hf182q⟩ := hr56
      refine Go.istore (ls' := [some (.ref 49), some (.int 1), some (.int 0), some (.int r49), some (.int r56)]) dX7_wantLiking_89 (Nat.le_of_ble_eq_true rfl) rfl rfl ?_
      refine Go.aload_n dX7_wantLiking_91 rfl ?_
      refine Go.getI dX7_wantLiking_92 flX7_272 (shp hG rfl) rfl ?_
      refine Go.eqI (y := 0) (hR181q.2.2.2) ?_
      refine Go.if_eq 121 dX7_wantLiking_95 rfl (fun _ => ?_) (fun h95 => absurd (by decide) h95)
      refine Go.vret dX7_wantLiking_121 rfl ?_
      have hwh : whtF L b (tE L b p) = some 0 := by
        unfold whtF
        simp only [bi_n0.mp h11, if_true, Bool.false_eq_true, if_false]
      unfold pLik
      rw [hwh]
      show _ ∧ Im _ _ _ _ (if nOk L b (tE L b (tE L b p)) (8 - 1) then _ else _)
      rw [if_neg (by rw [hn177q]; decide)]
      exact ⟨rfl, hR181q, fun q => (by cases q), (((((hf140q).trans (hf172q)).trans (hf174q)).trans (hf176q)).trans (hf182q)).fi⟩
set_option maxRecDepth 20000 in
theorem r_loathes {G : Gt} {d : Nat} {M : Mm} (hG : gS G = SHAPE) {L : Nat} {b : Nat → Int32} {p : Nat} {u : Bu} (hR : Rs M L b true p) (hU : BuM M u) (hu : BuOk u) : ExV G (d + 4) mX7_wantLiking [.ref 49, .int 0] M (fun M' => Im M M' L b (pLik L b false u (tE L b p))) := by
  refine Ex.of (by decide) (Nat.le_of_ble_eq_true rfl) ?_
  show Go G (d + 4) mX7_wantLiking 0 [some (.ref 49), some (.int 0), none, none, none] [] M _
  refine Go.aload_n dX7_wantLiking_0 rfl ?_
  refine Go.callVV [] dX7_wantLiking_1 lkX7_276 imX7_advance seX7_advance cbX7_advance (r_adv hG hR) (shp hG rfl) rfl rfl rfl (Nat.le_of_ble_eq_true rfl) (fun M2 hr1 => ?_)
  obtain ⟨hR183q, hf184q⟩ := hr1
  refine Go.aload_n dX7_wantLiking_4 rfl ?_
  refine Go.ldc2 dX7_wantLiking_5 klX7_290 ?_
  refine Go.callVI [] dX7_wantLiking_8 lkX7_258 imX7_isWord seX7_isWord cbX7_isWord (r_isWord hG hR183q (k := 10) (by decide) (w := 10793230) rfl) (shp hG rfl) rfl rfl rfl (Nat.le_of_ble_eq_true rfl) (fun r3 M4 hr3 => ?_)
  obtain ⟨er3, emr3⟩ := hr3
  rw [emr3]
  clear emr3 M4
  subst er3
  refine Go.if_eq 18 dX7_wantLiking_11 rfl (fun h11 => ?_) (fun h11 => ?_)
  · refine Go.aload_n dX7_wantLiking_18 rfl ?_
    refine Go.ldc2 dX7_wantLiking_19 klX7_279 ?_
    refine Go.callVI [] dX7_wantLiking_22 lkX7_258 imX7_isWord seX7_isWord cbX7_isWord (r_isWord hG hR183q (k := 6) (by decide) (w := 16819) rfl) (shp hG rfl) rfl rfl rfl (Nat.le_of_ble_eq_true rfl) (fun r5 M6 hr5 => ?_)
    obtain ⟨er5, emr5⟩ := hr5
    rw [emr5]
    clear emr5 M6
    subst er5
    refine Go.if_eq 32 dX7_wantLiking_25 rfl (fun h25 => ?_) (fun h25 => ?_)
    · refine Go.aload_n dX7_wantLiking_32 rfl ?_
      refine Go.ldc2 dX7_wantLiking_33 klX7_288 ?_
      refine Go.callVI [] dX7_wantLiking_36 lkX7_258 imX7_isWord seX7_isWord cbX7_isWord (r_isWord hG hR183q (k := 7) (by decide) (w := 10132457) rfl) (shp hG rfl) rfl rfl rfl (Nat.le_of_ble_eq_true rfl) (fun r7 M8 hr7 => ?_)
      obtain ⟨er7, emr7⟩ := hr7
      rw [emr7]
      clear emr7 M8
      subst er7
      refine Go.if_eq 46 dX7_wantLiking_39 rfl (fun h39 => ?_) (fun h39 => ?_)
      · refine Go.iconst (v := -1) dX7_wantLiking_46 (by decide) ?_
        refine Go.istore_n (ls' := [some (.ref 49), some (.int 0), some (.int ((-1))), none, none]) dX7_wantLiking_47 (Nat.le_of_ble_eq_true rfl) rfl rfl ?_
        refine Go.aload_n dX7_wantLiking_48 rfl ?_
        refine Go.iload_n dX7_wantLiking_49 rfl ?_
        refine Go.if_lt 57 dX7_wantLiking_50 rfl (fun _ => ?_) (fun h50 => absurd (by decide) h50)
        refine Go.iconst (v := 0) dX7_wantLiking_57 (by decide) ?_
        refine Go.putI dX7_wantLiking_58 fpX7_272 (shp hG rfl) rfl (by decide) (by decide) ?_
        refine Go.nmM (fun N9 eN9 => ?_)
        have hR185q : Rs N9 L b false (tE L b p) := by rw [eN9]; exact hR183q.put false
        have hf186q : Fm M2 N9 := by rw [eN9]; exact Fm.good _ _
        refine Go.aload_n dX7_wantLiking_61 rfl ?_
        refine Go.getI dX7_wantLiking_62 flX7_272 (shp hG rfl) rfl ?_
        refine Go.eqI (y := 0) (hR185q.2.2.2) ?_
        refine Go.if_eq 72 dX7_wantLiking_65 rfl (fun _ => ?_) (fun h65 => absurd (by decide) h65)
        refine Go.aload_n dX7_wantLiking_72 rfl ?_
        refine Go.iconst (v := 0) dX7_wantLiking_73 (by decide) ?_
        refine Go.iload_n dX7_wantLiking_74 rfl ?_
        refine Go.callSI [.int 0, .ref 49] dX7_wantLiking_75 lkX7_107 stX7_mostOf cbX7_mostOf (m_mostOf ((-1))) rfl rfl (Nat.le_of_ble_eq_true rfl) (fun r10 M11 hr10 => ?_)
        obtain ⟨er10, emr10⟩ := hr10
        rw [emr10]
        clear emr10 M11
        subst er10
        refine Go.eqI (y := 3) (by decide) ?_
        refine Go.callVI [] dX7_wantLiking_78 lkX7_285 imX7_wantNumber seX7_wantNumber cbX7_wantNumber (r_num0 hG hR185q 3) (shp hG rfl) rfl rfl rfl (Nat.le_of_ble_eq_true rfl) (fun r12 M13 hr12 => ?_)
        obtain ⟨hR187q, hf188q⟩ := hr12
        refine Go.istore_n (ls' := [some (.ref 49), some (.int 0), some (.int ((-1))), some (.int r12), none]) dX7_wantLiking_81 (Nat.le_of_ble_eq_true rfl) rfl rfl ?_
        refine Go.aload_n dX7_wantLiking_82 rfl ?_
        refine Go.iconst (v := 0) dX7_wantLiking_83 (by decide) ?_
        refine Go.bipush (v := 9) dX7_wantLiking_84 (by decide) ?_
        refine Go.callVI [] dX7_wantLiking_86 lkX7_285 imX7_wantNumber seX7_wantNumber cbX7_wantNumber (r_num0 hG hR187q 9) (shp hG rfl) rfl rfl rfl (Nat.le_of_ble_eq_true rfl) (fun r14 M15 hr14 => ?_)
        obtain ⟨hR189q, hf190q⟩ := hr14
        refine Go.istore (ls' := [some (.ref 49), some (.int 0), some (.int ((-1))), some (.int r12), some (.int r14)]) dX7_wantLiking_89 (Nat.le_of_ble_eq_true rfl) rfl rfl ?_
        refine Go.aload_n dX7_wantLiking_91 rfl ?_
        refine Go.getI dX7_wantLiking_92 flX7_272 (shp hG rfl) rfl ?_
        refine Go.eqI (y := 0) (hR189q.2.2.2) ?_
        refine Go.if_eq 121 dX7_wantLiking_95 rfl (fun _ => ?_) (fun h95 => absurd (by decide) h95)
        refine Go.vret dX7_wantLiking_121 rfl ?_
        have hwh : whtF L b (tE L b p) = none := by
          unfold whtF
          simp only [bi_0.mp h11, bi_0.mp h25, bi_0.mp h39, if_true, Bool.false_eq_true, if_false]
        unfold pLik
        rw [hwh]
        exact ⟨rfl, hR189q, fun q => (by cases q), ((((hf184q).trans (hf186q)).trans (hf188q)).trans (hf190q)).fi⟩
      · refine Go.iconst (v := 2) dX7_wantLiking_42 (by decide) ?_
        refine Go.goto 47 dX7_wantLiking_43 rfl ?_
        refine Go.istore_n (ls' := [some (.ref 49), some (.int 0), some (.int 2), none, none]) dX7_wantLiking_47 (Nat.le_of_ble_eq_true rfl) rfl rfl ?_
        refine Go.aload_n dX7_wantLiking_48 rfl ?_
        refine Go.iload_n dX7_wantLiking_49 rfl ?_
        refine Go.if_lt 57 dX7_wantLiking_50 rfl (fun h50 => absurd h50 (by decide)) (fun _ => ?_)
        refine Go.iconst (v := 1) dX7_wantLiking_53 (by decide) ?_
        refine Go.goto 58 dX7_wantLiking_54 rfl ?_
        refine Go.putI dX7_wantLiking_58 fpX7_272 (shp hG rfl) rfl (by decide) (by decide) ?_
        refine Go.nmM (fun N16 eN16 => ?_)
        have hR191q : Rs N16 L b true (tE L b p) := by rw [eN16]; exact hR183q.put true
        have hf192q : Fm M2 N16 := by rw [eN16]; exact Fm.good _ _
        refine Go.aload_n dX7_wantLiking_61 rfl ?_
        refine Go.getI dX7_wantLiking_62 flX7_272 (shp hG rfl) rfl ?_
        refine Go.eqI (y := 1) (hR191q.2.2.2) ?_
        refine Go.if_eq 72 dX7_wantLiking_65 rfl (fun h65 => absurd h65 (by decide)) (fun _ => ?_)
        refine Go.aload_n dX7_wantLiking_68 rfl ?_
        refine Go.callVV [] dX7_wantLiking_69 lkX7_276 imX7_advance seX7_advance cbX7_advance (r_adv hG hR191q) (shp hG rfl) rfl rfl rfl (Nat.le_of_ble_eq_true rfl) (fun M18 hr17 => ?_)
        obtain ⟨hR193q, hf194q⟩ := hr17
        refine Go.aload_n dX7_wantLiking_72 rfl ?_
        refine Go.iconst (v := 0) dX7_wantLiking_73 (by decide) ?_
        refine Go.iload_n dX7_wantLiking_74 rfl ?_
        refine Go.callSI [.int 0, .ref 49] dX7_wantLiking_75 lkX7_107 stX7_mostOf cbX7_mostOf (m_mostOf 2) rfl rfl (Nat.le_of_ble_eq_true rfl) (fun r19 M20 hr19 => ?_)
        obtain ⟨er19, emr19⟩ := hr19
        rw [emr19]
        clear emr19 M20
        subst er19
        refine Go.eqI (y := 3) (by decide) ?_
        refine Go.callVI [] dX7_wantLiking_78 lkX7_285 imX7_wantNumber seX7_wantNumber cbX7_wantNumber (r_num1 hG hR193q (m := 3) (by omega)) (shp hG rfl) rfl rfl rfl (Nat.le_of_ble_eq_true rfl) (fun r21 M22 hr21 => ?_)
        rcases hr21 with ⟨hn197q, ex9, hR195q, hf196q⟩ | ⟨hn197q, hR195q, hf196q⟩
        · rw [ex9]
          have hn197ql := (nOk_le hn197q).2
          refine Go.istore_n (ls' := [some (.ref 49), some (.int 0), some (.int 2), some (.int (nI (tV L b (tE L b (tE L b p))))), none]) dX7_wantLiking_81 (Nat.le_of_ble_eq_true rfl) rfl rfl ?_
          refine Go.aload_n dX7_wantLiking_82 rfl ?_
          refine Go.iconst (v := 0) dX7_wantLiking_83 (by decide) ?_
          refine Go.bipush (v := 9) dX7_wantLiking_84 (by decide) ?_
          refine Go.callVI [] dX7_wantLiking_86 lkX7_285 imX7_wantNumber seX7_wantNumber cbX7_wantNumber (r_num1 hG hR195q (m := 9) (by omega)) (shp hG rfl) rfl rfl rfl (Nat.le_of_ble_eq_true rfl) (fun r23 M24 hr23 => ?_)
          rcases hr23 with ⟨hn200q, ex9, hR198q, hf199q⟩ | ⟨hn200q, hR198q, hf199q⟩
          · rw [ex9]
            have hn200ql := (nOk_le hn200q).2
            refine Go.istore (ls' := [some (.ref 49), some (.int 0), some (.int 2), some (.int (nI (tV L b (tE L b (tE L b p))))), some (.int (nI (tV L b (tE L b (tE L b (tE L b p))))))]) dX7_wantLiking_89 (Nat.le_of_ble_eq_true rfl) rfl rfl ?_
            refine Go.aload_n dX7_wantLiking_91 rfl ?_
            refine Go.getI dX7_wantLiking_92 flX7_272 (shp hG rfl) rfl ?_
            refine Go.eqI (y := 1) (hR198q.2.2.2) ?_
            refine Go.if_eq 121 dX7_wantLiking_95 rfl (fun h95 => absurd h95 (by decide)) (fun _ => ?_)
            refine Go.aload_n dX7_wantLiking_98 rfl ?_
            refine Go.getR dX7_wantLiking_99 flX7_13 (shp hG rfl) rfl ?_
            refine Go.iload_n dX7_wantLiking_102 rfl ?_
            refine Go.iload_n dX7_wantLiking_103 rfl ?_
            refine Go.callSI [.ref 51] dX7_wantLiking_104 lkX7_110 stX7_likedAt cbX7_likedAt (m_likedAt 2 (nI (tV L b (tE L b (tE L b p))))) rfl rfl (Nat.le_of_ble_eq_true rfl) (fun r25 M26 hr25 => ?_)
            obtain ⟨er25, emr25⟩ := hr25
            rw [emr25]
            clear emr25 M26
            subst er25
            refine Go.eqI (y := nI (13 + tV L b (tE L b (tE L b p)))) (by rw [if_neg (by decide), if_neg (by decide)]; exact nI_add 13 _) ?_
            refine Go.iload_n dX7_wantLiking_107 rfl ?_
            refine Go.if_eq 116 dX7_wantLiking_108 rfl (fun _ => ?_) (fun h108 => absurd (by decide) h108)
            refine Go.iconst (v := 0) dX7_wantLiking_116 (by decide) ?_
            refine Go.iload dX7_wantLiking_117 rfl ?_
            refine Go.isub dX7_wantLiking_119 ?_
            refine Go.iast dX7_wantLiking_120 (shp hG rfl) (vin (by omega) (by decide)) ?_
            refine Go.nmM (fun N27 eN27 => ?_)
            refine Go.vret dX7_wantLiking_121 rfl ?_
            have eM : N27 = upi M24 51 (atL 2 + tV L b (tE L b (tE L b p))) (lkv false (tV L b (tE L b (tE L b (tE L b p))))) := by rw [eN27, ncl (by omega)]; rfl
            have hwh : whtF L b (tE L b p) = some 2 := by
              unfold whtF
              simp only [bi_0.mp h11, bi_0.mp h25, bi_n0.mp h39, if_true, Bool.false_eq_true, if_false]
            unfold pLik
            rw [hwh]
            show _ ∧ Im _ _ _ _ (if nOk L b (tE L b (tE L b p)) (4 - 1) then _ else _)
            rw [if_pos hn197q, if_pos hn200q]
            exact ⟨rfl, hR198q.keep (fun j _ _ => by rw [eM, rd_ne (by decide)]) (by rw [eM, rd_ne (by decide)]) (by rw [eM]; rfl), fun _ => by rw [eM]; exact BuM.lik (hU.fm (((((hf184q).trans (hf192q)).trans (hf194q)).trans (hf196q)).trans (hf199q))) (by decide) (show tV L b (tE L b (tE L b p)) < 4 by omega) _, (((((hf184q).trans (hf192q)).trans (hf194q)).trans (hf196q)).trans (hf199q)).fi.trans (by rw [eM]; exact fi_up _ _ (by decide))⟩
          · skip
            refine Go.istore (ls' := [some (.ref 49), some (.int 0), some (.int 2), some (.int (nI (tV L b (tE L b (tE L b p))))), some (.int r23)]) dX7_wantLiking_89 (Nat.le_of_ble_eq_true rfl) rfl rfl ?_
            refine Go.aload_n dX7_wantLiking_91 rfl ?_
            refine Go.getI dX7_wantLiking_92 flX7_272 (shp hG rfl) rfl ?_
            refine Go.eqI (y := 0) (hR198q.2.2.2) ?_
            refine Go.if_eq 121 dX7_wantLiking_95 rfl (fun _ => ?_) (fun h95 => absurd (by decide) h95)
            refine Go.vret dX7_wantLiking_121 rfl ?_
            have hwh : whtF L b (tE L b p) = some 2 := by
              unfold whtF
              simp only [bi_0.mp h11, bi_0.mp h25, bi_n0.mp h39, if_true, Bool.false_eq_true, if_false]
            unfold pLik
            rw [hwh]
            show _ ∧ Im _ _ _ _ (if nOk L b (tE L b (tE L b p)) (4 - 1) then _ else _)
            rw [if_pos hn197q, if_neg (by rw [hn200q]; decide)]
            exact ⟨rfl, hR198q, fun q => (by cases q), (((((hf184q).trans (hf192q)).trans (hf194q)).trans (hf196q)).trans (hf199q)).fi⟩
        · skip
          refine Go.istore_n (ls' := [some (.ref 49), some (.int 0), some (.int 2), some (.int r21), none]) dX7_wantLiking_81 (Nat.le_of_ble_eq_true rfl) rfl rfl ?_
          refine Go.aload_n dX7_wantLiking_82 rfl ?_
          refine Go.iconst (v := 0) dX7_wantLiking_83 (by decide) ?_
          refine Go.bipush (v := 9) dX7_wantLiking_84 (by decide) ?_
          refine Go.callVI [] dX7_wantLiking_86 lkX7_285 imX7_wantNumber seX7_wantNumber cbX7_wantNumber (r_num0 hG hR195q 9) (shp hG rfl) rfl rfl rfl (Nat.le_of_ble_eq_true rfl) (fun r28 M29 hr28 => ?_)
          obtain ⟨hR201q, hf202q⟩ := hr28
          refine Go.istore (ls' := [some (.ref 49), some (.int 0), some (.int 2), some (.int r21), some (.int r28)]) dX7_wantLiking_89 (Nat.le_of_ble_eq_true rfl) rfl rfl ?_
          refine Go.aload_n dX7_wantLiking_91 rfl ?_
          refine Go.getI dX7_wantLiking_92 flX7_272 (shp hG rfl) rfl ?_
          refine Go.eqI (y := 0) (hR201q.2.2.2) ?_
          refine Go.if_eq 121 dX7_wantLiking_95 rfl (fun _ => ?_) (fun h95 => absurd (by decide) h95)
          refine Go.vret dX7_wantLiking_121 rfl ?_
          have hwh : whtF L b (tE L b p) = some 2 := by
            unfold whtF
            simp only [bi_0.mp h11, bi_0.mp h25, bi_n0.mp h39, if_true, Bool.false_eq_true, if_false]
          unfold pLik
          rw [hwh]
          show _ ∧ Im _ _ _ _ (if nOk L b (tE L b (tE L b p)) (4 - 1) then _ else _)
          rw [if_neg (by rw [hn197q]; decide)]
          exact ⟨rfl, hR201q, fun q => (by cases q), (((((hf184q).trans (hf192q)).trans (hf194q)).trans (hf196q)).trans (hf202q)).fi⟩
    · refine Go.iconst (v := 1) dX7_wantLiking_28 (by decide) ?_
      refine Go.goto 47 dX7_wantLiking_29 rfl ?_
      refine Go.istore_n (ls' := [some (.ref 49), some (.int 0), some (.int 1), none, none]) dX7_wantLiking_47 (Nat.le_of_ble_eq_true rfl) rfl rfl ?_
      refine Go.aload_n dX7_wantLiking_48 rfl ?_
      refine Go.iload_n dX7_wantLiking_49 rfl ?_
      refine Go.if_lt 57 dX7_wantLiking_50 rfl (fun h50 => absurd h50 (by decide)) (fun _ => ?_)
      refine Go.iconst (v := 1) dX7_wantLiking_53 (by decide) ?_
      refine Go.goto 58 dX7_wantLiking_54 rfl ?_
      refine Go.putI dX7_wantLiking_58 fpX7_272 (shp hG rfl) rfl (by decide) (by decide) ?_
      refine Go.nmM (fun N30 eN30 => ?_)
      have hR203q : Rs N30 L b true (tE L b p) := by rw [eN30]; exact hR183q.put true
      have hf204q : Fm M2 N30 := by rw [eN30]; exact Fm.good _ _
      refine Go.aload_n dX7_wantLiking_61 rfl ?_
      refine Go.getI dX7_wantLiking_62 flX7_272 (shp hG rfl) rfl ?_
      refine Go.eqI (y := 1) (hR203q.2.2.2) ?_
      refine Go.if_eq 72 dX7_wantLiking_65 rfl (fun h65 => absurd h65 (by decide)) (fun _ => ?_)
      refine Go.aload_n dX7_wantLiking_68 rfl ?_
      refine Go.callVV [] dX7_wantLiking_69 lkX7_276 imX7_advance seX7_advance cbX7_advance (r_adv hG hR203q) (shp hG rfl) rfl rfl rfl (Nat.le_of_ble_eq_true rfl) (fun M32 hr31 => ?_)
      obtain ⟨hR205q, hf206q⟩ := hr31
      refine Go.aload_n dX7_wantLiking_72 rfl ?_
      refine Go.iconst (v := 0) dX7_wantLiking_73 (by decide) ?_
      refine Go.iload_n dX7_wantLiking_74 rfl ?_
      refine Go.callSI [.int 0, .ref 49] dX7_wantLiking_75 lkX7_107 stX7_mostOf cbX7_mostOf (m_mostOf 1) rfl rfl (Nat.le_of_ble_eq_true rfl) (fun r33 M34 hr33 => ?_)
      obtain ⟨er33, emr33⟩ := hr33
      rw [emr33]
      clear emr33 M34
      subst er33
      refine Go.eqI (y := 4) (by decide) ?_
      refine Go.callVI [] dX7_wantLiking_78 lkX7_285 imX7_wantNumber seX7_wantNumber cbX7_wantNumber (r_num1 hG hR205q (m := 4) (by omega)) (shp hG rfl) rfl rfl rfl (Nat.le_of_ble_eq_true rfl) (fun r35 M36 hr35 => ?_)
      rcases hr35 with ⟨hn209q, ex9, hR207q, hf208q⟩ | ⟨hn209q, hR207q, hf208q⟩
      · rw [ex9]
        have hn209ql := (nOk_le hn209q).2
        refine Go.istore_n (ls' := [some (.ref 49), some (.int 0), some (.int 1), some (.int (nI (tV L b (tE L b (tE L b p))))), none]) dX7_wantLiking_81 (Nat.le_of_ble_eq_true rfl) rfl rfl ?_
        refine Go.aload_n dX7_wantLiking_82 rfl ?_
        refine Go.iconst (v := 0) dX7_wantLiking_83 (by decide) ?_
        refine Go.bipush (v := 9) dX7_wantLiking_84 (by decide) ?_
        refine Go.callVI [] dX7_wantLiking_86 lkX7_285 imX7_wantNumber seX7_wantNumber cbX7_wantNumber (r_num1 hG hR207q (m := 9) (by omega)) (shp hG rfl) rfl rfl rfl (Nat.le_of_ble_eq_true rfl) (fun r37 M38 hr37 => ?_)
        rcases hr37 with ⟨hn212q, ex9, hR210q, hf211q⟩ | ⟨hn212q, hR210q, hf211q⟩
        · rw [ex9]
          have hn212ql := (nOk_le hn212q).2
          refine Go.istore (ls' := [some (.ref 49), some (.int 0), some (.int 1), some (.int (nI (tV L b (tE L b (tE L b p))))), some (.int (nI (tV L b (tE L b (tE L b (tE L b p))))))]) dX7_wantLiking_89 (Nat.le_of_ble_eq_true rfl) rfl rfl ?_
          refine Go.aload_n dX7_wantLiking_91 rfl ?_
          refine Go.getI dX7_wantLiking_92 flX7_272 (shp hG rfl) rfl ?_
          refine Go.eqI (y := 1) (hR210q.2.2.2) ?_
          refine Go.if_eq 121 dX7_wantLiking_95 rfl (fun h95 => absurd h95 (by decide)) (fun _ => ?_)
          refine Go.aload_n dX7_wantLiking_98 rfl ?_
          refine Go.getR dX7_wantLiking_99 flX7_13 (shp hG rfl) rfl ?_
          refine Go.iload_n dX7_wantLiking_102 rfl ?_
          refine Go.iload_n dX7_wantLiking_103 rfl ?_
          refine Go.callSI [.ref 51] dX7_wantLiking_104 lkX7_110 stX7_likedAt cbX7_likedAt (m_likedAt 1 (nI (tV L b (tE L b (tE L b p))))) rfl rfl (Nat.le_of_ble_eq_true rfl) (fun r39 M40 hr39 => ?_)
          obtain ⟨er39, emr39⟩ := hr39
          rw [emr39]
          clear emr39 M40
          subst er39
          refine Go.eqI (y := nI (8 + tV L b (tE L b (tE L b p)))) (by rw [if_neg (by decide), if_pos (by decide)]; exact nI_add 8 _) ?_
          refine Go.iload_n dX7_wantLiking_107 rfl ?_
          refine Go.if_eq 116 dX7_wantLiking_108 rfl (fun _ => ?_) (fun h108 => absurd (by decide) h108)
          refine Go.iconst (v := 0) dX7_wantLiking_116 (by decide) ?_
          refine Go.iload dX7_wantLiking_117 rfl ?_
          refine Go.isub dX7_wantLiking_119 ?_
          refine Go.iast dX7_wantLiking_120 (shp hG rfl) (vin (by omega) (by decide)) ?_
          refine Go.nmM (fun N41 eN41 => ?_)
          refine Go.vret dX7_wantLiking_121 rfl ?_
          have eM : N41 = upi M38 51 (atL 1 + tV L b (tE L b (tE L b p))) (lkv false (tV L b (tE L b (tE L b (tE L b p))))) := by rw [eN41, ncl (by omega)]; rfl
          have hwh : whtF L b (tE L b p) = some 1 := by
            unfold whtF
            simp only [bi_0.mp h11, bi_n0.mp h25, if_true, Bool.false_eq_true, if_false]
          unfold pLik
          rw [hwh]
          show _ ∧ Im _ _ _ _ (if nOk L b (tE L b (tE L b p)) (5 - 1) then _ else _)
          rw [if_pos hn209q, if_pos hn212q]
          exact ⟨rfl, hR210q.keep (fun j _ _ => by rw [eM, rd_ne (by decide)]) (by rw [eM, rd_ne (by decide)]) (by rw [eM]; rfl), fun _ => by rw [eM]; exact BuM.lik (hU.fm (((((hf184q).trans (hf204q)).trans (hf206q)).trans (hf208q)).trans (hf211q))) (by decide) (show tV L b (tE L b (tE L b p)) < 5 by omega) _, (((((hf184q).trans (hf204q)).trans (hf206q)).trans (hf208q)).trans (hf211q)).fi.trans (by rw [eM]; exact fi_up _ _ (by decide))⟩
        · skip
          refine Go.istore (ls' := [some (.ref 49), some (.int 0), some (.int 1), some (.int (nI (tV L b (tE L b (tE L b p))))), some (.int r37)]) dX7_wantLiking_89 (Nat.le_of_ble_eq_true rfl) rfl rfl ?_
          refine Go.aload_n dX7_wantLiking_91 rfl ?_
          refine Go.getI dX7_wantLiking_92 flX7_272 (shp hG rfl) rfl ?_
          refine Go.eqI (y := 0) (hR210q.2.2.2) ?_
          refine Go.if_eq 121 dX7_wantLiking_95 rfl (fun _ => ?_) (fun h95 => absurd (by decide) h95)
          refine Go.vret dX7_wantLiking_121 rfl ?_
          have hwh : whtF L b (tE L b p) = some 1 := by
            unfold whtF
            simp only [bi_0.mp h11, bi_n0.mp h25, if_true, Bool.false_eq_true, if_false]
          unfold pLik
          rw [hwh]
          show _ ∧ Im _ _ _ _ (if nOk L b (tE L b (tE L b p)) (5 - 1) then _ else _)
          rw [if_pos hn209q, if_neg (by rw [hn212q]; decide)]
          exact ⟨rfl, hR210q, fun q => (by cases q), (((((hf184q).trans (hf204q)).trans (hf206q)).trans (hf208q)).trans (hf211q)).fi⟩
      · skip
        refine Go.istore_n (ls' := [some (.ref 49), some (.int 0), some (.int 1), some (.int r35), none]) dX7_wantLiking_81 (Nat.le_of_ble_eq_true rfl) rfl rfl ?_
        refine Go.aload_n dX7_wantLiking_82 rfl ?_
        refine Go.iconst (v := 0) dX7_wantLiking_83 (by decide) ?_
        refine Go.bipush (v := 9) dX7_wantLiking_84 (by decide) ?_
        refine Go.callVI [] dX7_wantLiking_86 lkX7_285 imX7_wantNumber seX7_wantNumber cbX7_wantNumber (r_num0 hG hR207q 9) (shp hG rfl) rfl rfl rfl (Nat.le_of_ble_eq_true rfl) (fun r42 M43 hr42 => ?_)
        obtain ⟨hR213q, hf214q⟩ := hr42
        refine Go.istore (ls' := [some (.ref 49), some (.int 0), some (.int 1), some (.int r35), some (.int r42)]) dX7_wantLiking_89 (Nat.le_of_ble_eq_true rfl) rfl rfl ?_
        refine Go.aload_n dX7_wantLiking_91 rfl ?_
        refine Go.getI dX7_wantLiking_92 flX7_272 (shp hG rfl) rfl ?_
        refine Go.eqI (y := 0) (hR213q.2.2.2) ?_
        refine Go.if_eq 121 dX7_wantLiking_95 rfl (fun _ => ?_) (fun h95 => absurd (by decide) h95)
        refine Go.vret dX7_wantLiking_121 rfl ?_
        have hwh : whtF L b (tE L b p) = some 1 := by
          unfold whtF
          simp only [bi_0.mp h11, bi_n0.mp h25, if_true, Bool.false_eq_true, if_false]
        unfold pLik
        rw [hwh]
        show _ ∧ Im _ _ _ _ (if nOk L b (tE L b (tE L b p)) (5 - 1) then _ else _)
        rw [if_neg (by rw [hn209q]; decide)]
        exact ⟨rfl, hR213q, fun q => (by cases q), (((((hf184q).trans (hf204q)).trans (hf206q)).trans (hf208q)).trans (hf214q)).fi⟩
  · refine Go.iconst (v := 0) dX7_wantLiking_14 (by decide) ?_
    refine Go.goto 47 dX7_wantLiking_15 rfl ?_
    refine Go.istore_n (ls' := [some (.ref 49), some (.int 0), some (.int 0), none, none]) dX7_wantLiking_47 (Nat.le_of_ble_eq_true rfl) rfl rfl ?_
    refine Go.aload_n dX7_wantLiking_48 rfl ?_
    refine Go.iload_n dX7_wantLiking_49 rfl ?_
    refine Go.if_lt 57 dX7_wantLiking_50 rfl (fun h50 => absurd h50 (by decide)) (fun _ => ?_)
    refine Go.iconst (v := 1) dX7_wantLiking_53 (by decide) ?_
    refine Go.goto 58 dX7_wantLiking_54 rfl ?_
    refine Go.putI dX7_wantLiking_58 fpX7_272 (shp hG rfl) rfl (by decide) (by decide) ?_
    refine Go.nmM (fun N44 eN44 => ?_)
    have hR215q : Rs N44 L b true (tE L b p) := by rw [eN44]; exact hR183q.put true
    have hf216q : Fm M2 N44 := by rw [eN44]; exact Fm.good _ _
    refine Go.aload_n dX7_wantLiking_61 rfl ?_
    refine Go.getI dX7_wantLiking_62 flX7_272 (shp hG rfl) rfl ?_
    refine Go.eqI (y := 1) (hR215q.2.2.2) ?_
    refine Go.if_eq 72 dX7_wantLiking_65 rfl (fun h65 => absurd h65 (by decide)) (fun _ => ?_)
    refine Go.aload_n dX7_wantLiking_68 rfl ?_
    refine Go.callVV [] dX7_wantLiking_69 lkX7_276 imX7_advance seX7_advance cbX7_advance (r_adv hG hR215q) (shp hG rfl) rfl rfl rfl (Nat.le_of_ble_eq_true rfl) (fun M46 hr45 => ?_)
    obtain ⟨hR217q, hf218q⟩ := hr45
    refine Go.aload_n dX7_wantLiking_72 rfl ?_
    refine Go.iconst (v := 0) dX7_wantLiking_73 (by decide) ?_
    refine Go.iload_n dX7_wantLiking_74 rfl ?_
    refine Go.callSI [.int 0, .ref 49] dX7_wantLiking_75 lkX7_107 stX7_mostOf cbX7_mostOf (m_mostOf 0) rfl rfl (Nat.le_of_ble_eq_true rfl) (fun r47 M48 hr47 => ?_)
    obtain ⟨er47, emr47⟩ := hr47
    rw [emr47]
    clear emr47 M48
    subst er47
    refine Go.eqI (y := 7) (by decide) ?_
    refine Go.callVI [] dX7_wantLiking_78 lkX7_285 imX7_wantNumber seX7_wantNumber cbX7_wantNumber (r_num1 hG hR217q (m := 7) (by omega)) (shp hG rfl) rfl rfl rfl (Nat.le_of_ble_eq_true rfl) (fun r49 M50 hr49 => ?_)
    rcases hr49 with ⟨hn221q, ex9, hR219q, hf220q⟩ | ⟨hn221q, hR219q, hf220q⟩
    · rw [ex9]
      have hn221ql := (nOk_le hn221q).2
      refine Go.istore_n (ls' := [some (.ref 49), some (.int 0), some (.int 0), some (.int (nI (tV L b (tE L b (tE L b p))))), none]) dX7_wantLiking_81 (Nat.le_of_ble_eq_true rfl) rfl rfl ?_
      refine Go.aload_n dX7_wantLiking_82 rfl ?_
      refine Go.iconst (v := 0) dX7_wantLiking_83 (by decide) ?_
      refine Go.bipush (v := 9) dX7_wantLiking_84 (by decide) ?_
      refine Go.callVI [] dX7_wantLiking_86 lkX7_285 imX7_wantNumber seX7_wantNumber cbX7_wantNumber (r_num1 hG hR219q (m := 9) (by omega)) (shp hG rfl) rfl rfl rfl (Nat.le_of_ble_eq_true rfl) (fun r51 M52 hr51 => ?_)
      rcases hr51 with ⟨hn224q, ex9, hR222q, hf223q⟩ | ⟨hn224q, hR222q, hf223q⟩
      · rw [ex9]
        have hn224ql := (nOk_le hn224q).2
        refine Go.istore (ls' := [some (.ref 49), some (.int 0), some (.int 0), some (.int (nI (tV L b (tE L b (tE L b p))))), some (.int (nI (tV L b (tE L b (tE L b (tE L b p))))))]) dX7_wantLiking_89 (Nat.le_of_ble_eq_true rfl) rfl rfl ?_
        refine Go.aload_n dX7_wantLiking_91 rfl ?_
        refine Go.getI dX7_wantLiking_92 flX7_272 (shp hG rfl) rfl ?_
        refine Go.eqI (y := 1) (hR222q.2.2.2) ?_
        refine Go.if_eq 121 dX7_wantLiking_95 rfl (fun h95 => absurd h95 (by decide)) (fun _ => ?_)
        refine Go.aload_n dX7_wantLiking_98 rfl ?_
        refine Go.getR dX7_wantLiking_99 flX7_13 (shp hG rfl) rfl ?_
        refine Go.iload_n dX7_wantLiking_102 rfl ?_
        refine Go.iload_n dX7_wantLiking_103 rfl ?_
        refine Go.callSI [.ref 51] dX7_wantLiking_104 lkX7_110 stX7_likedAt cbX7_likedAt (m_likedAt 0 (nI (tV L b (tE L b (tE L b p))))) rfl rfl (Nat.le_of_ble_eq_true rfl) (fun r53 M54 hr53 => ?_)
        obtain ⟨er53, emr53⟩ := hr53
        rw [emr53]
        clear emr53 M54
        subst er53
        refine Go.eqI (y := nI (0 + tV L b (tE L b (tE L b p)))) (by rw [if_pos (by decide), Nat.zero_add]) ?_
        refine Go.iload_n dX7_wantLiking_107 rfl ?_
        refine Go.if_eq 116 dX7_wantLiking_108 rfl (fun _ => ?_) (fun h108 => absurd (by decide) h108)
        refine Go.iconst (v := 0) dX7_wantLiking_116 (by decide) ?_
        refine Go.iload dX7_wantLiking_117 rfl ?_
        refine Go.isub dX7_wantLiking_119 ?_
        refine Go.iast dX7_wantLiking_120 (shp hG rfl) (vin (by omega) (by decide)) ?_
        refine Go.nmM (fun N55 eN55 => ?_)
        refine Go.vret dX7_wantLiking_121 rfl ?_
        have eM : N55 = upi M52 51 (atL 0 + tV L b (tE L b (tE L b p))) (lkv false (tV L b (tE L b (tE L b (tE L b p))))) := by rw [eN55, ncl (by omega)]; rfl
        have hwh : whtF L b (tE L b p) = some 0 := by
          unfold whtF
          simp only [bi_n0.mp h11, if_true, Bool.false_eq_true, if_false]
        unfold pLik
        rw [hwh]
        show _ ∧ Im _ _ _ _ (if nOk L b (tE L b (tE L b p)) (8 - 1) then _ else _)
        rw [if_pos hn221q, if_pos hn224q]
        exact ⟨rfl, hR222q.keep (fun j _ _ => by rw [eM, rd_ne (by decide)]) (by rw [eM, rd_ne (by decide)]) (by rw [eM]; rfl), fun _ => by rw [eM]; exact BuM.lik (hU.fm (((((hf184q).trans (hf216q)).trans (hf218q)).trans (hf220q)).trans (hf223q))) (by decide) (show tV L b (tE L b (tE L b p)) < 8 by omega) _, (((((hf184q).trans (hf216q)).trans (hf218q)).trans (hf220q)).trans (hf223q)).fi.trans (by rw [eM]; exact fi_up _ _ (by decide))⟩
      · skip
        refine Go.istore (ls' := [some (.ref 49), some (.int 0), some (.int 0), some (.int (nI (tV L b (tE L b (tE L b p))))), some (.int r51)]) dX7_wantLiking_89 (Nat.le_of_ble_eq_true rfl) rfl rfl ?_
        refine Go.aload_n dX7_wantLiking_91 rfl ?_
        refine Go.getI dX7_wantLiking_92 flX7_272 (shp hG rfl) rfl ?_
        refine Go.eqI (y := 0) (hR222q.2.2.2) ?_
        refine Go.if_eq 121 dX7_wantLiking_95 rfl (fun _ => ?_) (fun h95 => absurd (by decide) h95)
        refine Go.vret dX7_wantLiking_121 rfl ?_
        have hwh : whtF L b (tE L b p) = some 0 := by
          unfold whtF
          simp only [bi_n0.mp h11, if_true, Bool.false_eq_true, if_false]
        unfold pLik
        rw [hwh]
        show _ ∧ Im _ _ _ _ (if nOk L b (tE L b (tE L b p)) (8 - 1) then _ else _)
        rw [if_pos hn221q, if_neg (by rw [hn224q]; decide)]
        exact ⟨rfl, hR222q, fun q => (by cases q), (((((hf184q).trans (hf216q)).trans (hf218q)).trans (hf220q)).trans (hf223q)).fi⟩
    · skip
      refine Go.istore_n (ls' := [some (.ref 49), some (.int 0), some (.int 0), some (.int r49), none]) dX7_wantLiking_81 (Nat.le_of_ble_eq_true rfl) rfl rfl ?_
      refine Go.aload_n dX7_wantLiking_82 rfl ?_
      refine Go.iconst (v := 0) dX7_wantLiking_83 (by decide) ?_
      refine Go.bipush (v := 9) dX7_wantLiking_84 (by decide) ?_
      refine Go.callVI [] dX7_wantLiking_86 lkX7_285 imX7_wantNumber seX7_wantNumber cbX7_wantNumber (r_num0 hG hR219q 9) (shp hG rfl) rfl rfl rfl (Nat.le_of_ble_eq_true rfl) (fun r56 M57 hr56 => ?_)
      obtain ⟨hR225q, hf226q⟩ := hr56
      refine Go.istore (ls' := [some (.ref 49), some (.int 0), some (.int 0), some (.int r49), some (.int r56)]) dX7_wantLiking_89 (Nat.le_of_ble_eq_true rfl) rfl rfl ?_
      refine Go.aload_n dX7_wantLiking_91 rfl ?_
      refine Go.getI dX7_wantLiking_92 flX7_272 (shp hG rfl) rfl ?_
      refine Go.eqI (y := 0) (hR225q.2.2.2) ?_
      refine Go.if_eq 121 dX7_wantLiking_95 rfl (fun _ => ?_) (fun h95 => absurd (by decide) h95)
      refine Go.vret dX7_wantLiking_121 rfl ?_
      have hwh : whtF L b (tE L b p) = some 0 := by
        unfold whtF
        simp only [bi_n0.mp h11, if_true, Bool.false_eq_true, if_false]
      unfold pLik
      rw [hwh]
      show _ ∧ Im _ _ _ _ (if nOk L b (tE L b (tE L b p)) (8 - 1) then _ else _)
      rw [if_neg (by rw [hn221q]; decide)]
      exact ⟨rfl, hR225q, fun q => (by cases q), (((((hf184q).trans (hf216q)).trans (hf218q)).trans (hf220q)).trans (hf226q)).fi⟩
set_option maxRecDepth 20000 in
theorem r_kind {G : Gt} {d : Nat} {M : Mm} (hG : gS G = SHAPE) {L : Nat} {b : Nat → Int32} {p : Nat} (hR : Rs M L b true p) : ExI G (d + 1) mX7_kindHere [.ref 49] M (fun r M' => r = optI (-1) (fstF (isWP L b p) 0 6) ∧ M' = M) := by
  refine Ex.of (by decide) (Nat.le_of_ble_eq_true rfl) ?_
  show Go G (d + 1) mX7_kindHere 0 [some (.ref 49)] [] M _
  refine Go.aload_n dX7_kindHere_0 rfl ?_
  refine Go.ldc2 dX7_kindHere_1 klX7_256 ?_
  refine Go.callVI [] dX7_kindHere_4 lkX7_258 imX7_isWord seX7_isWord cbX7_isWord (r_isWord hG hR (k := 0) (by decide) (w := 2947858) rfl) (shp hG rfl) rfl rfl rfl (Nat.le_of_ble_eq_true rfl) (fun r1 M2 hr1 => ?_)
  obtain ⟨er1, emr1⟩ := hr1
  rw [emr1]
  clear emr1 M2
  subst er1
  refine Go.if_eq 14 dX7_kindHere_7 rfl (fun h7 => ?_) (fun h7 => ?_)
  · refine Go.aload_n dX7_kindHere_14 rfl ?_
    refine Go.ldc2 dX7_kindHere_15 klX7_262 ?_
    refine Go.callVI [] dX7_kindHere_18 lkX7_258 imX7_isWord seX7_isWord cbX7_isWord (r_isWord hG hR (k := 1) (by decide) (w := 230482966) rfl) (shp hG rfl) rfl rfl rfl (Nat.le_of_ble_eq_true rfl) (fun r3 M4 hr3 => ?_)
    obtain ⟨er3, emr3⟩ := hr3
    rw [emr3]
    clear emr3 M4
    subst er3
    refine Go.if_eq 28 dX7_kindHere_21 rfl (fun h21 => ?_) (fun h21 => ?_)
    · refine Go.aload_n dX7_kindHere_28 rfl ?_
      refine Go.ldc2 dX7_kindHere_29 klX7_264 ?_
      refine Go.callVI [] dX7_kindHere_32 lkX7_258 imX7_isWord seX7_isWord cbX7_isWord (r_isWord hG hR (k := 2) (by decide) (w := 4137608) rfl) (shp hG rfl) rfl rfl rfl (Nat.le_of_ble_eq_true rfl) (fun r5 M6 hr5 => ?_)
      obtain ⟨er5, emr5⟩ := hr5
      rw [emr5]
      clear emr5 M6
      subst er5
      refine Go.if_eq 42 dX7_kindHere_35 rfl (fun h35 => ?_) (fun h35 => ?_)
      · refine Go.aload_n dX7_kindHere_42 rfl ?_
        refine Go.ldc2 dX7_kindHere_43 klX7_266 ?_
        refine Go.callVI [] dX7_kindHere_46 lkX7_258 imX7_isWord seX7_isWord cbX7_isWord (r_isWord hG hR (k := 3) (by decide) (w := 7469473) rfl) (shp hG rfl) rfl rfl rfl (Nat.le_of_ble_eq_true rfl) (fun r7 M8 hr7 => ?_)
        obtain ⟨er7, emr7⟩ := hr7
        rw [emr7]
        clear emr7 M8
        subst er7
        refine Go.if_eq 56 dX7_kindHere_49 rfl (fun h49 => ?_) (fun h49 => ?_)
        · refine Go.aload_n dX7_kindHere_56 rfl ?_
          refine Go.ldc2 dX7_kindHere_57 klX7_268 ?_
          refine Go.callVI [] dX7_kindHere_60 lkX7_258 imX7_isWord seX7_isWord cbX7_isWord (r_isWord hG hR (k := 4) (by decide) (w := 3288323) rfl) (shp hG rfl) rfl rfl rfl (Nat.le_of_ble_eq_true rfl) (fun r9 M10 hr9 => ?_)
          obtain ⟨er9, emr9⟩ := hr9
          rw [emr9]
          clear emr9 M10
          subst er9
          refine Go.if_eq 70 dX7_kindHere_63 rfl (fun h63 => ?_) (fun h63 => ?_)
          · refine Go.aload_n dX7_kindHere_70 rfl ?_
            refine Go.ldc2 dX7_kindHere_71 klX7_270 ?_
            refine Go.callVI [] dX7_kindHere_74 lkX7_258 imX7_isWord seX7_isWord cbX7_isWord (r_isWord hG hR (k := 5) (by decide) (w := 275358764) rfl) (shp hG rfl) rfl rfl rfl (Nat.le_of_ble_eq_true rfl) (fun r11 M12 hr11 => ?_)
            obtain ⟨er11, emr11⟩ := hr11
            rw [emr11]
            clear emr11 M12
            subst er11
            refine Go.if_eq 84 dX7_kindHere_77 rfl (fun h77 => ?_) (fun h77 => ?_)
            · refine Go.iconst (v := -1) dX7_kindHere_84 (by decide) ?_
              refine Go.iret dX7_kindHere_85 rfl rfl ?_
              refine ⟨_, rfl, ?_, rfl⟩
              simp only [fstF, bi_0.mp h7, bi_0.mp h21, bi_0.mp h35, bi_0.mp h49, bi_0.mp h63, bi_0.mp h77, if_true, Bool.false_eq_true, if_false]
              rfl
            · refine Go.iconst (v := 5) dX7_kindHere_80 (by decide) ?_
              refine Go.goto 85 dX7_kindHere_81 rfl ?_
              refine Go.iret dX7_kindHere_85 rfl rfl ?_
              refine ⟨_, rfl, ?_, rfl⟩
              simp only [fstF, bi_0.mp h7, bi_0.mp h21, bi_0.mp h35, bi_0.mp h49, bi_0.mp h63, bi_n0.mp h77, if_true, Bool.false_eq_true, if_false]
              rfl
          · refine Go.iconst (v := 4) dX7_kindHere_66 (by decide) ?_
            refine Go.goto 85 dX7_kindHere_67 rfl ?_
            refine Go.iret dX7_kindHere_85 rfl rfl ?_
            refine ⟨_, rfl, ?_, rfl⟩
            simp only [fstF, bi_0.mp h7, bi_0.mp h21, bi_0.mp h35, bi_0.mp h49, bi_n0.mp h63, if_true, Bool.false_eq_true, if_false]
            rfl
        · refine Go.iconst (v := 3) dX7_kindHere_52 (by decide) ?_
          refine Go.goto 85 dX7_kindHere_53 rfl ?_
          refine Go.iret dX7_kindHere_85 rfl rfl ?_
          refine ⟨_, rfl, ?_, rfl⟩
          simp only [fstF, bi_0.mp h7, bi_0.mp h21, bi_0.mp h35, bi_n0.mp h49, if_true, Bool.false_eq_true, if_false]
          rfl
      · refine Go.iconst (v := 2) dX7_kindHere_38 (by decide) ?_
        refine Go.goto 85 dX7_kindHere_39 rfl ?_
        refine Go.iret dX7_kindHere_85 rfl rfl ?_
        refine ⟨_, rfl, ?_, rfl⟩
        simp only [fstF, bi_0.mp h7, bi_0.mp h21, bi_n0.mp h35, if_true, Bool.false_eq_true, if_false]
        rfl
    · refine Go.iconst (v := 1) dX7_kindHere_24 (by decide) ?_
      refine Go.goto 85 dX7_kindHere_25 rfl ?_
      refine Go.iret dX7_kindHere_85 rfl rfl ?_
      refine ⟨_, rfl, ?_, rfl⟩
      simp only [fstF, bi_0.mp h7, bi_n0.mp h21, if_true, Bool.false_eq_true, if_false]
      rfl
  · refine Go.iconst (v := 0) dX7_kindHere_10 (by decide) ?_
    refine Go.goto 85 dX7_kindHere_11 rfl ?_
    refine Go.iret dX7_kindHere_85 rfl rfl ?_
    refine ⟨_, rfl, ?_, rfl⟩
    simp only [fstF, bi_n0.mp h7, if_true, Bool.false_eq_true, if_false]
    rfl
