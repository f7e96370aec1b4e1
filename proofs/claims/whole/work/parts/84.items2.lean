theorem sg_1 : ∀ v, v < 10 → (1 : Int32) * nI v = lkv true v ∧ (-1 : Int32) * nI v = lkv false v := by decide +kernel
theorem wht_lt {L : Nat} {b : Nat → Int32} {p w : Nat} (h : whtF L b p = some w) : w < 3 := by
  unfold whtF at h
  split at h
  · cases h; decide
  · split at h
    · cases h; decide
    · split at h
      · cases h; decide
      · cases h
set_option maxRecDepth 20000 in
theorem a_likes {G : Gt} {d : Nat} {M : Mm} (hG : gS G = SHAPE) {L : Nat} {b : Nat → Int32} {p : Nat} {u : Bu} (hD : Dr M L b p u) (hu : BuOk u) : ExI G (d + 6) mX5_takeLiking [.ref 37, .ref 17, .int 1] M (fun r M' => It M M' L b r (pLik L b true u p)) := by
  refine Ex.of (by decide) (Nat.le_of_ble_eq_true rfl) ?_
  show Go G (d + 6) mX5_takeLiking 0 [some (.ref 37), some (.ref 17), some (.int 1), none, none, none, none] [] M _
  refine Go.aload_n dX5_takeLiking_0 rfl ?_
  refine Go.callVI [] dX5_takeLiking_1 lkX5_119 imX5_whatNamed seX5_whatNamed cbX5_whatNamed (a_whatNamed hG hD.1) (shp hG rfl) rfl rfl rfl (Nat.le_of_ble_eq_true rfl) (fun r1 M2 hr1 => ?_)
  obtain ⟨er1, emr1⟩ := hr1
  rw [emr1]
  clear emr1 M2
  subst er1
  rcases hwh : whtF L b p with _ | w
  · show Go _ _ _ _ _ [.int (-1)] _ _
    refine Go.istore_n (ls' := [some (.ref 37), some (.ref 17), some (.int 1), some (.int ((-1))), none, none, none]) dX5_takeLiking_4 (Nat.le_of_ble_eq_true rfl) rfl rfl ?_
    refine Go.iload_n dX5_takeLiking_5 rfl ?_
    refine Go.if_ge 11 dX5_takeLiking_6 rfl (fun h6 => absurd h6 (by decide)) (fun _ => ?_)
    refine Go.iconst (v := 0) dX5_takeLiking_9 (by decide) ?_
    refine Go.iret dX5_takeLiking_10 rfl (by decide) ?_
    refine ⟨_, rfl, ?_⟩
    unfold pLik
    rw [hwh]
    exact ⟨rfl, hD.1, fun q => (by cases q), Same.refl _ _⟩
  · show Go _ _ _ _ _ [.int (nI w)] _ _
    have hw3 := wht_lt hwh
    refine Go.istore_n (ls' := [some (.ref 37), some (.ref 17), some (.int 1), some (.int (nI w)), none, none, none]) dX5_takeLiking_4 (Nat.le_of_ble_eq_true rfl) rfl rfl ?_
    refine Go.iload_n dX5_takeLiking_5 rfl ?_
    refine Go.if_ge 11 dX5_takeLiking_6 rfl (fun _ => ?_) (fun h6 => absurd (nI_pos' (by omega)) h6)
    obtain hw0 | hw0 | hw0 : w = 0 ∨ w = 1 ∨ w = 2 := by omega
    · subst hw0
      refine Go.aload_n dX5_takeLiking_11 rfl ?_
      refine Go.callVV [] dX5_takeLiking_12 lkX5_31 imX5_advance seX5_advance cbX5_advance (a_adv hG hD.1) (shp hG rfl) rfl rfl rfl (Nat.le_of_ble_eq_true rfl) (fun M4 hr3 => ?_)
      obtain ⟨hA28q, hs29q⟩ := hr3
      refine Go.aload_n dX5_takeLiking_15 rfl ?_
      refine Go.iload_n dX5_takeLiking_16 rfl ?_
      refine Go.callVR [] dX5_takeLiking_17 lkX5_122 imX1_likedOf seX1_likedOf cbX1_likedOf (s_likedOf17 hG (w := 0) (by decide)) (shp hG rfl) rfl rfl rfl (Nat.le_of_ble_eq_true rfl) (fun r5 M6 hr5 => ?_)
      obtain ⟨rfl, emr5⟩ := hr5
      rw [emr5]
      clear emr5 M6
      refine Go.astore (ls' := [some (.ref 37), some (.ref 17), some (.int 1), some (.int (nI 0)), some (.ref 19), none, none]) dX5_takeLiking_20 (Nat.le_of_ble_eq_true rfl) rfl rfl ?_
      refine Go.aload_n dX5_takeLiking_22 rfl ?_
      refine Go.aload dX5_takeLiking_23 rfl ?_
      refine Go.alenI (v := 8) dX5_takeLiking_25 (shp hG rfl) (by decide) ?_
      refine Go.iconst (v := 1) dX5_takeLiking_26 (by decide) ?_
      refine Go.isub dX5_takeLiking_27 ?_
      refine Go.eqI (y := nI 7) (by decide) ?_
      refine Go.callVI [] dX5_takeLiking_28 lkX5_98 imX5_takeNumber seX5_takeNumber cbX5_takeNumber (a_takeNumber hG hA28q (m := 7) (by omega)) (shp hG rfl) rfl rfl rfl (Nat.le_of_ble_eq_true rfl) (fun r7 M8 hr7 => ?_)
      rcases hr7 with ⟨hn32q, ex9, hA30q, hs31q⟩ | ⟨hn32q, ex9, hA30q, hs31q⟩
      · rw [ex9]
        have hn32ql := (nOk_le hn32q).2
        refine Go.istore (ls' := [some (.ref 37), some (.ref 17), some (.int 1), some (.int (nI 0)), some (.ref 19), some (.int (nI (tV L b (tE L b p)))), none]) dX5_takeLiking_31 (Nat.le_of_ble_eq_true rfl) rfl rfl ?_
        refine Go.iload dX5_takeLiking_33 rfl ?_
        refine Go.if_ge 42 dX5_takeLiking_35 rfl (fun _ => ?_) (fun h35 => absurd (nI_pos' (by omega)) h35)
        refine Go.aload_n dX5_takeLiking_42 rfl ?_
        refine Go.bipush (v := 9) dX5_takeLiking_43 (by decide) ?_
        refine Go.callVI [] dX5_takeLiking_45 lkX5_98 imX5_takeNumber seX5_takeNumber cbX5_takeNumber (a_takeNumber hG hA30q (m := 9) (by omega)) (shp hG rfl) rfl rfl rfl (Nat.le_of_ble_eq_true rfl) (fun r9 M10 hr9 => ?_)
        rcases hr9 with ⟨hn35q, ex9, hA33q, hs34q⟩ | ⟨hn35q, ex9, hA33q, hs34q⟩
        · rw [ex9]
          have hn35ql := (nOk_le hn35q).2
          refine Go.istore (ls' := [some (.ref 37), some (.ref 17), some (.int 1), some (.int (nI 0)), some (.ref 19), some (.int (nI (tV L b (tE L b p)))), some (.int (nI (tV L b (tE L b (tE L b p)))))]) dX5_takeLiking_48 (Nat.le_of_ble_eq_true rfl) rfl rfl ?_
          refine Go.iload dX5_takeLiking_50 rfl ?_
          refine Go.if_ge 57 dX5_takeLiking_52 rfl (fun _ => ?_) (fun h52 => absurd (nI_pos' (by omega)) h52)
          refine Go.aload dX5_takeLiking_57 rfl ?_
          refine Go.iload dX5_takeLiking_59 rfl ?_
          refine Go.iload_n dX5_takeLiking_61 rfl ?_
          refine Go.iload dX5_takeLiking_62 rfl ?_
          refine Go.imul dX5_takeLiking_64 ?_
          refine Go.eqI (y := lkv true (tV L b (tE L b (tE L b p)))) ((sg_1 _ (by omega)).1) ?_
          refine Go.iast dX5_takeLiking_65 (shp hG rfl) (vin (by omega) (by decide)) ?_
          refine Go.nmM (fun N11 eN11 => ?_)
          refine Go.iconst (v := 1) dX5_takeLiking_66 (by decide) ?_
          refine Go.iret dX5_takeLiking_67 rfl (by decide) ?_
          refine ⟨_, rfl, ?_⟩
          unfold pLik
          rw [hwh]
          show It _ _ _ _ _ (if nOk L b (tE L b p) (8 - 1) then _ else _)
          rw [if_pos hn32q, if_pos hn35q]
          have eM : N11 = upi M10 (17 + 2 + 0) (tV L b (tE L b p)) (lkv true (tV L b (tE L b (tE L b p)))) := by rw [eN11, ncl (by omega)]
          have hsm : Same [17, 18, 19, 20, 21, 22, 23, 24] M10 N11 := by rw [eM]; exact Same.upi _ 19 _ _ (by decide)
          exact ⟨rfl, hA33q.keep hsm, fun _ => by rw [eM]; exact BuC.lik ((((hD.2).s37 hs29q).s37 hs31q).s37 hs34q) (by decide) _ _, (((sm37 hs29q).trans (sm37 hs31q)).trans (sm37 hs34q)).trans (sm17 hsm)⟩
        · rw [ex9]
          refine Go.istore (ls' := [some (.ref 37), some (.ref 17), some (.int 1), some (.int (nI 0)), some (.ref 19), some (.int (nI (tV L b (tE L b p)))), some (.int ((-1)))]) dX5_takeLiking_48 (Nat.le_of_ble_eq_true rfl) rfl rfl ?_
          refine Go.iload dX5_takeLiking_50 rfl ?_
          refine Go.if_ge 57 dX5_takeLiking_52 rfl (fun h52 => absurd h52 (by decide)) (fun _ => ?_)
          refine Go.iconst (v := 0) dX5_takeLiking_55 (by decide) ?_
          refine Go.iret dX5_takeLiking_56 rfl (by decide) ?_
          refine ⟨_, rfl, ?_⟩
          unfold pLik
          rw [hwh]
          show It _ _ _ _ _ (if nOk L b (tE L b p) (8 - 1) then _ else _)
          rw [if_pos hn32q, if_neg (by rw [hn35q]; decide)]
          exact ⟨rfl, hA33q, fun q => (by cases q), ((sm37 hs29q).trans (sm37 hs31q)).trans (sm37 hs34q)⟩
      · rw [ex9]
        refine Go.istore (ls' := [some (.ref 37), some (.ref 17), some (.int 1), some (.int (nI 0)), some (.ref 19), some (.int ((-1))), none]) dX5_takeLiking_31 (Nat.le_of_ble_eq_true rfl) rfl rfl ?_
        refine Go.iload dX5_takeLiking_33 rfl ?_
        refine Go.if_ge 42 dX5_takeLiking_35 rfl (fun h35 => absurd h35 (by decide)) (fun _ => ?_)
        refine Go.iconst (v := -1) dX5_takeLiking_38 (by decide) ?_
        refine Go.goto 48 dX5_takeLiking_39 rfl ?_
        refine Go.istore (ls' := [some (.ref 37), some (.ref 17), some (.int 1), some (.int (nI 0)), some (.ref 19), some (.int ((-1))), some (.int ((-1)))]) dX5_takeLiking_48 (Nat.le_of_ble_eq_true rfl) rfl rfl ?_
        refine Go.iload dX5_takeLiking_50 rfl ?_
        refine Go.if_ge 57 dX5_takeLiking_52 rfl (fun h52 => absurd h52 (by decide)) (fun _ => ?_)
        refine Go.iconst (v := 0) dX5_takeLiking_55 (by decide) ?_
        refine Go.iret dX5_takeLiking_56 rfl (by decide) ?_
        refine ⟨_, rfl, ?_⟩
        unfold pLik
        rw [hwh]
        show It _ _ _ _ _ (if nOk L b (tE L b p) (8 - 1) then _ else _)
        rw [if_neg (by rw [hn32q]; decide)]
        exact ⟨rfl, hA30q, fun q => (by cases q), (sm37 hs29q).trans (sm37 hs31q)⟩
    · subst hw0
      refine Go.aload_n dX5_takeLiking_11 rfl ?_
      refine Go.callVV [] dX5_takeLiking_12 lkX5_31 imX5_advance seX5_advance cbX5_advance (a_adv hG hD.1) (shp hG rfl) rfl rfl rfl (Nat.le_of_ble_eq_true rfl) (fun M13 hr12 => ?_)
      obtain ⟨hA36q, hs37q⟩ := hr12
      refine Go.aload_n dX5_takeLiking_15 rfl ?_
      refine Go.iload_n dX5_takeLiking_16 rfl ?_
      refine Go.callVR [] dX5_takeLiking_17 lkX5_122 imX1_likedOf seX1_likedOf cbX1_likedOf (s_likedOf17 hG (w := 1) (by decide)) (shp hG rfl) rfl rfl rfl (Nat.le_of_ble_eq_true rfl) (fun r14 M15 hr14 => ?_)
      obtain ⟨rfl, emr14⟩ := hr14
      rw [emr14]
      clear emr14 M15
      refine Go.astore (ls' := [some (.ref 37), some (.ref 17), some (.int 1), some (.int (nI 1)), some (.ref 20), none, none]) dX5_takeLiking_20 (Nat.le_of_ble_eq_true rfl) rfl rfl ?_
      refine Go.aload_n dX5_takeLiking_22 rfl ?_
      refine Go.aload dX5_takeLiking_23 rfl ?_
      refine Go.alenI (v := 5) dX5_takeLiking_25 (shp hG rfl) (by decide) ?_
      refine Go.iconst (v := 1) dX5_takeLiking_26 (by decide) ?_
      refine Go.isub dX5_takeLiking_27 ?_
      refine Go.eqI (y := nI 4) (by decide) ?_
      refine Go.callVI [] dX5_takeLiking_28 lkX5_98 imX5_takeNumber seX5_takeNumber cbX5_takeNumber (a_takeNumber hG hA36q (m := 4) (by omega)) (shp hG rfl) rfl rfl rfl (Nat.le_of_ble_eq_true rfl) (fun r16 M17 hr16 => ?_)
      rcases hr16 with ⟨hn40q, ex9, hA38q, hs39q⟩ | ⟨hn40q, ex9, hA38q, hs39q⟩
      · rw [ex9]
        have hn40ql := (nOk_le hn40q).2
        refine Go.istore (ls' := [some (.ref 37), some (.ref 17), some (.int 1), some (.int (nI 1)), some (.ref 20), some (.int (nI (tV L b (tE L b p)))), none]) dX5_takeLiking_31 (Nat.le_of_ble_eq_true rfl) rfl rfl ?_
        refine Go.iload dX5_takeLiking_33 rfl ?_
        refine Go.if_ge 42 dX5_takeLiking_35 rfl (fun _ => ?_) (fun h35 => absurd (nI_pos' (by omega)) h35)
        refine Go.aload_n dX5_takeLiking_42 rfl ?_
        refine Go.bipush (v := 9) dX5_takeLiking_43 (by decide) ?_
        refine Go.callVI [] dX5_takeLiking_45 lkX5_98 imX5_takeNumber seX5_takeNumber cbX5_takeNumber (a_takeNumber hG hA38q (m := 9) (by omega)) (shp hG rfl) rfl rfl rfl (Nat.le_of_ble_eq_true rfl) (fun r18 M19 hr18 => ?_)
        rcases hr18 with ⟨hn43q, ex9, hA41q, hs42q⟩ | ⟨hn43q, ex9, hA41q, hs42q⟩
        · rw [ex9]
          have hn43ql := (nOk_le hn43q).2
          refine Go.istore (ls' := [some (.ref 37), some (.ref 17), some (.int 1), some (.int (nI 1)), some (.ref 20), some (.int (nI (tV L b (tE L b p)))), some (.int (nI (tV L b (tE L b (tE L b p)))))]) dX5_takeLiking_48 (Nat.le_of_ble_eq_true rfl) rfl rfl ?_
          refine Go.iload dX5_takeLiking_50 rfl ?_
          refine Go.if_ge 57 dX5_takeLiking_52 rfl (fun _ => ?_) (fun h52 => absurd (nI_pos' (by omega)) h52)
          refine Go.aload dX5_takeLiking_57 rfl ?_
          refine Go.iload dX5_takeLiking_59 rfl ?_
          refine Go.iload_n dX5_takeLiking_61 rfl ?_
          refine Go.iload dX5_takeLiking_62 rfl ?_
          refine Go.imul dX5_takeLiking_64 ?_
          refine Go.eqI (y := lkv true (tV L b (tE L b (tE L b p)))) ((sg_1 _ (by omega)).1) ?_
          refine Go.iast dX5_takeLiking_65 (shp hG rfl) (vin (by omega) (by decide)) ?_
          refine Go.nmM (fun N20 eN20 => ?_)
          refine Go.iconst (v := 1) dX5_takeLiking_66 (by decide) ?_
          refine Go.iret dX5_takeLiking_67 rfl (by decide) ?_
          refine ⟨_, rfl, ?_⟩
          unfold pLik
          rw [hwh]
          show It _ _ _ _ _ (if nOk L b (tE L b p) (5 - 1) then _ else _)
          rw [if_pos hn40q, if_pos hn43q]
          have eM : N20 = upi M19 (17 + 2 + 1) (tV L b (tE L b p)) (lkv true (tV L b (tE L b (tE L b p)))) := by rw [eN20, ncl (by omega)]
          have hsm : Same [17, 18, 19, 20, 21, 22, 23, 24] M19 N20 := by rw [eM]; exact Same.upi _ 20 _ _ (by decide)
          exact ⟨rfl, hA41q.keep hsm, fun _ => by rw [eM]; exact BuC.lik ((((hD.2).s37 hs37q).s37 hs39q).s37 hs42q) (by decide) _ _, (((sm37 hs37q).trans (sm37 hs39q)).trans (sm37 hs42q)).trans (sm17 hsm)⟩
        · rw [ex9]
          refine Go.istore (ls' := [some (.ref 37), some (.ref 17), some (.int 1), some (.int (nI 1)), some (.ref 20), some (.int (nI (tV L b (tE L b p)))), some (.int ((-1)))]) dX5_takeLiking_48 (Nat.le_of_ble_eq_true rfl) rfl rfl ?_
          refine Go.iload dX5_takeLiking_50 rfl ?_
          refine Go.if_ge 57 dX5_takeLiking_52 rfl (fun h52 => absurd h52 (by decide)) (fun _ => ?_)
          refine Go.iconst (v := 0) dX5_takeLiking_55 (by decide) ?_
          refine Go.iret dX5_takeLiking_56 rfl (by decide) ?_
          refine ⟨_, rfl, ?_⟩
          unfold pLik
          rw [hwh]
          show It _ _ _ _ _ (if nOk L b (tE L b p) (5 - 1) then _ else _)
          rw [if_pos hn40q, if_neg (by rw [hn43q]; decide)]
          exact ⟨rfl, hA41q, fun q => (by cases q), ((sm37 hs37q).trans (sm37 hs39q)).trans (sm37 hs42q)⟩
      · rw [ex9]
        refine Go.istore (ls' := [some (.ref 37), some (.ref 17), some (.int 1), some (.int (nI 1)), some (.ref 20), some (.int ((-1))), none]) dX5_takeLiking_31 (Nat.le_of_ble_eq_true rfl) rfl rfl ?_
        refine Go.iload dX5_takeLiking_33 rfl ?_
        refine Go.if_ge 42 dX5_takeLiking_35 rfl (fun h35 => absurd h35 (by decide)) (fun _ => ?_)
        refine Go.iconst (v := -1) dX5_takeLiking_38 (by decide) ?_
        refine Go.goto 48 dX5_takeLiking_39 rfl ?_
        refine Go.istore (ls' := [some (.ref 37), some (.ref 17), some (.int 1), some (.int (nI 1)), some (.ref 20), some (.int ((-1))), some (.int ((-1)))]) dX5_takeLiking_48 (Nat.le_of_ble_eq_true rfl) rfl rfl ?_
        refine Go.iload dX5_takeLiking_50 rfl ?_
        refine Go.if_ge 57 dX5_takeLiking_52 rfl (fun h52 => absurd h52 (by decide)) (fun _ => ?_)
        refine Go.iconst (v := 0) dX5_takeLiking_55 (by decide) ?_
        refine Go.iret dX5_takeLiking_56 rfl (by decide) ?_
        refine ⟨_, rfl, ?_⟩
        unfold pLik
        rw [hwh]
        show It _ _ _ _ _ (if nOk L b (tE L b p) (5 - 1) then _ else _)
        rw [if_neg (by rw [hn40q]; decide)]
        exact ⟨rfl, hA38q, fun q => (by cases q), (sm37 hs37q).trans (sm37 hs39q)⟩
    · subst hw0
      refine Go.aload_n dX5_takeLiking_11 rfl ?_
      refine Go.callVV [] dX5_takeLiking_12 lkX5_31 imX5_advance seX5_advance cbX5_advance (a_adv hG hD.1) (shp hG rfl) rfl rfl rfl (Nat.le_of_ble_eq_true rfl) (fun M22 hr21 => ?_)
      obtain ⟨hA44q, hs45q⟩ := hr21
      refine Go.aload_n dX5_takeLiking_15 rfl ?_
      refine Go.iload_n dX5_takeLiking_16 rfl ?_
      refine Go.callVR [] dX5_takeLiking_17 lkX5_122 imX1_likedOf seX1_likedOf cbX1_likedOf (s_likedOf17 hG (w := 2) (by decide)) (shp hG rfl) rfl rfl rfl (Nat.le_of_ble_eq_true rfl) (fun r23 M24 hr23 => ?_)
      obtain ⟨rfl, emr23⟩ := hr23
      rw [emr23]
      clear emr23 M24
      refine Go.astore (ls' := [some (.ref 37), some (.ref 17), some (.int 1), some (.int (nI 2)), some (.ref 21), none, none]) dX5_takeLiking_20 (Nat.le_of_ble_eq_true rfl) rfl rfl ?_
      refine Go.aload_n dX5_takeLiking_22 rfl ?_
      refine Go.aload dX5_takeLiking_23 rfl ?_
      refine Go.alenI (v := 4) dX5_takeLiking_25 (shp hG rfl) (by decide) ?_
      refine Go.iconst (v := 1) dX5_takeLiking_26 (by decide) ?_
      refine Go.isub dX5_takeLiking_27 ?_
      refine Go.eqI (y := nI 3) (by decide) ?_
      refine Go.callVI [] dX5_takeLiking_28 lkX5_98 imX5_takeNumber seX5_takeNumber cbX5_takeNumber (a_takeNumber hG hA44q (m := 3) (by omega)) (shp hG rfl) rfl rfl rfl (Nat.le_of_ble_eq_true rfl) (fun r25 M26 hr25 => ?_)
      rcases hr25 with ⟨hn48q, ex9, hA46q, hs47q⟩ | ⟨hn48q, ex9, hA46q, hs47q⟩
      · rw [ex9]
        have hn48ql := (nOk_le hn48q).2
        refine Go.istore (ls' := [some (.ref 37), some (.ref 17), some (.int 1), some (.int (nI 2)), some (.ref 21), some (.int (nI (tV L b (tE L b p)))), none]) dX5_takeLiking_31 (Nat.le_of_ble_eq_true rfl) rfl rfl ?_
        refine Go.iload dX5_takeLiking_33 rfl ?_
        refine Go.if_ge 42 dX5_takeLiking_35 rfl (fun _ => ?_) (fun h35 => absurd (nI_pos' (by omega)) h35)
        refine Go.aload_n dX5_takeLiking_42 rfl ?_
        refine Go.bipush (v := 9) dX5_takeLiking_43 (by decide) ?_
        refine Go.callVI [] dX5_takeLiking_45 lkX5_98 imX5_takeNumber seX5_takeNumber cbX5_takeNumber (a_takeNumber hG hA46q (m := 9) (by omega)) (shp hG rfl) rfl rfl rfl (Nat.le_of_ble_eq_true rfl) (fun r27 M28 hr27 => ?_)
        rcases hr27 with ⟨hn51q, ex9, hA49q, hs50q⟩ | ⟨hn51q, ex9, hA49q, hs50q⟩
        · rw [ex9]
          have hn51ql := (nOk_le hn51q).2
          refine Go.istore (ls' := [some (.ref 37), some (.ref 17), some (.int 1), some (.int (nI 2)), some (.ref 21), some (.int (nI (tV L b (tE L b p)))), some (.int (nI (tV L b (tE L b (tE L b p)))))]) dX5_takeLiking_48 (Nat.le_of_ble_eq_true rfl) rfl rfl ?_
          refine Go.iload dX5_takeLiking_50 rfl ?_
          refine Go.if_ge 57 dX5_takeLiking_52 rfl (fun _ => ?_) (fun h52 => absurd (nI_pos' (by omega)) h52)
          refine Go.aload dX5_takeLiking_57 rfl ?_
          refine Go.iload dX5_takeLiking_59 rfl ?_
          refine Go.iload_n dX5_takeLiking_61 rfl ?_
          refine Go.iload dX5_takeLiking_62 rfl ?_
          refine Go.imul dX5_takeLiking_64 ?_
          refine Go.eqI (y := lkv true (tV L b (tE L b (tE L b p)))) ((sg_1 _ (by omega)).1) ?_
          refine Go.iast dX5_takeLiking_65 (shp hG rfl) (vin (by omega) (by decide)) ?_
          refine Go.nmM (fun N29 eN29 => ?_)
          refine Go.iconst (v := 1) dX5_takeLiking_66 (by decide) ?_
          refine Go.iret dX5_takeLiking_67 rfl (by decide) ?_
          refine ⟨_, rfl, ?_⟩
          unfold pLik
          rw [hwh]
          show It _ _ _ _ _ (if nOk L b (tE L b p) (4 - 1) then _ else _)
          rw [if_pos hn48q, if_pos hn51q]
          have eM : N29 = upi M28 (17 + 2 + 2) (tV L b (tE L b p)) (lkv true (tV L b (tE L b (tE L b p)))) := by rw [eN29, ncl (by omega)]
          have hsm : Same [17, 18, 19, 20, 21, 22, 23, 24] M28 N29 := by rw [eM]; exact Same.upi _ 21 _ _ (by decide)
          exact ⟨rfl, hA49q.keep hsm, fun _ => by rw [eM]; exact BuC.lik ((((hD.2).s37 hs45q).s37 hs47q).s37 hs50q) (by decide) _ _, (((sm37 hs45q).trans (sm37 hs47q)).trans (sm37 hs50q)).trans (sm17 hsm)⟩
        · rw [ex9]
          refine Go.istore (ls' := [some (.ref 37), some (.ref 17), some (.int 1), some (.int (nI 2)), some (.ref 21), some (.int (nI (tV L b (tE L b p)))), some (.int ((-1)))]) dX5_takeLiking_48 (Nat.le_of_ble_eq_true rfl) rfl rfl ?_
          refine Go.iload dX5_takeLiking_50 rfl ?_
          refine Go.if_ge 57 dX5_takeLiking_52 rfl (fun h52 => absurd h52 (by decide)) (fun _ => ?_)
          refine Go.iconst (v := 0) dX5_takeLiking_55 (by decide) ?_
          refine Go.iret dX5_takeLiking_56 rfl (by decide) ?_
          refine ⟨_, rfl, ?_⟩
          unfold pLik
          rw [hwh]
          show It _ _ _ _ _ (if nOk L b (tE L b p) (4 - 1) then _ else _)
          rw [if_pos hn48q, if_neg (by rw [hn51q]; decide)]
          exact ⟨rfl, hA49q, fun q => (by cases q), ((sm37 hs45q).trans (sm37 hs47q)).trans (sm37 hs50q)⟩
      · rw [ex9]
        refine Go.istore (ls' := [some (.ref 37), some (.ref 17), some (.int 1), some (.int (nI 2)), some (.ref 21), some (.int ((-1))), none]) dX5_takeLiking_31 (Nat.le_of_ble_eq_true rfl) rfl rfl ?_
        refine Go.iload dX5_takeLiking_33 rfl ?_
        refine Go.if_ge 42 dX5_takeLiking_35 rfl (fun h35 => absurd h35 (by decide)) (fun _ => ?_)
        refine Go.iconst (v := -1) dX5_takeLiking_38 (by decide) ?_
        refine Go.goto 48 dX5_takeLiking_39 rfl ?_
        refine Go.istore (ls' := [some (.ref 37), some (.ref 17), some (.int 1), some (.int (nI 2)), some (.ref 21), some (.int ((-1))), some (.int ((-1)))]) dX5_takeLiking_48 (Nat.le_of_ble_eq_true rfl) rfl rfl ?_
        refine Go.iload dX5_takeLiking_50 rfl ?_
        refine Go.if_ge 57 dX5_takeLiking_52 rfl (fun h52 => absurd h52 (by decide)) (fun _ => ?_)
        refine Go.iconst (v := 0) dX5_takeLiking_55 (by decide) ?_
        refine Go.iret dX5_takeLiking_56 rfl (by decide) ?_
        refine ⟨_, rfl, ?_⟩
        unfold pLik
        rw [hwh]
        show It _ _ _ _ _ (if nOk L b (tE L b p) (4 - 1) then _ else _)
        rw [if_neg (by rw [hn48q]; decide)]
        exact ⟨rfl, hA46q, fun q => (by cases q), (sm37 hs45q).trans (sm37 hs47q)⟩
set_option maxRecDepth 20000 in
theorem a_loathes {G : Gt} {d : Nat} {M : Mm} (hG : gS G = SHAPE) {L : Nat} {b : Nat → Int32} {p : Nat} {u : Bu} (hD : Dr M L b p u) (hu : BuOk u) : ExI G (d + 6) mX5_takeLiking [.ref 37, .ref 17, .int ((-1))] M (fun r M' => It M M' L b r (pLik L b false u p)) := by
  refine Ex.of (by decide) (Nat.le_of_ble_eq_true rfl) ?_
  show Go G (d + 6) mX5_takeLiking 0 [some (.ref 37), some (.ref 17), some (.int ((-1))), none, none, none, none] [] M _
  refine Go.aload_n dX5_takeLiking_0 rfl ?_
  refine Go.callVI [] dX5_takeLiking_1 lkX5_119 imX5_whatNamed seX5_whatNamed cbX5_whatNamed (a_whatNamed hG hD.1) (shp hG rfl) rfl rfl rfl (Nat.le_of_ble_eq_true rfl) (fun r1 M2 hr1 => ?_)
  obtain ⟨er1, emr1⟩ := hr1
  rw [emr1]
  clear emr1 M2
  subst er1
  rcases hwh : whtF L b p with _ | w
  · show Go _ _ _ _ _ [.int (-1)] _ _
    refine Go.istore_n (ls' := [some (.ref 37), some (.ref 17), some (.int ((-1))), some (.int ((-1))), none, none, none]) dX5_takeLiking_4 (Nat.le_of_ble_eq_true rfl) rfl rfl ?_
    refine Go.iload_n dX5_takeLiking_5 rfl ?_
    refine Go.if_ge 11 dX5_takeLiking_6 rfl (fun h6 => absurd h6 (by decide)) (fun _ => ?_)
    refine Go.iconst (v := 0) dX5_takeLiking_9 (by decide) ?_
    refine Go.iret dX5_takeLiking_10 rfl (by decide) ?_
    refine ⟨_, rfl, ?_⟩
    unfold pLik
    rw [hwh]
    exact ⟨rfl, hD.1, fun q => (by cases q), Same.refl _ _⟩
  · show Go _ _ _ _ _ [.int (nI w)] _ _
    have hw3 := wht_lt hwh
    refine Go.istore_n (ls' := [some (.ref 37), some (.ref 17), some (.int ((-1))), some (.int (nI w)), none, none, none]) dX5_takeLiking_4 (Nat.le_of_ble_eq_true rfl) rfl rfl ?_
    refine Go.iload_n dX5_takeLiking_5 rfl ?_
    refine Go.if_ge 11 dX5_takeLiking_6 rfl (fun _ => ?_) (fun h6 => absurd (nI_pos' (by omega)) h6)
    obtain hw0 | hw0 | hw0 : w = 0 ∨ w = 1 ∨ w = 2 := by omega
    · subst hw0
      refine Go.aload_n dX5_takeLiking_11 rfl ?_
      refine Go.callVV [] dX5_takeLiking_12 lkX5_31 imX5_advance seX5_advance cbX5_advance (a_adv hG hD.1) (shp hG rfl) rfl rfl rfl (Nat.le_of_ble_eq_true rfl) (fun M4 hr3 => ?_)
      obtain ⟨hA52q, hs53q⟩ := hr3
      refine Go.aload_n dX5_takeLiking_15 rfl ?_
      refine Go.iload_n dX5_takeLiking_16 rfl ?_
      refine Go.callVR [] dX5_takeLiking_17 lkX5_122 imX1_likedOf seX1_likedOf cbX1_likedOf (s_likedOf17 hG (w := 0) (by decide)) (shp hG rfl) rfl rfl rfl (Nat.le_of_ble_eq_true rfl) (fun r5 M6 hr5 => ?_)
      obtain ⟨rfl, emr5⟩ := hr5
      rw [emr5]
      clear emr5 M6
      refine Go.astore (ls' := [some (.ref 37), some (.ref 17), some (.int ((-1))), some (.int (nI 0)), some (.ref 19), none, none]) dX5_takeLiking_20 (Nat.le_of_ble_eq_true rfl) rfl rfl ?_
      refine Go.aload_n dX5_takeLiking_22 rfl ?_
      refine Go.aload dX5_takeLiking_23 rfl ?_
      refine Go.alenI (v := 8) dX5_takeLiking_25 (shp hG rfl) (by decide) ?_
      refine Go.iconst (v := 1) dX5_takeLiking_26 (by decide) ?_
      refine Go.isub dX5_takeLiking_27 ?_
      refine Go.eqI (y := nI 7) (by decide) ?_
      refine Go.callVI [] dX5_takeLiking_28 lkX5_98 imX5_takeNumber seX5_takeNumber cbX5_takeNumber (a_takeNumber hG hA52q (m := 7) (by omega)) (shp hG rfl) rfl rfl rfl (Nat.le_of_ble_eq_true rfl) (fun r7 M8 hr7 => ?_)
      rcases hr7 with ⟨hn56q, ex9, hA54q, hs55q⟩ | ⟨hn56q, ex9, hA54q, hs55q⟩
      · rw [ex9]
        have hn56ql := (nOk_le hn56q).2
        refine Go.istore (ls' := [some (.ref 37), some (.ref 17), some (.int ((-1))), some (.int (nI 0)), some (.ref 19), some (.int (nI (tV L b (tE L b p)))), none]) dX5_takeLiking_31 (Nat.le_of_ble_eq_true rfl) rfl rfl ?_
        refine Go.iload dX5_takeLiking_33 rfl ?_
        refine Go.if_ge 42 dX5_takeLiking_35 rfl (fun _ => ?_) (fun h35 => absurd (nI_pos' (by omega)) h35)
        refine Go.aload_n dX5_takeLiking_42 rfl ?_
        refine Go.bipush (v := 9) dX5_takeLiking_43 (by decide) ?_
        refine Go.callVI [] dX5_takeLiking_45 lkX5_98 imX5_takeNumber seX5_takeNumber cbX5_takeNumber (a_takeNumber hG hA54q (m := 9) (by omega)) (shp hG rfl) rfl rfl rfl (Nat.le_of_ble_eq_true rfl) (fun r9 M10 hr9 => ?_)
        rcases hr9 with ⟨hn59q, ex9, hA57q, hs58q⟩ | ⟨hn59q, ex9, hA57q, hs58q⟩
        · rw [ex9]
          have hn59ql := (nOk_le hn59q).2
          refine Go.istore (ls' := [some (.ref 37), some (.ref 17), some (.int ((-1))), some (.int (nI 0)), some (.ref 19), some (.int (nI (tV L b (tE L b p)))), some (.int (nI (tV L b (tE L b (tE L b p)))))]) dX5_takeLiking_48 (Nat.le_of_ble_eq_true rfl) rfl rfl ?_
          refine Go.iload dX5_takeLiking_50 rfl ?_
          refine Go.if_ge 57 dX5_takeLiking_52 rfl (fun _ => ?_) (fun h52 => absurd (nI_pos' (by omega)) h52)
          refine Go.aload dX5_takeLiking_57 rfl ?_
          refine Go.iload dX5_takeLiking_59 rfl ?_
          refine Go.iload_n dX5_takeLiking_61 rfl ?_
          refine Go.iload dX5_takeLiking_62 rfl ?_
          refine Go.imul dX5_takeLiking_64 ?_
          refine Go.eqI (y := lkv false (tV L b (tE L b (tE L b p)))) ((sg_1 _ (by omega)).2) ?_
          refine Go.iast dX5_takeLiking_65 (shp hG rfl) (vin (by omega) (by decide)) ?_
          refine Go.nmM (fun N11 eN11 => ?_)
          refine Go.iconst (v := 1) dX5_takeLiking_66 (by decide) ?_
          refine Go.iret dX5_takeLiking_67 rfl (by decide) ?_
          refine ⟨_, rfl, ?_⟩
          unfold pLik
          rw [hwh]
          show It _ _ _ _ _ (if nOk L b (tE L b p) (8 - 1) then _ else _)
          rw [if_pos hn56q, if_pos hn59q]
          have eM : N11 = upi M10 (17 + 2 + 0) (tV L b (tE L b p)) (lkv false (tV L b (tE L b (tE L b p)))) := by rw [eN11, ncl (by omega)]
          have hsm : Same [17, 18, 19, 20, 21, 22, 23, 24] M10 N11 := by rw [eM]; exact Same.upi _ 19 _ _ (by decide)
          exact ⟨rfl, hA57q.keep hsm, fun _ => by rw [eM]; exact BuC.lik ((((hD.2).s37 hs53q).s37 hs55q).s37 hs58q) (by decide) _ _, (((sm37 hs53q).trans (sm37 hs55q)).trans (sm37 hs58q)).trans (sm17 hsm)⟩
        · rw [ex9]
          refine Go.istore (ls' := [some (.ref 37), some (.ref 17), some (.int ((-1))), some (.int (nI 0)), some (.ref 19), some (.int (nI (tV L b (tE L b p)))), some (.int ((-1)))]) dX5_takeLiking_48 (Nat.le_of_ble_eq_true rfl) rfl rfl ?_
          refine Go.iload dX5_takeLiking_50 rfl ?_
          refine Go.if_ge 57 dX5_takeLiking_52 rfl (fun h52 => absurd h52 (by decide)) (fun _ => ?_)
          refine Go.iconst (v := 0) dX5_takeLiking_55 (by decide) ?_
          refine Go.iret dX5_takeLiking_56 rfl (by decide) ?_
          refine ⟨_, rfl, ?_⟩
          unfold pLik
          rw [hwh]
          show It _ _ _ _ _ (if nOk L b (tE L b p) (8 - 1) then _ else _)
          rw [if_pos hn56q, if_neg (by rw [hn59q]; decide)]
          exact ⟨rfl, hA57q, fun q => (by cases q), ((sm37 hs53q).trans (sm37 hs55q)).trans (sm37 hs58q)⟩
      · rw [ex9]
        refine Go.istore (ls' := [some (.ref 37), some (.ref 17), some (.int ((-1))), some (.int (nI 0)), some (.ref 19), some (.int ((-1))), none]) dX5_takeLiking_31 (Nat.le_of_ble_eq_true rfl) rfl rfl ?_
        refine Go.iload dX5_takeLiking_33 rfl ?_
        refine Go.if_ge 42 dX5_takeLiking_35 rfl (fun h35 => absurd h35 (by decide)) (fun _ => ?_)
        refine Go.iconst (v := -1) dX5_takeLiking_38 (by decide) ?_
        refine Go.goto 48 dX5_takeLiking_39 rfl ?_
        refine Go.istore (ls' := [some (.ref 37), some (.ref 17), some (.int ((-1))), some (.int (nI 0)), some (.ref 19), some (.int ((-1))), some (.int ((-1)))]) dX5_takeLiking_48 (Nat.le_of_ble_eq_true rfl) rfl rfl ?_
        refine Go.iload dX5_takeLiking_50 rfl ?_
        refine Go.if_ge 57 dX5_takeLiking_52 rfl (fun h52 => absurd h52 (by decide)) (fun _ => ?_)
        refine Go.iconst (v := 0) dX5_takeLiking_55 (by decide) ?_
        refine Go.iret dX5_takeLiking_56 rfl (by decide) ?_
        refine ⟨_, rfl, ?_⟩
        unfold pLik
        rw [hwh]
        show It _ _ _ _ _ (if nOk L b (tE L b p) (8 - 1) then _ else _)
        rw [if_neg (by rw [hn56q]; decide)]
        exact ⟨rfl, hA54q, fun q => (by cases q), (sm37 hs53q).trans (sm37 hs55q)⟩
    · subst hw0
      refine Go.aload_n dX5_takeLiking_11 rfl ?_
      refine Go.callVV [] dX5_takeLiking_12 lkX5_31 imX5_advance seX5_advance cbX5_advance (a_adv hG hD.1) (shp hG rfl) rfl rfl rfl (Nat.le_of_ble_eq_true rfl) (fun M13 hr12 => ?_)
      obtain ⟨hA60q, hs61q⟩ := hr12
      refine Go.aload_n dX5_takeLiking_15 rfl ?_
      refine Go.iload_n dX5_takeLiking_16 rfl ?_
      refine Go.callVR [] dX5_takeLiking_17 lkX5_122 imX1_likedOf seX1_likedOf cbX1_likedOf (s_likedOf17 hG (w := 1) (by decide)) (shp hG rfl) rfl rfl rfl (Nat.le_of_ble_eq_true rfl) (fun r14 M15 hr14 => ?_)
      obtain ⟨rfl, emr14⟩ := hr14
      rw [emr14]
      clear emr14 M15
      refine Go.astore (ls' := [some (.ref 37), some (.ref 17), some (.int ((-1))), some (.int (nI 1)), some (.ref 20), none, none]) dX5_takeLiking_20 (Nat.le_of_ble_eq_true rfl) rfl rfl ?_
      refine Go.aload_n dX5_takeLiking_22 rfl ?_
      refine Go.aload dX5_takeLiking_23 rfl ?_
      refine Go.alenI (v := 5) dX5_takeLiking_25 (shp hG rfl) (by decide) ?_
      refine Go.iconst (v := 1) dX5_takeLiking_26 (by decide) ?_
      refine Go.isub dX5_takeLiking_27 ?_
      refine Go.eqI (y := nI 4) (by decide) ?_
      refine Go.callVI [] dX5_takeLiking_28 lkX5_98 imX5_takeNumber seX5_takeNumber cbX5_takeNumber (a_takeNumber hG hA60q (m := 4) (by omega)) (shp hG rfl) rfl rfl rfl (Nat.le_of_ble_eq_true rfl) (fun r16 M17 hr16 => ?_)
      rcases hr16 with ⟨hn64q, ex9, hA62q, hs63q⟩ | ⟨hn64q, ex9, hA62q, hs63q⟩
      · rw [ex9]
        have hn64ql := (nOk_le hn64q).2
        refine Go.istore (ls' := [some (.ref 37), some (.ref 17), some (.int ((-1))), some (.int (nI 1)), some (.ref 20), some (.int (nI (tV L b (tE L b p)))), none]) dX5_takeLiking_31 (Nat.le_of_ble_eq_true rfl) rfl rfl ?_
        refine Go.iload dX5_takeLiking_33 rfl ?_
        refine Go.if_ge 42 dX5_takeLiking_35 rfl (fun _ => ?_) (fun h35 => absurd (nI_pos' (by omega)) h35)
        refine Go.aload_n dX5_takeLiking_42 rfl ?_
        refine Go.bipush (v := 9) dX5_takeLiking_43 (by decide) ?_
        refine Go.callVI [] dX5_takeLiking_45 lkX5_98 imX5_takeNumber seX5_takeNumber cbX5_takeNumber (a_takeNumber hG hA62q (m := 9) (by omega)) (shp hG rfl) rfl rfl rfl (Nat.le_of_ble_eq_true rfl) (fun r18 M19 hr18 => ?_)
        rcases hr18 with ⟨hn67q, ex9, hA65q, hs66q⟩ | ⟨hn67q, ex9, hA65q, hs66q⟩
        · rw [ex9]
          have hn67ql := (nOk_le hn67q).2
          refine Go.istore (ls' := [some (.ref 37), some (.ref 17), some (.int ((-1))), some (.int (nI 1)), some (.ref 20), some (.int (nI (tV L b (tE L b p)))), some (.int (nI (tV L b (tE L b (tE L b p)))))]) dX5_takeLiking_48 (Nat.le_of_ble_eq_true rfl) rfl rfl ?_
          refine Go.iload dX5_takeLiking_50 rfl ?_
          refine Go.if_ge 57 dX5_takeLiking_52 rfl (fun _ => ?_) (fun h52 => absurd (nI_pos' (by omega)) h52)
          refine Go.aload dX5_takeLiking_57 rfl ?_
          refine Go.iload dX5_takeLiking_59 rfl ?_
          refine Go.iload_n dX5_takeLiking_61 rfl ?_
          refine Go.iload dX5_takeLiking_62 rfl ?_
          refine Go.imul dX5_takeLiking_64 ?_
          refine Go.eqI (y := lkv false (tV L b (tE L b (tE L b p)))) ((sg_1 _ (by omega)).2) ?_
          refine Go.iast dX5_takeLiking_65 (shp hG rfl) (vin (by omega) (by decide)) ?_
          refine Go.nmM (fun N20 eN20 => ?_)
          refine Go.iconst (v := 1) dX5_takeLiking_66 (by decide) ?_
          refine Go.iret dX5_takeLiking_67 rfl (by decide) ?_
          refine ⟨_, rfl, ?_⟩
          unfold pLik
          rw [hwh]
          show It _ _ _ _ _ (if nOk L b (tE L b p) (5 - 1) then _ else _)
          rw [if_pos hn64q, if_pos hn67q]
          have eM : N20 = upi M19 (17 + 2 + 1) (tV L b (tE L b p)) (lkv false (tV L b (tE L b (tE L b p)))) := by rw [eN20, ncl (by omega)]
          have hsm : Same [17, 18, 19, 20, 21, 22, 23, 24] M19 N20 := by rw [eM]; exact Same.upi _ 20 _ _ (by decide)
          exact ⟨rfl, hA65q.keep hsm, fun _ => by rw [eM]; exact BuC.lik ((((hD.2).s37 hs61q).s37 hs63q).s37 hs66q) (by decide) _ _, (((sm37 hs61q).trans (sm37 hs63q)).trans (sm37 hs66q)).trans (sm17 hsm)⟩
        · rw [ex9]
          refine Go.istore (ls' := [some (.ref 37), some (.ref 17), some (.int ((-1))), some (.int (nI 1)), some (.ref 20), some (.int (nI (tV L b (tE L b p)))), some (.int ((-1)))]) dX5_takeLiking_48 (Nat.le_of_ble_eq_true rfl) rfl rfl ?_
          refine Go.iload dX5_takeLiking_50 rfl ?_
          refine Go.if_ge 57 dX5_takeLiking_52 rfl (fun h52 => absurd h52 (by decide)) (fun _ => ?_)
          refine Go.iconst (v := 0) dX5_takeLiking_55 (by decide) ?_
          refine Go.iret dX5_takeLiking_56 rfl (by decide) ?_
          refine ⟨_, rfl, ?_⟩
          unfold pLik
          rw [hwh]
          show It _ _ _ _ _ (if nOk L b (tE L b p) (5 - 1) then _ else _)
          rw [if_pos hn64q, if_neg (by rw [hn67q]; decide)]
          exact ⟨rfl, hA65q, fun q => (by cases q), ((sm37 hs61q).trans (sm37 hs63q)).trans (sm37 hs66q)⟩
      · rw [ex9]
        refine Go.istore (ls' := [some (.ref 37), some (.ref 17), some (.int ((-1))), some (.int (nI 1)), some (.ref 20), some (.int ((-1))), none]) dX5_takeLiking_31 (Nat.le_of_ble_eq_true rfl) rfl rfl ?_
        refine Go.iload dX5_takeLiking_33 rfl ?_
        refine Go.if_ge 42 dX5_takeLiking_35 rfl (fun h35 => absurd h35 (by decide)) (fun _ => ?_)
        refine Go.iconst (v := -1) dX5_takeLiking_38 (by decide) ?_
        refine Go.goto 48 dX5_takeLiking_39 rfl ?_
        refine Go.istore (ls' := [some (.ref 37), some (.ref 17), some (.int ((-1))), some (.int (nI 1)), some (.ref 20), some (.int ((-1))), some (.int ((-1)))]) dX5_takeLiking_48 (Nat.le_of_ble_eq_true rfl) rfl rfl ?_
        refine Go.iload dX5_takeLiking_50 rfl ?_
        refine Go.if_ge 57 dX5_takeLiking_52 rfl (fun h52 => absurd h52 (by decide)) (fun _ => ?_)
        refine Go.iconst (v := 0) dX5_takeLiking_55 (by decide) ?_
        refine Go.iret dX5_takeLiking_56 rfl (by decide) ?_
        refine ⟨_, rfl, ?_⟩
        unfold pLik
        rw [hwh]
        show It _ _ _ _ _ (if nOk L b (tE L b p) (5 - 1) then _ else _)
        rw [if_neg (by rw [hn64q]; decide)]
        exact ⟨rfl, hA62q, fun q => (by cases q), (sm37 hs61q).trans (sm37 hs63q)⟩
    · subst hw0
      refine Go.aload_n dX5_takeLiking_11 rfl ?_
      refine Go.callVV [] dX5_takeLiking_12 lkX5_31 imX5_advance seX5_advance cbX5_advance (a_adv hG hD.1) (shp hG rfl) rfl rfl rfl (Nat.le_of_ble_eq_true rfl) (fun M22 hr21 => ?_)
      obtain ⟨hA68q, hs69q⟩ := hr21
      refine Go.aload_n dX5_takeLiking_15 rfl ?_
      refine Go.iload_n dX5_takeLiking_16 rfl ?_
      refine Go.callVR [] dX5_takeLiking_17 lkX5_122 imX1_likedOf seX1_likedOf cbX1_likedOf (s_likedOf17 hG (w := 2) (by decide)) (shp hG rfl) rfl rfl rfl (Nat.le_of_ble_eq_true rfl) (fun r23 M24 hr23 => ?_)
      obtain ⟨rfl, emr23⟩ := hr23
      rw [emr23]
      clear emr23 M24
      refine Go.astore (ls' := [some (.ref 37), some (.ref 17), some (.int ((-1))), some (.int (nI 2)), some (.ref 21), none, none]) dX5_takeLiking_20 (Nat.le_of_ble_eq_true rfl) rfl rfl ?_
      refine Go.aload_n dX5_takeLiking_22 rfl ?_
      refine Go.aload dX5_takeLiking_23 rfl ?_
      refine Go.alenI (v := 4) dX5_takeLiking_25 (shp hG rfl) (by decide) ?_
      refine Go.iconst (v := 1) dX5_takeLiking_26 (by decide) ?_
      refine Go.isub dX5_takeLiking_27 ?_
      refine Go.eqI (y := nI 3) (by decide) ?_
      refine Go.callVI [] dX5_takeLiking_28 lkX5_98 imX5_takeNumber seX5_takeNumber cbX5_takeNumber (a_takeNumber hG hA68q (m := 3) (by omega)) (shp hG rfl) rfl rfl rfl (Nat.le_of_ble_eq_true rfl) (fun r25 M26 hr25 => ?_)
      rcases hr25 with ⟨hn72q, ex9, hA70q, hs71q⟩ | ⟨hn72q, ex9, hA70q, hs71q⟩
      · rw [ex9]
        have hn72ql := (nOk_le hn72q).2
        refine Go.istore (ls' := [some (.ref 37), some (.ref 17), some (.int ((-1))), some (.int (nI 2)), some (.ref 21), some (.int (nI (tV L b (tE L b p)))), none]) dX5_takeLiking_31 (Nat.le_of_ble_eq_true rfl) rfl rfl ?_
        refine Go.iload dX5_takeLiking_33 rfl ?_
        refine Go.if_ge 42 dX5_takeLiking_35 rfl (fun _ => ?_) (fun h35 => absurd (nI_pos' (by omega)) h35)
        refine Go.aload_n dX5_takeLiking_42 rfl ?_
        refine Go.bipush (v := 9) dX5_takeLiking_43 (by decide) ?_
        refine Go.callVI [] dX5_takeLiking_45 lkX5_98 imX5_takeNumber seX5_takeNumber cbX5_takeNumber (a_takeNumber hG hA70q (m := 9) (by omega)) (shp hG rfl) rfl rfl rfl (Nat.le_of_ble_eq_true rfl) (fun r27 M28 hr27 => ?_)
        rcases hr27 with ⟨hn75q, ex9, hA73q, hs74q⟩ | ⟨hn75q, ex9, hA73q, hs74q⟩
        · rw [ex9]
          have hn75ql := (nOk_le hn75q).2
          refine Go.istore (ls' := [some (.ref 37), some (.ref 17), some (.int ((-1))), some (.int (nI 2)), some (.ref 21), some (.int (nI (tV L b (tE L b p)))), some (.int (nI (tV L b (tE L b (tE L b p)))))]) dX5_takeLiking_48 (Nat.le_of_ble_eq_true rfl) rfl rfl ?_
          refine Go.iload dX5_takeLiking_50 rfl ?_
          refine Go.if_ge 57 dX5_takeLiking_52 rfl (fun _ => ?_) (fun h52 => absurd (nI_pos' (by omega)) h52)
          refine Go.aload dX5_takeLiking_57 rfl ?_
          refine Go.iload dX5_takeLiking_59 rfl ?_
          refine Go.iload_n dX5_takeLiking_61 rfl ?_
          refine Go.iload dX5_takeLiking_62 rfl ?_
          refine Go.imul dX5_takeLiking_64 ?_
          refine Go.eqI (y := lkv false (tV L b (tE L b (tE L b p)))) ((sg_1 _ (by omega)).2) ?_
          refine Go.iast dX5_takeLiking_65 (shp hG rfl) (vin (by omega) (by decide)) ?_
          refine Go.nmM (fun N29 eN29 => ?_)
          refine Go.iconst (v := 1) dX5_takeLiking_66 (by decide) ?_
          refine Go.iret dX5_takeLiking_67 rfl (by decide) ?_
          refine ⟨_, rfl, ?_⟩
          unfold pLik
          rw [hwh]
          show It _ _ _ _ _ (if nOk L b (tE L b p) (4 - 1) then _ else _)
          rw [if_pos hn72q, if_pos hn75q]
          have eM : N29 = upi M28 (17 + 2 + 2) (tV L b (tE L b p)) (lkv false (tV L b (tE L b (tE L b p)))) := by rw [eN29, ncl (by omega)]
          have hsm : Same [17, 18, 19, 20, 21, 22, 23, 24] M28 N29 := by rw [eM]; exact Same.upi _ 21 _ _ (by decide)
          exact ⟨rfl, hA73q.keep hsm, fun _ => by rw [eM]; exact BuC.lik ((((hD.2).s37 hs69q).s37 hs71q).s37 hs74q) (by decide) _ _, (((sm37 hs69q).trans (sm37 hs71q)).trans (sm37 hs74q)).trans (sm17 hsm)⟩
        · rw [ex9]
          refine Go.istore (ls' := [some (.ref 37), some (.ref 17), some (.int ((-1))), some (.int (nI 2)), some (.ref 21), some (.int (nI (tV L b (tE L b p)))), some (.int ((-1)))]) dX5_takeLiking_48 (Nat.le_of_ble_eq_true rfl) rfl rfl ?_
          refine Go.iload dX5_takeLiking_50 rfl ?_
          refine Go.if_ge 57 dX5_takeLiking_52 rfl (fun h52 => absurd h52 (by decide)) (fun _ => ?_)
          refine Go.iconst (v := 0) dX5_takeLiking_55 (by decide) ?_
          refine Go.iret dX5_takeLiking_56 rfl (by decide) ?_
          refine ⟨_, rfl, ?_⟩
          unfold pLik
          rw [hwh]
          show It _ _ _ _ _ (if nOk L b (tE L b p) (4 - 1) then _ else _)
          rw [if_pos hn72q, if_neg (by rw [hn75q]; decide)]
          exact ⟨rfl, hA73q, fun q => (by cases q), ((sm37 hs69q).trans (sm37 hs71q)).trans (sm37 hs74q)⟩
      · rw [ex9]
        refine Go.istore (ls' := [some (.ref 37), some (.ref 17), some (.int ((-1))), some (.int (nI 2)), some (.ref 21), some (.int ((-1))), none]) dX5_takeLiking_31 (Nat.le_of_ble_eq_true rfl) rfl rfl ?_
        refine Go.iload dX5_takeLiking_33 rfl ?_
        refine Go.if_ge 42 dX5_takeLiking_35 rfl (fun h35 => absurd h35 (by decide)) (fun _ => ?_)
        refine Go.iconst (v := -1) dX5_takeLiking_38 (by decide) ?_
        refine Go.goto 48 dX5_takeLiking_39 rfl ?_
        refine Go.istore (ls' := [some (.ref 37), some (.ref 17), some (.int ((-1))), some (.int (nI 2)), some (.ref 21), some (.int ((-1))), some (.int ((-1)))]) dX5_takeLiking_48 (Nat.le_of_ble_eq_true rfl) rfl rfl ?_
        refine Go.iload dX5_takeLiking_50 rfl ?_
        refine Go.if_ge 57 dX5_takeLiking_52 rfl (fun h52 => absurd h52 (by decide)) (fun _ => ?_)
        refine Go.iconst (v := 0) dX5_takeLiking_55 (by decide) ?_
        refine Go.iret dX5_takeLiking_56 rfl (by decide) ?_
        refine ⟨_, rfl, ?_⟩
        unfold pLik
        rw [hwh]
        show It _ _ _ _ _ (if nOk L b (tE L b p) (4 - 1) then _ else _)
        rw [if_neg (by rw [hn72q]; decide)]
        exact ⟨rfl, hA70q, fun q => (by cases q), (sm37 hs69q).trans (sm37 hs71q)⟩
set_option maxRecDepth 20000 in
theorem a_entry {G : Gt} {d : Nat} {M : Mm} (hG : gS G = SHAPE) {L : Nat} {b : Nat → Int32} {p : Nat} {u : Bu} (hD : Dr M L b p u) (hu : BuOk u) {k : Nat} (hk6 : k < 6) : ExI G (d + 6) mX5_takeEntry [.ref 37, .ref 17, .int (nI k)] M (fun r M' => It M M' L b r (pEntry L b k u p)) := by
  refine Ex.of (by decide) (Nat.le_of_ble_eq_true rfl) ?_
  show Go G (d + 6) mX5_takeEntry 0 [some (.ref 37), some (.ref 17), some (.int (nI k)), none, none, none] [] M _
  refine Go.aload_n dX5_takeEntry_0 rfl ?_
  refine Go.callVI [] dX5_takeEntry_1 lkX5_87 imX1_isFull seX1_isFull cbX1_isFull (s_isFull17 hG (n := uN u) hD.2.2.2.2.2.1 hu.1) (shp hG rfl) rfl rfl rfl (Nat.le_of_ble_eq_true rfl) (fun r1 M2 hr1 => ?_)
  obtain ⟨er1, emr1⟩ := hr1
  rw [emr1]
  clear emr1 M2
  subst er1
  refine Go.if_eq 9 dX5_takeEntry_4 rfl (fun h4 => ?_) (fun h4 => ?_)
  · refine Go.aload_n dX5_takeEntry_9 rfl ?_
    refine Go.callVV [] dX5_takeEntry_10 lkX5_31 imX5_advance seX5_advance cbX5_advance (a_adv hG hD.1) (shp hG rfl) rfl rfl rfl (Nat.le_of_ble_eq_true rfl) (fun M4 hr3 => ?_)
    obtain ⟨hA76q, hs77q⟩ := hr3
    refine Go.aload_n dX5_takeEntry_13 rfl ?_
    refine Go.callVI [] dX5_takeEntry_14 lkX5_93 imX5_takeThings seX5_takeThings cbX5_takeThings (a_things hG hA76q) (shp hG rfl) rfl rfl rfl (Nat.le_of_ble_eq_true rfl) (fun r5 M6 hr5 => ?_)
    obtain ⟨eT80q, hA78q, hs79q⟩ := hr5
    rw [eT80q]
    have hth := thC_ok L b 3 0 (tE L b p) (by decide) hD.1.le
    obtain ⟨ts, tp, hTT⟩ : ∃ ts tp, thC L b 3 0 (tE L b p) = (ts, tp) := ⟨_, _, rfl⟩
    rw [hTT] at hA78q hth ⊢
    simp only [] at hA78q hth ⊢
    refine Go.istore_n (ls' := [some (.ref 37), some (.ref 17), some (.int (nI k)), some (.int (nI ts)), none, none]) dX5_takeEntry_17 (Nat.le_of_ble_eq_true rfl) rfl rfl ?_
    refine Go.iload_n dX5_takeEntry_18 rfl ?_
    refine Go.if_eq 31 dX5_takeEntry_19 rfl (fun h19 => ?_) (fun h19 => ?_)
    · refine Go.iconst (v := 0) dX5_takeEntry_31 (by decide) ?_
      refine Go.iret dX5_takeEntry_32 rfl (by decide) ?_
      refine ⟨_, rfl, ?_⟩
      unfold pEntry
      rw [if_neg (by simpa using bi_0.mp h4), hTT, if_pos ((nI_inj (a := ts) (b := 0) (by omega) (by decide)).mp h19)]
      exact ⟨rfl, hA78q, fun q => (by cases q), (sm37 hs77q).trans (sm37 hs79q)⟩
    · refine Go.aload_n dX5_takeEntry_22 rfl ?_
      refine Go.ldcS 6 (by decide) dX5_takeEntry_23 rfl rfl ?_
      refine Go.callVI [] dX5_takeEntry_25 lkX5_48 imX5_takeWord seX5_takeWord cbX5_takeWord (a_takeWord hG hA78q (k := 6) (by decide)) (shp hG rfl) rfl rfl rfl (Nat.le_of_ble_eq_true rfl) (fun r7 M8 hr7 => ?_)
      rcases hr7 with ⟨hw83q, ex9, hA81q, hs82q⟩ | ⟨hw83q, ex9, hA81q, hs82q⟩
      · rw [ex9]
        refine Go.if_ne 33 dX5_takeEntry_28 rfl (fun _ => ?_) (fun h28 => absurd h28 (by decide))
        refine Go.aload_n dX5_takeEntry_33 rfl ?_
        refine Go.iconst (v := 4) dX5_takeEntry_34 (by decide) ?_
        refine Go.callVI [] dX5_takeEntry_35 lkX5_98 imX5_takeNumber seX5_takeNumber cbX5_takeNumber (a_takeNumber hG hA81q (m := 4) (by omega)) (shp hG rfl) rfl rfl rfl (Nat.le_of_ble_eq_true rfl) (fun r9 M10 hr9 => ?_)
        rcases hr9 with ⟨hn86q, ex9, hA84q, hs85q⟩ | ⟨hn86q, ex9, hA84q, hs85q⟩
        · rw [ex9]
          have hn86ql := (nOk_le hn86q).2
          refine Go.istore (ls' := [some (.ref 37), some (.ref 17), some (.int (nI k)), some (.int (nI ts)), some (.int (nI (tV L b (tE L b tp)))), none]) dX5_takeEntry_38 (Nat.le_of_ble_eq_true rfl) rfl rfl ?_
          refine Go.iload dX5_takeEntry_40 rfl ?_
          refine Go.if_lt 54 dX5_takeEntry_42 rfl (fun h42 => absurd h42 (nI_pos (by omega))) (fun _ => ?_)
          refine Go.aload_n dX5_takeEntry_45 rfl ?_
          refine Go.ldcS 7 (by decide) dX5_takeEntry_46 rfl rfl ?_
          refine Go.callVI [] dX5_takeEntry_48 lkX5_48 imX5_takeWord seX5_takeWord cbX5_takeWord (a_takeWord hG hA84q (k := 7) (by decide)) (shp hG rfl) rfl rfl rfl (Nat.le_of_ble_eq_true rfl) (fun r11 M12 hr11 => ?_)
          rcases hr11 with ⟨hw89q, ex9, hA87q, hs88q⟩ | ⟨hw89q, ex9, hA87q, hs88q⟩
          · rw [ex9]
            refine Go.if_ne 56 dX5_takeEntry_51 rfl (fun _ => ?_) (fun h51 => absurd h51 (by decide))
            refine Go.aload_n dX5_takeEntry_56 rfl ?_
            refine Go.iconst (v := 3) dX5_takeEntry_57 (by decide) ?_
            refine Go.callVI [] dX5_takeEntry_58 lkX5_98 imX5_takeNumber seX5_takeNumber cbX5_takeNumber (a_takeNumber hG hA87q (m := 3) (by omega)) (shp hG rfl) rfl rfl rfl (Nat.le_of_ble_eq_true rfl) (fun r13 M14 hr13 => ?_)
            rcases hr13 with ⟨hn92q, ex9, hA90q, hs91q⟩ | ⟨hn92q, ex9, hA90q, hs91q⟩
            · rw [ex9]
              have hn92ql := (nOk_le hn92q).2
              refine Go.istore (ls' := [some (.ref 37), some (.ref 17), some (.int (nI k)), some (.int (nI ts)), some (.int (nI (tV L b (tE L b tp)))), some (.int (nI (tV L b (tE L b (tE L b (tE L b tp))))))]) dX5_takeEntry_61 (Nat.le_of_ble_eq_true rfl) rfl rfl ?_
              refine Go.iload dX5_takeEntry_63 rfl ?_
              refine Go.if_ge 70 dX5_takeEntry_65 rfl (fun _ => ?_) (fun h65 => absurd (nI_pos' (by omega)) h65)
              refine Go.aload_n dX5_takeEntry_70 rfl ?_
              refine Go.iload_n dX5_takeEntry_71 rfl ?_
              refine Go.iload_n dX5_takeEntry_72 rfl ?_
              refine Go.iload dX5_takeEntry_73 rfl ?_
              refine Go.iload dX5_takeEntry_75 rfl ?_
              refine Go.callSI [.int (nI k), .ref 17] dX5_takeEntry_77 lkX5_104 stX6_dishNumber cbX6_dishNumber (s_dishNumber (nI ts) (nI (tV L b (tE L b tp))) (nI (tV L b (tE L b (tE L b (tE L b tp)))))) rfl rfl (Nat.le_of_ble_eq_true rfl) (fun r15 M16 hr15 => ?_)
              obtain ⟨er15, emr15⟩ := hr15
              rw [emr15]
              clear emr15 M16
              subst er15
              refine Go.callVI [] dX5_takeEntry_80 lkX5_108 imX1_note seX1_note cbX1_note (s_note17 hG (n := uN u) (((((((hD.2).s37 hs77q).s37 hs79q).s37 hs82q).s37 hs85q).s37 hs88q).s37 hs91q).2.2.2.2.1 (by have := bi_0.mp h4; have h9 := hu.1; simp at this; omega) (nI k) (20 * (nI ts) + 4 * (nI (tV L b (tE L b tp))) + (nI (tV L b (tE L b (tE L b (tE L b tp))))))) (shp hG rfl) rfl rfl rfl (Nat.le_of_ble_eq_true rfl) (fun r17 M18 hr17 => ?_)
              refine Go.pop dX5_takeEntry_83 rfl ?_
              refine Go.iconst (v := 1) dX5_takeEntry_84 (by decide) ?_
              refine Go.iret dX5_takeEntry_85 rfl (by decide) ?_
              refine ⟨_, rfl, ?_⟩
              unfold pEntry
              rw [if_neg (by simpa using bi_0.mp h4), hTT, if_neg (fun q => h19 (by rw [show ts = 0 from q]; rfl))]
              unfold pWay
              rw [if_pos hw83q, if_pos hn86q, if_pos hw89q, if_pos hn92q]
              have hq := hr17
              have hsm : Same [17, 18, 19, 20, 21, 22, 23, 24] M14 M18 := by rw [hq.2]; exact note_same 17 _ _ _ _ (by decide)
              refine ⟨rfl, hA90q.keep hsm, fun _ => ?_, ((((((sm37 hs77q).trans (sm37 hs79q)).trans (sm37 hs82q)).trans (sm37 hs85q)).trans (sm37 hs88q)).trans (sm37 hs91q)).trans (sm17 hsm)⟩
              rw [hq.2]
              have hx9 := BuC.ent (((((((hD.2).s37 hs77q).s37 hs79q).s37 hs82q).s37 hs85q).s37 hs88q).s37 hs91q) k (20 * ts + 4 * tV L b (tE L b tp) + tV L b (tE L b (tE L b (tE L b tp))))
              rw [← nI_add, ← nI_add, ← pk_mul, ← pk_mul] at hx9
              exact hx9
            · rw [ex9]
              refine Go.istore (ls' := [some (.ref 37), some (.ref 17), some (.int (nI k)), some (.int (nI ts)), some (.int (nI (tV L b (tE L b tp)))), some (.int ((-1)))]) dX5_takeEntry_61 (Nat.le_of_ble_eq_true rfl) rfl rfl ?_
              refine Go.iload dX5_takeEntry_63 rfl ?_
              refine Go.if_ge 70 dX5_takeEntry_65 rfl (fun h65 => absurd h65 (by decide)) (fun _ => ?_)
              refine Go.iconst (v := 0) dX5_takeEntry_68 (by decide) ?_
              refine Go.iret dX5_takeEntry_69 rfl (by decide) ?_
              refine ⟨_, rfl, ?_⟩
              unfold pEntry
              rw [if_neg (by simpa using bi_0.mp h4), hTT, if_neg (fun q => h19 (by rw [show ts = 0 from q]; rfl))]
              unfold pWay
              rw [if_pos hw83q, if_pos hn86q, if_pos hw89q, if_neg (by rw [hn92q]; decide)]
              exact ⟨rfl, hA90q, fun q => (by cases q), (((((sm37 hs77q).trans (sm37 hs79q)).trans (sm37 hs82q)).trans (sm37 hs85q)).trans (sm37 hs88q)).trans (sm37 hs91q)⟩
          · rw [ex9]
            refine Go.if_ne 56 dX5_takeEntry_51 rfl (fun h51 => absurd (by decide) h51) (fun _ => ?_)
            refine Go.iconst (v := 0) dX5_takeEntry_54 (by decide) ?_
            refine Go.iret dX5_takeEntry_55 rfl (by decide) ?_
            refine ⟨_, rfl, ?_⟩
            unfold pEntry
            rw [if_neg (by simpa using bi_0.mp h4), hTT, if_neg (fun q => h19 (by rw [show ts = 0 from q]; rfl))]
            unfold pWay
            rw [if_pos hw83q, if_pos hn86q, if_neg (by rw [hw89q]; decide)]
            exact ⟨rfl, hA87q, fun q => (by cases q), ((((sm37 hs77q).trans (sm37 hs79q)).trans (sm37 hs82q)).trans (sm37 hs85q)).trans (sm37 hs88q)⟩
        · rw [ex9]
          refine Go.istore (ls' := [some (.ref 37), some (.ref 17), some (.int (nI k)), some (.int (nI ts)), some (.int ((-1))), none]) dX5_takeEntry_38 (Nat.le_of_ble_eq_true rfl) rfl rfl ?_
          refine Go.iload dX5_takeEntry_40 rfl ?_
          refine Go.if_lt 54 dX5_takeEntry_42 rfl (fun _ => ?_) (fun h42 => absurd (by decide) h42)
          refine Go.iconst (v := 0) dX5_takeEntry_54 (by decide) ?_
          refine Go.iret dX5_takeEntry_55 rfl (by decide) ?_
          refine ⟨_, rfl, ?_⟩
          unfold pEntry
          rw [if_neg (by simpa using bi_0.mp h4), hTT, if_neg (fun q => h19 (by rw [show ts = 0 from q]; rfl))]
          unfold pWay
          rw [if_pos hw83q, if_neg (by rw [hn86q]; decide)]
          exact ⟨rfl, hA84q, fun q => (by cases q), (((sm37 hs77q).trans (sm37 hs79q)).trans (sm37 hs82q)).trans (sm37 hs85q)⟩
      · rw [ex9]
        refine Go.if_ne 33 dX5_takeEntry_28 rfl (fun h28 => absurd (by decide) h28) (fun _ => ?_)
        refine Go.iconst (v := 0) dX5_takeEntry_31 (by decide) ?_
        refine Go.iret dX5_takeEntry_32 rfl (by decide) ?_
        refine ⟨_, rfl, ?_⟩
        unfold pEntry
        rw [if_neg (by simpa using bi_0.mp h4), hTT, if_neg (fun q => h19 (by rw [show ts = 0 from q]; rfl))]
        unfold pWay
        rw [if_neg (by rw [hw83q]; decide)]
        exact ⟨rfl, hA81q, fun q => (by cases q), ((sm37 hs77q).trans (sm37 hs79q)).trans (sm37 hs82q)⟩
  · refine Go.iconst (v := 0) dX5_takeEntry_7 (by decide) ?_
    refine Go.iret dX5_takeEntry_8 rfl (by decide) ?_
    refine ⟨_, rfl, ?_⟩
    unfold pEntry
    rw [if_pos (by simpa using bi_n0.mp h4)]
    exact ⟨rfl, hD.1, fun q => (by cases q), Same.refl _ _⟩
set_option maxRecDepth 20000 in
theorem a_item {G : Gt} {d : Nat} {M : Mm} (hG : gS G = SHAPE) {L : Nat} {b : Nat → Int32} {p : Nat} {u : Bu} (hD : Dr M L b p u) (hu : BuOk u) : ExI G (d + 7) mX5_takeItem [.ref 37, .ref 17] M (fun r M' => It M M' L b r (pItem L b u p)) := by
  refine Ex.of (by decide) (Nat.le_of_ble_eq_true rfl) ?_
  show Go G (d + 7) mX5_takeItem 0 [some (.ref 37), some (.ref 17), none] [] M _
  refine Go.aload_n dX5_takeItem_0 rfl ?_
  refine Go.callVI [] dX5_takeItem_1 lkX5_38 imX5_kindNamed seX5_kindNamed cbX5_kindNamed (a_kindNamed hG hD.1) (shp hG rfl) rfl rfl rfl (Nat.le_of_ble_eq_true rfl) (fun r1 M2 hr1 => ?_)
  obtain ⟨er1, emr1⟩ := hr1
  rw [emr1]
  clear emr1 M2
  subst er1
  rcases hkn : fstF (isWP L b p) 0 6 with _ | k
  · show Go _ _ _ _ _ [.int (-1)] _ _
    refine Go.istore_n (ls' := [some (.ref 37), some (.ref 17), some (.int ((-1)))]) dX5_takeItem_4 (Nat.le_of_ble_eq_true rfl) rfl rfl ?_
    refine Go.iload_n dX5_takeItem_5 rfl ?_
    refine Go.if_lt 16 dX5_takeItem_6 rfl (fun _ => ?_) (fun h6 => absurd (by decide) h6)
    refine Go.aload_n dX5_takeItem_16 rfl ?_
    refine Go.ldcS 8 (by decide) dX5_takeItem_17 rfl rfl ?_
    refine Go.callVI [] dX5_takeItem_19 lkX5_48 imX5_takeWord seX5_takeWord cbX5_takeWord (a_takeWord hG hD.1 (k := 8) (by decide)) (shp hG rfl) rfl rfl rfl (Nat.le_of_ble_eq_true rfl) (fun r3 M4 hr3 => ?_)
    rcases hr3 with ⟨hw95q, ex9, hA93q, hs94q⟩ | ⟨hw95q, ex9, hA93q, hs94q⟩
    · rw [ex9]
      refine Go.if_eq 31 dX5_takeItem_22 rfl (fun h22 => absurd h22 (by decide)) (fun _ => ?_)
      refine Go.aload_n dX5_takeItem_25 rfl ?_
      refine Go.aload_n dX5_takeItem_26 rfl ?_
      refine Go.callVI [] dX5_takeItem_27 lkX5_52 imX5_takeStore seX5_takeStore cbX5_takeStore (a_store hG (u := u) ⟨hA93q, (hD.2).s37 hs94q⟩ hu) (shp hG rfl) rfl rfl rfl (Nat.le_of_ble_eq_true rfl) (fun r5 M6 hr5 => ?_)
      refine Go.iret dX5_takeItem_30 rfl (by rw [hr5.1]; exact bi_nar _) ?_
      refine ⟨_, rfl, ?_⟩
      unfold pItem
      rw [hkn]
      show It _ _ _ _ _ (pRest L b u p)
      unfold pRest
      rw [if_pos hw95q]
      obtain ⟨a1, a2, a3, a4⟩ := hr5
      exact ⟨a1, a2, a3, (sm37 hs94q).trans a4⟩
    · rw [ex9]
      refine Go.if_eq 31 dX5_takeItem_22 rfl (fun _ => ?_) (fun h22 => absurd (by decide) h22)
      refine Go.aload_n dX5_takeItem_31 rfl ?_
      refine Go.ldcS 9 (by decide) dX5_takeItem_32 rfl rfl ?_
      refine Go.callVI [] dX5_takeItem_34 lkX5_48 imX5_takeWord seX5_takeWord cbX5_takeWord (a_takeWord hG hA93q (k := 9) (by decide)) (shp hG rfl) rfl rfl rfl (Nat.le_of_ble_eq_true rfl) (fun r7 M8 hr7 => ?_)
      rcases hr7 with ⟨hw98q, ex9, hA96q, hs97q⟩ | ⟨hw98q, ex9, hA96q, hs97q⟩
      · rw [ex9]
        refine Go.if_eq 47 dX5_takeItem_37 rfl (fun h37 => absurd h37 (by decide)) (fun _ => ?_)
        refine Go.aload_n dX5_takeItem_40 rfl ?_
        refine Go.aload_n dX5_takeItem_41 rfl ?_
        refine Go.iconst (v := 1) dX5_takeItem_42 (by decide) ?_
        refine Go.callVI [] dX5_takeItem_43 lkX5_57 imX5_takeLiking seX5_takeLiking cbX5_takeLiking (a_likes hG (u := u) ⟨hA96q, ((hD.2).s37 hs94q).s37 hs97q⟩ hu) (shp hG rfl) rfl rfl rfl (Nat.le_of_ble_eq_true rfl) (fun r9 M10 hr9 => ?_)
        refine Go.iret dX5_takeItem_46 rfl (by rw [hr9.1]; exact bi_nar _) ?_
        refine ⟨_, rfl, ?_⟩
        unfold pItem
        rw [hkn]
        show It _ _ _ _ _ (pRest L b u p)
        unfold pRest
        rw [if_neg (by rw [hw95q]; decide), if_pos hw98q]
        obtain ⟨a1, a2, a3, a4⟩ := hr9
        exact ⟨a1, a2, a3, ((sm37 hs94q).trans (sm37 hs97q)).trans a4⟩
      · rw [ex9]
        refine Go.if_eq 47 dX5_takeItem_37 rfl (fun _ => ?_) (fun h37 => absurd (by decide) h37)
        refine Go.aload_n dX5_takeItem_47 rfl ?_
        refine Go.ldcS 11 (by decide) dX5_takeItem_48 rfl rfl ?_
        refine Go.callVI [] dX5_takeItem_50 lkX5_48 imX5_takeWord seX5_takeWord cbX5_takeWord (a_takeWord hG hA96q (k := 11) (by decide)) (shp hG rfl) rfl rfl rfl (Nat.le_of_ble_eq_true rfl) (fun r11 M12 hr11 => ?_)
        rcases hr11 with ⟨hw101q, ex9, hA99q, hs100q⟩ | ⟨hw101q, ex9, hA99q, hs100q⟩
        · rw [ex9]
          refine Go.if_eq 63 dX5_takeItem_53 rfl (fun h53 => absurd h53 (by decide)) (fun _ => ?_)
          refine Go.aload_n dX5_takeItem_56 rfl ?_
          refine Go.aload_n dX5_takeItem_57 rfl ?_
          refine Go.iconst (v := -1) dX5_takeItem_58 (by decide) ?_
          refine Go.callVI [] dX5_takeItem_59 lkX5_57 imX5_takeLiking seX5_takeLiking cbX5_takeLiking (a_loathes hG (u := u) ⟨hA99q, (((hD.2).s37 hs94q).s37 hs97q).s37 hs100q⟩ hu) (shp hG rfl) rfl rfl rfl (Nat.le_of_ble_eq_true rfl) (fun r13 M14 hr13 => ?_)
          refine Go.iret dX5_takeItem_62 rfl (by rw [hr13.1]; exact bi_nar _) ?_
          refine ⟨_, rfl, ?_⟩
          unfold pItem
          rw [hkn]
          show It _ _ _ _ _ (pRest L b u p)
          unfold pRest
          rw [if_neg (by rw [hw95q]; decide), if_neg (by rw [hw98q]; decide), if_pos hw101q]
          obtain ⟨a1, a2, a3, a4⟩ := hr13
          exact ⟨a1, a2, a3, (((sm37 hs94q).trans (sm37 hs97q)).trans (sm37 hs100q)).trans a4⟩
        · rw [ex9]
          refine Go.if_eq 63 dX5_takeItem_53 rfl (fun _ => ?_) (fun h53 => absurd (by decide) h53)
          refine Go.aload_n dX5_takeItem_63 rfl ?_
          refine Go.ldcS 12 (by decide) dX5_takeItem_64 rfl rfl ?_
          refine Go.callVI [] dX5_takeItem_66 lkX5_48 imX5_takeWord seX5_takeWord cbX5_takeWord (a_takeWord hG hA99q (k := 12) (by decide)) (shp hG rfl) rfl rfl rfl (Nat.le_of_ble_eq_true rfl) (fun r15 M16 hr15 => ?_)
          rcases hr15 with ⟨hw104q, ex9, hA102q, hs103q⟩ | ⟨hw104q, ex9, hA102q, hs103q⟩
          · rw [ex9]
            refine Go.if_eq 78 dX5_takeItem_69 rfl (fun h69 => absurd h69 (by decide)) (fun _ => ?_)
            refine Go.aload_n dX5_takeItem_72 rfl ?_
            refine Go.aload_n dX5_takeItem_73 rfl ?_
            refine Go.callVI [] dX5_takeItem_74 lkX5_64 imX5_takeEdict seX5_takeEdict cbX5_takeEdict (a_edict hG (u := u) ⟨hA102q, ((((hD.2).s37 hs94q).s37 hs97q).s37 hs100q).s37 hs103q⟩ hu) (shp hG rfl) rfl rfl rfl (Nat.le_of_ble_eq_true rfl) (fun r17 M18 hr17 => ?_)
            refine Go.iret dX5_takeItem_77 rfl (by rw [hr17.1]; exact bi_nar _) ?_
            refine ⟨_, rfl, ?_⟩
            unfold pItem
            rw [hkn]
            show It _ _ _ _ _ (pRest L b u p)
            unfold pRest
            rw [if_neg (by rw [hw95q]; decide), if_neg (by rw [hw98q]; decide), if_neg (by rw [hw101q]; decide), if_pos hw104q]
            obtain ⟨a1, a2, a3, a4⟩ := hr17
            exact ⟨a1, a2, a3, ((((sm37 hs94q).trans (sm37 hs97q)).trans (sm37 hs100q)).trans (sm37 hs103q)).trans a4⟩
          · rw [ex9]
            refine Go.if_eq 78 dX5_takeItem_69 rfl (fun _ => ?_) (fun h69 => absurd (by decide) h69)
            refine Go.aload_n dX5_takeItem_78 rfl ?_
            refine Go.ldcS 17 (by decide) dX5_takeItem_79 rfl rfl ?_
            refine Go.callVI [] dX5_takeItem_81 lkX5_48 imX5_takeWord seX5_takeWord cbX5_takeWord (a_takeWord hG hA102q (k := 17) (by decide)) (shp hG rfl) rfl rfl rfl (Nat.le_of_ble_eq_true rfl) (fun r19 M20 hr19 => ?_)
            rcases hr19 with ⟨hw107q, ex9, hA105q, hs106q⟩ | ⟨hw107q, ex9, hA105q, hs106q⟩
            · rw [ex9]
              refine Go.if_eq 99 dX5_takeItem_84 rfl (fun h84 => absurd h84 (by decide)) (fun _ => ?_)
              refine Go.aload_n dX5_takeItem_87 rfl ?_
              refine Go.aload_n dX5_takeItem_88 rfl ?_
              refine Go.callVI [] dX5_takeItem_89 lkX5_69 imX5_takeDay seX5_takeDay cbX5_takeDay (a_day hG (u := u) ⟨hA105q, (((((hD.2).s37 hs94q).s37 hs97q).s37 hs100q).s37 hs103q).s37 hs106q⟩ hu) (shp hG rfl) rfl rfl rfl (Nat.le_of_ble_eq_true rfl) (fun r21 M22 hr21 => ?_)
              refine Go.if_eq 99 dX5_takeItem_92 rfl (fun h92 => ?_) (fun h92 => ?_)
              · refine Go.iconst (v := 0) dX5_takeItem_99 (by decide) ?_
                refine Go.iret dX5_takeItem_100 rfl (by decide) ?_
                refine ⟨_, rfl, ?_⟩
                unfold pItem
                rw [hkn]
                show It _ _ _ _ _ (pRest L b u p)
                unfold pRest
                rw [if_neg (by rw [hw95q]; decide), if_neg (by rw [hw98q]; decide), if_neg (by rw [hw101q]; decide), if_neg (by rw [hw104q]; decide), if_pos hw107q]
                obtain ⟨a1, a2, a3, a4⟩ := hr21
                rw [a1] at h92
                exact ⟨by rw [bi_0.mp h92]; rfl, a2, a3, (((((sm37 hs94q).trans (sm37 hs97q)).trans (sm37 hs100q)).trans (sm37 hs103q)).trans (sm37 hs106q)).trans a4⟩
              · refine Go.iconst (v := 1) dX5_takeItem_95 (by decide) ?_
                refine Go.goto 100 dX5_takeItem_96 rfl ?_
                refine Go.iret dX5_takeItem_100 rfl (by decide) ?_
                refine ⟨_, rfl, ?_⟩
                unfold pItem
                rw [hkn]
                show It _ _ _ _ _ (pRest L b u p)
                unfold pRest
                rw [if_neg (by rw [hw95q]; decide), if_neg (by rw [hw98q]; decide), if_neg (by rw [hw101q]; decide), if_neg (by rw [hw104q]; decide), if_pos hw107q]
                obtain ⟨a1, a2, a3, a4⟩ := hr21
                rw [a1] at h92
                exact ⟨by rw [bi_n0.mp h92]; rfl, a2, a3, (((((sm37 hs94q).trans (sm37 hs97q)).trans (sm37 hs100q)).trans (sm37 hs103q)).trans (sm37 hs106q)).trans a4⟩
            · rw [ex9]
              refine Go.if_eq 99 dX5_takeItem_84 rfl (fun _ => ?_) (fun h84 => absurd (by decide) h84)
              refine Go.iconst (v := 0) dX5_takeItem_99 (by decide) ?_
              refine Go.iret dX5_takeItem_100 rfl (by decide) ?_
              refine ⟨_, rfl, ?_⟩
              unfold pItem
              rw [hkn]
              show It _ _ _ _ _ (pRest L b u p)
              unfold pRest
              rw [if_neg (by rw [hw95q]; decide), if_neg (by rw [hw98q]; decide), if_neg (by rw [hw101q]; decide), if_neg (by rw [hw104q]; decide), if_neg (by rw [hw107q]; decide)]
              exact ⟨rfl, hA105q, fun q => (by cases q), ((((sm37 hs94q).trans (sm37 hs97q)).trans (sm37 hs100q)).trans (sm37 hs103q)).trans (sm37 hs106q)⟩
  · show Go _ _ _ _ _ [.int (nI k)] _ _
    have hk6 : k < 6 := by have := (fstF_some hkn).2.1; omega
    refine Go.istore_n (ls' := [some (.ref 37), some (.ref 17), some (.int (nI k))]) dX5_takeItem_4 (Nat.le_of_ble_eq_true rfl) rfl rfl ?_
    refine Go.iload_n dX5_takeItem_5 rfl ?_
    refine Go.if_lt 16 dX5_takeItem_6 rfl (fun h6 => absurd h6 (nI_pos (by omega))) (fun _ => ?_)
    refine Go.aload_n dX5_takeItem_9 rfl ?_
    refine Go.aload_n dX5_takeItem_10 rfl ?_
    refine Go.iload_n dX5_takeItem_11 rfl ?_
    refine Go.callVI [] dX5_takeItem_12 lkX5_42 imX5_takeEntry seX5_takeEntry cbX5_takeEntry (a_entry hG (u := u) ⟨hD.1, hD.2⟩ hu hk6) (shp hG rfl) rfl rfl rfl (Nat.le_of_ble_eq_true rfl) (fun r23 M24 hr23 => ?_)
    refine Go.iret dX5_takeItem_15 rfl (by rw [hr23.1]; exact bi_nar _) ?_
    refine ⟨_, rfl, ?_⟩
    unfold pItem
    rw [hkn]
    obtain ⟨a1, a2, a3, a4⟩ := hr23
    exact ⟨a1, a2, a3, (Same.refl _ _).trans a4⟩
