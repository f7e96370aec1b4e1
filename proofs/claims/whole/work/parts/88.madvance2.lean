theorem run_first {L : Nat} {b : Nat → Int32} {e ty : Nat} (heL : e ≤ L) (h : tT L b e = ty) (hty : ty = 1 ∨ ty = 2) : tE L b e = runT L b ty (L - tS L b e) (tS L b e) := by
  have hs : tS L b e < L := ((tE_spec (b := b) heL).2.2.1 (by omega)).2
  rw [show L - tS L b e = (L - (tS L b e + 1)) + 1 by omega, runT, if_pos (show typ L b (tS L b e) = ty from h)]
  unfold tE
  rw [h, if_pos hty]
set_option maxRecDepth 20000 in
theorem j_ma0 {G : Gt} {d : Nat} {M N : Mm} (hG : gS G = SHAPE) {L : Nat} {b : Nat → Int32} {e : Nat} (heL : e ≤ L) (hN : TpM N L b) (hSm : FmA M N) (h22 : N.1 49 22 = nI (tS L b e)) (h23 : N.1 49 23 = nI (tS L b e)) (ht : tT L b e = 0) : Go G (d + 2) mX7_advance 51 [some (.ref 49), some (.int (byt L b (tS L b e)))] [] N (fun v M' => v = none ∧ TpM M' L b ∧ MTok M' L b e ∧ FmA M M')   := by
  have hL := hN.2.1
  have hs1 := tS_spec (b := b) heL
  have he1 := tE_spec (b := b) heL
  have hLs : L ≤ tS L b e := typ_0.mp ht
  have hneg : byt L b (tS L b e) < 0 := (byt_neg hN.2.2.2).mpr ht
  refine Go.aload_n dX7_advance_51 rfl ?_
  refine Go.iload_n dX7_advance_52 rfl ?_
  refine Go.if_ge 60 dX7_advance_53 rfl (fun h53 => absurd h53 (i_lt_n hneg)) (fun _ => ?_)
  refine Go.iconst (v := 0) dX7_advance_56 (by decide) ?_
  refine Go.goto 83 dX7_advance_57 rfl ?_
  refine Go.putI dX7_advance_83 fpX7_240 (shp hG rfl) rfl rfl rfl ?_
  refine Go.nmM (fun N1 eN1 => ?_)
  refine Go.aload_n dX7_advance_86 rfl ?_
  refine Go.lconst (v := 0) dX7_advance_87 rfl ?_
  refine Go.putL dX7_advance_88 fpX7_243 (shp hG rfl) rfl rfl rfl ?_
  refine Go.nmM (fun N2 eN2 => ?_)
  refine Go.aload_n dX7_advance_91 rfl ?_
  refine Go.aload_n dX7_advance_92 rfl ?_
  refine Go.getI dX7_advance_93 flX7_240 (shp hG rfl) rfl ?_
  refine Go.eqI (y := 0) (by rw [eN2, rl_i, eN1, rd_eq]; simp [upd]) ?_
  refine Go.iconst (v := 2) dX7_advance_96 (by decide) ?_
  refine Go.icmp_ne 104 dX7_advance_97 rfl (fun _ => ?_) (fun h97 => absurd h97 (by decide))
  refine Go.iload_n dX7_advance_104 rfl ?_
  refine Go.putI dX7_advance_105 fpX7_247 (shp hG rfl) rfl rfl rfl ?_
  refine Go.nmM (fun N3 eN3 => ?_)
  refine Go.aload_n dX7_advance_108 rfl ?_
  refine Go.getI dX7_advance_109 flX7_240 (shp hG rfl) rfl ?_
  refine Go.eqI (y := 0) (by rw [eN3, rd_eq]; simp [upd]; rw [eN2, rl_i, eN1, rd_eq]; simp [upd]) ?_
  refine Go.iconst (v := 3) dX7_advance_112 (by decide) ?_
  refine Go.icmp_ne 126 dX7_advance_113 rfl (fun _ => ?_) (fun h113 => absurd h113 (by decide))
  refine Go.aload_n dX7_advance_126 rfl ?_
  refine Go.getI dX7_advance_127 flX7_240 (shp hG rfl) rfl ?_
  refine Go.eqI (y := 0) (by rw [eN3, rd_eq]; simp [upd]; rw [eN2, rl_i, eN1, rd_eq]; simp [upd]) ?_
  refine Go.iconst (v := 1) dX7_advance_130 (by decide) ?_
  refine Go.icmp_ne 207 dX7_advance_131 rfl (fun _ => ?_) (fun h131 => absurd h131 (by decide))
  refine Go.aload_n dX7_advance_207 rfl ?_
  refine Go.getI dX7_advance_208 flX7_240 (shp hG rfl) rfl ?_
  refine Go.eqI (y := 0) (by rw [eN3, rd_eq]; simp [upd]; rw [eN2, rl_i, eN1, rd_eq]; simp [upd]) ?_
  refine Go.iconst (v := 2) dX7_advance_211 (by decide) ?_
  refine Go.icmp_ne 281 dX7_advance_212 rfl (fun _ => ?_) (fun h212 => absurd h212 (by decide))
  refine Go.vret dX7_advance_281 rfl ?_
  have hup1 : FmA N N3 := by rw [eN3, eN2, eN1]; exact ((FmA.up N _ (by decide)).trans (fma_upl _ _)).trans (FmA.up _ _ (by decide))
  have hup := hup1
  have hT9 := hN.keep hup
  have hF9 := hSm.trans hup
  have h21 : N3.1 49 21 = 0 := by rw [eN3, rd_eq]; simp [upd]; rw [eN2, rl_i, eN1, rd_eq]; simp [upd]
  have h22n : N3.1 49 22 = nI (tS L b e) := by rw [eN3, rd_eq]; simp [upd]; rw [eN2, rl_i, eN1, rd_eq]; simp [upd]; exact h22
  have h23n : N3.1 49 23 = nI (tS L b e) := by rw [eN3, rd_eq]; simp [upd]; rw [eN2, rl_i, eN1, rd_eq]; simp [upd]; exact h23
  have h25 : N3.1 49 25 = byt L b (tS L b e) := by rw [eN3, rd_eq]; simp [upd]
  have h24 : N3.2 49 24 = 0 := by rw [eN3, rd_l, eN2, rl_eq]; simp [vp_updL]
  exact ⟨rfl, hT9, ⟨by rw [h21, ht]; rfl, h22n, by rw [h23n]; congr 1; unfold tE; rw [if_neg (by omega)]; omega, fun z => by omega, fun _ => h25, fun z => by omega⟩, hF9⟩
set_option maxRecDepth 20000 in
theorem j_ma1 {G : Gt} {d : Nat} {M N : Mm} (hG : gS G = SHAPE) {L : Nat} {b : Nat → Int32} {e : Nat} (heL : e ≤ L) (hN : TpM N L b) (hSm : FmA M N) (h22 : N.1 49 22 = nI (tS L b e)) (h23 : N.1 49 23 = nI (tS L b e)) (ht : tT L b e = 1) : Go G (d + 2) mX7_advance 51 [some (.ref 49), some (.int (byt L b (tS L b e)))] [] N (fun v M' => v = none ∧ TpM M' L b ∧ MTok M' L b e ∧ FmA M M')   := by
  have hL := hN.2.1
  have hs1 := tS_spec (b := b) heL
  have he1 := tE_spec (b := b) heL
  have hge : 0 ≤ byt L b (tS L b e) := by
    by_cases z : byt L b (tS L b e) < 0
    · have z2 : tT L b e = 0 := (byt_neg hN.2.2.2).mp z
      omega
    · exact i_nlt z
  have hlet : inI (byt L b (tS L b e)) 97 122 = decide (tT L b e = 1) := byt_let
  have hdig : inI (byt L b (tS L b e)) 48 57 = decide (tT L b e = 2) := byt_dig
  refine Go.aload_n dX7_advance_51 rfl ?_
  refine Go.iload_n dX7_advance_52 rfl ?_
  refine Go.if_ge 60 dX7_advance_53 rfl (fun _ => ?_) (fun h53 => absurd (hge) h53)
  refine Go.iload_n dX7_advance_60 rfl ?_
  refine Go.callSI [.ref 49] dX7_advance_61 lkX7_234 stX7_isLetter cbX7_isLetter (m_isLetter (byt L b (tS L b e))) rfl rfl (Nat.le_of_ble_eq_true rfl) (fun r1 M2 hr1 => ?_)
  obtain ⟨er1, emr1⟩ := hr1
  rw [emr1]
  clear emr1 M2
  subst er1
  refine Go.if_eq 71 dX7_advance_64 rfl (fun h64 => absurd h64 (by rw [hlet, decide_eq_true ht]; decide)) (fun _ => ?_)
  refine Go.iconst (v := 1) dX7_advance_67 (by decide) ?_
  refine Go.goto 83 dX7_advance_68 rfl ?_
  refine Go.putI dX7_advance_83 fpX7_240 (shp hG rfl) rfl rfl rfl ?_
  refine Go.nmM (fun N3 eN3 => ?_)
  refine Go.aload_n dX7_advance_86 rfl ?_
  refine Go.lconst (v := 0) dX7_advance_87 rfl ?_
  refine Go.putL dX7_advance_88 fpX7_243 (shp hG rfl) rfl rfl rfl ?_
  refine Go.nmM (fun N4 eN4 => ?_)
  refine Go.aload_n dX7_advance_91 rfl ?_
  refine Go.aload_n dX7_advance_92 rfl ?_
  refine Go.getI dX7_advance_93 flX7_240 (shp hG rfl) rfl ?_
  refine Go.eqI (y := 1) (by rw [eN4, rl_i, eN3, rd_eq]; simp [upd]) ?_
  refine Go.iconst (v := 2) dX7_advance_96 (by decide) ?_
  refine Go.icmp_ne 104 dX7_advance_97 rfl (fun _ => ?_) (fun h97 => absurd h97 (by decide))
  refine Go.iload_n dX7_advance_104 rfl ?_
  refine Go.putI dX7_advance_105 fpX7_247 (shp hG rfl) rfl rfl rfl ?_
  refine Go.nmM (fun N5 eN5 => ?_)
  refine Go.aload_n dX7_advance_108 rfl ?_
  refine Go.getI dX7_advance_109 flX7_240 (shp hG rfl) rfl ?_
  refine Go.eqI (y := 1) (by rw [eN5, rd_eq]; simp [upd]; rw [eN4, rl_i, eN3, rd_eq]; simp [upd]) ?_
  refine Go.iconst (v := 3) dX7_advance_112 (by decide) ?_
  refine Go.icmp_ne 126 dX7_advance_113 rfl (fun _ => ?_) (fun h113 => absurd h113 (by decide))
  have hup1 : FmA N N5 := by rw [eN5, eN4, eN3]; exact ((FmA.up N _ (by decide)).trans (fma_upl _ _)).trans (FmA.up _ _ (by decide))
  have hup := hup1
  have hT9 := hN.keep hup
  have hF9 := hSm.trans hup
  have h21 : N5.1 49 21 = 1 := by rw [eN5, rd_eq]; simp [upd]; rw [eN4, rl_i, eN3, rd_eq]; simp [upd]
  have h22n : N5.1 49 22 = nI (tS L b e) := by rw [eN5, rd_eq]; simp [upd]; rw [eN4, rl_i, eN3, rd_eq]; simp [upd]; exact h22
  have h23n : N5.1 49 23 = nI (tS L b e) := by rw [eN5, rd_eq]; simp [upd]; rw [eN4, rl_i, eN3, rd_eq]; simp [upd]; exact h23
  have h25 : N5.1 49 25 = byt L b (tS L b e) := by rw [eN5, rd_eq]; simp [upd]
  have h24 : N5.2 49 24 = 0 := by rw [eN5, rd_l, eN4, rl_eq]; simp [vp_updL]
  refine l_ma2 (M := M) hG (L := L) (b := b) (s0 := tS L b e) (t0 := tE L b e) (v25 := byt L b (tS L b e)) (fun N9 b1 b2 b3 b4 b5 b6 b7 => ?_) (L - tS L b e) (tS L b e) N5 (by omega) hT9 hF9 (Nat.le_refl _) h21 h22n h23n h25 (by rw [h24, Nat.sub_self]; rfl) (run_first heL ht (Or.inl rfl))
  refine Go.aload_n dX7_advance_207 rfl ?_
  refine Go.getI dX7_advance_208 flX7_240 (shp hG rfl) rfl ?_
  refine Go.eqI (y := 1) (b3) ?_
  refine Go.iconst (v := 2) dX7_advance_211 (by decide) ?_
  refine Go.icmp_ne 281 dX7_advance_212 rfl (fun _ => ?_) (fun h212 => absurd h212 (by decide))
  refine Go.vret dX7_advance_281 rfl ?_
  exact ⟨rfl, b1, ⟨by rw [b3, ht]; rfl, b4, b5, fun z => by omega, fun _ => b6, fun _ => b7⟩, b2⟩
set_option maxRecDepth 20000 in
theorem j_ma2 {G : Gt} {d : Nat} {M N : Mm} (hG : gS G = SHAPE) {L : Nat} {b : Nat → Int32} {e : Nat} (heL : e ≤ L) (hN : TpM N L b) (hSm : FmA M N) (h22 : N.1 49 22 = nI (tS L b e)) (h23 : N.1 49 23 = nI (tS L b e)) (ht : tT L b e = 2) : Go G (d + 2) mX7_advance 51 [some (.ref 49), some (.int (byt L b (tS L b e)))] [] N (fun v M' => v = none ∧ TpM M' L b ∧ MTok M' L b e ∧ FmA M M')   := by
  have hL := hN.2.1
  have hs1 := tS_spec (b := b) heL
  have he1 := tE_spec (b := b) heL
  have hge : 0 ≤ byt L b (tS L b e) := by
    by_cases z : byt L b (tS L b e) < 0
    · have z2 : tT L b e = 0 := (byt_neg hN.2.2.2).mp z
      omega
    · exact i_nlt z
  have hlet : inI (byt L b (tS L b e)) 97 122 = decide (tT L b e = 1) := byt_let
  have hdig : inI (byt L b (tS L b e)) 48 57 = decide (tT L b e = 2) := byt_dig
  refine Go.aload_n dX7_advance_51 rfl ?_
  refine Go.iload_n dX7_advance_52 rfl ?_
  refine Go.if_ge 60 dX7_advance_53 rfl (fun _ => ?_) (fun h53 => absurd (hge) h53)
  refine Go.iload_n dX7_advance_60 rfl ?_
  refine Go.callSI [.ref 49] dX7_advance_61 lkX7_234 stX7_isLetter cbX7_isLetter (m_isLetter (byt L b (tS L b e))) rfl rfl (Nat.le_of_ble_eq_true rfl) (fun r1 M2 hr1 => ?_)
  obtain ⟨er1, emr1⟩ := hr1
  rw [emr1]
  clear emr1 M2
  subst er1
  refine Go.if_eq 71 dX7_advance_64 rfl (fun _ => ?_) (fun h64 => absurd (by rw [hlet, decide_eq_false (by omega)]; rfl) h64)
  refine Go.iload_n dX7_advance_71 rfl ?_
  refine Go.callSI [.ref 49] dX7_advance_72 lkX7_237 stX7_isDigit cbX7_isDigit (m_isDigit (byt L b (tS L b e))) rfl rfl (Nat.le_of_ble_eq_true rfl) (fun r3 M4 hr3 => ?_)
  obtain ⟨er3, emr3⟩ := hr3
  rw [emr3]
  clear emr3 M4
  subst er3
  refine Go.if_eq 82 dX7_advance_75 rfl (fun h75 => absurd h75 (by rw [hdig, decide_eq_true ht]; decide)) (fun _ => ?_)
  refine Go.iconst (v := 2) dX7_advance_78 (by decide) ?_
  refine Go.goto 83 dX7_advance_79 rfl ?_
  refine Go.putI dX7_advance_83 fpX7_240 (shp hG rfl) rfl rfl rfl ?_
  refine Go.nmM (fun N5 eN5 => ?_)
  refine Go.aload_n dX7_advance_86 rfl ?_
  refine Go.lconst (v := 0) dX7_advance_87 rfl ?_
  refine Go.putL dX7_advance_88 fpX7_243 (shp hG rfl) rfl rfl rfl ?_
  refine Go.nmM (fun N6 eN6 => ?_)
  refine Go.aload_n dX7_advance_91 rfl ?_
  refine Go.aload_n dX7_advance_92 rfl ?_
  refine Go.getI dX7_advance_93 flX7_240 (shp hG rfl) rfl ?_
  refine Go.eqI (y := 2) (by rw [eN6, rl_i, eN5, rd_eq]; simp [upd]) ?_
  refine Go.iconst (v := 2) dX7_advance_96 (by decide) ?_
  refine Go.icmp_ne 104 dX7_advance_97 rfl (fun h97 => absurd (by decide) h97) (fun _ => ?_)
  refine Go.iconst (v := 0) dX7_advance_100 (by decide) ?_
  refine Go.goto 105 dX7_advance_101 rfl ?_
  refine Go.putI dX7_advance_105 fpX7_247 (shp hG rfl) rfl rfl rfl ?_
  refine Go.nmM (fun N7 eN7 => ?_)
  refine Go.aload_n dX7_advance_108 rfl ?_
  refine Go.getI dX7_advance_109 flX7_240 (shp hG rfl) rfl ?_
  refine Go.eqI (y := 2) (by rw [eN7, rd_eq]; simp [upd]; rw [eN6, rl_i, eN5, rd_eq]; simp [upd]) ?_
  refine Go.iconst (v := 3) dX7_advance_112 (by decide) ?_
  refine Go.icmp_ne 126 dX7_advance_113 rfl (fun _ => ?_) (fun h113 => absurd h113 (by decide))
  refine Go.aload_n dX7_advance_126 rfl ?_
  refine Go.getI dX7_advance_127 flX7_240 (shp hG rfl) rfl ?_
  refine Go.eqI (y := 2) (by rw [eN7, rd_eq]; simp [upd]; rw [eN6, rl_i, eN5, rd_eq]; simp [upd]) ?_
  refine Go.iconst (v := 1) dX7_advance_130 (by decide) ?_
  refine Go.icmp_ne 207 dX7_advance_131 rfl (fun _ => ?_) (fun h131 => absurd h131 (by decide))
  have hup1 : FmA N N7 := by rw [eN7, eN6, eN5]; exact ((FmA.up N _ (by decide)).trans (fma_upl _ _)).trans (FmA.up _ _ (by decide))
  have hup := hup1
  have hT9 := hN.keep hup
  have hF9 := hSm.trans hup
  have h21 : N7.1 49 21 = 2 := by rw [eN7, rd_eq]; simp [upd]; rw [eN6, rl_i, eN5, rd_eq]; simp [upd]
  have h22n : N7.1 49 22 = nI (tS L b e) := by rw [eN7, rd_eq]; simp [upd]; rw [eN6, rl_i, eN5, rd_eq]; simp [upd]; exact h22
  have h23n : N7.1 49 23 = nI (tS L b e) := by rw [eN7, rd_eq]; simp [upd]; rw [eN6, rl_i, eN5, rd_eq]; simp [upd]; exact h23
  have h25 : N7.1 49 25 = nI 0 := by rw [eN7, rd_eq]; simp [upd]; rfl
  have h24 : N7.2 49 24 = 0 := by rw [eN7, rd_l, eN6, rl_eq]; simp [vp_updL]
  refine l_ma3 (M := M) hG (L := L) (b := b) (s0 := tS L b e) (t0 := tE L b e) (fun N9 b1 b2 b3 b4 b5 b6 => ?_) (L - tS L b e) (tS L b e) N7 (by omega) hT9 hF9 (Nat.le_refl _) (fun j h1 h2 => by omega) h21 h22n h23n (by rw [h25, Nat.sub_self]; rfl) (run_first heL ht (Or.inr rfl))
  refine Go.vret dX7_advance_281 rfl ?_
  exact ⟨rfl, b1, ⟨by rw [b3, ht]; rfl, b4, b5, fun _ => b6, fun z => by omega, fun z => by omega⟩, b2⟩
set_option maxRecDepth 20000 in
theorem j_ma3 {G : Gt} {d : Nat} {M N : Mm} (hG : gS G = SHAPE) {L : Nat} {b : Nat → Int32} {e : Nat} (heL : e ≤ L) (hN : TpM N L b) (hSm : FmA M N) (h22 : N.1 49 22 = nI (tS L b e)) (h23 : N.1 49 23 = nI (tS L b e)) (ht : tT L b e ≠ 0 ∧ tT L b e ≠ 1 ∧ tT L b e ≠ 2) : Go G (d + 2) mX7_advance 51 [some (.ref 49), some (.int (byt L b (tS L b e)))] [] N (fun v M' => v = none ∧ TpM M' L b ∧ MTok M' L b e ∧ FmA M M')   := by
  have hL := hN.2.1
  have hs1 := tS_spec (b := b) heL
  have he1 := tE_spec (b := b) heL
  have hge : 0 ≤ byt L b (tS L b e) := by
    by_cases z : byt L b (tS L b e) < 0
    · have z2 : tT L b e = 0 := (byt_neg hN.2.2.2).mp z
      omega
    · exact i_nlt z
  have hlet : inI (byt L b (tS L b e)) 97 122 = decide (tT L b e = 1) := byt_let
  have hdig : inI (byt L b (tS L b e)) 48 57 = decide (tT L b e = 2) := byt_dig
  have hlt := (he1.2.2.1 ht.1).2
  refine Go.aload_n dX7_advance_51 rfl ?_
  refine Go.iload_n dX7_advance_52 rfl ?_
  refine Go.if_ge 60 dX7_advance_53 rfl (fun _ => ?_) (fun h53 => absurd (hge) h53)
  refine Go.iload_n dX7_advance_60 rfl ?_
  refine Go.callSI [.ref 49] dX7_advance_61 lkX7_234 stX7_isLetter cbX7_isLetter (m_isLetter (byt L b (tS L b e))) rfl rfl (Nat.le_of_ble_eq_true rfl) (fun r1 M2 hr1 => ?_)
  obtain ⟨er1, emr1⟩ := hr1
  rw [emr1]
  clear emr1 M2
  subst er1
  refine Go.if_eq 71 dX7_advance_64 rfl (fun _ => ?_) (fun h64 => absurd (by rw [hlet, decide_eq_false ht.2.1]; rfl) h64)
  refine Go.iload_n dX7_advance_71 rfl ?_
  refine Go.callSI [.ref 49] dX7_advance_72 lkX7_237 stX7_isDigit cbX7_isDigit (m_isDigit (byt L b (tS L b e))) rfl rfl (Nat.le_of_ble_eq_true rfl) (fun r3 M4 hr3 => ?_)
  obtain ⟨er3, emr3⟩ := hr3
  rw [emr3]
  clear emr3 M4
  subst er3
  refine Go.if_eq 82 dX7_advance_75 rfl (fun _ => ?_) (fun h75 => absurd (by rw [hdig, decide_eq_false ht.2.2]; rfl) h75)
  refine Go.iconst (v := 3) dX7_advance_82 (by decide) ?_
  refine Go.putI dX7_advance_83 fpX7_240 (shp hG rfl) rfl rfl rfl ?_
  refine Go.nmM (fun N5 eN5 => ?_)
  refine Go.aload_n dX7_advance_86 rfl ?_
  refine Go.lconst (v := 0) dX7_advance_87 rfl ?_
  refine Go.putL dX7_advance_88 fpX7_243 (shp hG rfl) rfl rfl rfl ?_
  refine Go.nmM (fun N6 eN6 => ?_)
  refine Go.aload_n dX7_advance_91 rfl ?_
  refine Go.aload_n dX7_advance_92 rfl ?_
  refine Go.getI dX7_advance_93 flX7_240 (shp hG rfl) rfl ?_
  refine Go.eqI (y := 3) (by rw [eN6, rl_i, eN5, rd_eq]; simp [upd]) ?_
  refine Go.iconst (v := 2) dX7_advance_96 (by decide) ?_
  refine Go.icmp_ne 104 dX7_advance_97 rfl (fun _ => ?_) (fun h97 => absurd h97 (by decide))
  refine Go.iload_n dX7_advance_104 rfl ?_
  refine Go.putI dX7_advance_105 fpX7_247 (shp hG rfl) rfl rfl rfl ?_
  refine Go.nmM (fun N7 eN7 => ?_)
  refine Go.aload_n dX7_advance_108 rfl ?_
  refine Go.getI dX7_advance_109 flX7_240 (shp hG rfl) rfl ?_
  refine Go.eqI (y := 3) (by rw [eN7, rd_eq]; simp [upd]; rw [eN6, rl_i, eN5, rd_eq]; simp [upd]) ?_
  refine Go.iconst (v := 3) dX7_advance_112 (by decide) ?_
  refine Go.icmp_ne 126 dX7_advance_113 rfl (fun h113 => absurd (by decide) h113) (fun _ => ?_)
  refine Go.aload_n dX7_advance_116 rfl ?_
  refine Go.dup dX7_advance_117 rfl ?_
  refine Go.getI dX7_advance_118 flX7_225 (shp hG rfl) rfl ?_
  refine Go.eqI (y := nI (tS L b e)) (by rw [eN7, rd_eq]; simp [upd]; rw [eN6, rl_i, eN5, rd_eq]; simp [upd]; exact h23) ?_
  refine Go.iconst (v := 1) dX7_advance_121 (by decide) ?_
  refine Go.iadd dX7_advance_122 ?_
  refine Go.eqI (y := nI (tS L b e + 1)) (nI_add _ _) ?_
  refine Go.putI dX7_advance_123 fpX7_225 (shp hG rfl) rfl rfl rfl ?_
  refine Go.nmM (fun N8 eN8 => ?_)
  refine Go.aload_n dX7_advance_126 rfl ?_
  refine Go.getI dX7_advance_127 flX7_240 (shp hG rfl) rfl ?_
  refine Go.eqI (y := 3) (by rw [eN8, rd_eq]; simp [upd]; rw [eN7, rd_eq]; simp [upd]; rw [eN6, rl_i, eN5, rd_eq]; simp [upd]) ?_
  refine Go.iconst (v := 1) dX7_advance_130 (by decide) ?_
  refine Go.icmp_ne 207 dX7_advance_131 rfl (fun _ => ?_) (fun h131 => absurd h131 (by decide))
  refine Go.aload_n dX7_advance_207 rfl ?_
  refine Go.getI dX7_advance_208 flX7_240 (shp hG rfl) rfl ?_
  refine Go.eqI (y := 3) (by rw [eN8, rd_eq]; simp [upd]; rw [eN7, rd_eq]; simp [upd]; rw [eN6, rl_i, eN5, rd_eq]; simp [upd]) ?_
  refine Go.iconst (v := 2) dX7_advance_211 (by decide) ?_
  refine Go.icmp_ne 281 dX7_advance_212 rfl (fun _ => ?_) (fun h212 => absurd h212 (by decide))
  refine Go.vret dX7_advance_281 rfl ?_
  have hup1 : FmA N N7 := by rw [eN7, eN6, eN5]; exact ((FmA.up N _ (by decide)).trans (fma_upl _ _)).trans (FmA.up _ _ (by decide))
  have hup : FmA N N8 := hup1.trans (by rw [eN8]; exact FmA.up _ _ (by decide))
  have hT9 := hN.keep hup
  have hF9 := hSm.trans hup
  have h21 : N8.1 49 21 = 3 := by rw [eN8, rd_eq]; simp [upd]; rw [eN7, rd_eq]; simp [upd]; rw [eN6, rl_i, eN5, rd_eq]; simp [upd]
  have h22n : N8.1 49 22 = nI (tS L b e) := by rw [eN8, rd_eq]; simp [upd]; rw [eN7, rd_eq]; simp [upd]; rw [eN6, rl_i, eN5, rd_eq]; simp [upd]; exact h22
  have h23n : N8.1 49 23 = nI (tS L b e + 1) := by rw [eN8, rd_eq]; simp [upd]
  have h25 : N8.1 49 25 = byt L b (tS L b e) := by rw [eN8, rd_eq]; simp [upd]; rw [eN7, rd_eq]; simp [upd]
  have h24 : N8.2 49 24 = 0 := by rw [eN8, rd_l]; rw [eN7, rd_l, eN6, rl_eq]; simp [vp_updL]
  exact ⟨rfl, hT9, ⟨by rw [h21]; unfold srt; rw [if_neg (by omega), if_neg (by omega), if_neg (by omega)]; rfl, h22n, by rw [h23n]; congr 1; unfold tE; rw [if_neg (by omega)]; omega, fun z => by omega, fun _ => h25, fun z => by omega⟩, hF9⟩
set_option maxRecDepth 20000 in
theorem m_adv {G : Gt} {d : Nat} {M : Mm} (hG : gS G = SHAPE) {L : Nat} {b : Nat → Int32} (hT : TpM M L b) {e : Nat} (heL : e ≤ L) (he : M.1 49 23 = nI e) : ExV G (d + 2) mX7_advance [.ref 49] M (fun M' => TpM M' L b ∧ MTok M' L b e ∧ FmA M M') := by
  refine Ex.of (by decide) (Nat.le_of_ble_eq_true rfl) ?_
  show Go G (d + 2) mX7_advance 0 [some (.ref 49), none] [] M _
  have hL := hT.2.1
  have hs1 := tS_spec (b := b) heL
  refine Go.aload_n dX7_advance_0 rfl ?_
  refine Go.aload_n dX7_advance_1 rfl ?_
  refine Go.getI dX7_advance_2 flX7_225 (shp hG rfl) rfl ?_
  refine Go.putI dX7_advance_5 fpX7_228 (shp hG rfl) rfl rfl rfl ?_
  refine Go.nmM (fun N1 eN1 => ?_)
  have hup0 : FmA M N1 := by rw [eN1]; exact FmA.up M _ (by decide)
  refine l_ma1 (M := M) hG (L := L) (b := b) (e := e) (fun N hN hSmN h22N => ?_) (L - e) e N1 (by omega) (hT.keep hup0) hup0 (by rw [eN1, rd_eq]; simp [upd]; exact he) rfl
  refine Go.aload_n dX7_advance_34 rfl ?_
  refine Go.aload_n dX7_advance_35 rfl ?_
  refine Go.getI dX7_advance_36 flX7_228 (shp hG rfl) rfl ?_
  refine Go.eqI (y := nI (tS L b e)) (h22N) ?_
  refine Go.putI dX7_advance_39 fpX7_225 (shp hG rfl) rfl rfl rfl ?_
  refine Go.nmM (fun N51 eN51 => ?_)
  refine Go.aload_n dX7_advance_42 rfl ?_
  refine Go.aload_n dX7_advance_43 rfl ?_
  refine Go.getI dX7_advance_44 flX7_228 (shp hG rfl) rfl ?_
  refine Go.eqI (y := nI (tS L b e)) (by rw [eN51, rd_eq]; simp [upd]; exact h22N) ?_
  refine Go.callVI [] dX7_advance_47 lkX7_231 imX7_byteAt seX7_byteAt cbX7_byteAt (m_byteAt hG (hN.keep (by rw [eN51]; exact FmA.up N _ (by decide))) (k := tS L b e) (by omega)) (shp hG rfl) rfl rfl rfl (Nat.le_of_ble_eq_true rfl) (fun r52 M53 hr52 => ?_)
  obtain ⟨er52, emr52⟩ := hr52
  rw [emr52]
  clear emr52 M53
  subst er52
  refine Go.istore_n (ls' := [some (.ref 49), some (.int (byt L b (tS L b e)))]) dX7_advance_50 (Nat.le_of_ble_eq_true rfl) rfl rfl ?_
  have hup : FmA N N51 := by rw [eN51]; exact FmA.up N _ (by decide)
  have h22n : N51.1 49 22 = nI (tS L b e) := by rw [eN51, rd_eq]; simp [upd]; exact h22N
  have h23n : N51.1 49 23 = nI (tS L b e) := by rw [eN51, rd_eq]; simp [upd]
  by_cases t0 : tT L b e = 0
  · exact j_ma0 hG heL (hN.keep hup) (hSmN.trans hup) h22n h23n t0
  · by_cases t1 : tT L b e = 1
    · exact j_ma1 hG heL (hN.keep hup) (hSmN.trans hup) h22n h23n t1
    · by_cases t2 : tT L b e = 2
      · exact j_ma2 hG heL (hN.keep hup) (hSmN.trans hup) h22n h23n t2
      · exact j_ma3 hG heL (hN.keep hup) (hSmN.trans hup) h22n h23n ⟨t0, t1, t2⟩
def wdL : List Int64 := [2947858, 230482966, 4137608, 7469473, 3288323, 275358764, 16819, 10132457, 10502465, 6562612, 10793230, 4865210560, 2742599, 273576358, 454132, 419, 11103, 2968]
def cN (d : Nat → Nat) : Nat → Nat
  | 0 => 0
  | n + 1 => 27 * cN d n + d n
theorem cN_lt {d : Nat → Nat} : ∀ n, (∀ i, i < n → 1 ≤ d i ∧ d i ≤ 26) → cN d n < 27 ^ n
  | 0, _ => by show 0 < 27 ^ 0; decide
  | n + 1, h => by
    have ih := cN_lt n (fun i hi => h i (by omega))
    have := h n (by omega)
    rw [cN, Nat.pow_succ]
    omega
theorem cN_inj {d d' : Nat → Nat} : ∀ n m, (∀ i, i < n → 1 ≤ d i ∧ d i ≤ 26) → (∀ i, i < m → 1 ≤ d' i ∧ d' i ≤ 26) → cN d n = cN d' m → n = m ∧ ∀ i, i < n → d i = d' i
  | 0, 0, _, _, _ => ⟨rfl, fun i hi => by omega⟩
  | 0, m + 1, _, h2, h => by
    have := h2 m (by omega)
    rw [show cN d 0 = 0 from rfl, cN] at h
    omega
  | n + 1, 0, h1, _, h => by
    have := h1 n (by omega)
    rw [show cN d' 0 = 0 from rfl, cN] at h
    omega
  | n + 1, m + 1, h1, h2, h => by
    have a := h1 n (by omega)
    have c := h2 m (by omega)
    rw [cN, cN] at h
    obtain ⟨e1, e2⟩ := cN_inj n m (fun i hi => h1 i (by omega)) (fun i hi => h2 i (by omega)) (by omega)
    subst e1
    refine ⟨rfl, fun i hi => ?_⟩
    by_cases z : i = n
    · rw [z]; omega
    · exact e2 i (by omega)
def dgB (b : Nat → Int32) (s i : Nat) : Nat := ((b (s + i)).toInt - 96).toNat
def dgW (k i : Nat) : Nat := (((strBy.getD k []).getD i 0).toInt - 96).toNat
theorem wd_code : ∀ k, k < 18 → wdL.getD k 0 = Int64.ofNat (cN (dgW k) (strLn.getD k 0)) ∧ 0 < cN (dgW k) (strLn.getD k 0) ∧ cN (dgW k) (strLn.getD k 0) < 2 ^ 62 := by decide +kernel
theorem let_in {L : Nat} {b : Nat → Int32} {i : Nat} (h : typ L b i = 1) : 97 ≤ (b i).toInt ∧ (b i).toInt ≤ 122 := by
  unfold typ at h
  by_cases hi : i < L
  · rw [if_pos hi] at h
    have h2 := tyI_1.mp h
    unfold inI at h2
    rw [Bool.and_eq_true, decide_eq_true_eq, decide_eq_true_eq, i_le, i_le] at h2
    have e1 : ((97 : Int32)).toInt = 97 := by decide
    have e2 : ((122 : Int32)).toInt = 122 := by decide
    omega
  · rw [if_neg hi] at h
    cases h
theorem i64 {a : Nat} (h : a < 2 ^ 62) : (Int64.ofNat a).toInt = (a : Int) := by
  rw [Int64.toInt_ofNat', show Int64.size = 2 ^ 64 from rfl]
  exact Int.bmod_eq_of_le (by omega) (by omega)
theorem cd_small {b : Nat → Int32} {s : Nat} : ∀ n, n ≤ 12 → (∀ i, i < n → 97 ≤ (b (s + i)).toInt ∧ (b (s + i)).toInt ≤ 122) → cdW b s n = Int64.ofNat (cN (dgB b s) n)
  | 0, _, _ => rfl
  | n + 1, hn, h => by
    have ih := cd_small n (by omega) (fun i hi => h i (by omega))
    have hb := h n (by omega)
    have hdg : ∀ i, i < n → 1 ≤ dgB b s i ∧ dgB b s i ≤ 26 := fun i hi => by
      have := h i (by omega)
      unfold dgB
      omega
    have hlt := cN_lt n hdg
    have h27 : 27 ^ n ≤ 27 ^ 11 := Nat.pow_le_pow_right (by decide) (by omega)
    have e27 : 27 ^ 11 = 5559060566555523 := by decide
    have hd : dgB b s n = ((b (s + n)).toInt - 96).toNat := rfl
    rw [cdW, if_pos (by omega), ih, cN]
    apply Int64.toInt_inj.mp
    have e1 : ((27 : Int64)).toInt = 27 := by decide
    have e2 : ((96 : Int64)).toInt = 96 := by decide
    rw [i64 (by omega), Int64.toInt_sub, Int64.toInt_add, Int64.toInt_mul, Int32.toInt_toInt64, i64 (by omega), e1, e2]
    rw [show (27 * ((cN (dgB b s) n : Nat) : Int)).bmod (2 ^ 64) = 27 * (cN (dgB b s) n : Nat) from Int.bmod_eq_of_le (by omega) (by omega)]
    rw [show (27 * ((cN (dgB b s) n : Nat) : Int) + (b (s + n)).toInt).bmod (2 ^ 64) = 27 * (cN (dgB b s) n : Nat) + (b (s + n)).toInt from Int.bmod_eq_of_le (by omega) (by omega)]
    rw [show (27 * ((cN (dgB b s) n : Nat) : Int) + (b (s + n)).toInt - 96).bmod (2 ^ 64) = 27 * (cN (dgB b s) n : Nat) + (b (s + n)).toInt - 96 from Int.bmod_eq_of_le (by omega) (by omega)]
    omega
theorem cd_big {b : Nat → Int32} {s n : Nat} (h : 12 < n) : cdW b s n = -1 := by
  cases n with
  | zero => omega
  | succ n => rw [cdW, if_neg (by omega)]
theorem neg1_64 : ((-1 : Int64)).toInt = -1 := by decide +kernel
theorem cN_62 {d : Nat → Nat} {n : Nat} (hn : n ≤ 12) (h : ∀ i, i < n → 1 ≤ d i ∧ d i ≤ 26) : cN d n < 2 ^ 62 := by
  have h1 := cN_lt n h
  have h27 : 27 ^ n ≤ 27 ^ 12 := Nat.pow_le_pow_right (by decide) hn
  have e27 : 27 ^ 12 < 2 ^ 62 := by decide +kernel
  exact Nat.lt_of_lt_of_le h1 (Nat.le_of_lt (Nat.lt_of_le_of_lt h27 e27))
theorem i64_inj {a c : Nat} (ha : a < 2 ^ 62) (hc : c < 2 ^ 62) (h : Int64.ofNat a = Int64.ofNat c) : a = c := by
  have := congrArg Int64.toInt h
  rw [i64 ha, i64 hc] at this
  omega
theorem i64_ne {c : Nat} (hc : c < 2 ^ 62) : ¬ (-1 : Int64) = Int64.ofNat c := fun h => by
  have := congrArg Int64.toInt h
  rw [i64 hc, neg1_64] at this
  omega
theorem dgW_in {k : Nat} (hk : k < 18) : ∀ i, i < strLn.getD k 0 → 1 ≤ dgW k i ∧ dgW k i ≤ 26 := fun i hi => by
  have := (chr_ok k hk i hi).2.2
  unfold dgW
  omega
theorem dgB_in {b : Nat → Int32} {s n : Nat} (hl : ∀ i, i < n → 97 ≤ (b (s + i)).toInt ∧ (b (s + i)).toInt ≤ 122) : ∀ i, i < n → 1 ≤ dgB b s i ∧ dgB b s i ≤ 26 := fun i hi => by
  have := hl i hi
  unfold dgB
  omega
theorem code_f {b : Nat → Int32} {s n k : Nat} (hk : k < 18) (hl : ∀ i, i < n → 97 ≤ (b (s + i)).toInt ∧ (b (s + i)).toInt ≤ 122) (h : cdW b s n = wdL.getD k 0) : n = strLn.getD k 0 ∧ ∀ i, i < strLn.getD k 0 → b (s + i) = (strBy.getD k []).getD i 0 := by
  have hw := wd_code k hk
  generalize wdL.getD k 0 = W at h hw
  obtain ⟨hw1, hw2, hw3⟩ := hw
  by_cases hn : n ≤ 12
  · rw [cd_small n hn hl, hw1] at h
    obtain ⟨a1, a2⟩ := cN_inj _ _ (dgB_in hl) (dgW_in hk) (i64_inj (cN_62 hn (dgB_in hl)) hw3 h)
    clear h hw1 hw2 hw3
    refine ⟨a1, fun i hi => ?_⟩
    have a3 := a2 i (by omega)
    have a4 := hl i (by omega)
    have a5 := (chr_ok k hk i hi).2.2
    unfold dgB dgW at a3
    rw [i_eq]
    omega
  · rw [cd_big (by omega), hw1] at h
    exact absurd h (i64_ne hw3)
theorem cN_same {d d' : Nat → Nat} : ∀ n, (∀ i, i < n → d i = d' i) → cN d n = cN d' n
  | 0, _ => rfl
  | n + 1, h => by rw [cN, cN, cN_same n (fun i hi => h i (by omega)), h n (by omega)]
theorem code_b {b : Nat → Int32} {s k : Nat} (hk : k < 18) (hl : ∀ i, i < strLn.getD k 0 → 97 ≤ (b (s + i)).toInt ∧ (b (s + i)).toInt ≤ 122) (h : ∀ i, i < strLn.getD k 0 → b (s + i) = (strBy.getD k []).getD i 0) : cdW b s (strLn.getD k 0) = wdL.getD k 0 := by
  rw [cd_small _ (by have := (len_sh k hk).2.1; omega) hl, (wd_code k hk).1, cN_same (d := dgB b s) (d' := dgW k) _ (fun i hi => by unfold dgB dgW; rw [h i hi])]
theorem code_iff {L : Nat} {b : Nat → Int32} {e k : Nat} (heL : e ≤ L) (hk : k < 18) (h1 : tT L b e = 1) : cdW b (tS L b e) (tE L b e - tS L b e) = wdL.getD k 0 ↔ isWP L b e k = true := by
  have he := tE_spec (b := b) heL
  have hl : ∀ i, i < tE L b e - tS L b e → 97 ≤ (b (tS L b e + i)).toInt ∧ (b (tS L b e + i)).toInt ≤ 122 := fun i hi => let_in (by rw [he.2.2.2 (Or.inl h1) _ (by omega) (by omega)]; exact h1)
  generalize hnn : tE L b e - tS L b e = n at hl
  have hP : isWP L b e k = true ↔ n = strLn.getD k 0 ∧ ∀ i, i < strLn.getD k 0 → b (tS L b e + i) = (strBy.getD k []).getD i 0 := by
    unfold isWP
    rw [decide_eq_true h1, Bool.true_and, Bool.and_eq_true, decide_eq_true_eq, allN_iff, hnn]
    exact ⟨fun z => ⟨z.1, fun i hi => of_decide_eq_true (z.2 i hi)⟩, fun z => ⟨z.1, fun i hi => decide_eq_true (z.2 i hi)⟩⟩
  rw [hP]
  constructor
  · exact code_f hk hl
  · intro z
    have z1 := z.1
    subst z1
    exact code_b hk hl z.2
