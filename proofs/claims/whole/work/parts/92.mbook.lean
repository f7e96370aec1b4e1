set_option maxRecDepth 20000 in
theorem r_item {G : Gt} {d : Nat} {M : Mm} (hG : gS G = SHAPE) {L : Nat} {b : Nat → Int32} {p : Nat} {u : Bu} (hR : Rs M L b true p) (hU : BuM M u) (hu : BuOk u) : ExV G (d + 5) mX7_wantItem [.ref 49] M (fun M' => Im M M' L b (pItem L b u p)) := by
  refine Ex.of (by decide) (Nat.le_of_ble_eq_true rfl) ?_
  show Go G (d + 5) mX7_wantItem 0 [some (.ref 49)] [] M _
  refine Go.aload_n dX7_wantItem_0 rfl ?_
  refine Go.callVI [] dX7_wantItem_1 lkX7_304 imX7_kindHere seX7_kindHere cbX7_kindHere (r_kind hG hR) (shp hG rfl) rfl rfl rfl (Nat.le_of_ble_eq_true rfl) (fun r1 M2 hr1 => ?_)
  obtain ⟨er1, emr1⟩ := hr1
  rw [emr1]
  clear emr1 M2
  subst er1
  rcases hkn : fstF (isWP L b p) 0 6 with _ | k
  · show Go _ _ _ _ _ [.int (-1)] _ _
    refine Go.if_lt 18 dX7_wantItem_4 rfl (fun _ => ?_) (fun h4 => absurd (by decide) h4)
    refine Go.aload_n dX7_wantItem_18 rfl ?_
    refine Go.ldc2 dX7_wantItem_19 klX7_310 ?_
    refine Go.callVI [] dX7_wantItem_22 lkX7_258 imX7_isWord seX7_isWord cbX7_isWord (r_isWord hG hR (k := 8) (by decide) (w := 10502465) rfl) (shp hG rfl) rfl rfl rfl (Nat.le_of_ble_eq_true rfl) (fun r3 M4 hr3 => ?_)
    obtain ⟨er3, emr3⟩ := hr3
    rw [emr3]
    clear emr3 M4
    subst er3
    refine Go.if_eq 35 dX7_wantItem_25 rfl (fun h25 => ?_) (fun h25 => ?_)
    · refine Go.aload_n dX7_wantItem_35 rfl ?_
      refine Go.ldc2 dX7_wantItem_36 klX7_315 ?_
      refine Go.callVI [] dX7_wantItem_39 lkX7_258 imX7_isWord seX7_isWord cbX7_isWord (r_isWord hG hR (k := 9) (by decide) (w := 6562612) rfl) (shp hG rfl) rfl rfl rfl (Nat.le_of_ble_eq_true rfl) (fun r5 M6 hr5 => ?_)
      obtain ⟨er5, emr5⟩ := hr5
      rw [emr5]
      clear emr5 M6
      subst er5
      refine Go.if_ne 55 dX7_wantItem_42 rfl (fun h42 => ?_) (fun h42 => ?_)
      · refine Go.aload_n dX7_wantItem_55 rfl ?_
        refine Go.aload_n dX7_wantItem_56 rfl ?_
        refine Go.ldc2 dX7_wantItem_57 klX7_315 ?_
        refine Go.callVI [.ref 49] dX7_wantItem_60 lkX7_258 imX7_isWord seX7_isWord cbX7_isWord (r_isWord hG hR (k := 9) (by decide) (w := 6562612) rfl) (shp hG rfl) rfl rfl rfl (Nat.le_of_ble_eq_true rfl) (fun r7 M8 hr7 => ?_)
        obtain ⟨er7, emr7⟩ := hr7
        rw [emr7]
        clear emr7 M8
        subst er7
        rw [bi_n0.mp h42]
        show Go _ _ _ _ _ [.int 1, _] _ _
        refine Go.callVV [] dX7_wantItem_63 lkX7_319 imX7_wantLiking seX7_wantLiking cbX7_wantLiking (r_likes hG (u := u) hR hU hu) (shp hG rfl) rfl rfl rfl (Nat.le_of_ble_eq_true rfl) (fun M10 hr9 => ?_)
        refine Go.goto 108 dX7_wantItem_66 rfl ?_
        refine Go.vret dX7_wantItem_108 rfl ?_
        unfold pItem
        rw [hkn]
        show _ ∧ Im _ _ _ _ (pRest L b u p)
        unfold pRest
        rw [if_neg (by rw [bi_0.mp h25]; decide), if_pos (bi_n0.mp h42)]
        exact ⟨rfl, hr9⟩
      · refine Go.aload_n dX7_wantItem_45 rfl ?_
        refine Go.ldc2 dX7_wantItem_46 klX7_317 ?_
        refine Go.callVI [] dX7_wantItem_49 lkX7_258 imX7_isWord seX7_isWord cbX7_isWord (r_isWord hG hR (k := 11) (by decide) (w := 4865210560) rfl) (shp hG rfl) rfl rfl rfl (Nat.le_of_ble_eq_true rfl) (fun r11 M12 hr11 => ?_)
        obtain ⟨er11, emr11⟩ := hr11
        rw [emr11]
        clear emr11 M12
        subst er11
        refine Go.if_eq 69 dX7_wantItem_52 rfl (fun h52 => ?_) (fun h52 => ?_)
        · refine Go.aload_n dX7_wantItem_69 rfl ?_
          refine Go.ldc2 dX7_wantItem_70 klX7_323 ?_
          refine Go.callVI [] dX7_wantItem_73 lkX7_258 imX7_isWord seX7_isWord cbX7_isWord (r_isWord hG hR (k := 12) (by decide) (w := 2742599) rfl) (shp hG rfl) rfl rfl rfl (Nat.le_of_ble_eq_true rfl) (fun r13 M14 hr13 => ?_)
          obtain ⟨er13, emr13⟩ := hr13
          rw [emr13]
          clear emr13 M14
          subst er13
          refine Go.if_eq 86 dX7_wantItem_76 rfl (fun h76 => ?_) (fun h76 => ?_)
          · refine Go.aload_n dX7_wantItem_86 rfl ?_
            refine Go.ldc2 dX7_wantItem_87 klX7_328 ?_
            refine Go.callVI [] dX7_wantItem_90 lkX7_258 imX7_isWord seX7_isWord cbX7_isWord (r_isWord hG hR (k := 17) (by decide) (w := 2968) rfl) (shp hG rfl) rfl rfl rfl (Nat.le_of_ble_eq_true rfl) (fun r15 M16 hr15 => ?_)
            obtain ⟨er15, emr15⟩ := hr15
            rw [emr15]
            clear emr15 M16
            subst er15
            refine Go.if_eq 103 dX7_wantItem_93 rfl (fun h93 => ?_) (fun h93 => ?_)
            · refine Go.aload_n dX7_wantItem_103 rfl ?_
              refine Go.iconst (v := 0) dX7_wantItem_104 (by decide) ?_
              refine Go.putI dX7_wantItem_105 fpX7_272 (shp hG rfl) rfl (by decide) (by decide) ?_
              refine Go.nmM (fun N17 eN17 => ?_)
              refine Go.vret dX7_wantItem_108 rfl ?_
              unfold pItem
              rw [hkn]
              show _ ∧ Im _ _ _ _ (pRest L b u p)
              unfold pRest
              rw [if_neg (by rw [bi_0.mp h25]; decide), if_neg (by rw [bi_0.mp h42]; decide), if_neg (by rw [bi_0.mp h52]; decide), if_neg (by rw [bi_0.mp h76]; decide), if_neg (by rw [bi_0.mp h93]; decide)]
              have hR1 : Rs N17 L b false p := by rw [eN17]; exact hR.put false
              exact ⟨rfl, hR1, fun q => (by cases q), (by rw [eN17]; exact (Fm.good M _).fi)⟩
            · refine Go.aload_n dX7_wantItem_96 rfl ?_
              refine Go.callVV [] dX7_wantItem_97 lkX7_330 imX7_wantDay seX7_wantDay cbX7_wantDay (r_day hG (u := u) hR hU hu) (shp hG rfl) rfl rfl rfl (Nat.le_of_ble_eq_true rfl) (fun M19 hr18 => ?_)
              refine Go.goto 108 dX7_wantItem_100 rfl ?_
              refine Go.vret dX7_wantItem_108 rfl ?_
              unfold pItem
              rw [hkn]
              show _ ∧ Im _ _ _ _ (pRest L b u p)
              unfold pRest
              rw [if_neg (by rw [bi_0.mp h25]; decide), if_neg (by rw [bi_0.mp h42]; decide), if_neg (by rw [bi_0.mp h52]; decide), if_neg (by rw [bi_0.mp h76]; decide), if_pos (bi_n0.mp h93)]
              exact ⟨rfl, hr18⟩
          · refine Go.aload_n dX7_wantItem_79 rfl ?_
            refine Go.callVV [] dX7_wantItem_80 lkX7_325 imX7_wantEdict seX7_wantEdict cbX7_wantEdict (r_edict hG (u := u) hR hU hu) (shp hG rfl) rfl rfl rfl (Nat.le_of_ble_eq_true rfl) (fun M21 hr20 => ?_)
            refine Go.goto 108 dX7_wantItem_83 rfl ?_
            refine Go.vret dX7_wantItem_108 rfl ?_
            unfold pItem
            rw [hkn]
            show _ ∧ Im _ _ _ _ (pRest L b u p)
            unfold pRest
            rw [if_neg (by rw [bi_0.mp h25]; decide), if_neg (by rw [bi_0.mp h42]; decide), if_neg (by rw [bi_0.mp h52]; decide), if_pos (bi_n0.mp h76)]
            exact ⟨rfl, hr20⟩
        · refine Go.aload_n dX7_wantItem_55 rfl ?_
          refine Go.aload_n dX7_wantItem_56 rfl ?_
          refine Go.ldc2 dX7_wantItem_57 klX7_315 ?_
          refine Go.callVI [.ref 49] dX7_wantItem_60 lkX7_258 imX7_isWord seX7_isWord cbX7_isWord (r_isWord hG hR (k := 9) (by decide) (w := 6562612) rfl) (shp hG rfl) rfl rfl rfl (Nat.le_of_ble_eq_true rfl) (fun r22 M23 hr22 => ?_)
          obtain ⟨er22, emr22⟩ := hr22
          rw [emr22]
          clear emr22 M23
          subst er22
          rw [bi_0.mp h42]
          show Go _ _ _ _ _ [.int 0, _] _ _
          refine Go.callVV [] dX7_wantItem_63 lkX7_319 imX7_wantLiking seX7_wantLiking cbX7_wantLiking (r_loathes hG (u := u) hR hU hu) (shp hG rfl) rfl rfl rfl (Nat.le_of_ble_eq_true rfl) (fun M25 hr24 => ?_)
          refine Go.goto 108 dX7_wantItem_66 rfl ?_
          refine Go.vret dX7_wantItem_108 rfl ?_
          unfold pItem
          rw [hkn]
          show _ ∧ Im _ _ _ _ (pRest L b u p)
          unfold pRest
          rw [if_neg (by rw [bi_0.mp h25]; decide), if_neg (by rw [bi_0.mp h42]; decide), if_pos (bi_n0.mp h52)]
          exact ⟨rfl, hr24⟩
    · refine Go.aload_n dX7_wantItem_28 rfl ?_
      refine Go.callVV [] dX7_wantItem_29 lkX7_312 imX7_wantStore seX7_wantStore cbX7_wantStore (r_store hG (u := u) hR hU hu) (shp hG rfl) rfl rfl rfl (Nat.le_of_ble_eq_true rfl) (fun M27 hr26 => ?_)
      refine Go.goto 108 dX7_wantItem_32 rfl ?_
      refine Go.vret dX7_wantItem_108 rfl ?_
      unfold pItem
      rw [hkn]
      show _ ∧ Im _ _ _ _ (pRest L b u p)
      unfold pRest
      rw [if_pos (bi_n0.mp h25)]
      exact ⟨rfl, hr26⟩
  · show Go _ _ _ _ _ [.int (nI k)] _ _
    have hk6 : k < 6 := by have := (fstF_some hkn).2.1; omega
    refine Go.if_lt 18 dX7_wantItem_4 rfl (fun h4 => absurd h4 (nI_pos (by omega))) (fun _ => ?_)
    refine Go.aload_n dX7_wantItem_7 rfl ?_
    refine Go.aload_n dX7_wantItem_8 rfl ?_
    refine Go.callVI [.ref 49] dX7_wantItem_9 lkX7_304 imX7_kindHere seX7_kindHere cbX7_kindHere (r_kind hG hR) (shp hG rfl) rfl rfl rfl (Nat.le_of_ble_eq_true rfl) (fun r28 M29 hr28 => ?_)
    obtain ⟨er28, emr28⟩ := hr28
    rw [emr28]
    clear emr28 M29
    subst er28
    rw [hkn]
    show Go _ _ _ _ _ [.int (nI k), _] _ _
    refine Go.callVV [] dX7_wantItem_12 lkX7_307 imX7_wantEntry seX7_wantEntry cbX7_wantEntry (r_entry hG (u := u) hR hU hu hk6) (shp hG rfl) rfl rfl rfl (Nat.le_of_ble_eq_true rfl) (fun M31 hr30 => ?_)
    refine Go.goto 108 dX7_wantItem_15 rfl ?_
    refine Go.vret dX7_wantItem_108 rfl ?_
    unfold pItem
    rw [hkn]
    exact ⟨rfl, hr30⟩
theorem mod_bk {M M' : Mm} {g : Sg} {u : Bu} (h : ModIs M g) (hu : BuM M' u) (h1 : ∀ a, a < 49 ∨ 55 < a → a ≠ 71 → a ≠ 72 → M'.1 a = M.1 a) (h2 : ∀ a, a ≠ 49 → M'.2 a = M.2 a) (h33 : M'.1 49 33 = M.1 49 33) (h20 : M'.1 49 20 = 0) : ModIs M' (setT (setU g u) 0 (gTb g)) ∧ CSame M M' := by
  have r : ∀ a, 55 < a → a ≠ 71 → a ≠ 72 → M'.1 a = M.1 a := fun a q1 q2 q3 => h1 a (Or.inr q1) q2 q3
  obtain ⟨k1, k2, k3, k4, k5, k6, k7, k8⟩ := h
  refine ⟨⟨hu, by rw [h33]; exact k2, fun k => (k3 k).same (r 70 (by decide) (by decide) (by decide)), h20, fun i hi => by have : i < 0 := hi; omega, fun s hs4 => ?_, fun j hj => by rw [r 56 (by decide) (by decide) (by decide)]; exact k7 j hj, k8.same (r 57 (by decide) (by decide) (by decide)) (r 58 (by decide) (by decide) (by decide))⟩, fun a ha => ⟨h1 a (Or.inl ha) (by omega) (by omega), h2 a (by omega)⟩⟩
  rw [r 66 (by decide) (by decide) (by decide), r 67 (by decide) (by decide) (by decide), h2 68 (by decide)]
  exact k6 s hs4
/-- what the search of the text keeps of the state before -/
def Bs (M0 N : Mm) (g : Sg) : Prop := BuI N 71 (gU g) ∧ (∀ a, a < 49 ∨ 55 < a → a ≠ 71 → a ≠ 72 → N.1 a = M0.1 a) ∧ (∀ a, a ≠ 49 → N.2 a = M0.2 a) ∧ N.1 49 33 = M0.1 49 33
theorem Bs.fi {M0 N N' : Mm} {g : Sg} (h : Bs M0 N g) (hf : Fi N N') : Bs M0 N' g := ⟨h.1.same (hf.1 71 (by decide)), fun a q1 q2 q3 => by rw [hf.1 a q1]; exact h.2.1 a q1 q2 q3, fun a ha => by rw [hf.2.1 a ha]; exact h.2.2.1 a ha, by rw [hf.2.2 33 (by decide) (by decide) (by decide) (by decide) (by decide) (by decide) (by decide)]; exact h.2.2.2⟩
theorem Bs.up {M0 N : Mm} {g : Sg} (h : Bs M0 N g) {j : Nat} {x : Int32} (hj : j ≠ 33) : Bs M0 (upi N 49 j x) g := ⟨h.1.same (rd_ne (by decide)), fun a q1 q2 q3 => by rw [rd_ne (by omega)]; exact h.2.1 a q1 q2 q3, fun a ha => h.2.2.1 a ha, by rw [rd_eq]; unfold upd; rw [if_neg (fun q => hj q.symm)]; exact h.2.2.2⟩
theorem BuM.same9 {M M' : Mm} {u : Bu} (h : BuM M u) (h1 : ∀ a, 50 ≤ a → a ≤ 55 → M'.1 a = M.1 a) (h2 : ∀ j, j ≠ 20 → j ≠ 26 → M'.1 49 j = M.1 49 j) : BuM M' u := by
  unfold BuM at h ⊢
  rw [h2 4 (by decide) (by decide), h2 3 (by decide) (by decide), h1 50 (by decide) (by decide), h1 51 (by decide) (by decide), h1 52 (by decide) (by decide), h1 53 (by decide) (by decide), h1 54 (by decide) (by decide), h1 55 (by decide) (by decide)]
  exact h
set_option maxRecDepth 20000 in
theorem j_bk1 {G : Gt} {d : Nat} {M0 N : Mm} (hG : gS G = SHAPE) {g : Sg} (hC : ModIs M0 g) (hg : SgOk g) (hBs : Bs M0 N g) {q : Nat} (hR : Rs N (gTn g) (gTb g) true q) {i : Nat} {x2 : Int32} {u : Bu} (hU : BuM N u) (ht : tT (gTn g) (gTb g) q = 0) (hA0 : A_book g = (nI (i + 1), setT (setU g u) 0 (gTb g))) : Go G (d + 2) mX7_book 71 [some (.ref 49), some (.int (nI (i + 1))), some (.int x2)] [] N (fun v M' => ∃ r, v = some (.int r) ∧ r = (A_book g).1 ∧ ModIs M' (A_book g).2 ∧ CSame M0 M') := by
  refine Go.aload_n dX7_book_71 rfl ?_
  refine Go.aload_n dX7_book_72 rfl ?_
  refine Go.getI dX7_book_73 flX7_272 (shp hG rfl) rfl ?_
  refine Go.eqI (y := 1) (hR.2.2.2) ?_
  refine Go.if_eq 90 dX7_book_76 rfl (fun h76 => absurd h76 (by decide)) (fun _ => ?_)
  refine Go.aload_n dX7_book_79 rfl ?_
  refine Go.getI dX7_book_80 flX7_240 (shp hG rfl) rfl ?_
  refine Go.eqI (y := nI (srt (tT (gTn g) (gTb g) q))) (hR.2.1.1) ?_
  refine Go.if_ne 90 dX7_book_83 rfl (fun h83 => absurd (by rw [ht]; decide) h83) (fun _ => ?_)
  refine Go.iconst (v := 1) dX7_book_86 (by decide) ?_
  refine Go.goto 91 dX7_book_87 rfl ?_
  refine Go.putI dX7_book_91 fpX7_272 (shp hG rfl) rfl (by decide) (by decide) ?_
  refine Go.nmM (fun N1 eN1 => ?_)
  refine Go.aload_n dX7_book_94 rfl ?_
  refine Go.iconst (v := 0) dX7_book_95 (by decide) ?_
  refine Go.putI dX7_book_96 fpX7_222 (shp hG rfl) rfl rfl rfl ?_
  refine Go.nmM (fun N2 eN2 => ?_)
  have hBs2 : Bs M0 N2 g := by rw [eN2, eN1]; exact (hBs.up (by decide)).up (by decide)
  have h20 : N2.1 49 20 = 0 := by rw [eN2, rd_eq]; simp [upd]
  have h22 : N2.1 49 22 = nI (tS (gTn g) (gTb g) q) := by rw [eN2, rd_eq]; simp [upd]; rw [eN1, rd_eq]; simp [upd]; exact hR.2.1.2.1
  have hBi := hBs2.1
  refine Go.aload_n dX7_book_99 rfl ?_
  refine Go.getI dX7_book_100 flX7_272 (shp hG rfl) rfl ?_
  refine Go.eqI (y := 1) (by rw [eN2, rd_eq]; simp [upd]; rw [eN1, rd_eq]; simp [upd]) ?_
  refine Go.if_ne 122 dX7_book_103 rfl (fun _ => ?_) (fun h103 => absurd h103 (by decide))
  refine Go.iload_n dX7_book_122 rfl ?_
  refine Go.iret dX7_book_123 rfl rfl ?_
  rw [hA0]
  refine ⟨_, rfl, rfl, mod_bk hC (hU.same9 ?_ ?_) (fun a q1 q2 q3 => hBs2.2.1 a q1 q2 q3) (fun a ha => hBs2.2.2.1 a ha) hBs2.2.2.2 h20⟩
  · intro a ha1 ha2
    rw [eN2, rd_ne (by omega), eN1, rd_ne (by omega)]
  · intro j hj1 hj2
    rw [eN2, rd_eq]
    unfold upd
    rw [if_neg hj1, eN1, rd_eq]
    unfold upd
    rw [if_neg hj2]
set_option maxRecDepth 20000 in
theorem j_bk2 {G : Gt} {d : Nat} {M0 N : Mm} (hG : gS G = SHAPE) {g : Sg} (hC : ModIs M0 g) (hg : SgOk g) (hBs : Bs M0 N g) {q : Nat} (hR : Rs N (gTn g) (gTb g) true q) {i : Nat} {x2 : Int32} (ht : tT (gTn g) (gTb g) q ≠ 0) (hA0 : A_book g = (-1 - nI (tS (gTn g) (gTb g) q), setT (setU g (gU g)) 0 (gTb g))) : Go G (d + 2) mX7_book 71 [some (.ref 49), some (.int (nI (i + 1))), some (.int x2)] [] N (fun v M' => ∃ r, v = some (.int r) ∧ r = (A_book g).1 ∧ ModIs M' (A_book g).2 ∧ CSame M0 M') := by
  refine Go.aload_n dX7_book_71 rfl ?_
  refine Go.aload_n dX7_book_72 rfl ?_
  refine Go.getI dX7_book_73 flX7_272 (shp hG rfl) rfl ?_
  refine Go.eqI (y := 1) (hR.2.2.2) ?_
  refine Go.if_eq 90 dX7_book_76 rfl (fun h76 => absurd h76 (by decide)) (fun _ => ?_)
  refine Go.aload_n dX7_book_79 rfl ?_
  refine Go.getI dX7_book_80 flX7_240 (shp hG rfl) rfl ?_
  refine Go.eqI (y := nI (srt (tT (gTn g) (gTb g) q))) (hR.2.1.1) ?_
  refine Go.if_ne 90 dX7_book_83 rfl (fun _ => ?_) (fun h83 => absurd h83 (fun z => ht (srt_0.mp ((nI_inj (a := srt (tT (gTn g) (gTb g) q)) (b := 0) (by have := srt_le (tT (gTn g) (gTb g) q); omega) (by decide)).mp z))))
  refine Go.iconst (v := 0) dX7_book_90 (by decide) ?_
  refine Go.putI dX7_book_91 fpX7_272 (shp hG rfl) rfl (by decide) (by decide) ?_
  refine Go.nmM (fun N1 eN1 => ?_)
  refine Go.aload_n dX7_book_94 rfl ?_
  refine Go.iconst (v := 0) dX7_book_95 (by decide) ?_
  refine Go.putI dX7_book_96 fpX7_222 (shp hG rfl) rfl rfl rfl ?_
  refine Go.nmM (fun N2 eN2 => ?_)
  have hBs2 : Bs M0 N2 g := by rw [eN2, eN1]; exact (hBs.up (by decide)).up (by decide)
  have h20 : N2.1 49 20 = 0 := by rw [eN2, rd_eq]; simp [upd]
  have h22 : N2.1 49 22 = nI (tS (gTn g) (gTb g) q) := by rw [eN2, rd_eq]; simp [upd]; rw [eN1, rd_eq]; simp [upd]; exact hR.2.1.2.1
  have hBi := hBs2.1
  refine Go.aload_n dX7_book_99 rfl ?_
  refine Go.getI dX7_book_100 flX7_272 (shp hG rfl) rfl ?_
  refine Go.eqI (y := 0) (by rw [eN2, rd_eq]; simp [upd]; rw [eN1, rd_eq]; simp [upd]) ?_
  refine Go.if_ne 122 dX7_book_103 rfl (fun h103 => absurd (by decide) h103) (fun _ => ?_)
  refine Go.aload_n dX7_book_106 rfl ?_
  refine Go.iconst (v := 0) dX7_book_107 (by decide) ?_
  refine Go.aload_n dX7_book_108 rfl ?_
  refine Go.getR dX7_book_109 flX7_75 (shp hG rfl) rfl ?_
  refine Go.callVV [] dX7_book_112 lkX7_333 imX7_moveAll seX7_moveAll cbX7_moveAll (m_allG71 hG (u := gU g) hBi hg.1.1) (shp hG rfl) rfl rfl rfl (Nat.le_of_ble_eq_true rfl) (fun M4 hr3 => ?_)
  obtain ⟨hb1, hb2, hb3⟩ := hr3
  refine Go.iconst (v := -1) dX7_book_115 (by decide) ?_
  refine Go.aload_n dX7_book_116 rfl ?_
  refine Go.getI dX7_book_117 flX7_228 (shp hG rfl) rfl ?_
  refine Go.eqI (y := nI (tS (gTn g) (gTb g) q)) (by rw [hb3 22 (by decide) (by decide) (by decide)]; exact h22) ?_
  refine Go.isub dX7_book_120 ?_
  refine Go.iret dX7_book_121 rfl rfl ?_
  rw [hA0]
  exact ⟨_, rfl, rfl, mod_bk hC hb1 (fun a q1 q2 q3 => by rw [hb2.1 a (by simp; omega)]; exact hBs2.2.1 a q1 q2 q3) (fun a ha => by rw [hb2.2]; exact hBs2.2.2.1 a ha) (by rw [hb3 33 (by decide) (by decide) (by decide)]; exact hBs2.2.2.2) (by rw [hb3 20 (by decide) (by decide) (by decide)]; exact h20)⟩
set_option maxRecDepth 20000 in
theorem j_bk0 {G : Gt} {d : Nat} {M0 N : Mm} (hG : gS G = SHAPE) {g : Sg} (hC : ModIs M0 g) (hg : SgOk g) (hBs : Bs M0 N g) {q : Nat} (hR : Rs N (gTn g) (gTb g) false q) {i : Nat} {x2 : Int32} (hA0 : A_book g = (-1 - nI (tS (gTn g) (gTb g) q), setT (setU g (gU g)) 0 (gTb g))) : Go G (d + 2) mX7_book 71 [some (.ref 49), some (.int (nI (i + 1))), some (.int x2)] [] N (fun v M' => ∃ r, v = some (.int r) ∧ r = (A_book g).1 ∧ ModIs M' (A_book g).2 ∧ CSame M0 M') := by
  refine Go.aload_n dX7_book_71 rfl ?_
  refine Go.aload_n dX7_book_72 rfl ?_
  refine Go.getI dX7_book_73 flX7_272 (shp hG rfl) rfl ?_
  refine Go.eqI (y := 0) (hR.2.2.2) ?_
  refine Go.if_eq 90 dX7_book_76 rfl (fun _ => ?_) (fun h76 => absurd (by decide) h76)
  refine Go.iconst (v := 0) dX7_book_90 (by decide) ?_
  refine Go.putI dX7_book_91 fpX7_272 (shp hG rfl) rfl (by decide) (by decide) ?_
  refine Go.nmM (fun N1 eN1 => ?_)
  refine Go.aload_n dX7_book_94 rfl ?_
  refine Go.iconst (v := 0) dX7_book_95 (by decide) ?_
  refine Go.putI dX7_book_96 fpX7_222 (shp hG rfl) rfl rfl rfl ?_
  refine Go.nmM (fun N2 eN2 => ?_)
  have hBs2 : Bs M0 N2 g := by rw [eN2, eN1]; exact (hBs.up (by decide)).up (by decide)
  have h20 : N2.1 49 20 = 0 := by rw [eN2, rd_eq]; simp [upd]
  have h22 : N2.1 49 22 = nI (tS (gTn g) (gTb g) q) := by rw [eN2, rd_eq]; simp [upd]; rw [eN1, rd_eq]; simp [upd]; exact hR.2.1.2.1
  have hBi := hBs2.1
  refine Go.aload_n dX7_book_99 rfl ?_
  refine Go.getI dX7_book_100 flX7_272 (shp hG rfl) rfl ?_
  refine Go.eqI (y := 0) (by rw [eN2, rd_eq]; simp [upd]; rw [eN1, rd_eq]; simp [upd]) ?_
  refine Go.if_ne 122 dX7_book_103 rfl (fun h103 => absurd (by decide) h103) (fun _ => ?_)
  refine Go.aload_n dX7_book_106 rfl ?_
  refine Go.iconst (v := 0) dX7_book_107 (by decide) ?_
  refine Go.aload_n dX7_book_108 rfl ?_
  refine Go.getR dX7_book_109 flX7_75 (shp hG rfl) rfl ?_
  refine Go.callVV [] dX7_book_112 lkX7_333 imX7_moveAll seX7_moveAll cbX7_moveAll (m_allG71 hG (u := gU g) hBi hg.1.1) (shp hG rfl) rfl rfl rfl (Nat.le_of_ble_eq_true rfl) (fun M4 hr3 => ?_)
  obtain ⟨hb1, hb2, hb3⟩ := hr3
  refine Go.iconst (v := -1) dX7_book_115 (by decide) ?_
  refine Go.aload_n dX7_book_116 rfl ?_
  refine Go.getI dX7_book_117 flX7_228 (shp hG rfl) rfl ?_
  refine Go.eqI (y := nI (tS (gTn g) (gTb g) q)) (by rw [hb3 22 (by decide) (by decide) (by decide)]; exact h22) ?_
  refine Go.isub dX7_book_120 ?_
  refine Go.iret dX7_book_121 rfl rfl ?_
  rw [hA0]
  exact ⟨_, rfl, rfl, mod_bk hC hb1 (fun a q1 q2 q3 => by rw [hb2.1 a (by simp; omega)]; exact hBs2.2.1 a q1 q2 q3) (fun a ha => by rw [hb2.2]; exact hBs2.2.2.1 a ha) (by rw [hb3 33 (by decide) (by decide) (by decide)]; exact hBs2.2.2.2) (by rw [hb3 20 (by decide) (by decide) (by decide)]; exact h20)⟩
theorem A_book_n {g : Sg} {a : Int32} (h : bkN (gTn g) (gTb g) 120 1 0 (gU g) = (a, none)) : A_book g = (a, setT (setU g (gU g)) 0 (gTb g)) := by unfold A_book; rw [h]; rfl
theorem A_book_s {g : Sg} {a : Int32} {u : Bu} (h : bkN (gTn g) (gTb g) 120 1 0 (gU g) = (a, some u)) : A_book g = (a, setT (setU g u) 0 (gTb g)) := by unfold A_book; rw [h]
theorem srt_3 {T : Nat} (h : srt T = 3) : T ≠ 0 ∧ T ≠ 1 ∧ T ≠ 2 := by
  refine ⟨fun z => ?_, fun z => ?_, fun z => ?_⟩ <;> (subst z; cases h)
theorem typ_3 {L : Nat} {b : Nat → Int32} {i : Nat} (hi : i < L) : typ L b i = 3 ↔ b i = 59 := by
  unfold typ
  rw [if_pos hi]
  exact tyI_3
set_option maxRecDepth 20000 in
theorem l_bookM {G : Gt} {d : Nat} {M0 : Mm} (hG : gS G = SHAPE) {g : Sg} (hC : ModIs M0 g) (hg : SgOk g) {T : Int32 × Option Bu} (hTT : T = bkN (gTn g) (gTb g) 120 1 0 (gU g)) : ∀ (n i : Nat) (N : Mm) (e : Nat) (u : Bu), i + n = 120 → TpM N (gTn g) (gTb g) → N.1 49 23 = nI e → N.1 49 26 = bi true → e ≤ gTn g → 2 * i ≤ e → BuM N u → BuOk u → Bs M0 N g → T = bkN (gTn g) (gTb g) n (i + 1) e u → Go G (d + 6) mX7_book 23 [some (.ref 49), some (.int (nI i)), some (.int 1)] [] N (fun v M' => ∃ r, v = some (.int r) ∧ r = (A_book g).1 ∧ ModIs M' (A_book g).2 ∧ CSame M0 M') := by
  intro n
  induction n with
  | zero =>
    intro i N e u hin hN he hgd heL h2i hU hu hBs hT
    exfalso
    have := hN.2.1
    omega
  | succ n ih =>
    intro i N e u hin hN he hgd heL h2i hU hu hBs hT
    have hi : i < 120 := by omega
    refine Go.iload_n dX7_book_23 rfl ?_
    refine Go.if_eq 71 dX7_book_24 rfl (fun h24 => absurd h24 (by decide)) (fun _ => ?_)
    refine Go.aload_n dX7_book_27 rfl ?_
    refine Go.callVV [] dX7_book_28 lkX7_276 imX7_advance seX7_advance cbX7_advance (m_adv hG hN heL he) (shp hG rfl) rfl rfl rfl (Nat.le_of_ble_eq_true rfl) (fun M2 hr1 => ?_)
    obtain ⟨hT2, hK2, hs2⟩ := hr1
    have hR2 : Rs M2 (gTn g) (gTb g) true e := ⟨hT2, hK2, heL, by rw [hs2.2 26 (by decide) (by decide) (by decide) (by decide)]; exact hgd⟩
    refine Go.aload_n dX7_book_31 rfl ?_
    refine Go.callVV [] dX7_book_32 lkX7_337 imX7_wantItem seX7_wantItem cbX7_wantItem (r_item hG (u := u) hR2 (hU.fm hs2.fm) hu) (shp hG rfl) rfl rfl rfl (Nat.le_of_ble_eq_true rfl) (fun M4 hr3 => ?_)
    obtain ⟨hR9, hU9, hF9⟩ := hr3
    have hg9 := g_item (b := gTb g) heL hu
    obtain ⟨ok, qq, u2, hPP⟩ : ∃ ok qq u2, pItem (gTn g) (gTb g) u e = (ok, qq, u2) := ⟨_, _, _, rfl⟩
    rw [hPP] at hR9 hU9 hg9
    simp only [] at hR9 hU9
    have hq5 : tT (gTn g) (gTb g) qq ≤ 5 := typ_le _ _ _
    have hs3 := srt_le (tT (gTn g) (gTb g) qq)
    have hT9 := hT
    rw [bkN, hPP] at hT9
    have hBs9 := (hBs.fi hs2.fm.fi).fi hF9
    refine Go.iinc (v := nI (i + 1)) (ls' := [some (.ref 49), some (.int (nI (i + 1))), some (.int 1)]) dX7_book_35 rfl (nI_1 _) rfl rfl ?_
    refine Go.aload_n dX7_book_38 rfl ?_
    refine Go.getI dX7_book_39 flX7_272 (shp hG rfl) rfl ?_
    refine Go.eqI (y := bi ok) (hR9.2.2.2) ?_
    refine Go.if_eq 66 dX7_book_42 rfl (fun h42 => ?_) (fun h42 => ?_)
    · refine Go.iconst (v := 0) dX7_book_66 (by decide) ?_
      refine Go.istore_n (ls' := [some (.ref 49), some (.int (nI (i + 1))), some (.int 0)]) dX7_book_67 (Nat.le_of_ble_eq_true rfl) rfl rfl ?_
      refine Go.goto 23 dX7_book_68 rfl ?_
      have eb := bi_0.mp h42
      subst eb
      have e9 : T = (-1 - nI (tS (gTn g) (gTb g) qq), none) := by rw [hT9]; exact if_neg (fun z => by cases z)
      refine Go.iload_n dX7_book_23 rfl ?_
      refine Go.if_eq 71 dX7_book_24 rfl (fun _ => ?_) (fun h24 => absurd (by decide) h24)
      exact j_bk0 hG hC hg hBs9 hR9 (A_book_n (hTT.symm.trans e9))
    · refine Go.aload_n dX7_book_45 rfl ?_
      refine Go.getI dX7_book_46 flX7_240 (shp hG rfl) rfl ?_
      refine Go.eqI (y := nI (srt (tT (gTn g) (gTb g) qq))) (hR9.2.1.1) ?_
      refine Go.iconst (v := 3) dX7_book_49 (by decide) ?_
      refine Go.icmp_ne 66 dX7_book_50 rfl (fun h50 => ?_) (fun h50 => ?_)
      · have n50 : ¬ (srt (tT (gTn g) (gTb g) qq)) = 3 := fun q => h50 ((nI_inj (a := (srt (tT (gTn g) (gTb g) qq))) (b := 3) (by omega) (by omega)).mpr q)
        refine Go.iconst (v := 0) dX7_book_66 (by decide) ?_
        refine Go.istore_n (ls' := [some (.ref 49), some (.int (nI (i + 1))), some (.int 0)]) dX7_book_67 (Nat.le_of_ble_eq_true rfl) rfl rfl ?_
        refine Go.goto 23 dX7_book_68 rfl ?_
        have eb := bi_n0.mp h42
        subst eb
        have hge : e + 1 ≤ qq ∧ qq ≤ gTn g ∧ BuOk u2 := hg9 rfl
        have t3 : tT (gTn g) (gTb g) qq ≠ 3 := fun z => n50 (by rw [z]; rfl)
        refine Go.iload_n dX7_book_23 rfl ?_
        refine Go.if_eq 71 dX7_book_24 rfl (fun _ => ?_) (fun h24 => absurd (by decide) h24)
        by_cases t0 : tT (gTn g) (gTb g) qq = 0
        · exact j_bk1 hG hC hg hBs9 hR9 (hU9 rfl) t0 (A_book_s (hTT.symm.trans (by rw [hT9]; exact (if_pos rfl).trans (if_pos t0))))
        · exact j_bk2 hG hC hg hBs9 hR9 t0 (A_book_n (hTT.symm.trans (by rw [hT9]; exact (if_pos rfl).trans ((if_neg t0).trans (if_neg t3)))))
      · have n50 : (srt (tT (gTn g) (gTb g) qq)) = 3 := (nI_inj (a := (srt (tT (gTn g) (gTb g) qq))) (b := 3) (by omega) (by omega)).mp h50
        refine Go.aload_n dX7_book_53 rfl ?_
        refine Go.getI dX7_book_54 flX7_247 (shp hG rfl) rfl ?_
        refine Go.eqI (y := gTb g (tS (gTn g) (gTb g) qq)) (by have h3 := srt_3 n50; rw [hR9.2.1.2.2.2.2.1 (by omega)]; unfold byt; rw [if_pos ((tE_spec (b := gTb g) hR9.2.2.1).2.2.1 h3.1).2]) ?_
        refine Go.bipush (v := 59) dX7_book_57 (by decide) ?_
        refine Go.icmp_ne 66 dX7_book_59 rfl (fun h59 => ?_) (fun h59 => ?_)
        · refine Go.iconst (v := 0) dX7_book_66 (by decide) ?_
          refine Go.istore_n (ls' := [some (.ref 49), some (.int (nI (i + 1))), some (.int 0)]) dX7_book_67 (Nat.le_of_ble_eq_true rfl) rfl rfl ?_
          refine Go.goto 23 dX7_book_68 rfl ?_
          have eb := bi_n0.mp h42
          subst eb
          have hge : e + 1 ≤ qq ∧ qq ≤ gTn g ∧ BuOk u2 := hg9 rfl
          have h3 := srt_3 n50
          have hlt := ((tE_spec (b := gTb g) hR9.2.2.1).2.2.1 h3.1)
          have t3 : tT (gTn g) (gTb g) qq ≠ 3 := fun z => h59 ((typ_3 hlt.2).mp z)
          refine Go.iload_n dX7_book_23 rfl ?_
          refine Go.if_eq 71 dX7_book_24 rfl (fun _ => ?_) (fun h24 => absurd (by decide) h24)
          by_cases t0 : tT (gTn g) (gTb g) qq = 0
          · exact j_bk1 hG hC hg hBs9 hR9 (hU9 rfl) t0 (A_book_s (hTT.symm.trans (by rw [hT9]; exact (if_pos rfl).trans (if_pos t0))))
          · exact j_bk2 hG hC hg hBs9 hR9 t0 (A_book_n (hTT.symm.trans (by rw [hT9]; exact (if_pos rfl).trans ((if_neg t0).trans (if_neg t3)))))
        · refine Go.iconst (v := 1) dX7_book_62 (by decide) ?_
          refine Go.goto 67 dX7_book_63 rfl ?_
          refine Go.istore_n (ls' := [some (.ref 49), some (.int (nI (i + 1))), some (.int 1)]) dX7_book_67 (Nat.le_of_ble_eq_true rfl) rfl rfl ?_
          refine Go.goto 23 dX7_book_68 rfl ?_
          have eb := bi_n0.mp h42
          subst eb
          have hge : e + 1 ≤ qq ∧ qq ≤ gTn g ∧ BuOk u2 := hg9 rfl
          have h3 := srt_3 n50
          have hlt := ((tE_spec (b := gTb g) hR9.2.2.1).2.2.1 h3.1)
          have t3 : tT (gTn g) (gTb g) qq = 3 := (typ_3 hlt.2).mpr h59
          have hE9 := (tE_spec (b := gTb g) hR9.2.2.1).2.1
          have hqs := tS_spec (b := gTb g) hR9.2.2.1
          exact ih (i + 1) M4 (tE (gTn g) (gTb g) qq) u2 (by omega) hR9.1 hR9.2.1.2.2.1 hR9.2.2.2 hE9 (by omega) (hU9 rfl) hge.2.2 hBs9 (by rw [hT9]; exact (if_pos rfl).trans ((if_neg (by rw [t3]; decide)).trans (if_pos t3)))
set_option maxRecDepth 20000 in
theorem m_book {G : Gt} {d : Nat} {M : Mm} (hG : gS G = SHAPE) {g : Sg} (hC : ModIs M g) (hg : SgOk g)  : ExI G (d + 6) mX7_book [.ref 49] M (fun r M' => r = (A_book g).1 ∧ ModIs M' (A_book g).2 ∧ CSame M M') := by
  refine Ex.of (by decide) (Nat.le_of_ble_eq_true rfl) ?_
  show Go G (d + 6) mX7_book 0 [some (.ref 49), none, none] [] M _
  refine Go.aload_n dX7_book_0 rfl ?_
  refine Go.iconst (v := 1) dX7_book_1 (by decide) ?_
  refine Go.aload_n dX7_book_2 rfl ?_
  refine Go.getR dX7_book_3 flX7_75 (shp hG rfl) rfl ?_
  refine Go.callVV [] dX7_book_6 lkX7_333 imX7_moveAll seX7_moveAll cbX7_moveAll (m_allK71 hG (u := gU g) hC.1 hg.1.1) (shp hG rfl) rfl rfl rfl (Nat.le_of_ble_eq_true rfl) (fun M2 hr1 => ?_)
  obtain ⟨hb1, hb2, hb3⟩ := hr1
  refine Go.aload_n dX7_book_9 rfl ?_
  refine Go.iconst (v := 0) dX7_book_10 (by decide) ?_
  refine Go.putI dX7_book_11 fpX7_225 (shp hG rfl) rfl rfl rfl ?_
  refine Go.nmM (fun N3 eN3 => ?_)
  refine Go.aload_n dX7_book_14 rfl ?_
  refine Go.iconst (v := 1) dX7_book_15 (by decide) ?_
  refine Go.putI dX7_book_16 fpX7_272 (shp hG rfl) rfl (by decide) (by decide) ?_
  refine Go.nmM (fun N4 eN4 => ?_)
  refine Go.iconst (v := 0) dX7_book_19 (by decide) ?_
  refine Go.istore_n (ls' := [some (.ref 49), some (.int 0), none]) dX7_book_20 (Nat.le_of_ble_eq_true rfl) rfl rfl ?_
  refine Go.iconst (v := 1) dX7_book_21 (by decide) ?_
  refine Go.istore_n (ls' := [some (.ref 49), some (.int 0), some (.int 1)]) dX7_book_22 (Nat.le_of_ble_eq_true rfl) rfl rfl ?_
  have hr : ∀ j, j ≠ 23 → j ≠ 26 → j ≠ 34 → N4.1 49 j = M.1 49 j := fun j h1 h2 h3 => by
    rw [eN4, rd_eq]; unfold upd; rw [if_neg h2, eN3, rd_eq]; unfold upd; rw [if_neg h1]; exact hb3 j h3
  have hr2 : ∀ a, a ≠ 49 → N4.1 a = M2.1 a := fun a ha => by rw [eN4, rd_ne ha, eN3, rd_ne ha]
  have hr3 : N4.2 = M.2 := by rw [eN4, rd_l, eN3, rd_l, hb2.2]
  have hr4 : ∀ a, a ≠ 49 → a ≠ 71 → a ≠ 72 → N4.1 a = M.1 a := fun a q1 q2 q3 => by rw [hr2 a q1]; exact hb2.1 a (by simp [q1, q2, q3])
  have hU1 : BuM N4 (gU g) := by
    have k1 := hC.1
    unfold BuM at k1 ⊢
    rw [hr 4 (by decide) (by decide) (by decide), hr 3 (by decide) (by decide) (by decide), hr4 50 (by decide) (by decide) (by decide), hr4 51 (by decide) (by decide) (by decide), hr4 52 (by decide) (by decide) (by decide), hr4 53 (by decide) (by decide) (by decide), hr4 54 (by decide) (by decide) (by decide), hr4 55 (by decide) (by decide) (by decide)]
    exact k1
  exact l_bookM hG hC hg rfl 120 0 N4 0 (gU g) (by omega) ⟨by rw [hr 20 (by decide) (by decide) (by decide)]; exact hC.2.2.2.1, hg.2.2.1, fun i hi => by rw [hr4 65 (by decide) (by decide) (by decide)]; exact hC.2.2.2.2.1 i hi, hg.2.2.2.1⟩ (by rw [eN4, rd_eq]; simp [upd]; rw [eN3, rd_eq]; simp [upd]; rfl) (by rw [eN4, rd_eq]; simp [upd]; rfl) (Nat.zero_le _) (by omega) hU1 hg.1 ⟨hb1.same (hr2 71 (by decide)), fun a q1 q2 q3 => hr4 a (by omega) q2 q3, fun a _ => by rw [hr3], hr 33 (by decide) (by decide) (by decide)⟩ rfl
