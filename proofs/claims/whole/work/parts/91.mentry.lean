theorem fi_add (M : Mm) (n : Nat) (k x y : Int32) : Fi M (addM M n k x y) := by
  refine ⟨fun a ha => ?_, fun a ha => rfl, fun j _ h4 _ _ _ _ _ => ?_⟩
  · unfold addM
    rw [rd_ne (by omega), rd_ne (by omega), rd_ne (by omega), rd_ne (by omega)]
  · simp [addM, upi, seti, upd, h4]
theorem pop8_add : ∀ s, s < 256 → ∀ t, t < 8 → s.testBit t = false → pop8 (s ||| 2 ^ t) = pop8 s + 1 := by decide +kernel
theorem pop8_z : pop8 0 = 0 := by decide
set_option maxRecDepth 20000 in
theorem j_way1 {G : Gt} {d : Nat} {N : Mm} (hG : gS G = SHAPE) {L : Nat} {b : Nat → Int32} {p : Nat} {u : Bu} (hR : Rs N L b true p) (hU : BuM N u) (hn30 : uN u < 30) {k set : Nat} (hset : set < 256) {o3 o4 : Option Value} : Go G (d + 4) mX7_wantEntry 145 [some (.ref 49), some (.int (nI k)), some (.int (nI set)), o3, o4] [] N (fun v M' => v = none ∧ Im N M' L b (pWay L b k u set p)) := by
  refine Go.aload_n dX7_wantEntry_145 rfl ?_
  refine Go.ldc2 dX7_wantEntry_146 klX7_279 ?_
  refine Go.callVV [] dX7_wantEntry_149 lkX7_281 imX7_wantWord seX7_wantWord cbX7_wantWord (r_word1 hG hR (k := 6) (by decide) (w := 16819) rfl) (shp hG rfl) rfl rfl rfl (Nat.le_of_ble_eq_true rfl) (fun M2 hr1 => ?_)
  rcases hr1 with ⟨hw229q, hR227q, hf228q⟩ | ⟨hw229q, hR227q, hf228q⟩
  · skip
    refine Go.aload_n dX7_wantEntry_152 rfl ?_
    refine Go.iconst (v := 0) dX7_wantEntry_153 (by decide) ?_
    refine Go.iconst (v := 4) dX7_wantEntry_154 (by decide) ?_
    refine Go.callVI [] dX7_wantEntry_155 lkX7_285 imX7_wantNumber seX7_wantNumber cbX7_wantNumber (r_num1 hG hR227q (m := 4) (by omega)) (shp hG rfl) rfl rfl rfl (Nat.le_of_ble_eq_true rfl) (fun r3 M4 hr3 => ?_)
    rcases hr3 with ⟨hn232q, ex9, hR230q, hf231q⟩ | ⟨hn232q, hR230q, hf231q⟩
    · rw [ex9]
      have hn232ql := (nOk_le hn232q).2
      refine Go.istore_n (ls' := [some (.ref 49), some (.int (nI k)), some (.int (nI set)), some (.int (nI (tV L b (tE L b p)))), o4]) dX7_wantEntry_158 (Nat.le_of_ble_eq_true rfl) rfl rfl ?_
      refine Go.aload_n dX7_wantEntry_159 rfl ?_
      refine Go.ldc2 dX7_wantEntry_160 klX7_288 ?_
      refine Go.callVV [] dX7_wantEntry_163 lkX7_281 imX7_wantWord seX7_wantWord cbX7_wantWord (r_word1 hG hR230q (k := 7) (by decide) (w := 10132457) rfl) (shp hG rfl) rfl rfl rfl (Nat.le_of_ble_eq_true rfl) (fun M6 hr5 => ?_)
      rcases hr5 with ⟨hw235q, hR233q, hf234q⟩ | ⟨hw235q, hR233q, hf234q⟩
      · skip
        refine Go.aload_n dX7_wantEntry_166 rfl ?_
        refine Go.iconst (v := 0) dX7_wantEntry_167 (by decide) ?_
        refine Go.iconst (v := 3) dX7_wantEntry_168 (by decide) ?_
        refine Go.callVI [] dX7_wantEntry_169 lkX7_285 imX7_wantNumber seX7_wantNumber cbX7_wantNumber (r_num1 hG hR233q (m := 3) (by omega)) (shp hG rfl) rfl rfl rfl (Nat.le_of_ble_eq_true rfl) (fun r7 M8 hr7 => ?_)
        rcases hr7 with ⟨hn238q, ex9, hR236q, hf237q⟩ | ⟨hn238q, hR236q, hf237q⟩
        · rw [ex9]
          have hn238ql := (nOk_le hn238q).2
          refine Go.istore (ls' := [some (.ref 49), some (.int (nI k)), some (.int (nI set)), some (.int (nI (tV L b (tE L b p)))), some (.int (nI (tV L b (tE L b (tE L b (tE L b p))))))]) dX7_wantEntry_172 (Nat.le_of_ble_eq_true rfl) rfl rfl ?_
          refine Go.aload_n dX7_wantEntry_174 rfl ?_
          refine Go.getI dX7_wantEntry_175 flX7_272 (shp hG rfl) rfl ?_
          refine Go.eqI (y := 1) (hR236q.2.2.2) ?_
          refine Go.if_eq 201 dX7_wantEntry_178 rfl (fun h178 => absurd h178 (by decide)) (fun _ => ?_)
          refine Go.aload_n dX7_wantEntry_181 rfl ?_
          refine Go.iload_n dX7_wantEntry_182 rfl ?_
          refine Go.bipush (v := 20) dX7_wantEntry_183 (by decide) ?_
          refine Go.iload_n dX7_wantEntry_185 rfl ?_
          refine Go.imul dX7_wantEntry_186 ?_
          refine Go.eqI (y := nI (20 * set)) (pk_mul 20 _) ?_
          refine Go.iconst (v := 4) dX7_wantEntry_187 (by decide) ?_
          refine Go.iload_n dX7_wantEntry_188 rfl ?_
          refine Go.imul dX7_wantEntry_189 ?_
          refine Go.eqI (y := nI (4 * tV L b (tE L b p))) (pk_mul 4 _) ?_
          refine Go.iadd dX7_wantEntry_190 ?_
          refine Go.eqI (y := nI (20 * set + 4 * tV L b (tE L b p))) (nI_add _ _) ?_
          refine Go.iload dX7_wantEntry_191 rfl ?_
          refine Go.iadd dX7_wantEntry_193 ?_
          refine Go.eqI (y := nI (20 * set + 4 * tV L b (tE L b p) + tV L b (tE L b (tE L b (tE L b p))))) (nI_add _ _) ?_
          refine Go.aload_n dX7_wantEntry_194 rfl ?_
          refine Go.getI dX7_wantEntry_195 flX7_163 (shp hG rfl) rfl ?_
          refine Go.eqI (y := uY u) ((hU.fm ((((hf228q).trans (hf231q)).trans (hf234q)).trans (hf237q))).2.2.2.2.2.2.2.1) ?_
          refine Go.callVV [] dX7_wantEntry_198 lkX7_166 imX7_addEntry seX7_addEntry cbX7_addEntry (m_addEntry hG (n := uN u) (hU.fm ((((hf228q).trans (hf231q)).trans (hf234q)).trans (hf237q))).2.2.2.2.1 (by omega) (nI k) (nI (20 * set + 4 * tV L b (tE L b p) + tV L b (tE L b (tE L b (tE L b p))))) (uY u)) (shp hG rfl) rfl rfl rfl (Nat.le_of_ble_eq_true rfl) (fun M10 hr9 => ?_)
          refine Go.vret dX7_wantEntry_201 rfl ?_
          unfold pWay
          rw [if_pos hw229q, if_pos hn232q, if_pos hw235q, if_pos hn238q]
          have eM := hr9
          exact ⟨rfl, hR236q.keep (fun j _ h4 => by rw [eM]; simp [addM, upi, seti, upd, h4]) (by rw [eM]; simp [addM, upi, seti]) (by rw [eM]; rfl), fun _ => by rw [eM]; exact BuM.ent (hU.fm ((((hf228q).trans (hf231q)).trans (hf234q)).trans (hf237q))) k _, ((((hf228q).trans (hf231q)).trans (hf234q)).trans (hf237q)).fi.trans (by rw [eM]; exact fi_add _ _ _ _ _)⟩
        · skip
          refine Go.istore (ls' := [some (.ref 49), some (.int (nI k)), some (.int (nI set)), some (.int (nI (tV L b (tE L b p)))), some (.int r7)]) dX7_wantEntry_172 (Nat.le_of_ble_eq_true rfl) rfl rfl ?_
          refine Go.aload_n dX7_wantEntry_174 rfl ?_
          refine Go.getI dX7_wantEntry_175 flX7_272 (shp hG rfl) rfl ?_
          refine Go.eqI (y := 0) (hR236q.2.2.2) ?_
          refine Go.if_eq 201 dX7_wantEntry_178 rfl (fun _ => ?_) (fun h178 => absurd (by decide) h178)
          refine Go.vret dX7_wantEntry_201 rfl ?_
          unfold pWay
          rw [if_pos hw229q, if_pos hn232q, if_pos hw235q, if_neg (by rw [hn238q]; decide)]
          exact ⟨rfl, hR236q, fun q => (by cases q), ((((hf228q).trans (hf231q)).trans (hf234q)).trans (hf237q)).fi⟩
      · skip
        refine Go.aload_n dX7_wantEntry_166 rfl ?_
        refine Go.iconst (v := 0) dX7_wantEntry_167 (by decide) ?_
        refine Go.iconst (v := 3) dX7_wantEntry_168 (by decide) ?_
        refine Go.callVI [] dX7_wantEntry_169 lkX7_285 imX7_wantNumber seX7_wantNumber cbX7_wantNumber (r_num0 hG hR233q 3) (shp hG rfl) rfl rfl rfl (Nat.le_of_ble_eq_true rfl) (fun r11 M12 hr11 => ?_)
        obtain ⟨hR239q, hf240q⟩ := hr11
        refine Go.istore (ls' := [some (.ref 49), some (.int (nI k)), some (.int (nI set)), some (.int (nI (tV L b (tE L b p)))), some (.int r11)]) dX7_wantEntry_172 (Nat.le_of_ble_eq_true rfl) rfl rfl ?_
        refine Go.aload_n dX7_wantEntry_174 rfl ?_
        refine Go.getI dX7_wantEntry_175 flX7_272 (shp hG rfl) rfl ?_
        refine Go.eqI (y := 0) (hR239q.2.2.2) ?_
        refine Go.if_eq 201 dX7_wantEntry_178 rfl (fun _ => ?_) (fun h178 => absurd (by decide) h178)
        refine Go.vret dX7_wantEntry_201 rfl ?_
        unfold pWay
        rw [if_pos hw229q, if_pos hn232q, if_neg (by rw [hw235q]; decide)]
        exact ⟨rfl, hR239q, fun q => (by cases q), ((((hf228q).trans (hf231q)).trans (hf234q)).trans (hf240q)).fi⟩
    · skip
      refine Go.istore_n (ls' := [some (.ref 49), some (.int (nI k)), some (.int (nI set)), some (.int r3), o4]) dX7_wantEntry_158 (Nat.le_of_ble_eq_true rfl) rfl rfl ?_
      refine Go.aload_n dX7_wantEntry_159 rfl ?_
      refine Go.ldc2 dX7_wantEntry_160 klX7_288 ?_
      refine Go.callVV [] dX7_wantEntry_163 lkX7_281 imX7_wantWord seX7_wantWord cbX7_wantWord (r_word0 hG hR230q 10132457) (shp hG rfl) rfl rfl rfl (Nat.le_of_ble_eq_true rfl) (fun M14 hr13 => ?_)
      obtain ⟨hR241q, hf242q⟩ := hr13
      refine Go.aload_n dX7_wantEntry_166 rfl ?_
      refine Go.iconst (v := 0) dX7_wantEntry_167 (by decide) ?_
      refine Go.iconst (v := 3) dX7_wantEntry_168 (by decide) ?_
      refine Go.callVI [] dX7_wantEntry_169 lkX7_285 imX7_wantNumber seX7_wantNumber cbX7_wantNumber (r_num0 hG hR241q 3) (shp hG rfl) rfl rfl rfl (Nat.le_of_ble_eq_true rfl) (fun r15 M16 hr15 => ?_)
      obtain ⟨hR243q, hf244q⟩ := hr15
      refine Go.istore (ls' := [some (.ref 49), some (.int (nI k)), some (.int (nI set)), some (.int r3), some (.int r15)]) dX7_wantEntry_172 (Nat.le_of_ble_eq_true rfl) rfl rfl ?_
      refine Go.aload_n dX7_wantEntry_174 rfl ?_
      refine Go.getI dX7_wantEntry_175 flX7_272 (shp hG rfl) rfl ?_
      refine Go.eqI (y := 0) (hR243q.2.2.2) ?_
      refine Go.if_eq 201 dX7_wantEntry_178 rfl (fun _ => ?_) (fun h178 => absurd (by decide) h178)
      refine Go.vret dX7_wantEntry_201 rfl ?_
      unfold pWay
      rw [if_pos hw229q, if_neg (by rw [hn232q]; decide)]
      exact ⟨rfl, hR243q, fun q => (by cases q), ((((hf228q).trans (hf231q)).trans (hf242q)).trans (hf244q)).fi⟩
  · skip
    refine Go.aload_n dX7_wantEntry_152 rfl ?_
    refine Go.iconst (v := 0) dX7_wantEntry_153 (by decide) ?_
    refine Go.iconst (v := 4) dX7_wantEntry_154 (by decide) ?_
    refine Go.callVI [] dX7_wantEntry_155 lkX7_285 imX7_wantNumber seX7_wantNumber cbX7_wantNumber (r_num0 hG hR227q 4) (shp hG rfl) rfl rfl rfl (Nat.le_of_ble_eq_true rfl) (fun r17 M18 hr17 => ?_)
    obtain ⟨hR245q, hf246q⟩ := hr17
    refine Go.istore_n (ls' := [some (.ref 49), some (.int (nI k)), some (.int (nI set)), some (.int r17), o4]) dX7_wantEntry_158 (Nat.le_of_ble_eq_true rfl) rfl rfl ?_
    refine Go.aload_n dX7_wantEntry_159 rfl ?_
    refine Go.ldc2 dX7_wantEntry_160 klX7_288 ?_
    refine Go.callVV [] dX7_wantEntry_163 lkX7_281 imX7_wantWord seX7_wantWord cbX7_wantWord (r_word0 hG hR245q 10132457) (shp hG rfl) rfl rfl rfl (Nat.le_of_ble_eq_true rfl) (fun M20 hr19 => ?_)
    obtain ⟨hR247q, hf248q⟩ := hr19
    refine Go.aload_n dX7_wantEntry_166 rfl ?_
    refine Go.iconst (v := 0) dX7_wantEntry_167 (by decide) ?_
    refine Go.iconst (v := 3) dX7_wantEntry_168 (by decide) ?_
    refine Go.callVI [] dX7_wantEntry_169 lkX7_285 imX7_wantNumber seX7_wantNumber cbX7_wantNumber (r_num0 hG hR247q 3) (shp hG rfl) rfl rfl rfl (Nat.le_of_ble_eq_true rfl) (fun r21 M22 hr21 => ?_)
    obtain ⟨hR249q, hf250q⟩ := hr21
    refine Go.istore (ls' := [some (.ref 49), some (.int (nI k)), some (.int (nI set)), some (.int r17), some (.int r21)]) dX7_wantEntry_172 (Nat.le_of_ble_eq_true rfl) rfl rfl ?_
    refine Go.aload_n dX7_wantEntry_174 rfl ?_
    refine Go.getI dX7_wantEntry_175 flX7_272 (shp hG rfl) rfl ?_
    refine Go.eqI (y := 0) (hR249q.2.2.2) ?_
    refine Go.if_eq 201 dX7_wantEntry_178 rfl (fun _ => ?_) (fun h178 => absurd (by decide) h178)
    refine Go.vret dX7_wantEntry_201 rfl ?_
    unfold pWay
    rw [if_neg (by rw [hw229q]; decide)]
    exact ⟨rfl, hR249q, fun q => (by cases q), ((((hf228q).trans (hf246q)).trans (hf248q)).trans (hf250q)).fi⟩
set_option maxRecDepth 20000 in
theorem j_way0F {G : Gt} {d : Nat} {N : Mm} (hG : gS G = SHAPE) {L : Nat} {b : Nat → Int32} {p : Nat} {u : Bu} (hR : Rs N L b false p) {k set : Nat} (hset : set < 256) {o3 o4 : Option Value} : Go G (d + 4) mX7_wantEntry 145 [some (.ref 49), some (.int (nI k)), some (.int (nI set)), o3, o4] [] N (fun v M' => v = none ∧ Im N M' L b ((false, p, u))) := by
  refine Go.aload_n dX7_wantEntry_145 rfl ?_
  refine Go.ldc2 dX7_wantEntry_146 klX7_279 ?_
  refine Go.callVV [] dX7_wantEntry_149 lkX7_281 imX7_wantWord seX7_wantWord cbX7_wantWord (r_word0 hG hR 16819) (shp hG rfl) rfl rfl rfl (Nat.le_of_ble_eq_true rfl) (fun M2 hr1 => ?_)
  obtain ⟨hR251q, hf252q⟩ := hr1
  refine Go.aload_n dX7_wantEntry_152 rfl ?_
  refine Go.iconst (v := 0) dX7_wantEntry_153 (by decide) ?_
  refine Go.iconst (v := 4) dX7_wantEntry_154 (by decide) ?_
  refine Go.callVI [] dX7_wantEntry_155 lkX7_285 imX7_wantNumber seX7_wantNumber cbX7_wantNumber (r_num0 hG hR251q 4) (shp hG rfl) rfl rfl rfl (Nat.le_of_ble_eq_true rfl) (fun r3 M4 hr3 => ?_)
  obtain ⟨hR253q, hf254q⟩ := hr3
  refine Go.istore_n (ls' := [some (.ref 49), some (.int (nI k)), some (.int (nI set)), some (.int r3), o4]) dX7_wantEntry_158 (Nat.le_of_ble_eq_true rfl) rfl rfl ?_
  refine Go.aload_n dX7_wantEntry_159 rfl ?_
  refine Go.ldc2 dX7_wantEntry_160 klX7_288 ?_
  refine Go.callVV [] dX7_wantEntry_163 lkX7_281 imX7_wantWord seX7_wantWord cbX7_wantWord (r_word0 hG hR253q 10132457) (shp hG rfl) rfl rfl rfl (Nat.le_of_ble_eq_true rfl) (fun M6 hr5 => ?_)
  obtain ⟨hR255q, hf256q⟩ := hr5
  refine Go.aload_n dX7_wantEntry_166 rfl ?_
  refine Go.iconst (v := 0) dX7_wantEntry_167 (by decide) ?_
  refine Go.iconst (v := 3) dX7_wantEntry_168 (by decide) ?_
  refine Go.callVI [] dX7_wantEntry_169 lkX7_285 imX7_wantNumber seX7_wantNumber cbX7_wantNumber (r_num0 hG hR255q 3) (shp hG rfl) rfl rfl rfl (Nat.le_of_ble_eq_true rfl) (fun r7 M8 hr7 => ?_)
  obtain ⟨hR257q, hf258q⟩ := hr7
  refine Go.istore (ls' := [some (.ref 49), some (.int (nI k)), some (.int (nI set)), some (.int r3), some (.int r7)]) dX7_wantEntry_172 (Nat.le_of_ble_eq_true rfl) rfl rfl ?_
  refine Go.aload_n dX7_wantEntry_174 rfl ?_
  refine Go.getI dX7_wantEntry_175 flX7_272 (shp hG rfl) rfl ?_
  refine Go.eqI (y := 0) (hR257q.2.2.2) ?_
  refine Go.if_eq 201 dX7_wantEntry_178 rfl (fun _ => ?_) (fun h178 => absurd (by decide) h178)
  refine Go.vret dX7_wantEntry_201 rfl ?_
  exact ⟨rfl, hR257q, fun q => (by cases q), ((((hf252q).trans (hf254q)).trans (hf256q)).trans (hf258q)).fi⟩
set_option maxRecDepth 20000 in
theorem l_wth {G : Gt} {d : Nat} {M0 : Mm} (hG : gS G = SHAPE) {L : Nat} {b : Nat → Int32} {k : Nat} {T : Nat × Nat} {o3 o4 : Option Value} {post : Option Value → Mm → Prop} (hout1 : ∀ (N : Mm) (set qq : Nat), Rs N L b true qq → Fm M0 N → set < 256 → set ≠ 0 → T = (set, qq) → Go G (d + 4) mX7_wantEntry 145 [some (.ref 49), some (.int (nI k)), some (.int (nI set)), o3, o4] [] N post) (hout0 : ∀ (N : Mm) (set qq : Nat), Rs N L b false qq → Fm M0 N → set < 256 → T.2 = qq → (T.1 = 0 ∨ isWP L b qq 6 = false) → Go G (d + 4) mX7_wantEntry 145 [some (.ref 49), some (.int (nI k)), some (.int (nI set)), o3, o4] [] N post) : ∀ (n i : Nat) (N : Mm) (set qq : Nat), i + n = 3 → Rs N L b true qq → Fm M0 N → set < 256 → pop8 set = i → (i = 0 → tT L b qq = 2) → T = thC L b n set qq → Go G (d + 4) mX7_wantEntry 55 [some (.ref 49), some (.int (nI k)), some (.int (nI set)), o3, o4] [] N post := by
  intro n
  induction n with
  | zero =>
    intro i N set qq hin hR hSm hset hpop hfirst hT
    have hs3 := srt_le (tT L b qq)
    have hp8 := q7 set hset
    refine Go.aload_n dX7_wantEntry_55 rfl ?_
    refine Go.getI dX7_wantEntry_56 flX7_272 (shp hG rfl) rfl ?_
    refine Go.eqI (y := 1) (hR.2.2.2) ?_
    refine Go.if_eq 145 dX7_wantEntry_59 rfl (fun h59 => absurd h59 (by decide)) (fun _ => ?_)
    refine Go.aload_n dX7_wantEntry_62 rfl ?_
    refine Go.getI dX7_wantEntry_63 flX7_240 (shp hG rfl) rfl ?_
    refine Go.eqI (y := nI (srt (tT L b qq))) (hR.2.1.1) ?_
    refine Go.iconst (v := 2) dX7_wantEntry_66 (by decide) ?_
    refine Go.icmp_ne 145 dX7_wantEntry_67 rfl (fun h67 => ?_) (fun h67 => ?_)
    · have n67 : ¬ (srt (tT L b qq)) = 2 := fun q => h67 ((nI_inj (a := (srt (tT L b qq))) (b := 2) (by omega) (by omega)).mpr q)
      exact hout1 N set qq hR hSm hset (fun z => by rw [z, pop8_z] at hpop; omega) (by rw [hT]; rfl)
    · have n67 : (srt (tT L b qq)) = 2 := (nI_inj (a := (srt (tT L b qq))) (b := 2) (by omega) (by omega)).mp h67
      have hv4 := tV_le (b := b) hR.2.2.1 (srt_2.mp n67)
      refine Go.aload_n dX7_wantEntry_70 rfl ?_
      refine Go.aload_n dX7_wantEntry_71 rfl ?_
      refine Go.getI dX7_wantEntry_72 flX7_247 (shp hG rfl) rfl ?_
      refine Go.eqI (y := nI (tV L b qq)) (hR.2.1.2.2.2.1 (srt_2.mp n67)) ?_
      refine Go.callSI [.ref 49] dX7_wantEntry_75 lkX7_97 stX7_isThing cbX7_isThing (m_isThing (nI (tV L b qq))) rfl rfl (Nat.le_of_ble_eq_true rfl) (fun r1 M2 hr1 => ?_)
      obtain ⟨er1, emr1⟩ := hr1
      rw [emr1]
      clear emr1 M2
      subst er1
      refine Go.eqI (y := bi (decide (tV L b qq ≤ 7))) (by rw [show (7 : Int32) = nI 7 from rfl, inI_dec (by omega) (by decide)]) ?_
      refine Go.if_eq 118 dX7_wantEntry_78 rfl (fun h78 => ?_) (fun h78 => ?_)
      · refine Go.iconst (v := 0) dX7_wantEntry_118 (by decide) ?_
        refine Go.putI dX7_wantEntry_119 fpX7_272 (shp hG rfl) rfl (by decide) (by decide) ?_
        refine Go.nmM (fun N3 eN3 => ?_)
        have hR259q : Rs N3 L b false qq := by rw [eN3]; exact hR.put false
        have hf260q : Fm N N3 := by rw [eN3]; exact Fm.good _ _
        refine Go.aload_n dX7_wantEntry_122 rfl ?_
        refine Go.getI dX7_wantEntry_123 flX7_272 (shp hG rfl) rfl ?_
        refine Go.eqI (y := 0) (hR259q.2.2.2) ?_
        refine Go.if_eq 55 dX7_wantEntry_126 rfl (fun _ => ?_) (fun h126 => absurd (by decide) h126)
        refine Go.aload_n dX7_wantEntry_55 rfl ?_
        refine Go.getI dX7_wantEntry_56 flX7_272 (shp hG rfl) rfl ?_
        refine Go.eqI (y := 0) (hR259q.2.2.2) ?_
        refine Go.if_eq 145 dX7_wantEntry_59 rfl (fun _ => ?_) (fun h59 => absurd (by decide) h59)
        exact hout0 N3 set qq hR259q (hSm.trans (hf260q)) hset (by rw [hT]; rfl) (Or.inr (by cases hz : isWP L b qq 6 with | false => rfl | true => have h9 := isWP_t hz; have h8 := srt_2.mp n67; omega))
      · refine Go.iload_n dX7_wantEntry_81 rfl ?_
        refine Go.callSI [.ref 49] dX7_wantEntry_82 lkX7_81 stX7_ones cbX7_ones (m_ones (s := set) (by omega)) rfl rfl (Nat.le_of_ble_eq_true rfl) (fun r4 M5 hr4 => ?_)
        obtain ⟨er4, emr4⟩ := hr4
        rw [emr4]
        clear emr4 M5
        subst er4
        refine Go.iconst (v := 3) dX7_wantEntry_85 (by decide) ?_
        refine Go.icmp_ge 118 dX7_wantEntry_86 rfl (fun h86 => ?_) (fun h86 => ?_)
        · have n86 : 3 ≤ (pop8 set) := (nI_leI (a := 3) (b := (pop8 set)) (by omega) (by omega)).mp h86
          refine Go.iconst (v := 0) dX7_wantEntry_118 (by decide) ?_
          refine Go.putI dX7_wantEntry_119 fpX7_272 (shp hG rfl) rfl (by decide) (by decide) ?_
          refine Go.nmM (fun N6 eN6 => ?_)
          have hR261q : Rs N6 L b false qq := by rw [eN6]; exact hR.put false
          have hf262q : Fm N N6 := by rw [eN6]; exact Fm.good _ _
          refine Go.aload_n dX7_wantEntry_122 rfl ?_
          refine Go.getI dX7_wantEntry_123 flX7_272 (shp hG rfl) rfl ?_
          refine Go.eqI (y := 0) (hR261q.2.2.2) ?_
          refine Go.if_eq 55 dX7_wantEntry_126 rfl (fun _ => ?_) (fun h126 => absurd (by decide) h126)
          refine Go.aload_n dX7_wantEntry_55 rfl ?_
          refine Go.getI dX7_wantEntry_56 flX7_272 (shp hG rfl) rfl ?_
          refine Go.eqI (y := 0) (hR261q.2.2.2) ?_
          refine Go.if_eq 145 dX7_wantEntry_59 rfl (fun _ => ?_) (fun h59 => absurd (by decide) h59)
          exact hout0 N6 set qq hR261q (hSm.trans (hf262q)) hset (by rw [hT]; rfl) (Or.inr (by cases hz : isWP L b qq 6 with | false => rfl | true => have h9 := isWP_t hz; have h8 := srt_2.mp n67; omega))
        · have n86 : ¬ 3 ≤ (pop8 set) := fun q => h86 ((nI_leI (a := 3) (b := (pop8 set)) (by omega) (by omega)).mpr q)
          refine Go.iload_n dX7_wantEntry_89 rfl ?_
          refine Go.aload_n dX7_wantEntry_90 rfl ?_
          refine Go.getI dX7_wantEntry_91 flX7_247 (shp hG rfl) rfl ?_
          refine Go.eqI (y := nI (tV L b qq)) (hR.2.1.2.2.2.1 (srt_2.mp n67)) ?_
          refine Go.callSI [.int (nI set), .ref 49] dX7_wantEntry_94 lkX7_97 stX7_isThing cbX7_isThing (m_isThing (nI (tV L b qq))) rfl rfl (Nat.le_of_ble_eq_true rfl) (fun r7 M8 hr7 => ?_)
          obtain ⟨er7, emr7⟩ := hr7
          rw [emr7]
          clear emr7 M8
          subst er7
          refine Go.eqI (y := bi (decide (tV L b qq ≤ 7))) (by rw [show (7 : Int32) = nI 7 from rfl, inI_dec (by omega) (by decide)]) ?_
          refine Go.if_eq 107 dX7_wantEntry_97 rfl (fun h97 => absurd h97 (h78)) (fun _ => ?_)
          have hv7 := of_decide_eq_true (bi_n0.mp h78)
          refine Go.aload_n dX7_wantEntry_100 rfl ?_
          refine Go.getI dX7_wantEntry_101 flX7_247 (shp hG rfl) rfl ?_
          refine Go.eqI (y := nI (tV L b qq)) (hR.2.1.2.2.2.1 (srt_2.mp n67)) ?_
          refine Go.goto 108 dX7_wantEntry_104 rfl ?_
          refine Go.callSI [.ref 49] dX7_wantEntry_108 lkX7_120 stX7_has cbX7_has (m_has (nI set) (nI (tV L b qq))) rfl rfl (Nat.le_of_ble_eq_true rfl) (fun r9 M10 hr9 => ?_)
          obtain ⟨er9, emr9⟩ := hr9
          rw [emr9]
          clear emr9 M10
          subst er9
          refine Go.eqI (y := bi (set.testBit (tV L b qq))) (by rw [hasI_nI (by omega) (by omega)]) ?_
          refine Go.if_ne 118 dX7_wantEntry_111 rfl (fun h111 => ?_) (fun h111 => ?_)
          · refine Go.iconst (v := 0) dX7_wantEntry_118 (by decide) ?_
            refine Go.putI dX7_wantEntry_119 fpX7_272 (shp hG rfl) rfl (by decide) (by decide) ?_
            refine Go.nmM (fun N11 eN11 => ?_)
            have hR263q : Rs N11 L b false qq := by rw [eN11]; exact hR.put false
            have hf264q : Fm N N11 := by rw [eN11]; exact Fm.good _ _
            refine Go.aload_n dX7_wantEntry_122 rfl ?_
            refine Go.getI dX7_wantEntry_123 flX7_272 (shp hG rfl) rfl ?_
            refine Go.eqI (y := 0) (hR263q.2.2.2) ?_
            refine Go.if_eq 55 dX7_wantEntry_126 rfl (fun _ => ?_) (fun h126 => absurd (by decide) h126)
            refine Go.aload_n dX7_wantEntry_55 rfl ?_
            refine Go.getI dX7_wantEntry_56 flX7_272 (shp hG rfl) rfl ?_
            refine Go.eqI (y := 0) (hR263q.2.2.2) ?_
            refine Go.if_eq 145 dX7_wantEntry_59 rfl (fun _ => ?_) (fun h59 => absurd (by decide) h59)
            exact hout0 N11 set qq hR263q (hSm.trans (hf264q)) hset (by rw [hT]; rfl) (Or.inr (by cases hz : isWP L b qq 6 with | false => rfl | true => have h9 := isWP_t hz; have h8 := srt_2.mp n67; omega))
          · refine Go.iconst (v := 1) dX7_wantEntry_114 (by decide) ?_
            refine Go.goto 119 dX7_wantEntry_115 rfl ?_
            refine Go.putI dX7_wantEntry_119 fpX7_272 (shp hG rfl) rfl (by decide) (by decide) ?_
            refine Go.nmM (fun N12 eN12 => ?_)
            have hR265q : Rs N12 L b true qq := by rw [eN12]; exact hR.put true
            have hf266q : Fm N N12 := by rw [eN12]; exact Fm.good _ _
            refine Go.aload_n dX7_wantEntry_122 rfl ?_
            refine Go.getI dX7_wantEntry_123 flX7_272 (shp hG rfl) rfl ?_
            refine Go.eqI (y := 1) (hR265q.2.2.2) ?_
            refine Go.if_eq 55 dX7_wantEntry_126 rfl (fun h126 => absurd h126 (by decide)) (fun _ => ?_)
            refine Go.iload_n dX7_wantEntry_129 rfl ?_
            refine Go.iconst (v := 1) dX7_wantEntry_130 (by decide) ?_
            refine Go.aload_n dX7_wantEntry_131 rfl ?_
            refine Go.getI dX7_wantEntry_132 flX7_247 (shp hG rfl) rfl ?_
            refine Go.eqI (y := nI (tV L b qq)) (hR265q.2.1.2.2.2.1 (srt_2.mp n67)) ?_
            refine Go.ishl dX7_wantEntry_135 ?_
            refine Go.eqI (y := nI (2 ^ tV L b qq)) (shl1 _ (by omega)) ?_
            refine Go.ior dX7_wantEntry_136 ?_
            refine Go.eqI (y := nI (set ||| 2 ^ tV L b qq)) (fa_or _ _) ?_
            refine Go.istore_n (ls' := [some (.ref 49), some (.int (nI k)), some (.int (nI (set ||| 2 ^ tV L b qq))), o3, o4]) dX7_wantEntry_137 (Nat.le_of_ble_eq_true rfl) rfl rfl ?_
            refine Go.aload_n dX7_wantEntry_138 rfl ?_
            refine Go.callVV [] dX7_wantEntry_139 lkX7_276 imX7_advance seX7_advance cbX7_advance (r_adv hG hR265q) (shp hG rfl) rfl rfl rfl (Nat.le_of_ble_eq_true rfl) (fun M14 hr13 => ?_)
            obtain ⟨hR267q, hf268q⟩ := hr13
            refine Go.goto 55 dX7_wantEntry_142 rfl ?_
            exfalso
            omega
  | succ n ih =>
    intro i N set qq hin hR hSm hset hpop hfirst hT
    have hi : i < 3 := by omega
    have hs3 := srt_le (tT L b qq)
    have hp8 := q7 set hset
    refine Go.aload_n dX7_wantEntry_55 rfl ?_
    refine Go.getI dX7_wantEntry_56 flX7_272 (shp hG rfl) rfl ?_
    refine Go.eqI (y := 1) (hR.2.2.2) ?_
    refine Go.if_eq 145 dX7_wantEntry_59 rfl (fun h59 => absurd h59 (by decide)) (fun _ => ?_)
    refine Go.aload_n dX7_wantEntry_62 rfl ?_
    refine Go.getI dX7_wantEntry_63 flX7_240 (shp hG rfl) rfl ?_
    refine Go.eqI (y := nI (srt (tT L b qq))) (hR.2.1.1) ?_
    refine Go.iconst (v := 2) dX7_wantEntry_66 (by decide) ?_
    refine Go.icmp_ne 145 dX7_wantEntry_67 rfl (fun h67 => ?_) (fun h67 => ?_)
    · have n67 : ¬ (srt (tT L b qq)) = 2 := fun q => h67 ((nI_inj (a := (srt (tT L b qq))) (b := 2) (by omega) (by omega)).mpr q)
      exact hout1 N set qq hR hSm hset (fun z => by rw [z, pop8_z] at hpop; have h9 := hfirst (by omega); exact n67 (srt_2.mpr h9)) (by rw [hT, thC, if_pos ⟨fun z => n67 (srt_2.mpr (hfirst (by omega))), fun z => n67 (srt_2.mpr z)⟩])
    · have n67 : (srt (tT L b qq)) = 2 := (nI_inj (a := (srt (tT L b qq))) (b := 2) (by omega) (by omega)).mp h67
      have hv4 := tV_le (b := b) hR.2.2.1 (srt_2.mp n67)
      refine Go.aload_n dX7_wantEntry_70 rfl ?_
      refine Go.aload_n dX7_wantEntry_71 rfl ?_
      refine Go.getI dX7_wantEntry_72 flX7_247 (shp hG rfl) rfl ?_
      refine Go.eqI (y := nI (tV L b qq)) (hR.2.1.2.2.2.1 (srt_2.mp n67)) ?_
      refine Go.callSI [.ref 49] dX7_wantEntry_75 lkX7_97 stX7_isThing cbX7_isThing (m_isThing (nI (tV L b qq))) rfl rfl (Nat.le_of_ble_eq_true rfl) (fun r1 M2 hr1 => ?_)
      obtain ⟨er1, emr1⟩ := hr1
      rw [emr1]
      clear emr1 M2
      subst er1
      refine Go.eqI (y := bi (decide (tV L b qq ≤ 7))) (by rw [show (7 : Int32) = nI 7 from rfl, inI_dec (by omega) (by decide)]) ?_
      refine Go.if_eq 118 dX7_wantEntry_78 rfl (fun h78 => ?_) (fun h78 => ?_)
      · refine Go.iconst (v := 0) dX7_wantEntry_118 (by decide) ?_
        refine Go.putI dX7_wantEntry_119 fpX7_272 (shp hG rfl) rfl (by decide) (by decide) ?_
        refine Go.nmM (fun N3 eN3 => ?_)
        have hR269q : Rs N3 L b false qq := by rw [eN3]; exact hR.put false
        have hf270q : Fm N N3 := by rw [eN3]; exact Fm.good _ _
        refine Go.aload_n dX7_wantEntry_122 rfl ?_
        refine Go.getI dX7_wantEntry_123 flX7_272 (shp hG rfl) rfl ?_
        refine Go.eqI (y := 0) (hR269q.2.2.2) ?_
        refine Go.if_eq 55 dX7_wantEntry_126 rfl (fun _ => ?_) (fun h126 => absurd (by decide) h126)
        have eT : T = (0, qq) := by rw [hT, thC, if_neg (fun z => z.2 (srt_2.mp n67)), if_neg (fun z => by have h9 := of_decide_eq_false (bi_0.mp h78); omega)]
        refine Go.aload_n dX7_wantEntry_55 rfl ?_
        refine Go.getI dX7_wantEntry_56 flX7_272 (shp hG rfl) rfl ?_
        refine Go.eqI (y := 0) (hR269q.2.2.2) ?_
        refine Go.if_eq 145 dX7_wantEntry_59 rfl (fun _ => ?_) (fun h59 => absurd (by decide) h59)
        exact hout0 N3 set qq hR269q (hSm.trans (hf270q)) hset (by rw [eT]) (Or.inl (by rw [eT]))
      · refine Go.iload_n dX7_wantEntry_81 rfl ?_
        refine Go.callSI [.ref 49] dX7_wantEntry_82 lkX7_81 stX7_ones cbX7_ones (m_ones (s := set) (by omega)) rfl rfl (Nat.le_of_ble_eq_true rfl) (fun r4 M5 hr4 => ?_)
        obtain ⟨er4, emr4⟩ := hr4
        rw [emr4]
        clear emr4 M5
        subst er4
        refine Go.iconst (v := 3) dX7_wantEntry_85 (by decide) ?_
        refine Go.icmp_ge 118 dX7_wantEntry_86 rfl (fun h86 => ?_) (fun h86 => ?_)
        · have n86 : 3 ≤ (pop8 set) := (nI_leI (a := 3) (b := (pop8 set)) (by omega) (by omega)).mp h86
          refine Go.iconst (v := 0) dX7_wantEntry_118 (by decide) ?_
          refine Go.putI dX7_wantEntry_119 fpX7_272 (shp hG rfl) rfl (by decide) (by decide) ?_
          refine Go.nmM (fun N6 eN6 => ?_)
          have hR271q : Rs N6 L b false qq := by rw [eN6]; exact hR.put false
          have hf272q : Fm N N6 := by rw [eN6]; exact Fm.good _ _
          refine Go.aload_n dX7_wantEntry_122 rfl ?_
          refine Go.getI dX7_wantEntry_123 flX7_272 (shp hG rfl) rfl ?_
          refine Go.eqI (y := 0) (hR271q.2.2.2) ?_
          refine Go.if_eq 55 dX7_wantEntry_126 rfl (fun _ => ?_) (fun h126 => absurd (by decide) h126)
          exfalso
          omega
        · have n86 : ¬ 3 ≤ (pop8 set) := fun q => h86 ((nI_leI (a := 3) (b := (pop8 set)) (by omega) (by omega)).mpr q)
          refine Go.iload_n dX7_wantEntry_89 rfl ?_
          refine Go.aload_n dX7_wantEntry_90 rfl ?_
          refine Go.getI dX7_wantEntry_91 flX7_247 (shp hG rfl) rfl ?_
          refine Go.eqI (y := nI (tV L b qq)) (hR.2.1.2.2.2.1 (srt_2.mp n67)) ?_
          refine Go.callSI [.int (nI set), .ref 49] dX7_wantEntry_94 lkX7_97 stX7_isThing cbX7_isThing (m_isThing (nI (tV L b qq))) rfl rfl (Nat.le_of_ble_eq_true rfl) (fun r7 M8 hr7 => ?_)
          obtain ⟨er7, emr7⟩ := hr7
          rw [emr7]
          clear emr7 M8
          subst er7
          refine Go.eqI (y := bi (decide (tV L b qq ≤ 7))) (by rw [show (7 : Int32) = nI 7 from rfl, inI_dec (by omega) (by decide)]) ?_
          refine Go.if_eq 107 dX7_wantEntry_97 rfl (fun h97 => absurd h97 (h78)) (fun _ => ?_)
          have hv7 := of_decide_eq_true (bi_n0.mp h78)
          refine Go.aload_n dX7_wantEntry_100 rfl ?_
          refine Go.getI dX7_wantEntry_101 flX7_247 (shp hG rfl) rfl ?_
          refine Go.eqI (y := nI (tV L b qq)) (hR.2.1.2.2.2.1 (srt_2.mp n67)) ?_
          refine Go.goto 108 dX7_wantEntry_104 rfl ?_
          refine Go.callSI [.ref 49] dX7_wantEntry_108 lkX7_120 stX7_has cbX7_has (m_has (nI set) (nI (tV L b qq))) rfl rfl (Nat.le_of_ble_eq_true rfl) (fun r9 M10 hr9 => ?_)
          obtain ⟨er9, emr9⟩ := hr9
          rw [emr9]
          clear emr9 M10
          subst er9
          refine Go.eqI (y := bi (set.testBit (tV L b qq))) (by rw [hasI_nI (by omega) (by omega)]) ?_
          refine Go.if_ne 118 dX7_wantEntry_111 rfl (fun h111 => ?_) (fun h111 => ?_)
          · refine Go.iconst (v := 0) dX7_wantEntry_118 (by decide) ?_
            refine Go.putI dX7_wantEntry_119 fpX7_272 (shp hG rfl) rfl (by decide) (by decide) ?_
            refine Go.nmM (fun N11 eN11 => ?_)
            have hR273q : Rs N11 L b false qq := by rw [eN11]; exact hR.put false
            have hf274q : Fm N N11 := by rw [eN11]; exact Fm.good _ _
            refine Go.aload_n dX7_wantEntry_122 rfl ?_
            refine Go.getI dX7_wantEntry_123 flX7_272 (shp hG rfl) rfl ?_
            refine Go.eqI (y := 0) (hR273q.2.2.2) ?_
            refine Go.if_eq 55 dX7_wantEntry_126 rfl (fun _ => ?_) (fun h126 => absurd (by decide) h126)
            have eT : T = (0, qq) := by rw [hT, thC, if_neg (fun z => z.2 (srt_2.mp n67)), if_neg (fun z => by have h9 := z.2.2; rw [bi_n0.mp h111] at h9; cases h9)]
            refine Go.aload_n dX7_wantEntry_55 rfl ?_
            refine Go.getI dX7_wantEntry_56 flX7_272 (shp hG rfl) rfl ?_
            refine Go.eqI (y := 0) (hR273q.2.2.2) ?_
            refine Go.if_eq 145 dX7_wantEntry_59 rfl (fun _ => ?_) (fun h59 => absurd (by decide) h59)
            exact hout0 N11 set qq hR273q (hSm.trans (hf274q)) hset (by rw [eT]) (Or.inl (by rw [eT]))
          · refine Go.iconst (v := 1) dX7_wantEntry_114 (by decide) ?_
            refine Go.goto 119 dX7_wantEntry_115 rfl ?_
            refine Go.putI dX7_wantEntry_119 fpX7_272 (shp hG rfl) rfl (by decide) (by decide) ?_
            refine Go.nmM (fun N12 eN12 => ?_)
            have hR275q : Rs N12 L b true qq := by rw [eN12]; exact hR.put true
            have hf276q : Fm N N12 := by rw [eN12]; exact Fm.good _ _
            refine Go.aload_n dX7_wantEntry_122 rfl ?_
            refine Go.getI dX7_wantEntry_123 flX7_272 (shp hG rfl) rfl ?_
            refine Go.eqI (y := 1) (hR275q.2.2.2) ?_
            refine Go.if_eq 55 dX7_wantEntry_126 rfl (fun h126 => absurd h126 (by decide)) (fun _ => ?_)
            refine Go.iload_n dX7_wantEntry_129 rfl ?_
            refine Go.iconst (v := 1) dX7_wantEntry_130 (by decide) ?_
            refine Go.aload_n dX7_wantEntry_131 rfl ?_
            refine Go.getI dX7_wantEntry_132 flX7_247 (shp hG rfl) rfl ?_
            refine Go.eqI (y := nI (tV L b qq)) (hR275q.2.1.2.2.2.1 (srt_2.mp n67)) ?_
            refine Go.ishl dX7_wantEntry_135 ?_
            refine Go.eqI (y := nI (2 ^ tV L b qq)) (shl1 _ (by omega)) ?_
            refine Go.ior dX7_wantEntry_136 ?_
            refine Go.eqI (y := nI (set ||| 2 ^ tV L b qq)) (fa_or _ _) ?_
            refine Go.istore_n (ls' := [some (.ref 49), some (.int (nI k)), some (.int (nI (set ||| 2 ^ tV L b qq))), o3, o4]) dX7_wantEntry_137 (Nat.le_of_ble_eq_true rfl) rfl rfl ?_
            refine Go.aload_n dX7_wantEntry_138 rfl ?_
            refine Go.callVV [] dX7_wantEntry_139 lkX7_276 imX7_advance seX7_advance cbX7_advance (r_adv hG hR275q) (shp hG rfl) rfl rfl rfl (Nat.le_of_ble_eq_true rfl) (fun M14 hr13 => ?_)
            obtain ⟨hR277q, hf278q⟩ := hr13
            refine Go.goto 55 dX7_wantEntry_142 rfl ?_
            have hv8 : tV L b qq < 8 := by have h9 := of_decide_eq_true (bi_n0.mp h78); omega
            have h2v : 2 ^ tV L b qq < 256 := show 2 ^ tV L b qq < 2 ^ 8 from Nat.pow_lt_pow_right (by decide) hv8
            have hpa := pop8_add set hset _ hv8 (bi_0.mp h111)
            refine ih (i + 1) M14 (set ||| 2 ^ tV L b qq) (tE L b qq) (by omega) hR277q (hSm.trans ((hf276q).trans (hf278q))) (Nat.or_lt_two_pow (n := 8) hset h2v) (by omega) (fun z => by omega) (by rw [hT, thC, if_neg (fun z => z.2 (srt_2.mp n67)), if_pos ⟨srt_2.mp n67, hv8, bi_0.mp h111⟩])
set_option maxRecDepth 20000 in
theorem r_entry {G : Gt} {d : Nat} {M : Mm} (hG : gS G = SHAPE) {L : Nat} {b : Nat → Int32} {p : Nat} {u : Bu} (hR : Rs M L b true p) (hU : BuM M u) (hu : BuOk u) {k : Nat} (hk6 : k < 6) : ExV G (d + 4) mX7_wantEntry [.ref 49, .int (nI k)] M (fun M' => Im M M' L b (pEntry L b k u p)) := by
  refine Ex.of (by decide) (Nat.le_of_ble_eq_true rfl) ?_
  show Go G (d + 4) mX7_wantEntry 0 [some (.ref 49), some (.int (nI k)), none, none, none] [] M _
  have hu30 := hu.1
  have hs3 := srt_le (tT L b (tE L b p))
  refine Go.aload_n dX7_wantEntry_0 rfl ?_
  refine Go.aload_n dX7_wantEntry_1 rfl ?_
  refine Go.getI dX7_wantEntry_2 flX7_93 (shp hG rfl) rfl ?_
  refine Go.eqI (y := nI (uN u)) (hU.2.2.2.2.1) ?_
  refine Go.bipush (v := 30) dX7_wantEntry_5 (by decide) ?_
  refine Go.icmp_ge 14 dX7_wantEntry_7 rfl (fun h7 => ?_) (fun h7 => ?_)
  · have n7 : 30 ≤ (uN u) := (nI_leI (a := 30) (b := (uN u)) (by omega) (by omega)).mp h7
    refine Go.iconst (v := 0) dX7_wantEntry_14 (by decide) ?_
    refine Go.putI dX7_wantEntry_15 fpX7_272 (shp hG rfl) rfl (by decide) (by decide) ?_
    refine Go.nmM (fun N1 eN1 => ?_)
    have hR279q : Rs N1 L b false p := by rw [eN1]; exact hR.put false
    have hf280q : Fm M N1 := by rw [eN1]; exact Fm.good _ _
    refine Go.aload_n dX7_wantEntry_18 rfl ?_
    refine Go.getI dX7_wantEntry_19 flX7_272 (shp hG rfl) rfl ?_
    refine Go.eqI (y := 0) (hR279q.2.2.2) ?_
    refine Go.if_eq 29 dX7_wantEntry_22 rfl (fun _ => ?_) (fun h22 => absurd (by decide) h22)
    refine Go.iconst (v := 0) dX7_wantEntry_29 (by decide) ?_
    refine Go.istore_n (ls' := [some (.ref 49), some (.int (nI k)), some (.int 0), none, none]) dX7_wantEntry_30 (Nat.le_of_ble_eq_true rfl) rfl rfl ?_
    refine Go.aload_n dX7_wantEntry_31 rfl ?_
    refine Go.aload_n dX7_wantEntry_32 rfl ?_
    refine Go.getI dX7_wantEntry_33 flX7_272 (shp hG rfl) rfl ?_
    refine Go.eqI (y := 0) (hR279q.2.2.2) ?_
    refine Go.if_eq 51 dX7_wantEntry_36 rfl (fun _ => ?_) (fun h36 => absurd (by decide) h36)
    refine Go.iconst (v := 0) dX7_wantEntry_51 (by decide) ?_
    refine Go.putI dX7_wantEntry_52 fpX7_272 (shp hG rfl) rfl (by decide) (by decide) ?_
    refine Go.nmM (fun N2 eN2 => ?_)
    have hR281q : Rs N2 L b false p := by rw [eN2]; exact hR279q.put false
    have hf282q : Fm N1 N2 := by rw [eN2]; exact Fm.good _ _
    have eP : pEntry L b k u p = (false, p, u) := by unfold pEntry; rw [if_pos (by omega)]
    rw [eP]
    refine Go.aload_n dX7_wantEntry_55 rfl ?_
    refine Go.getI dX7_wantEntry_56 flX7_272 (shp hG rfl) rfl ?_
    refine Go.eqI (y := 0) (hR281q.2.2.2) ?_
    refine Go.if_eq 145 dX7_wantEntry_59 rfl (fun _ => ?_) (fun h59 => absurd (by decide) h59)
    refine Go.weak (fun v M9 ⟨a1, a2, a3, a4⟩ => ⟨a1, a2, a3, ((hf280q).trans (hf282q)).fi.trans a4⟩) (j_way0F hG hR281q (u := u) (set := 0) (by decide))
  · have n7 : ¬ 30 ≤ (uN u) := fun q => h7 ((nI_leI (a := 30) (b := (uN u)) (by omega) (by omega)).mpr q)
    refine Go.iconst (v := 1) dX7_wantEntry_10 (by decide) ?_
    refine Go.goto 15 dX7_wantEntry_11 rfl ?_
    refine Go.putI dX7_wantEntry_15 fpX7_272 (shp hG rfl) rfl (by decide) (by decide) ?_
    refine Go.nmM (fun N3 eN3 => ?_)
    have hR283q : Rs N3 L b true p := by rw [eN3]; exact hR.put true
    have hf284q : Fm M N3 := by rw [eN3]; exact Fm.good _ _
    refine Go.aload_n dX7_wantEntry_18 rfl ?_
    refine Go.getI dX7_wantEntry_19 flX7_272 (shp hG rfl) rfl ?_
    refine Go.eqI (y := 1) (hR283q.2.2.2) ?_
    refine Go.if_eq 29 dX7_wantEntry_22 rfl (fun h22 => absurd h22 (by decide)) (fun _ => ?_)
    refine Go.aload_n dX7_wantEntry_25 rfl ?_
    refine Go.callVV [] dX7_wantEntry_26 lkX7_276 imX7_advance seX7_advance cbX7_advance (r_adv hG hR283q) (shp hG rfl) rfl rfl rfl (Nat.le_of_ble_eq_true rfl) (fun M5 hr4 => ?_)
    obtain ⟨hR285q, hf286q⟩ := hr4
    refine Go.iconst (v := 0) dX7_wantEntry_29 (by decide) ?_
    refine Go.istore_n (ls' := [some (.ref 49), some (.int (nI k)), some (.int 0), none, none]) dX7_wantEntry_30 (Nat.le_of_ble_eq_true rfl) rfl rfl ?_
    refine Go.aload_n dX7_wantEntry_31 rfl ?_
    refine Go.aload_n dX7_wantEntry_32 rfl ?_
    refine Go.getI dX7_wantEntry_33 flX7_272 (shp hG rfl) rfl ?_
    refine Go.eqI (y := 1) (hR285q.2.2.2) ?_
    refine Go.if_eq 51 dX7_wantEntry_36 rfl (fun h36 => absurd h36 (by decide)) (fun _ => ?_)
    refine Go.aload_n dX7_wantEntry_39 rfl ?_
    refine Go.getI dX7_wantEntry_40 flX7_240 (shp hG rfl) rfl ?_
    refine Go.eqI (y := nI (srt (tT L b (tE L b p)))) (hR285q.2.1.1) ?_
    refine Go.iconst (v := 2) dX7_wantEntry_43 (by decide) ?_
    refine Go.icmp_ne 51 dX7_wantEntry_44 rfl (fun h44 => ?_) (fun h44 => ?_)
    · have n44 : ¬ (srt (tT L b (tE L b p))) = 2 := fun q => h44 ((nI_inj (a := (srt (tT L b (tE L b p)))) (b := 2) (by omega) (by omega)).mpr q)
      refine Go.iconst (v := 0) dX7_wantEntry_51 (by decide) ?_
      refine Go.putI dX7_wantEntry_52 fpX7_272 (shp hG rfl) rfl (by decide) (by decide) ?_
      refine Go.nmM (fun N6 eN6 => ?_)
      have hR287q : Rs N6 L b false (tE L b p) := by rw [eN6]; exact hR285q.put false
      have hf288q : Fm M5 N6 := by rw [eN6]; exact Fm.good _ _
      have eP : pEntry L b k u p = (false, tE L b p, u) := by
        unfold pEntry
        have eT : thC L b 3 0 (tE L b p) = (0, tE L b p) := by rw [thC, if_neg (fun z => z.1 rfl), if_neg (fun z => n44 (srt_2.mpr z.1))]
        rw [if_neg (by omega), eT, if_pos rfl]
      rw [eP]
      refine Go.aload_n dX7_wantEntry_55 rfl ?_
      refine Go.getI dX7_wantEntry_56 flX7_272 (shp hG rfl) rfl ?_
      refine Go.eqI (y := 0) (hR287q.2.2.2) ?_
      refine Go.if_eq 145 dX7_wantEntry_59 rfl (fun _ => ?_) (fun h59 => absurd (by decide) h59)
      refine Go.weak (fun v M9 ⟨a1, a2, a3, a4⟩ => ⟨a1, a2, a3, (((hf284q).trans (hf286q)).trans (hf288q)).fi.trans a4⟩) (j_way0F hG hR287q (u := u) (set := 0) (by decide))
    · have n44 : (srt (tT L b (tE L b p))) = 2 := (nI_inj (a := (srt (tT L b (tE L b p)))) (b := 2) (by omega) (by omega)).mp h44
      refine Go.iconst (v := 1) dX7_wantEntry_47 (by decide) ?_
      refine Go.goto 52 dX7_wantEntry_48 rfl ?_
      refine Go.putI dX7_wantEntry_52 fpX7_272 (shp hG rfl) rfl (by decide) (by decide) ?_
      refine Go.nmM (fun N7 eN7 => ?_)
      have hR289q : Rs N7 L b true (tE L b p) := by rw [eN7]; exact hR285q.put true
      have hf290q : Fm M5 N7 := by rw [eN7]; exact Fm.good _ _
      have hFm0 := ((hf284q).trans (hf286q)).trans (hf290q)
      refine l_wth (M0 := N7) hG (L := L) (b := b) (T := thC L b 3 0 (tE L b p)) (fun N set q a1 a2 a3 a4 a5 => ?_) (fun N set q a1 a2 a3 a4 a5 => ?_) 3 0 N7 0 (tE L b p) (by omega) hR289q (Fm.refl _) (by decide) pop8_z (fun _ => srt_2.mp n44) rfl
      · have eP : pEntry L b k u p = pWay L b k u set q := by
          unfold pEntry
          rw [if_neg (by omega), a5, if_neg a4]
        rw [eP]
        exact Go.weak (fun v M9 ⟨b1, b2, b3, b4⟩ => ⟨b1, b2, b3, (hFm0.trans a2).fi.trans b4⟩) (j_way1 hG a1 (hU.fm (hFm0.trans a2)) (by omega) a3)
      · have eP : pEntry L b k u p = (false, q, u) := by
          unfold pEntry
          rw [if_neg (by omega)]
          rcases a5 with h0 | h0
          · rw [if_pos h0, a4]
          · by_cases h1 : (thC L b 3 0 (tE L b p)).1 = 0
            · rw [if_pos h1, a4]
            · rw [if_neg h1]
              unfold pWay
              rw [a4, if_neg (by rw [h0]; decide)]
        rw [eP]
        exact Go.weak (fun v M9 ⟨b1, b2, b3, b4⟩ => ⟨b1, b2, b3, (hFm0.trans a2).fi.trans b4⟩) (j_way0F hG a1 (u := u) a3)
