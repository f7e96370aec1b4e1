set_option maxRecDepth 20000 in
theorem l_ma2 {G : Gt} {d : Nat} {M : Mm} (hG : gS G = SHAPE) {L : Nat} {b : Nat → Int32} {s0 t0 : Nat} {x1 v25 : Int32} {post : Option Value → Mm → Prop} (hout : ∀ N, TpM N L b → FmA M N → N.1 49 21 = 1 → N.1 49 22 = nI s0 → N.1 49 23 = nI t0 → N.1 49 25 = v25 → N.2 49 24 = cdW b s0 (t0 - s0) → Go G (d + 2) mX7_advance 207 [some (.ref 49), some (.int x1)] [] N post) : ∀ (n i : Nat) (N : Mm), i + n = L → TpM N L b → FmA M N → s0 ≤ i → N.1 49 21 = 1 → N.1 49 22 = nI s0 → N.1 49 23 = nI i → N.1 49 25 = v25 → N.2 49 24 = cdW b s0 (i - s0) → t0 = runT L b 1 n i → Go G (d + 2) mX7_advance 126 [some (.ref 49), some (.int x1)] [] N post := by
  intro n
  induction n with
  | zero =>
    intro i N hin hN hSm hsi h21 h22 h23 h25 hw hk
    have hL := hN.2.1
    refine Go.aload_n dX7_advance_126 rfl ?_
    refine Go.getI dX7_advance_127 flX7_240 (shp hG rfl) rfl ?_
    refine Go.eqI (y := 1) (h21) ?_
    refine Go.iconst (v := 1) dX7_advance_130 (by decide) ?_
    refine Go.icmp_ne 207 dX7_advance_131 rfl (fun h131 => absurd (by decide) h131) (fun _ => ?_)
    refine Go.aload_n dX7_advance_134 rfl ?_
    refine Go.aload_n dX7_advance_135 rfl ?_
    refine Go.getI dX7_advance_136 flX7_225 (shp hG rfl) rfl ?_
    refine Go.eqI (y := nI i) (h23) ?_
    refine Go.callVI [] dX7_advance_139 lkX7_231 imX7_byteAt seX7_byteAt cbX7_byteAt (m_byteAt hG hN (k := i) (by omega)) (shp hG rfl) rfl rfl rfl (Nat.le_of_ble_eq_true rfl) (fun r1 M2 hr1 => ?_)
    obtain ⟨er1, emr1⟩ := hr1
    rw [emr1]
    clear emr1 M2
    subst er1
    refine Go.callSI [] dX7_advance_142 lkX7_234 stX7_isLetter cbX7_isLetter (m_isLetter (byt L b i)) rfl rfl (Nat.le_of_ble_eq_true rfl) (fun r3 M4 hr3 => ?_)
    obtain ⟨er3, emr3⟩ := hr3
    rw [emr3]
    clear emr3 M4
    subst er3
    refine Go.eqI (y := bi (decide (typ L b i = 1))) (by rw [byt_let]) ?_
    refine Go.if_eq 207 dX7_advance_145 rfl (fun _ => ?_) (fun h145 => absurd (by rw [decide_eq_false (fun z => by rw [typ_0.mpr (by omega)] at z; cases z)]; rfl) h145)
    exact hout N hN hSm h21 h22 (by rw [h23, hk]; rfl) h25 (by rw [hw, hk]; rfl)
  | succ n ih =>
    intro i N hin hN hSm hsi h21 h22 h23 h25 hw hk
    have hi : i < L := by omega
    have hL := hN.2.1
    refine Go.aload_n dX7_advance_126 rfl ?_
    refine Go.getI dX7_advance_127 flX7_240 (shp hG rfl) rfl ?_
    refine Go.eqI (y := 1) (h21) ?_
    refine Go.iconst (v := 1) dX7_advance_130 (by decide) ?_
    refine Go.icmp_ne 207 dX7_advance_131 rfl (fun h131 => absurd (by decide) h131) (fun _ => ?_)
    refine Go.aload_n dX7_advance_134 rfl ?_
    refine Go.aload_n dX7_advance_135 rfl ?_
    refine Go.getI dX7_advance_136 flX7_225 (shp hG rfl) rfl ?_
    refine Go.eqI (y := nI i) (h23) ?_
    refine Go.callVI [] dX7_advance_139 lkX7_231 imX7_byteAt seX7_byteAt cbX7_byteAt (m_byteAt hG hN (k := i) (by omega)) (shp hG rfl) rfl rfl rfl (Nat.le_of_ble_eq_true rfl) (fun r1 M2 hr1 => ?_)
    obtain ⟨er1, emr1⟩ := hr1
    rw [emr1]
    clear emr1 M2
    subst er1
    refine Go.callSI [] dX7_advance_142 lkX7_234 stX7_isLetter cbX7_isLetter (m_isLetter (byt L b i)) rfl rfl (Nat.le_of_ble_eq_true rfl) (fun r3 M4 hr3 => ?_)
    obtain ⟨er3, emr3⟩ := hr3
    rw [emr3]
    clear emr3 M4
    subst er3
    refine Go.eqI (y := bi (decide (typ L b i = 1))) (by rw [byt_let]) ?_
    refine Go.if_eq 207 dX7_advance_145 rfl (fun h145 => ?_) (fun h145 => ?_)
    · have e9 : t0 = i := by rw [hk, runT, if_neg (of_decide_eq_false (bi_0.mp h145))]
      exact hout N hN hSm h21 h22 (by rw [h23, e9]) h25 (by rw [hw, e9])
    · refine Go.aload_n dX7_advance_148 rfl ?_
      refine Go.aload_n dX7_advance_149 rfl ?_
      refine Go.getI dX7_advance_150 flX7_225 (shp hG rfl) rfl ?_
      refine Go.eqI (y := nI i) (h23) ?_
      refine Go.aload_n dX7_advance_153 rfl ?_
      refine Go.getI dX7_advance_154 flX7_228 (shp hG rfl) rfl ?_
      refine Go.eqI (y := nI s0) (h22) ?_
      refine Go.isub dX7_advance_157 ?_
      refine Go.eqI (y := nI (i - s0)) (pk_sub (by omega)) ?_
      refine Go.bipush (v := 12) dX7_advance_158 (by decide) ?_
      refine Go.icmp_ge 188 dX7_advance_160 rfl (fun h160 => ?_) (fun h160 => ?_)
      · have n160 : 12 ≤ (i - s0) := (nI_leI (a := 12) (b := (i - s0)) (by omega) (by omega)).mp h160
        refine Go.ldc2 dX7_advance_188 klX7_254 ?_
        refine Go.putL dX7_advance_191 fpX7_243 (shp hG rfl) rfl rfl rfl ?_
        refine Go.nmM (fun N5 eN5 => ?_)
        refine Go.aload_n dX7_advance_194 rfl ?_
        refine Go.dup dX7_advance_195 rfl ?_
        refine Go.getI dX7_advance_196 flX7_225 (shp hG rfl) rfl ?_
        refine Go.eqI (y := nI i) (by rw [eN5, rl_i]; exact h23) ?_
        refine Go.iconst (v := 1) dX7_advance_199 (by decide) ?_
        refine Go.iadd dX7_advance_200 ?_
        refine Go.eqI (y := nI (i + 1)) (nI_add _ _) ?_
        refine Go.putI dX7_advance_201 fpX7_225 (shp hG rfl) rfl rfl rfl ?_
        refine Go.nmM (fun N6 eN6 => ?_)
        refine Go.goto 126 dX7_advance_204 rfl ?_
        have hbi : byt L b i = b i := by unfold byt; rw [if_pos (by omega)]
        have hcd : N5.2 49 24 = cdW b s0 (i + 1 - s0) := by
          rw [eN5, rl_eq, show i + 1 - s0 = (i - s0) + 1 by omega, cdW, if_neg (by omega)]
          simp only [vp_updL, if_true]
          try rw [hw, hbi, show s0 + (i - s0) = i by omega]
        have hup : FmA N N6 := by rw [eN6, eN5]; exact (fma_upl N _).trans (FmA.up _ _ (by decide))
        exact ih (i + 1) N6 (by omega) (hN.keep hup) (hSm.trans hup) (by omega) (by rw [eN6, rd_eq]; simp [upd]; rw [eN5, rl_i]; exact h21) (by rw [eN6, rd_eq]; simp [upd]; rw [eN5, rl_i]; exact h22) (by rw [eN6, rd_eq]; simp [upd]) (by rw [eN6, rd_eq]; simp [upd]; rw [eN5, rl_i]; exact h25) (by rw [eN6, rd_l]; exact hcd) (by rw [hk, runT, if_pos (of_decide_eq_true (bi_n0.mp h145))])
      · have n160 : ¬ 12 ≤ (i - s0) := fun q => h160 ((nI_leI (a := 12) (b := (i - s0)) (by omega) (by omega)).mpr q)
        refine Go.ldc2 dX7_advance_163 klX7_250 ?_
        refine Go.aload_n dX7_advance_166 rfl ?_
        refine Go.getL dX7_advance_167 flX7_243 (shp hG rfl) rfl ?_
        refine Go.lmul dX7_advance_170 ?_
        refine Go.aload_n dX7_advance_171 rfl ?_
        refine Go.aload_n dX7_advance_172 rfl ?_
        refine Go.getI dX7_advance_173 flX7_225 (shp hG rfl) rfl ?_
        refine Go.eqI (y := nI i) (h23) ?_
        refine Go.callVI [.long (27 * (N.2 49 24)), .ref 49] dX7_advance_176 lkX7_231 imX7_byteAt seX7_byteAt cbX7_byteAt (m_byteAt hG hN (k := i) (by omega)) (shp hG rfl) rfl rfl rfl (Nat.le_of_ble_eq_true rfl) (fun r7 M8 hr7 => ?_)
        obtain ⟨er7, emr7⟩ := hr7
        rw [emr7]
        clear emr7 M8
        subst er7
        refine Go.i2l dX7_advance_179 ?_
        refine Go.ladd dX7_advance_180 ?_
        refine Go.ldc2 dX7_advance_181 klX7_252 ?_
        refine Go.lsub dX7_advance_184 ?_
        refine Go.goto 191 dX7_advance_185 rfl ?_
        refine Go.putL dX7_advance_191 fpX7_243 (shp hG rfl) rfl rfl rfl ?_
        refine Go.nmM (fun N9 eN9 => ?_)
        refine Go.aload_n dX7_advance_194 rfl ?_
        refine Go.dup dX7_advance_195 rfl ?_
        refine Go.getI dX7_advance_196 flX7_225 (shp hG rfl) rfl ?_
        refine Go.eqI (y := nI i) (by rw [eN9, rl_i]; exact h23) ?_
        refine Go.iconst (v := 1) dX7_advance_199 (by decide) ?_
        refine Go.iadd dX7_advance_200 ?_
        refine Go.eqI (y := nI (i + 1)) (nI_add _ _) ?_
        refine Go.putI dX7_advance_201 fpX7_225 (shp hG rfl) rfl rfl rfl ?_
        refine Go.nmM (fun N10 eN10 => ?_)
        refine Go.goto 126 dX7_advance_204 rfl ?_
        have hbi : byt L b i = b i := by unfold byt; rw [if_pos (by omega)]
        have hcd : N9.2 49 24 = cdW b s0 (i + 1 - s0) := by
          rw [eN9, rl_eq, show i + 1 - s0 = (i - s0) + 1 by omega, cdW, if_pos (by omega)]
          simp only [vp_updL, if_true]
          try rw [hw, hbi, show s0 + (i - s0) = i by omega]
        have hup : FmA N N10 := by rw [eN10, eN9]; exact (fma_upl N _).trans (FmA.up _ _ (by decide))
        exact ih (i + 1) N10 (by omega) (hN.keep hup) (hSm.trans hup) (by omega) (by rw [eN10, rd_eq]; simp [upd]; rw [eN9, rl_i]; exact h21) (by rw [eN10, rd_eq]; simp [upd]; rw [eN9, rl_i]; exact h22) (by rw [eN10, rd_eq]; simp [upd]) (by rw [eN10, rd_eq]; simp [upd]; rw [eN9, rl_i]; exact h25) (by rw [eN10, rd_l]; exact hcd) (by rw [hk, runT, if_pos (of_decide_eq_true (bi_n0.mp h145))])
set_option maxRecDepth 20000 in
theorem l_ma3 {G : Gt} {d : Nat} {M : Mm} (hG : gS G = SHAPE) {L : Nat} {b : Nat → Int32} {s0 t0 : Nat} {x1 : Int32} {post : Option Value → Mm → Prop} (hout : ∀ N, TpM N L b → FmA M N → N.1 49 21 = 2 → N.1 49 22 = nI s0 → N.1 49 23 = nI t0 → N.1 49 25 = nI (vF b s0 (t0 - s0)) → Go G (d + 2) mX7_advance 281 [some (.ref 49), some (.int x1)] [] N post) : ∀ (n i : Nat) (N : Mm), i + n = L → TpM N L b → FmA M N → s0 ≤ i → (∀ j, s0 ≤ j → j < i → typ L b j = 2) → N.1 49 21 = 2 → N.1 49 22 = nI s0 → N.1 49 23 = nI i → N.1 49 25 = nI (vF b s0 (i - s0)) → t0 = runT L b 2 n i → Go G (d + 2) mX7_advance 207 [some (.ref 49), some (.int x1)] [] N post := by
  intro n
  induction n with
  | zero =>
    intro i N hin hN hSm hsi hdg h21 h22 h23 h25 hk
    have hL := hN.2.1
    refine Go.aload_n dX7_advance_207 rfl ?_
    refine Go.getI dX7_advance_208 flX7_240 (shp hG rfl) rfl ?_
    refine Go.eqI (y := 2) (h21) ?_
    refine Go.iconst (v := 2) dX7_advance_211 (by decide) ?_
    refine Go.icmp_ne 281 dX7_advance_212 rfl (fun h212 => absurd (by decide) h212) (fun _ => ?_)
    refine Go.aload_n dX7_advance_215 rfl ?_
    refine Go.aload_n dX7_advance_216 rfl ?_
    refine Go.getI dX7_advance_217 flX7_225 (shp hG rfl) rfl ?_
    refine Go.eqI (y := nI i) (h23) ?_
    refine Go.callVI [] dX7_advance_220 lkX7_231 imX7_byteAt seX7_byteAt cbX7_byteAt (m_byteAt hG hN (k := i) (by omega)) (shp hG rfl) rfl rfl rfl (Nat.le_of_ble_eq_true rfl) (fun r1 M2 hr1 => ?_)
    obtain ⟨er1, emr1⟩ := hr1
    rw [emr1]
    clear emr1 M2
    subst er1
    refine Go.callSI [] dX7_advance_223 lkX7_237 stX7_isDigit cbX7_isDigit (m_isDigit (byt L b i)) rfl rfl (Nat.le_of_ble_eq_true rfl) (fun r3 M4 hr3 => ?_)
    obtain ⟨er3, emr3⟩ := hr3
    rw [emr3]
    clear emr3 M4
    subst er3
    refine Go.eqI (y := bi (decide (typ L b i = 2))) (by rw [byt_dig]) ?_
    refine Go.if_eq 281 dX7_advance_226 rfl (fun _ => ?_) (fun h226 => absurd (by rw [decide_eq_false (fun z => by rw [typ_0.mpr (by omega)] at z; cases z)]; rfl) h226)
    exact hout N hN hSm h21 h22 (by rw [h23, hk]; rfl) (by rw [h25, hk]; rfl)
  | succ n ih =>
    intro i N hin hN hSm hsi hdg h21 h22 h23 h25 hk
    have hi : i < L := by omega
    have hL := hN.2.1
    refine Go.aload_n dX7_advance_207 rfl ?_
    refine Go.getI dX7_advance_208 flX7_240 (shp hG rfl) rfl ?_
    refine Go.eqI (y := 2) (h21) ?_
    refine Go.iconst (v := 2) dX7_advance_211 (by decide) ?_
    refine Go.icmp_ne 281 dX7_advance_212 rfl (fun h212 => absurd (by decide) h212) (fun _ => ?_)
    refine Go.aload_n dX7_advance_215 rfl ?_
    refine Go.aload_n dX7_advance_216 rfl ?_
    refine Go.getI dX7_advance_217 flX7_225 (shp hG rfl) rfl ?_
    refine Go.eqI (y := nI i) (h23) ?_
    refine Go.callVI [] dX7_advance_220 lkX7_231 imX7_byteAt seX7_byteAt cbX7_byteAt (m_byteAt hG hN (k := i) (by omega)) (shp hG rfl) rfl rfl rfl (Nat.le_of_ble_eq_true rfl) (fun r1 M2 hr1 => ?_)
    obtain ⟨er1, emr1⟩ := hr1
    rw [emr1]
    clear emr1 M2
    subst er1
    refine Go.callSI [] dX7_advance_223 lkX7_237 stX7_isDigit cbX7_isDigit (m_isDigit (byt L b i)) rfl rfl (Nat.le_of_ble_eq_true rfl) (fun r3 M4 hr3 => ?_)
    obtain ⟨er3, emr3⟩ := hr3
    rw [emr3]
    clear emr3 M4
    subst er3
    refine Go.eqI (y := bi (decide (typ L b i = 2))) (by rw [byt_dig]) ?_
    refine Go.if_eq 281 dX7_advance_226 rfl (fun h226 => ?_) (fun h226 => ?_)
    · have e9 : t0 = i := by rw [hk, runT, if_neg (of_decide_eq_false (bi_0.mp h226))]
      exact hout N hN hSm h21 h22 (by rw [h23, e9]) (by rw [h25, e9])
    · have hty := of_decide_eq_true (bi_n0.mp h226)
      obtain ⟨d0, hd9, hd0, hdn⟩ := dig hty
      have hbi : byt L b i = nI (48 + d0) := by unfold byt; rw [if_pos (by omega)]; exact hd0
      have hv4 := vF_le b s0 (i - s0) (fun j h1 h2 => by obtain ⟨d, a1, a2, a3⟩ := dig (hdg j h1 (by omega)); omega)
      refine Go.aload_n dX7_advance_229 rfl ?_
      refine Go.aload_n dX7_advance_230 rfl ?_
      refine Go.getI dX7_advance_231 flX7_247 (shp hG rfl) rfl ?_
      refine Go.eqI (y := nI (vF b s0 (i - s0))) (h25) ?_
      refine Go.sipush (v := 999) dX7_advance_234 (by decide) ?_
      refine Go.icmp_le 246 dX7_advance_237 rfl (fun h237 => ?_) (fun h237 => ?_)
      · have n237 : (vF b s0 (i - s0)) ≤ 999 := (nI_leI (a := (vF b s0 (i - s0))) (b := 999) (by omega) (by omega)).mp h237
        refine Go.bipush (v := 10) dX7_advance_246 (by decide) ?_
        refine Go.aload_n dX7_advance_248 rfl ?_
        refine Go.getI dX7_advance_249 flX7_247 (shp hG rfl) rfl ?_
        refine Go.eqI (y := nI (vF b s0 (i - s0))) (h25) ?_
        refine Go.imul dX7_advance_252 ?_
        refine Go.eqI (y := nI (10 * vF b s0 (i - s0))) (pk_mul 10 _) ?_
        refine Go.aload_n dX7_advance_253 rfl ?_
        refine Go.aload_n dX7_advance_254 rfl ?_
        refine Go.getI dX7_advance_255 flX7_225 (shp hG rfl) rfl ?_
        refine Go.eqI (y := nI i) (h23) ?_
        refine Go.callVI [.int (nI (10 * vF b s0 (i - s0))), .ref 49] dX7_advance_258 lkX7_231 imX7_byteAt seX7_byteAt cbX7_byteAt (m_byteAt hG hN (k := i) (by omega)) (shp hG rfl) rfl rfl rfl (Nat.le_of_ble_eq_true rfl) (fun r5 M6 hr5 => ?_)
        obtain ⟨er5, emr5⟩ := hr5
        rw [emr5]
        clear emr5 M6
        subst er5
        refine Go.eqI (y := nI (48 + d0)) (hbi) ?_
        refine Go.iadd dX7_advance_261 ?_
        refine Go.eqI (y := nI (10 * vF b s0 (i - s0) + d0 + 48)) ((nI_add _ _).trans (by congr 1; omega)) ?_
        refine Go.bipush (v := 48) dX7_advance_262 (by decide) ?_
        refine Go.isub dX7_advance_264 ?_
        refine Go.eqI (y := nI (10 * vF b s0 (i - s0) + d0)) ((pk_sub (a := 10 * vF b s0 (i - s0) + d0 + 48) (b := 48) (by omega)).trans (by congr 1)) ?_
        refine Go.putI dX7_advance_265 fpX7_247 (shp hG rfl) rfl rfl rfl ?_
        refine Go.nmM (fun N7 eN7 => ?_)
        refine Go.aload_n dX7_advance_268 rfl ?_
        refine Go.dup dX7_advance_269 rfl ?_
        refine Go.getI dX7_advance_270 flX7_225 (shp hG rfl) rfl ?_
        refine Go.eqI (y := nI i) (by rw [eN7, rd_eq]; simp [upd]; exact h23) ?_
        refine Go.iconst (v := 1) dX7_advance_273 (by decide) ?_
        refine Go.iadd dX7_advance_274 ?_
        refine Go.eqI (y := nI (i + 1)) (nI_add _ _) ?_
        refine Go.putI dX7_advance_275 fpX7_225 (shp hG rfl) rfl rfl rfl ?_
        refine Go.nmM (fun N8 eN8 => ?_)
        refine Go.goto 207 dX7_advance_278 rfl ?_
        have hcd : N7.1 49 25 = nI (vF b s0 (i + 1 - s0)) := by
          rw [eN7, rd_eq, show i + 1 - s0 = (i - s0) + 1 by omega, vF, show s0 + (i - s0) = i by omega, hdn]
          simp only [upd, if_true]
          rw [if_neg (by omega)]
          congr 1
          omega
        have hup : FmA N N8 := by rw [eN8, eN7]; exact (FmA.up N _ (by decide)).trans (FmA.up _ _ (by decide))
        exact ih (i + 1) N8 (by omega) (hN.keep hup) (hSm.trans hup) (by omega) (fun j h1 h2 => by
          by_cases z : j = i
          · rw [z]; exact hty
          · exact hdg j h1 (by omega)) (by rw [eN8, rd_eq]; simp [upd]; rw [eN7, rd_eq]; simp [upd]; exact h21) (by rw [eN8, rd_eq]; simp [upd]; rw [eN7, rd_eq]; simp [upd]; exact h22) (by rw [eN8, rd_eq]; simp [upd]) (by rw [eN8, rd_eq]; simp [upd]; exact hcd) (by rw [hk, runT, if_pos hty])
      · have n237 : ¬ (vF b s0 (i - s0)) ≤ 999 := fun q => h237 ((nI_leI (a := (vF b s0 (i - s0))) (b := 999) (by omega) (by omega)).mpr q)
        refine Go.sipush (v := 10000) dX7_advance_240 (by decide) ?_
        refine Go.goto 265 dX7_advance_243 rfl ?_
        refine Go.putI dX7_advance_265 fpX7_247 (shp hG rfl) rfl rfl rfl ?_
        refine Go.nmM (fun N9 eN9 => ?_)
        refine Go.aload_n dX7_advance_268 rfl ?_
        refine Go.dup dX7_advance_269 rfl ?_
        refine Go.getI dX7_advance_270 flX7_225 (shp hG rfl) rfl ?_
        refine Go.eqI (y := nI i) (by rw [eN9, rd_eq]; simp [upd]; exact h23) ?_
        refine Go.iconst (v := 1) dX7_advance_273 (by decide) ?_
        refine Go.iadd dX7_advance_274 ?_
        refine Go.eqI (y := nI (i + 1)) (nI_add _ _) ?_
        refine Go.putI dX7_advance_275 fpX7_225 (shp hG rfl) rfl rfl rfl ?_
        refine Go.nmM (fun N10 eN10 => ?_)
        refine Go.goto 207 dX7_advance_278 rfl ?_
        have hcd : N9.1 49 25 = nI (vF b s0 (i + 1 - s0)) := by
          rw [eN9, rd_eq, show i + 1 - s0 = (i - s0) + 1 by omega, vF, show s0 + (i - s0) = i by omega, hdn]
          simp only [upd, if_true]
          rw [if_pos (by omega)]
          rfl
        have hup : FmA N N10 := by rw [eN10, eN9]; exact (FmA.up N _ (by decide)).trans (FmA.up _ _ (by decide))
        exact ih (i + 1) N10 (by omega) (hN.keep hup) (hSm.trans hup) (by omega) (fun j h1 h2 => by
          by_cases z : j = i
          · rw [z]; exact hty
          · exact hdg j h1 (by omega)) (by rw [eN10, rd_eq]; simp [upd]; rw [eN9, rd_eq]; simp [upd]; exact h21) (by rw [eN10, rd_eq]; simp [upd]; rw [eN9, rd_eq]; simp [upd]; exact h22) (by rw [eN10, rd_eq]; simp [upd]) (by rw [eN10, rd_eq]; simp [upd]; exact hcd) (by rw [hk, runT, if_pos hty])
