def cI (i : Nat) : Nat := cntN okS i
theorem okS_iff : ∀ i, i < 256 → (okS i = true ↔ 0 < i ∧ pop8 i ≤ 3) := by decide +kernel
theorem ix_cI : ∀ i, i < 256 → okS i = true → ixN i = cI i ∧ sN (cI i) = i := by decide +kernel
theorem pop8_b : ∀ i, i < 256 → pop8 i ≤ 8 := by decide +kernel
theorem cI_256 : cI 256 = 92 := by decide +kernel
theorem cI_s (i : Nat) : cI (i + 1) = cI i + (if okS i then 1 else 0) := rfl
theorem cI_mono : ∀ n i, cI i ≤ cI (i + n)
  | 0, i => Nat.le_refl _
  | n + 1, i => by
    have := cI_mono n i
    rw [show i + (n + 1) = i + n + 1 by omega, cI_s]
    omega
theorem cI_lt {i : Nat} (hi : i < 256) (h : okS i = true) : cI i < 92 := by
  have h1 := cI_mono (255 - i) (i + 1)
  rw [show i + 1 + (255 - i) = 256 by omega, cI_256, cI_s, if_pos h] at h1
  omega
theorem cI_le {i : Nat} (hi : i ≤ 256) : cI i ≤ 92 := by
  have h1 := cI_mono (256 - i) i
  rw [show i + (256 - i) = 256 by omega, cI_256] at h1
  exact h1
/-- the sets found below i -/
def SeI (M N : Mm) (i : Nat) : Prop := Same [57, 58] M N ∧ (∀ k, k < cI i → N.1 57 k = nI (sN k)) ∧ ∀ s, s < i → N.1 58 s = if okS s then nI (ixN s) else -1
theorem SeI.no {M N N' : Mm} {i : Nat} (h : SeI M N i) (ho : okS i = false) (he : N' = upi N 58 i (-1)) : SeI M N' (i + 1) := by
  obtain ⟨h1, h2, h3⟩ := h
  subst he
  refine ⟨h1.trans (Same.upi _ 58 _ _ (by decide)), fun k hk => ?_, fun s hs => ?_⟩
  · rw [rd_ne (by decide)]
    rw [cI_s, if_neg (by rw [ho]; decide)] at hk
    exact h2 k hk
  · rw [rd_eq]
    unfold upd
    by_cases e : s = i
    · rw [if_pos e, e, if_neg (by rw [ho]; decide)]
    · rw [if_neg e]
      exact h3 s (by omega)
theorem SeI.yes {M N N' : Mm} {i : Nat} (h : SeI M N i) (hi : i < 256) (ho : okS i = true) (he : N' = upi (upi N 58 i (nI (cI i))) 57 (cI i) (nI i)) : SeI M N' (i + 1) := by
  obtain ⟨h1, h2, h3⟩ := h
  have hx := ix_cI i hi ho
  subst he
  refine ⟨(h1.trans (Same.upi _ 58 _ _ (by decide))).trans (Same.upi _ 57 _ _ (by decide)), fun k hk => ?_, fun s hs => ?_⟩
  · rw [rd_eq, rd_ne (by decide)]
    rw [cI_s, if_pos ho] at hk
    unfold upd
    by_cases e : k = cI i
    · rw [if_pos e, e, hx.2]
    · rw [if_neg e]
      exact h2 k (by omega)
  · rw [rd_ne (by decide), rd_eq]
    unfold upd
    by_cases e : s = i
    · rw [if_pos e, e, if_pos ho, hx.1]
    · rw [if_neg e]
      exact h3 s (by omega)
theorem SeI.all {M N : Mm} (h : SeI M N 256) : MdS N := ⟨fun k hk => h.2.1 k (by rw [cI_256]; exact hk), h.2.2⟩
set_option maxRecDepth 20000 in
theorem l_sets {G : Gt} {d : Nat} {M : Mm} (hG : gS G = SHAPE) : ∀ (n i : Nat) (N : Mm) (o3 : Option Value), i + n = 256 → SeI M N i → Go G (d + 1) mX7_init 238 [some (.ref 49), some (.int (nI (cI i))), some (.int (nI i)), o3] [] N (fun v M' => v = none ∧ SeI M M' 256) := by
  intro n
  induction n with
  | zero =>
    intro i N o3 hin hL
    refine Go.iload_n dX7_init_238 rfl ?_
    refine Go.sipush (v := 256) dX7_init_239 (by decide) ?_
    refine Go.icmp_ge 298 dX7_init_242 rfl (fun _ => ?_) (fun h242 => absurd (nI_le (a := 256) (b := i) (by omega) (by omega)) h242)
    refine Go.vret dX7_init_298 rfl ?_
    have e9 : i = 256 := by omega
    subst e9
    exact ⟨rfl, hL⟩
  | succ n ih =>
    intro i N o3 hin hL
    have hi : i < 256 := by omega
    have hp8 := pop8_b i (by omega)
    refine Go.iload_n dX7_init_238 rfl ?_
    refine Go.sipush (v := 256) dX7_init_239 (by decide) ?_
    refine Go.icmp_ge 298 dX7_init_242 rfl (fun h242 => absurd h242 (nI_ge (a := i) (b := 256) (by omega) (by omega))) (fun _ => ?_)
    refine Go.iload_n dX7_init_245 rfl ?_
    refine Go.if_le 261 dX7_init_246 rfl (fun h246 => ?_) (fun h246 => ?_)
    · have n246 : i ≤ 0 := (nI_leI (a := i) (b := 0) (by omega) (by omega)).mp h246
      refine Go.iconst (v := 0) dX7_init_261 (by decide) ?_
      refine Go.istore_n (ls' := [some (.ref 49), some (.int (nI (cI i))), some (.int (nI i)), some (.int 0)]) dX7_init_262 (Nat.le_of_ble_eq_true rfl) rfl rfl ?_
      refine Go.aload_n dX7_init_263 rfl ?_
      refine Go.getR dX7_init_264 flX7_34 (shp hG rfl) rfl ?_
      refine Go.iload_n dX7_init_267 rfl ?_
      refine Go.iload_n dX7_init_268 rfl ?_
      refine Go.if_eq 276 dX7_init_269 rfl (fun _ => ?_) (fun h269 => absurd (by decide) h269)
      refine Go.iconst (v := -1) dX7_init_276 (by decide) ?_
      refine Go.iast dX7_init_277 (shp hG rfl) (vin (by omega) (by decide)) ?_
      refine Go.nmM (fun N1 eN1 => ?_)
      refine Go.iload_n dX7_init_278 rfl ?_
      refine Go.if_eq 292 dX7_init_279 rfl (fun _ => ?_) (fun h279 => absurd (by decide) h279)
      refine Go.iinc (v := nI (i + 1)) (ls' := [some (.ref 49), some (.int (nI (cI i))), some (.int (nI (i + 1))), some (.int 0)]) dX7_init_292 rfl (nI_1 _) rfl rfl ?_
      refine Go.goto 238 dX7_init_295 rfl ?_
      have ho : okS i = false := by rw [← Bool.not_eq_true, okS_iff i hi]; omega
      have e1 : cI (i + 1) = cI i := by rw [cI_s, if_neg (by rw [ho]; decide)]; rfl
      rw [← e1]
      exact ih (i + 1) N1 _ (by omega) (hL.no ho (by rw [eN1, ncl (by omega)]))
    · have n246 : ¬ i ≤ 0 := fun q => h246 ((nI_leI (a := i) (b := 0) (by omega) (by omega)).mpr q)
      refine Go.iload_n dX7_init_249 rfl ?_
      refine Go.callSI [] dX7_init_250 lkX7_81 stX7_ones cbX7_ones (m_ones (s := i) (by omega)) rfl rfl (Nat.le_of_ble_eq_true rfl) (fun r2 M3 hr2 => ?_)
      obtain ⟨er2, emr2⟩ := hr2
      rw [emr2]
      clear emr2 M3
      subst er2
      refine Go.iconst (v := 3) dX7_init_253 (by decide) ?_
      refine Go.icmp_gt 261 dX7_init_254 rfl (fun h254 => ?_) (fun h254 => ?_)
      · have n254 : 3 < (pop8 i) := (nI_ltI (a := 3) (b := (pop8 i)) (by omega) (by omega)).mp h254
        refine Go.iconst (v := 0) dX7_init_261 (by decide) ?_
        refine Go.istore_n (ls' := [some (.ref 49), some (.int (nI (cI i))), some (.int (nI i)), some (.int 0)]) dX7_init_262 (Nat.le_of_ble_eq_true rfl) rfl rfl ?_
        refine Go.aload_n dX7_init_263 rfl ?_
        refine Go.getR dX7_init_264 flX7_34 (shp hG rfl) rfl ?_
        refine Go.iload_n dX7_init_267 rfl ?_
        refine Go.iload_n dX7_init_268 rfl ?_
        refine Go.if_eq 276 dX7_init_269 rfl (fun _ => ?_) (fun h269 => absurd (by decide) h269)
        refine Go.iconst (v := -1) dX7_init_276 (by decide) ?_
        refine Go.iast dX7_init_277 (shp hG rfl) (vin (by omega) (by decide)) ?_
        refine Go.nmM (fun N4 eN4 => ?_)
        refine Go.iload_n dX7_init_278 rfl ?_
        refine Go.if_eq 292 dX7_init_279 rfl (fun _ => ?_) (fun h279 => absurd (by decide) h279)
        refine Go.iinc (v := nI (i + 1)) (ls' := [some (.ref 49), some (.int (nI (cI i))), some (.int (nI (i + 1))), some (.int 0)]) dX7_init_292 rfl (nI_1 _) rfl rfl ?_
        refine Go.goto 238 dX7_init_295 rfl ?_
        have ho : okS i = false := by rw [← Bool.not_eq_true, okS_iff i hi]; omega
        have e1 : cI (i + 1) = cI i := by rw [cI_s, if_neg (by rw [ho]; decide)]; rfl
        rw [← e1]
        exact ih (i + 1) N4 _ (by omega) (hL.no ho (by rw [eN4, ncl (by omega)]))
      · have n254 : ¬ 3 < (pop8 i) := fun q => h254 ((nI_ltI (a := 3) (b := (pop8 i)) (by omega) (by omega)).mpr q)
        refine Go.iconst (v := 1) dX7_init_257 (by decide) ?_
        refine Go.goto 262 dX7_init_258 rfl ?_
        refine Go.istore_n (ls' := [some (.ref 49), some (.int (nI (cI i))), some (.int (nI i)), some (.int 1)]) dX7_init_262 (Nat.le_of_ble_eq_true rfl) rfl rfl ?_
        refine Go.aload_n dX7_init_263 rfl ?_
        refine Go.getR dX7_init_264 flX7_34 (shp hG rfl) rfl ?_
        refine Go.iload_n dX7_init_267 rfl ?_
        refine Go.iload_n dX7_init_268 rfl ?_
        refine Go.if_eq 276 dX7_init_269 rfl (fun h269 => absurd h269 (by decide)) (fun _ => ?_)
        refine Go.iload_n dX7_init_272 rfl ?_
        refine Go.goto 277 dX7_init_273 rfl ?_
        refine Go.iast dX7_init_277 (shp hG rfl) (vin (by omega) (by decide)) ?_
        refine Go.nmM (fun N5 eN5 => ?_)
        refine Go.iload_n dX7_init_278 rfl ?_
        refine Go.if_eq 292 dX7_init_279 rfl (fun h279 => absurd h279 (by decide)) (fun _ => ?_)
        refine Go.aload_n dX7_init_282 rfl ?_
        refine Go.getR dX7_init_283 flX7_31 (shp hG rfl) rfl ?_
        refine Go.iload_n dX7_init_286 rfl ?_
        refine Go.iload_n dX7_init_287 rfl ?_
        refine Go.iast dX7_init_288 (shp hG rfl) (vin (cI_lt hi ((okS_iff i hi).mpr (by omega))) (by decide)) ?_
        refine Go.nmM (fun N6 eN6 => ?_)
        refine Go.iinc (v := nI (cI i + 1)) (ls' := [some (.ref 49), some (.int (nI (cI i + 1))), some (.int (nI i)), some (.int 1)]) dX7_init_289 rfl (nI_1 _) rfl rfl ?_
        refine Go.iinc (v := nI (i + 1)) (ls' := [some (.ref 49), some (.int (nI (cI i + 1))), some (.int (nI (i + 1))), some (.int 1)]) dX7_init_292 rfl (nI_1 _) rfl rfl ?_
        refine Go.goto 238 dX7_init_295 rfl ?_
        have ho : okS i = true := (okS_iff i hi).mpr (by omega)
        have h92 := cI_lt hi ho
        have e1 : cI (i + 1) = cI i + 1 := by rw [cI_s, if_pos ho]
        rw [← e1]
        exact ih (i + 1) N6 _ (by omega) (hL.yes hi ho (by rw [eN6, eN5, ncl (by omega), ncl (by omega)]))
