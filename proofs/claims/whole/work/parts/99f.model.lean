def Sz7 : List Sh := [.inr (7, [.inl (some 23), .inl (some 22), .inl (some 21), .inr true, .inr true, .inl (some 20), .inl (some 19), .inl (some 18), .inl (some 17), .inl (some 16), .inl (some 15), .inl (some 14), .inl (some 13), .inl (some 12), .inr true, .inl (some 11), .inl (some 10), .inl (some 9), .inr true, .inl (some 8), .inr true, .inr true, .inr true, .inr true, .inr false, .inr true, .inr true, .inl (some 7), .inl (some 6), .inl (some 5), .inl (some 4), .inl (some 3), .inl (some 2), .inr true, .inr true, .inl (some 1)]), .inl (0, 2, []), .inl (0, 130, []), .inl (0, 130, []), .inl (2, 40, []), .inl (2, 160, []), .inl (0, 4, []), .inl (0, 4, []), .inl (0, 120, []), .inl (1, 1840, []), .inl (0, 1840, []), .inl (0, 1840, []), .inl (0, 8, []), .inl (0, 30, []), .inl (1, 1840, []), .inl (0, 256, []), .inl (0, 92, []), .inl (0, 7, []), .inl (0, 90, []), .inl (0, 90, []), .inl (0, 90, []), .inl (0, 2, []), .inl (0, 17, []), .inl (0, 8, [])]
theorem Sz7_ok : Sz7.all shB = true ∧ Sz7.length ≤ 1000 := by decide +kernel

theorem shz {G : Gt} {S : List Sh} (hG : gS G = S) {k : Nat} {x : Sh} (h : S[k]? = some x) : (gS G)[k]? = some x := by rw [hG]; exact h
/-- the sets found below i -/
def SeJ (M N : Mm) (i : Nat) : Prop := Same [16, 15] M N ∧ (∀ k, k < cI i → N.1 16 k = nI (sN k)) ∧ ∀ s, s < i → N.1 15 s = if okS s then nI (ixN s) else -1
theorem SeJ.no {M N N' : Mm} {i : Nat} (h : SeJ M N i) (ho : okS i = false) (he : N' = upi N 15 i (-1)) : SeJ M N' (i + 1) := by
  obtain ⟨h1, h2, h3⟩ := h
  subst he
  refine ⟨h1.trans (Same.upi _ 15 _ _ (by decide)), fun k hk => ?_, fun s hs => ?_⟩
  · rw [rd_ne (by decide)]
    rw [cI_s, if_neg (by rw [ho]; decide)] at hk
    exact h2 k hk
  · rw [rd_eq]
    unfold upd
    by_cases e : s = i
    · rw [if_pos e, e, if_neg (by rw [ho]; decide)]
    · rw [if_neg e]
      exact h3 s (by omega)
theorem SeJ.yes {M N N' : Mm} {i : Nat} (h : SeJ M N i) (hi : i < 256) (ho : okS i = true) (he : N' = upi (upi N 15 i (nI (cI i))) 16 (cI i) (nI i)) : SeJ M N' (i + 1) := by
  obtain ⟨h1, h2, h3⟩ := h
  have hx := ix_cI i hi ho
  subst he
  refine ⟨(h1.trans (Same.upi _ 15 _ _ (by decide))).trans (Same.upi _ 16 _ _ (by decide)), fun k hk => ?_, fun s hs => ?_⟩
  · rw [rd_eq, rd_ne (by decide)]
    rw [cI_s, if_pos ho] at hk
    unfold upd
    by_cases e : k = cI i
    · rw [if_pos e, e, hx.2]
    · rw [if_neg e]
      exact h2 k (by omega)
  · rw [rd_ne (by decide), rd_eq]
    unfold upd
    by_cases e : s = i
    · rw [if_pos e, e, if_pos ho, hx.1]
    · rw [if_neg e]
      exact h3 s (by omega)
set_option maxRecDepth 20000 in
theorem l_setsJ {G : Gt} {d : Nat} {M : Mm} (hG : gS G = Sz7) : ∀ (n i : Nat) (N : Mm) (o3 : Option Value), i + n = 256 → SeJ M N i → Go G (d + 1) mX7_init 238 [some (.ref 0), some (.int (nI (cI i))), some (.int (nI i)), o3] [] N (fun v M' => v = none ∧ SeJ M M' 256) := by
  intro n
  induction n with
  | zero =>
    intro i N o3 hin hL
    refine Go.iload_n dX7_init_238 rfl ?_
    refine Go.sipush (v := 256) dX7_init_239 (by decide) ?_
    refine Go.icmp_ge 298 dX7_init_242 rfl (fun _ => ?_) (fun h242 => absurd (nI_le (a := 256) (b := i) (by omega) (by omega)) h242)
    refine Go.vret dX7_init_298 rfl ?_
    have e9 : i = 256 := by omega
    subst e9
    exact ⟨rfl, hL⟩
  | succ n ih =>
    intro i N o3 hin hL
    have hi : i < 256 := by omega
    have hp8 := pop8_b i (by omega)
    refine Go.iload_n dX7_init_238 rfl ?_
    refine Go.sipush (v := 256) dX7_init_239 (by decide) ?_
    refine Go.icmp_ge 298 dX7_init_242 rfl (fun h242 => absurd h242 (nI_ge (a := i) (b := 256) (by omega) (by omega))) (fun _ => ?_)
    refine Go.iload_n dX7_init_245 rfl ?_
    refine Go.if_le 261 dX7_init_246 rfl (fun h246 => ?_) (fun h246 => ?_)
    · have n246 : i ≤ 0 := (nI_leI (a := i) (b := 0) (by omega) (by omega)).mp h246
      refine Go.iconst (v := 0) dX7_init_261 (by decide) ?_
      refine Go.istore_n (ls' := [some (.ref 0), some (.int (nI (cI i))), some (.int (nI i)), some (.int 0)]) dX7_init_262 (Nat.le_of_ble_eq_true rfl) rfl rfl ?_
      refine Go.aload_n dX7_init_263 rfl ?_
      refine Go.getR dX7_init_264 flX7_34 (shz hG rfl) rfl ?_
      refine Go.iload_n dX7_init_267 rfl ?_
      refine Go.iload_n dX7_init_268 rfl ?_
      refine Go.if_eq 276 dX7_init_269 rfl (fun _ => ?_) (fun h269 => absurd (by decide) h269)
      refine Go.iconst (v := -1) dX7_init_276 (by decide) ?_
      refine Go.iast dX7_init_277 (shz hG rfl) (vin (by omega) (by decide)) ?_
      refine Go.nmM (fun N1 eN1 => ?_)
      refine Go.iload_n dX7_init_278 rfl ?_
      refine Go.if_eq 292 dX7_init_279 rfl (fun _ => ?_) (fun h279 => absurd (by decide) h279)
      refine Go.iinc (v := nI (i + 1)) (ls' := [some (.ref 0), some (.int (nI (cI i))), some (.int (nI (i + 1))), some (.int 0)]) dX7_init_292 rfl (nI_1 _) rfl rfl ?_
      refine Go.goto 238 dX7_init_295 rfl ?_
      have ho : okS i = false := by rw [← Bool.not_eq_true, okS_iff i hi]; omega
      have e1 : cI (i + 1) = cI i := by rw [cI_s, if_neg (by rw [ho]; decide)]; rfl
      rw [← e1]
      exact ih (i + 1) N1 _ (by omega) (hL.no ho (by rw [eN1, ncl (by omega)]))
    · have n246 : ¬ i ≤ 0 := fun q => h246 ((nI_leI (a := i) (b := 0) (by omega) (by omega)).mpr q)
      refine Go.iload_n dX7_init_249 rfl ?_
      refine Go.callSI [] dX7_init_250 lkX7_81 stX7_ones cbX7_ones (m_ones (s := i) (by omega)) rfl rfl (Nat.le_of_ble_eq_true rfl) (fun r2 M3 hr2 => ?_)
      obtain ⟨er2, emr2⟩ := hr2
      rw [emr2]
      clear emr2 M3
      subst er2
      refine Go.iconst (v := 3) dX7_init_253 (by decide) ?_
      refine Go.icmp_gt 261 dX7_init_254 rfl (fun h254 => ?_) (fun h254 => ?_)
      · have n254 : 3 < (pop8 i) := (nI_ltI (a := 3) (b := (pop8 i)) (by omega) (by omega)).mp h254
        refine Go.iconst (v := 0) dX7_init_261 (by decide) ?_
        refine Go.istore_n (ls' := [some (.ref 0), some (.int (nI (cI i))), some (.int (nI i)), some (.int 0)]) dX7_init_262 (Nat.le_of_ble_eq_true rfl) rfl rfl ?_
        refine Go.aload_n dX7_init_263 rfl ?_
        refine Go.getR dX7_init_264 flX7_34 (shz hG rfl) rfl ?_
        refine Go.iload_n dX7_init_267 rfl ?_
        refine Go.iload_n dX7_init_268 rfl ?_
        refine Go.if_eq 276 dX7_init_269 rfl (fun _ => ?_) (fun h269 => absurd (by decide) h269)
        refine Go.iconst (v := -1) dX7_init_276 (by decide) ?_
        refine Go.iast dX7_init_277 (shz hG rfl) (vin (by omega) (by decide)) ?_
        refine Go.nmM (fun N4 eN4 => ?_)
        refine Go.iload_n dX7_init_278 rfl ?_
        refine Go.if_eq 292 dX7_init_279 rfl (fun _ => ?_) (fun h279 => absurd (by decide) h279)
        refine Go.iinc (v := nI (i + 1)) (ls' := [some (.ref 0), some (.int (nI (cI i))), some (.int (nI (i + 1))), some (.int 0)]) dX7_init_292 rfl (nI_1 _) rfl rfl ?_
        refine Go.goto 238 dX7_init_295 rfl ?_
        have ho : okS i = false := by rw [← Bool.not_eq_true, okS_iff i hi]; omega
        have e1 : cI (i + 1) = cI i := by rw [cI_s, if_neg (by rw [ho]; decide)]; rfl
        rw [← e1]
        exact ih (i + 1) N4 _ (by omega) (hL.no ho (by rw [eN4, ncl (by omega)]))
      · have n254 : ¬ 3 < (pop8 i) := fun q => h254 ((nI_ltI (a := 3) (b := (pop8 i)) (by omega) (by omega)).mpr q)
        refine Go.iconst (v := 1) dX7_init_257 (by decide) ?_
        refine Go.goto 262 dX7_init_258 rfl ?_
        refine Go.istore_n (ls' := [some (.ref 0), some (.int (nI (cI i))), some (.int (nI i)), some (.int 1)]) dX7_init_262 (Nat.le_of_ble_eq_true rfl) rfl rfl ?_
        refine Go.aload_n dX7_init_263 rfl ?_
        refine Go.getR dX7_init_264 flX7_34 (shz hG rfl) rfl ?_
        refine Go.iload_n dX7_init_267 rfl ?_
        refine Go.iload_n dX7_init_268 rfl ?_
        refine Go.if_eq 276 dX7_init_269 rfl (fun h269 => absurd h269 (by decide)) (fun _ => ?_)
        refine Go.iload_n dX7_init_272 rfl ?_
        refine Go.goto 277 dX7_init_273 rfl ?_
        refine Go.iast dX7_init_277 (shz hG rfl) (vin (by omega) (by decide)) ?_
        refine Go.nmM (fun N5 eN5 => ?_)
        refine Go.iload_n dX7_init_278 rfl ?_
        refine Go.if_eq 292 dX7_init_279 rfl (fun h279 => absurd h279 (by decide)) (fun _ => ?_)
        refine Go.aload_n dX7_init_282 rfl ?_
        refine Go.getR dX7_init_283 flX7_31 (shz hG rfl) rfl ?_
        refine Go.iload_n dX7_init_286 rfl ?_
        refine Go.iload_n dX7_init_287 rfl ?_
        refine Go.iast dX7_init_288 (shz hG rfl) (vin (cI_lt hi ((okS_iff i hi).mpr (by omega))) (by decide)) ?_
        refine Go.nmM (fun N6 eN6 => ?_)
        refine Go.iinc (v := nI (cI i + 1)) (ls' := [some (.ref 0), some (.int (nI (cI i + 1))), some (.int (nI i)), some (.int 1)]) dX7_init_289 rfl (nI_1 _) rfl rfl ?_
        refine Go.iinc (v := nI (i + 1)) (ls' := [some (.ref 0), some (.int (nI (cI i + 1))), some (.int (nI (i + 1))), some (.int 1)]) dX7_init_292 rfl (nI_1 _) rfl rfl ?_
        refine Go.goto 238 dX7_init_295 rfl ?_
        have ho : okS i = true := (okS_iff i hi).mpr (by omega)
        have h92 := cI_lt hi ho
        have e1 : cI (i + 1) = cI i + 1 := by rw [cI_s, if_pos ho]
        rw [← e1]
        exact ih (i + 1) N6 _ (by omega) (hL.yes hi ho (by rw [eN6, eN5, ncl (by omega), ncl (by omega)]))
set_option maxRecDepth 20000 in
theorem t_setsJ {G : Gt} {d : Nat} {M : Mm} (hG : gS G = Sz7) : Go G (d + 1) mX7_init 234 [some (.ref 0), none, none, none] [] M (fun v M' => v = none ∧ SeJ M M' 256) := by
  refine Go.iconst (v := 0) dX7_init_234 (by decide) ?_
  refine Go.istore_n (ls' := [some (.ref 0), some (.int 0), none, none]) dX7_init_235 (Nat.le_of_ble_eq_true rfl) rfl rfl ?_
  refine Go.iconst (v := 0) dX7_init_236 (by decide) ?_
  refine Go.istore_n (ls' := [some (.ref 0), some (.int 0), some (.int 0), none]) dX7_init_237 (Nat.le_of_ble_eq_true rfl) rfl rfl ?_
  exact l_setsJ hG 256 0 M none rfl ⟨Same.refl _ _, fun k hk => absurd hk (Nat.not_lt_zero _), fun s hs => absurd hs (Nat.not_lt_zero _)⟩
def Ftz7 : Mm → Prop := fun N => (∀ t, t < 8 → N.1 23 t = 5) ∧ (∀ t, t < 17 → N.1 22 t = 0) ∧ N.1 0 4 = 0 ∧ N.1 21 0 = 1 ∧ N.1 21 1 = 1 ∧ N.1 0 3 = 0 ∧ N.1 0 33 = 0 ∧ N.1 0 20 = 0 ∧ (∀ s, s < 4 → N.1 7 s = 0 ∧ N.1 6 s = 0) ∧ (∀ i, i < 160 → N.2 5 i = 0) ∧ (∀ k, k < 7 → N.1 17 k = 0) ∧ (∀ k, k < 92 → N.1 16 k = nI (sN k)) ∧ ∀ s, s < 256 → N.1 15 s = if okS s then nI (ixN s) else -1
def M7z : Mm := (fun k => ([fun j => ([0, 0, 0, 0, 0, 0, 0, 0, 0, 0, 0, 0, 0, 0, 0, 0, 0, 0, 0, 0, 0, 0, 0, 0, 0, 0, 0, 0, 0, 0, 0, 0, 0, 0, 0, 0] : List Int32).getD j 0, fun _ => 0, fun _ => 0, fun _ => 0, fun _ => 0, fun _ => 0, fun _ => 0, fun _ => 0, fun _ => 0, fun _ => 0, fun _ => 0, fun _ => 0, fun _ => 0, fun _ => 0, fun _ => 0, fun _ => 0, fun _ => 0, fun _ => 0, fun _ => 0, fun _ => 0, fun _ => 0, upd (upd (fun _ => 0) (Int32.toNatClampNeg 0) 1) (Int32.toNatClampNeg 1) 1, fun _ => 0, upd (upd (upd (upd (upd (upd (upd (upd (fun _ => 0) (Int32.toNatClampNeg 0) 5) (Int32.toNatClampNeg 1) 5) (Int32.toNatClampNeg 2) 5) (Int32.toNatClampNeg 3) 5) (Int32.toNatClampNeg 4) 5) (Int32.toNatClampNeg 5) 5) (Int32.toNatClampNeg 6) 5) (Int32.toNatClampNeg 7) 5] : List (Nat → Int32)).getD k (fun _ => 0), fun k => ([fun _ => 0, fun _ => 0, fun _ => 0, fun _ => 0, fun _ => 0, fun _ => 0, fun _ => 0, fun _ => 0, fun _ => 0, fun _ => 0, fun _ => 0, fun _ => 0, fun _ => 0, fun _ => 0, fun _ => 0, fun _ => 0, fun _ => 0, fun _ => 0, fun _ => 0, fun _ => 0, fun _ => 0, fun _ => 0, fun _ => 0, fun _ => 0] : List (Nat → Int64)).getD k (fun _ => 0))
theorem M7_st : ∀ t, t < 8 → M7z.1 23 t = 5 := by decide +kernel
set_option maxRecDepth 20000 in
theorem Ft7_of {N : Mm} (hM : SeJ M7z N 256) : Ftz7 N := by
  obtain ⟨⟨hI, hL⟩, h1, h2⟩ := hM
  have e : ∀ a, a ∉ [16, 15] → ∀ j, N.1 a j = M7z.1 a j := fun a ha j => congrFun (hI a ha) j
  refine ⟨fun t ht => (e 23 (by decide) t).trans (M7_st t ht), fun t _ => (e 22 (by decide) t).trans rfl, (e 0 (by decide) 4).trans rfl, (e 21 (by decide) 0).trans rfl, (e 21 (by decide) 1).trans rfl, (e 0 (by decide) 3).trans rfl, (e 0 (by decide) 33).trans rfl, (e 0 (by decide) 20).trans rfl, fun s _ => ⟨(e 7 (by decide) s).trans rfl, (e 6 (by decide) s).trans rfl⟩, fun i _ => by rw [hL]; rfl, fun k _ => (e 17 (by decide) k).trans rfl, fun k hk => h1 k (by rw [cI_256]; exact hk), h2⟩
set_option maxRecDepth 20000 in
set_option maxHeartbeats 2000000 in
theorem n_X7 {G : Gt} : Cn G mX7_init 7 [.null, .null, .null, .int 0, .int 0, .null, .null, .null, .null, .null, .null, .null, .null, .null, .int 0, .null, .null, .null, .int 0, .null, .int 0, .int 0, .int 0, .int 0, .long 0, .int 0, .int 0, .null, .null, .null, .null, .null, .null, .int 0, .int 0, .null] 1 40 23 8640 (Pw G Sz7 Ftz7) := by
  refine Cn.of (by decide) (by decide) rfl (fun b => ?_)
  refine Bo.aload_n (j := 0) dX7_init_0 rfl rfl ?_
  refine Bo.objInit dX7_init_1 kOi7 (by decide) (by decide) (Nat.le_of_ble_eq_true rfl) ?_
  refine Bo.aload_n (j := 0) dX7_init_4 rfl rfl ?_
  refine Bo.bipush (v := 8) dX7_init_5 (by decide) ?_
  refine Bo.newA (t0 := 0) (a0 := (8, .inl (fun _ => 0))) dX7_init_7 rfl kAi rfl (fun _ h => h) (fun _ => rfl) (by decide) (by decide) (by decide) (Nat.le_of_ble_eq_true rfl) (Nat.le_of_ble_eq_true rfl) (fun q1 => ?_)
  refine Bo.dup dX7_init_9 rfl ?_
  refine Bo.iconst (v := 0) dX7_init_10 (by decide) ?_
  refine Bo.iconst (v := 5) dX7_init_11 (by decide) ?_
  refine Bo.iast (t0 := 0) dX7_init_12 rfl (by unfold vp_in; decide) ?_
  refine Bo.dup dX7_init_13 rfl ?_
  refine Bo.iconst (v := 1) dX7_init_14 (by decide) ?_
  refine Bo.iconst (v := 5) dX7_init_15 (by decide) ?_
  refine Bo.iast (t0 := 0) dX7_init_16 rfl (by unfold vp_in; decide) ?_
  refine Bo.dup dX7_init_17 rfl ?_
  refine Bo.iconst (v := 2) dX7_init_18 (by decide) ?_
  refine Bo.iconst (v := 5) dX7_init_19 (by decide) ?_
  refine Bo.iast (t0 := 0) dX7_init_20 rfl (by unfold vp_in; decide) ?_
  refine Bo.dup dX7_init_21 rfl ?_
  refine Bo.iconst (v := 3) dX7_init_22 (by decide) ?_
  refine Bo.iconst (v := 5) dX7_init_23 (by decide) ?_
  refine Bo.iast (t0 := 0) dX7_init_24 rfl (by unfold vp_in; decide) ?_
  refine Bo.dup dX7_init_25 rfl ?_
  refine Bo.iconst (v := 4) dX7_init_26 (by decide) ?_
  refine Bo.iconst (v := 5) dX7_init_27 (by decide) ?_
  refine Bo.iast (t0 := 0) dX7_init_28 rfl (by unfold vp_in; decide) ?_
  refine Bo.dup dX7_init_29 rfl ?_
  refine Bo.iconst (v := 5) dX7_init_30 (by decide) ?_
  refine Bo.iconst (v := 5) dX7_init_31 (by decide) ?_
  refine Bo.iast (t0 := 0) dX7_init_32 rfl (by unfold vp_in; decide) ?_
  refine Bo.dup dX7_init_33 rfl ?_
  refine Bo.bipush (v := 6) dX7_init_34 (by decide) ?_
  refine Bo.iconst (v := 5) dX7_init_36 (by decide) ?_
  refine Bo.iast (t0 := 0) dX7_init_37 rfl (by unfold vp_in; decide) ?_
  refine Bo.dup dX7_init_38 rfl ?_
  refine Bo.bipush (v := 7) dX7_init_39 (by decide) ?_
  refine Bo.iconst (v := 5) dX7_init_41 (by decide) ?_
  refine Bo.iast (t0 := 0) dX7_init_42 rfl (by unfold vp_in; decide) ?_
  refine Bo.fin (ty := .array .int) (fs' := [.ref q1, .null, .null, .int 0, .int 0, .null, .null, .null, .null, .null, .null, .null, .null, .null, .int 0, .null, .null, .null, .int 0, .null, .int 0, .int 0, .int 0, .int 0, .long 0, .int 0, .int 0, .null, .null, .null, .null, .null, .null, .int 0, .int 0, .null]) dX7_init_43 rfl flX7_7 (fun C T N h => by cases h; exact ⟨rfl, rfl, by decide +kernel⟩) rfl rfl (Nat.le_of_ble_eq_true rfl) rfl ?_
  refine Bo.aload_n (j := 0) dX7_init_46 rfl rfl ?_
  refine Bo.bipush (v := 17) dX7_init_47 (by decide) ?_
  refine Bo.newA (t0 := 0) (a0 := (17, .inl (fun _ => 0))) dX7_init_49 rfl kAi rfl (fun _ h => h) (fun _ => rfl) (by decide) (by decide) (by decide) (Nat.le_of_ble_eq_true rfl) (Nat.le_of_ble_eq_true rfl) (fun q2 => ?_)
  refine Bo.fin (ty := .array .int) (fs' := [.ref q1, .ref q2, .null, .int 0, .int 0, .null, .null, .null, .null, .null, .null, .null, .null, .null, .int 0, .null, .null, .null, .int 0, .null, .int 0, .int 0, .int 0, .int 0, .long 0, .int 0, .int 0, .null, .null, .null, .null, .null, .null, .int 0, .int 0, .null]) dX7_init_51 rfl flX7_13 (fun C T N h => by cases h; exact ⟨rfl, rfl, by decide +kernel⟩) rfl rfl (Nat.le_of_ble_eq_true rfl) rfl ?_
  refine Bo.aload_n (j := 0) dX7_init_54 rfl rfl ?_
  refine Bo.iconst (v := 2) dX7_init_55 (by decide) ?_
  refine Bo.newA (t0 := 0) (a0 := (2, .inl (fun _ => 0))) dX7_init_56 rfl kAi rfl (fun _ h => h) (fun _ => rfl) (by decide) (by decide) (by decide) (Nat.le_of_ble_eq_true rfl) (Nat.le_of_ble_eq_true rfl) (fun q3 => ?_)
  refine Bo.dup dX7_init_58 rfl ?_
  refine Bo.iconst (v := 0) dX7_init_59 (by decide) ?_
  refine Bo.iconst (v := 1) dX7_init_60 (by decide) ?_
  refine Bo.iast (t0 := 0) dX7_init_61 rfl (by unfold vp_in; decide) ?_
  refine Bo.dup dX7_init_62 rfl ?_
  refine Bo.iconst (v := 1) dX7_init_63 (by decide) ?_
  refine Bo.iconst (v := 1) dX7_init_64 (by decide) ?_
  refine Bo.iast (t0 := 0) dX7_init_65 rfl (by unfold vp_in; decide) ?_
  refine Bo.fin (ty := .array .int) (fs' := [.ref q1, .ref q2, .ref q3, .int 0, .int 0, .null, .null, .null, .null, .null, .null, .null, .null, .null, .int 0, .null, .null, .null, .int 0, .null, .int 0, .int 0, .int 0, .int 0, .long 0, .int 0, .int 0, .null, .null, .null, .null, .null, .null, .int 0, .int 0, .null]) dX7_init_66 rfl flX7_16 (fun C T N h => by cases h; exact ⟨rfl, rfl, by decide +kernel⟩) rfl rfl (Nat.le_of_ble_eq_true rfl) rfl ?_
  refine Bo.aload_n (j := 0) dX7_init_69 rfl rfl ?_
  refine Bo.bipush (v := 90) dX7_init_70 (by decide) ?_
  refine Bo.newA (t0 := 0) (a0 := (90, .inl (fun _ => 0))) dX7_init_72 rfl kAi rfl (fun _ h => h) (fun _ => rfl) (by decide) (by decide) (by decide) (Nat.le_of_ble_eq_true rfl) (Nat.le_of_ble_eq_true rfl) (fun q4 => ?_)
  refine Bo.fin (ty := .array .int) (fs' := [.ref q1, .ref q2, .ref q3, .int 0, .int 0, .ref q4, .null, .null, .null, .null, .null, .null, .null, .null, .int 0, .null, .null, .null, .int 0, .null, .int 0, .int 0, .int 0, .int 0, .long 0, .int 0, .int 0, .null, .null, .null, .null, .null, .null, .int 0, .int 0, .null]) dX7_init_74 rfl flX7_19 (fun C T N h => by cases h; exact ⟨rfl, rfl, by decide +kernel⟩) rfl rfl (Nat.le_of_ble_eq_true rfl) rfl ?_
  refine Bo.aload_n (j := 0) dX7_init_77 rfl rfl ?_
  refine Bo.bipush (v := 90) dX7_init_78 (by decide) ?_
  refine Bo.newA (t0 := 0) (a0 := (90, .inl (fun _ => 0))) dX7_init_80 rfl kAi rfl (fun _ h => h) (fun _ => rfl) (by decide) (by decide) (by decide) (Nat.le_of_ble_eq_true rfl) (Nat.le_of_ble_eq_true rfl) (fun q5 => ?_)
  refine Bo.fin (ty := .array .int) (fs' := [.ref q1, .ref q2, .ref q3, .int 0, .int 0, .ref q4, .ref q5, .null, .null, .null, .null, .null, .null, .null, .int 0, .null, .null, .null, .int 0, .null, .int 0, .int 0, .int 0, .int 0, .long 0, .int 0, .int 0, .null, .null, .null, .null, .null, .null, .int 0, .int 0, .null]) dX7_init_82 rfl flX7_22 (fun C T N h => by cases h; exact ⟨rfl, rfl, by decide +kernel⟩) rfl rfl (Nat.le_of_ble_eq_true rfl) rfl ?_
  refine Bo.aload_n (j := 0) dX7_init_85 rfl rfl ?_
  refine Bo.bipush (v := 90) dX7_init_86 (by decide) ?_
  refine Bo.newA (t0 := 0) (a0 := (90, .inl (fun _ => 0))) dX7_init_88 rfl kAi rfl (fun _ h => h) (fun _ => rfl) (by decide) (by decide) (by decide) (Nat.le_of_ble_eq_true rfl) (Nat.le_of_ble_eq_true rfl) (fun q6 => ?_)
  refine Bo.fin (ty := .array .int) (fs' := [.ref q1, .ref q2, .ref q3, .int 0, .int 0, .ref q4, .ref q5, .ref q6, .null, .null, .null, .null, .null, .null, .int 0, .null, .null, .null, .int 0, .null, .int 0, .int 0, .int 0, .int 0, .long 0, .int 0, .int 0, .null, .null, .null, .null, .null, .null, .int 0, .int 0, .null]) dX7_init_90 rfl flX7_25 (fun C T N h => by cases h; exact ⟨rfl, rfl, by decide +kernel⟩) rfl rfl (Nat.le_of_ble_eq_true rfl) rfl ?_
  refine Bo.aload_n (j := 0) dX7_init_93 rfl rfl ?_
  refine Bo.bipush (v := 7) dX7_init_94 (by decide) ?_
  refine Bo.newA (t0 := 0) (a0 := (7, .inl (fun _ => 0))) dX7_init_96 rfl kAi rfl (fun _ h => h) (fun _ => rfl) (by decide) (by decide) (by decide) (Nat.le_of_ble_eq_true rfl) (Nat.le_of_ble_eq_true rfl) (fun q7 => ?_)
  refine Bo.fin (ty := .array .int) (fs' := [.ref q1, .ref q2, .ref q3, .int 0, .int 0, .ref q4, .ref q5, .ref q6, .ref q7, .null, .null, .null, .null, .null, .int 0, .null, .null, .null, .int 0, .null, .int 0, .int 0, .int 0, .int 0, .long 0, .int 0, .int 0, .null, .null, .null, .null, .null, .null, .int 0, .int 0, .null]) dX7_init_98 rfl flX7_28 (fun C T N h => by cases h; exact ⟨rfl, rfl, by decide +kernel⟩) rfl rfl (Nat.le_of_ble_eq_true rfl) rfl ?_
  refine Bo.aload_n (j := 0) dX7_init_101 rfl rfl ?_
  refine Bo.bipush (v := 92) dX7_init_102 (by decide) ?_
  refine Bo.newA (t0 := 0) (a0 := (92, .inl (fun _ => 0))) dX7_init_104 rfl kAi rfl (fun _ h => h) (fun _ => rfl) (by decide) (by decide) (by decide) (Nat.le_of_ble_eq_true rfl) (Nat.le_of_ble_eq_true rfl) (fun q8 => ?_)
  refine Bo.fin (ty := .array .int) (fs' := [.ref q1, .ref q2, .ref q3, .int 0, .int 0, .ref q4, .ref q5, .ref q6, .ref q7, .ref q8, .null, .null, .null, .null, .int 0, .null, .null, .null, .int 0, .null, .int 0, .int 0, .int 0, .int 0, .long 0, .int 0, .int 0, .null, .null, .null, .null, .null, .null, .int 0, .int 0, .null]) dX7_init_106 rfl flX7_31 (fun C T N h => by cases h; exact ⟨rfl, rfl, by decide +kernel⟩) rfl rfl (Nat.le_of_ble_eq_true rfl) rfl ?_
  refine Bo.aload_n (j := 0) dX7_init_109 rfl rfl ?_
  refine Bo.sipush (v := 256) dX7_init_110 (by decide) ?_
  refine Bo.newA (t0 := 0) (a0 := (256, .inl (fun _ => 0))) dX7_init_113 rfl kAi rfl (fun _ h => h) (fun _ => rfl) (by decide) (by decide) (by decide) (Nat.le_of_ble_eq_true rfl) (Nat.le_of_ble_eq_true rfl) (fun q9 => ?_)
  refine Bo.fin (ty := .array .int) (fs' := [.ref q1, .ref q2, .ref q3, .int 0, .int 0, .ref q4, .ref q5, .ref q6, .ref q7, .ref q8, .ref q9, .null, .null, .null, .int 0, .null, .null, .null, .int 0, .null, .int 0, .int 0, .int 0, .int 0, .long 0, .int 0, .int 0, .null, .null, .null, .null, .null, .null, .int 0, .int 0, .null]) dX7_init_115 rfl flX7_34 (fun C T N h => by cases h; exact ⟨rfl, rfl, by decide +kernel⟩) rfl rfl (Nat.le_of_ble_eq_true rfl) rfl ?_
  refine Bo.aload_n (j := 0) dX7_init_118 rfl rfl ?_
  refine Bo.sipush (v := 1840) dX7_init_119 (by decide) ?_
  refine Bo.newA (t0 := 1) (a0 := (1840, .inl (fun _ => 0))) dX7_init_122 rfl kAz rfl (fun _ h => h) (fun _ => rfl) (by decide) (by decide) (by decide) (Nat.le_of_ble_eq_true rfl) (Nat.le_of_ble_eq_true rfl) (fun q10 => ?_)
  refine Bo.fin (ty := .array .boolean) (fs' := [.ref q1, .ref q2, .ref q3, .int 0, .int 0, .ref q4, .ref q5, .ref q6, .ref q7, .ref q8, .ref q9, .ref q10, .null, .null, .int 0, .null, .null, .null, .int 0, .null, .int 0, .int 0, .int 0, .int 0, .long 0, .int 0, .int 0, .null, .null, .null, .null, .null, .null, .int 0, .int 0, .null]) dX7_init_124 rfl flX7_37 (fun C T N h => by cases h; exact ⟨rfl, rfl, by decide +kernel⟩) rfl rfl (Nat.le_of_ble_eq_true rfl) rfl ?_
  refine Bo.aload_n (j := 0) dX7_init_127 rfl rfl ?_
  refine Bo.bipush (v := 30) dX7_init_128 (by decide) ?_
  refine Bo.newA (t0 := 0) (a0 := (30, .inl (fun _ => 0))) dX7_init_130 rfl kAi rfl (fun _ h => h) (fun _ => rfl) (by decide) (by decide) (by decide) (Nat.le_of_ble_eq_true rfl) (Nat.le_of_ble_eq_true rfl) (fun q11 => ?_)
  refine Bo.fin (ty := .array .int) (fs' := [.ref q1, .ref q2, .ref q3, .int 0, .int 0, .ref q4, .ref q5, .ref q6, .ref q7, .ref q8, .ref q9, .ref q10, .ref q11, .null, .int 0, .null, .null, .null, .int 0, .null, .int 0, .int 0, .int 0, .int 0, .long 0, .int 0, .int 0, .null, .null, .null, .null, .null, .null, .int 0, .int 0, .null]) dX7_init_132 rfl flX7_41 (fun C T N h => by cases h; exact ⟨rfl, rfl, by decide +kernel⟩) rfl rfl (Nat.le_of_ble_eq_true rfl) rfl ?_
  refine Bo.aload_n (j := 0) dX7_init_135 rfl rfl ?_
  refine Bo.bipush (v := 8) dX7_init_136 (by decide) ?_
  refine Bo.newA (t0 := 0) (a0 := (8, .inl (fun _ => 0))) dX7_init_138 rfl kAi rfl (fun _ h => h) (fun _ => rfl) (by decide) (by decide) (by decide) (Nat.le_of_ble_eq_true rfl) (Nat.le_of_ble_eq_true rfl) (fun q12 => ?_)
  refine Bo.fin (ty := .array .int) (fs' := [.ref q1, .ref q2, .ref q3, .int 0, .int 0, .ref q4, .ref q5, .ref q6, .ref q7, .ref q8, .ref q9, .ref q10, .ref q11, .ref q12, .int 0, .null, .null, .null, .int 0, .null, .int 0, .int 0, .int 0, .int 0, .long 0, .int 0, .int 0, .null, .null, .null, .null, .null, .null, .int 0, .int 0, .null]) dX7_init_140 rfl flX7_44 (fun C T N h => by cases h; exact ⟨rfl, rfl, by decide +kernel⟩) rfl rfl (Nat.le_of_ble_eq_true rfl) rfl ?_
  refine Bo.aload_n (j := 0) dX7_init_143 rfl rfl ?_
  refine Bo.sipush (v := 1840) dX7_init_144 (by decide) ?_
  refine Bo.newA (t0 := 0) (a0 := (1840, .inl (fun _ => 0))) dX7_init_147 rfl kAi rfl (fun _ h => h) (fun _ => rfl) (by decide) (by decide) (by decide) (Nat.le_of_ble_eq_true rfl) (Nat.le_of_ble_eq_true rfl) (fun q13 => ?_)
  refine Bo.fin (ty := .array .int) (fs' := [.ref q1, .ref q2, .ref q3, .int 0, .int 0, .ref q4, .ref q5, .ref q6, .ref q7, .ref q8, .ref q9, .ref q10, .ref q11, .ref q12, .int 0, .ref q13, .null, .null, .int 0, .null, .int 0, .int 0, .int 0, .int 0, .long 0, .int 0, .int 0, .null, .null, .null, .null, .null, .null, .int 0, .int 0, .null]) dX7_init_149 rfl flX7_47 (fun C T N h => by cases h; exact ⟨rfl, rfl, by decide +kernel⟩) rfl rfl (Nat.le_of_ble_eq_true rfl) rfl ?_
  refine Bo.aload_n (j := 0) dX7_init_152 rfl rfl ?_
  refine Bo.sipush (v := 1840) dX7_init_153 (by decide) ?_
  refine Bo.newA (t0 := 0) (a0 := (1840, .inl (fun _ => 0))) dX7_init_156 rfl kAi rfl (fun _ h => h) (fun _ => rfl) (by decide) (by decide) (by decide) (Nat.le_of_ble_eq_true rfl) (Nat.le_of_ble_eq_true rfl) (fun q14 => ?_)
  refine Bo.fin (ty := .array .int) (fs' := [.ref q1, .ref q2, .ref q3, .int 0, .int 0, .ref q4, .ref q5, .ref q6, .ref q7, .ref q8, .ref q9, .ref q10, .ref q11, .ref q12, .int 0, .ref q13, .ref q14, .null, .int 0, .null, .int 0, .int 0, .int 0, .int 0, .long 0, .int 0, .int 0, .null, .null, .null, .null, .null, .null, .int 0, .int 0, .null]) dX7_init_158 rfl flX7_50 (fun C T N h => by cases h; exact ⟨rfl, rfl, by decide +kernel⟩) rfl rfl (Nat.le_of_ble_eq_true rfl) rfl ?_
  refine Bo.aload_n (j := 0) dX7_init_161 rfl rfl ?_
  refine Bo.sipush (v := 1840) dX7_init_162 (by decide) ?_
  refine Bo.newA (t0 := 1) (a0 := (1840, .inl (fun _ => 0))) dX7_init_165 rfl kAz rfl (fun _ h => h) (fun _ => rfl) (by decide) (by decide) (by decide) (Nat.le_of_ble_eq_true rfl) (Nat.le_of_ble_eq_true rfl) (fun q15 => ?_)
  refine Bo.fin (ty := .array .boolean) (fs' := [.ref q1, .ref q2, .ref q3, .int 0, .int 0, .ref q4, .ref q5, .ref q6, .ref q7, .ref q8, .ref q9, .ref q10, .ref q11, .ref q12, .int 0, .ref q13, .ref q14, .ref q15, .int 0, .null, .int 0, .int 0, .int 0, .int 0, .long 0, .int 0, .int 0, .null, .null, .null, .null, .null, .null, .int 0, .int 0, .null]) dX7_init_167 rfl flX7_53 (fun C T N h => by cases h; exact ⟨rfl, rfl, by decide +kernel⟩) rfl rfl (Nat.le_of_ble_eq_true rfl) rfl ?_
  refine Bo.aload_n (j := 0) dX7_init_170 rfl rfl ?_
  refine Bo.bipush (v := 120) dX7_init_171 (by decide) ?_
  refine Bo.newA (t0 := 0) (a0 := (120, .inl (fun _ => 0))) dX7_init_173 rfl kAi rfl (fun _ h => h) (fun _ => rfl) (by decide) (by decide) (by decide) (Nat.le_of_ble_eq_true rfl) (Nat.le_of_ble_eq_true rfl) (fun q16 => ?_)
  refine Bo.fin (ty := .array .int) (fs' := [.ref q1, .ref q2, .ref q3, .int 0, .int 0, .ref q4, .ref q5, .ref q6, .ref q7, .ref q8, .ref q9, .ref q10, .ref q11, .ref q12, .int 0, .ref q13, .ref q14, .ref q15, .int 0, .ref q16, .int 0, .int 0, .int 0, .int 0, .long 0, .int 0, .int 0, .null, .null, .null, .null, .null, .null, .int 0, .int 0, .null]) dX7_init_175 rfl flX7_56 (fun C T N h => by cases h; exact ⟨rfl, rfl, by decide +kernel⟩) rfl rfl (Nat.le_of_ble_eq_true rfl) rfl ?_
  refine Bo.aload_n (j := 0) dX7_init_178 rfl rfl ?_
  refine Bo.iconst (v := 4) dX7_init_179 (by decide) ?_
  refine Bo.newA (t0 := 0) (a0 := (4, .inl (fun _ => 0))) dX7_init_180 rfl kAi rfl (fun _ h => h) (fun _ => rfl) (by decide) (by decide) (by decide) (Nat.le_of_ble_eq_true rfl) (Nat.le_of_ble_eq_true rfl) (fun q17 => ?_)
  refine Bo.fin (ty := .array .int) (fs' := [.ref q1, .ref q2, .ref q3, .int 0, .int 0, .ref q4, .ref q5, .ref q6, .ref q7, .ref q8, .ref q9, .ref q10, .ref q11, .ref q12, .int 0, .ref q13, .ref q14, .ref q15, .int 0, .ref q16, .int 0, .int 0, .int 0, .int 0, .long 0, .int 0, .int 0, .ref q17, .null, .null, .null, .null, .null, .int 0, .int 0, .null]) dX7_init_182 rfl flX7_59 (fun C T N h => by cases h; exact ⟨rfl, rfl, by decide +kernel⟩) rfl rfl (Nat.le_of_ble_eq_true rfl) rfl ?_
  refine Bo.aload_n (j := 0) dX7_init_185 rfl rfl ?_
  refine Bo.iconst (v := 4) dX7_init_186 (by decide) ?_
  refine Bo.newA (t0 := 0) (a0 := (4, .inl (fun _ => 0))) dX7_init_187 rfl kAi rfl (fun _ h => h) (fun _ => rfl) (by decide) (by decide) (by decide) (Nat.le_of_ble_eq_true rfl) (Nat.le_of_ble_eq_true rfl) (fun q18 => ?_)
  refine Bo.fin (ty := .array .int) (fs' := [.ref q1, .ref q2, .ref q3, .int 0, .int 0, .ref q4, .ref q5, .ref q6, .ref q7, .ref q8, .ref q9, .ref q10, .ref q11, .ref q12, .int 0, .ref q13, .ref q14, .ref q15, .int 0, .ref q16, .int 0, .int 0, .int 0, .int 0, .long 0, .int 0, .int 0, .ref q17, .ref q18, .null, .null, .null, .null, .int 0, .int 0, .null]) dX7_init_189 rfl flX7_62 (fun C T N h => by cases h; exact ⟨rfl, rfl, by decide +kernel⟩) rfl rfl (Nat.le_of_ble_eq_true rfl) rfl ?_
  refine Bo.aload_n (j := 0) dX7_init_192 rfl rfl ?_
  refine Bo.sipush (v := 160) dX7_init_193 (by decide) ?_
  refine Bo.newA (t0 := 2) (a0 := (160, .inr (.inl (fun _ => 0)))) dX7_init_196 rfl kAl rfl (fun _ h => h) (fun _ => rfl) (by decide) (by decide) (by decide) (Nat.le_of_ble_eq_true rfl) (Nat.le_of_ble_eq_true rfl) (fun q19 => ?_)
  refine Bo.fin (ty := .array .long) (fs' := [.ref q1, .ref q2, .ref q3, .int 0, .int 0, .ref q4, .ref q5, .ref q6, .ref q7, .ref q8, .ref q9, .ref q10, .ref q11, .ref q12, .int 0, .ref q13, .ref q14, .ref q15, .int 0, .ref q16, .int 0, .int 0, .int 0, .int 0, .long 0, .int 0, .int 0, .ref q17, .ref q18, .ref q19, .null, .null, .null, .int 0, .int 0, .null]) dX7_init_198 rfl flX7_65 (fun C T N h => by cases h; exact ⟨rfl, rfl, by decide +kernel⟩) rfl rfl (Nat.le_of_ble_eq_true rfl) rfl ?_
  refine Bo.aload_n (j := 0) dX7_init_201 rfl rfl ?_
  refine Bo.bipush (v := 40) dX7_init_202 (by decide) ?_
  refine Bo.newA (t0 := 2) (a0 := (40, .inr (.inl (fun _ => 0)))) dX7_init_204 rfl kAl rfl (fun _ h => h) (fun _ => rfl) (by decide) (by decide) (by decide) (Nat.le_of_ble_eq_true rfl) (Nat.le_of_ble_eq_true rfl) (fun q20 => ?_)
  refine Bo.fin (ty := .array .long) (fs' := [.ref q1, .ref q2, .ref q3, .int 0, .int 0, .ref q4, .ref q5, .ref q6, .ref q7, .ref q8, .ref q9, .ref q10, .ref q11, .ref q12, .int 0, .ref q13, .ref q14, .ref q15, .int 0, .ref q16, .int 0, .int 0, .int 0, .int 0, .long 0, .int 0, .int 0, .ref q17, .ref q18, .ref q19, .ref q20, .null, .null, .int 0, .int 0, .null]) dX7_init_206 rfl flX7_69 (fun C T N h => by cases h; exact ⟨rfl, rfl, by decide +kernel⟩) rfl rfl (Nat.le_of_ble_eq_true rfl) rfl ?_
  refine Bo.aload_n (j := 0) dX7_init_209 rfl rfl ?_
  refine Bo.sipush (v := 130) dX7_init_210 (by decide) ?_
  refine Bo.newA (t0 := 0) (a0 := (130, .inl (fun _ => 0))) dX7_init_213 rfl kAi rfl (fun _ h => h) (fun _ => rfl) (by decide) (by decide) (by decide) (Nat.le_of_ble_eq_true rfl) (Nat.le_of_ble_eq_true rfl) (fun q21 => ?_)
  refine Bo.fin (ty := .array .int) (fs' := [.ref q1, .ref q2, .ref q3, .int 0, .int 0, .ref q4, .ref q5, .ref q6, .ref q7, .ref q8, .ref q9, .ref q10, .ref q11, .ref q12, .int 0, .ref q13, .ref q14, .ref q15, .int 0, .ref q16, .int 0, .int 0, .int 0, .int 0, .long 0, .int 0, .int 0, .ref q17, .ref q18, .ref q19, .ref q20, .ref q21, .null, .int 0, .int 0, .null]) dX7_init_215 rfl flX7_72 (fun C T N h => by cases h; exact ⟨rfl, rfl, by decide +kernel⟩) rfl rfl (Nat.le_of_ble_eq_true rfl) rfl ?_
  refine Bo.aload_n (j := 0) dX7_init_218 rfl rfl ?_
  refine Bo.sipush (v := 130) dX7_init_219 (by decide) ?_
  refine Bo.newA (t0 := 0) (a0 := (130, .inl (fun _ => 0))) dX7_init_222 rfl kAi rfl (fun _ h => h) (fun _ => rfl) (by decide) (by decide) (by decide) (Nat.le_of_ble_eq_true rfl) (Nat.le_of_ble_eq_true rfl) (fun q22 => ?_)
  refine Bo.fin (ty := .array .int) (fs' := [.ref q1, .ref q2, .ref q3, .int 0, .int 0, .ref q4, .ref q5, .ref q6, .ref q7, .ref q8, .ref q9, .ref q10, .ref q11, .ref q12, .int 0, .ref q13, .ref q14, .ref q15, .int 0, .ref q16, .int 0, .int 0, .int 0, .int 0, .long 0, .int 0, .int 0, .ref q17, .ref q18, .ref q19, .ref q20, .ref q21, .ref q22, .int 0, .int 0, .null]) dX7_init_224 rfl flX7_75 (fun C T N h => by cases h; exact ⟨rfl, rfl, by decide +kernel⟩) rfl rfl (Nat.le_of_ble_eq_true rfl) rfl ?_
  refine Bo.aload_n (j := 0) dX7_init_227 rfl rfl ?_
  refine Bo.iconst (v := 2) dX7_init_228 (by decide) ?_
  refine Bo.newA (t0 := 0) (a0 := (2, .inl (fun _ => 0))) dX7_init_229 rfl kAi rfl (fun _ h => h) (fun _ => rfl) (by decide) (by decide) (by decide) (Nat.le_of_ble_eq_true rfl) (Nat.le_of_ble_eq_true rfl) (fun q23 => ?_)
  refine Bo.fin (ty := .array .int) (fs' := [.ref q1, .ref q2, .ref q3, .int 0, .int 0, .ref q4, .ref q5, .ref q6, .ref q7, .ref q8, .ref q9, .ref q10, .ref q11, .ref q12, .int 0, .ref q13, .ref q14, .ref q15, .int 0, .ref q16, .int 0, .int 0, .int 0, .int 0, .long 0, .int 0, .int 0, .ref q17, .ref q18, .ref q19, .ref q20, .ref q21, .ref q22, .int 0, .int 0, .ref q23]) dX7_init_231 rfl flX7_78 (fun C T N h => by cases h; exact ⟨rfl, rfl, by decide +kernel⟩) rfl rfl (Nat.le_of_ble_eq_true rfl) rfl ?_
  refine Bo.tail Sz7 (fun k => ([b, q23, q22, q21, q20, q19, q18, q17, q16, q15, q14, q13, q12, q11, q10, q9, q8, q7, q6, q5, q4, q3, q2, q1] : List Nat).getD k 0) M7z 1 [some (.ref 0), none, none, none] (t_setsJ (d := 0) rfl) Sz7_ok rfl rfl (l2z (n := 3) (List.mem_cons_self)) (by decide) (by decide) (Nat.le_of_ble_eq_true rfl) (Nat.le_of_ble_eq_true rfl) (fun M' hM => ?_)
  exact ⟨_, _, rfl, Ft7_of hM, rfl⟩
