def kc (u : Bu) : Nat → Nat := cB (uN u) (uK u) (uX u) (uE u)
def lk (u : Bu) : Nat → Int32 := likD (uT u) (uW u) (uC u)
def E8 (f f' : Nat → Int32) : Prop := ∀ t, t < 8 → f t = f' t
theorem goodP_congr {f f' : Nat → Int32} (h : E8 f f') (c : Nat → Nat) (x : Nat) : goodP f c x = goodP f' c x := by
  unfold goodP
  rw [canN_congr h]
theorem okG_congr {f f' : Nat → Int32} (h : E8 f f') (c : Nat → Nat) (x : Nat) : okG f c x ↔ okG f' c x := by
  unfold okG
  rw [goodP_congr h]
theorem bst_congr8 {f f' : Nat → Int32} {c : Nat → Nat} {g g' : Nat → Int32} (h : E8 f f') (hg : ∀ x, g x = g' x) : bst (okG f c) g = bst (okG f' c) g' := bst_congr (okG_congr h c) (funext hg)
theorem takeF_congr {f f' : Nat → Int32} (h : E8 f f') (s : Nat) : E8 (takeF f s 8) (takeF f' s 8) := fun t ht => by
  unfold takeF
  rw [h t ht]
theorem lastN_congr {g g' : Nat → Int32} (hg : ∀ x, g x = g' x) (ed k : Nat) : ∀ n {f f' : Nat → Int32} (c : Nat → Nat), E8 f f' → lastN g ed k n f c = lastN g' ed k n f' c
  | 0, _, _, _, _ => rfl
  | n + 1, f, f', c, h => by
    rw [lastN, lastN, bst_congr8 h hg]
    cases bst (okG f' c) g' with
    | none => rfl
    | some x => simp only []; rw [lastN_congr hg ed k n _ (takeF_congr h _)]
/-- the kitchen, by the stores and the likings that it stands for -/
def KS (M : Mm) (f : Nat → Int32) (c : Nat → Nat) (g : Nat → Int32) (ed : Nat) : Prop := ∃ f' lt lw ls, Kst M f' c lt lw ls ed ∧ E8 f' f ∧ ∀ x, likD lt lw ls x = g x
def SS (M : Mm) (n : Nat) (f : Nat → Int32) (c : Nat → Nat) (g : Nat → Int32) (ed : Nat) : Prop := ∃ f' lt lw ls, Sst M n f' c lt lw ls ed ∧ E8 f' f ∧ ∀ x, likD lt lw ls x = g x
theorem k_cookFav {G : Gt} {d : Nat} {M : Mm} (hG : gS G = SHAPE) {f : Nat → Int32} {c : Nat → Nat} {g : Nat → Int32} {ed : Nat} (hS : KS M f c g ed) {k : Nat} (hk : k < 6) : ExI G (d + 4) mX2_cookFavourite [.ref 25, .int (nI k)] M (fun r M' => (r = -1 ∧ bst (okG f c) g = none ∧ M' = M) ∨ ∃ x, r = nI x ∧ x < 5120 ∧ okD x = true ∧ bst (okG f c) g = some x ∧ KS M' (takeF f (x / 20) 8) (addC c k x ed) g ed ∧ Same [26, 28, 29] M M') := by
  obtain ⟨f', lt, lw, ls, h1, h2, h3⟩ := hS
  refine (s_cookFav hG h1 hk).mono (fun r M' hr => ?_)
  rcases hr with ⟨a, b, c'⟩ | ⟨x, a, b, c', d', e⟩
  · exact Or.inl ⟨a, by rw [← b]; exact (bst_congr8 h2 h3).symm, c'⟩
  · exact Or.inr ⟨x, a, b, (bst_spec c').1.1, by rw [← c']; exact (bst_congr8 h2 h3).symm, ⟨_, lt, lw, ls, d', takeF_congr h2 _, h3⟩, e⟩
theorem k_mealsLeft {G : Gt} {d : Nat} {M : Mm} (hG : gS G = SHAPE) {f : Nat → Int32} {c : Nat → Nat} {g : Nat → Int32} {ed : Nat} (hS : KS M f c g ed) {k : Nat} (hk : k < 6) : ExI G (d + 5) mX2_mealsLeft [.ref 25, .int (nI k)] M (fun r M' => r = nI (lastN g ed k 60 f c) ∧ Same [26, 28, 29] M M') := by
  obtain ⟨f', lt, lw, ls, h1, h2, h3⟩ := hS
  exact (s_mealsLeft hG h1 hk).mono (fun r M' ⟨a, b⟩ => ⟨by rw [a, lastN_congr h3 ed k 60 c h2], b⟩)
theorem k_favourite {G : Gt} {d : Nat} {M : Mm} (hG : gS G = SHAPE) {f : Nat → Int32} {c : Nat → Nat} {g : Nat → Int32} {ed : Nat} (hS : KS M f c g ed) : ExI G (d + 3) mX2_favourite [.ref 25] M (fun r M' => r = optI (-1) (bst (okG f c) g) ∧ M' = M) := by
  obtain ⟨f', lt, lw, ls, ⟨⟨fv, h1⟩, hE, _, _, hf⟩, h2, h3⟩ := hS
  refine (s_favourite hG h1 hE).mono (fun r M' ⟨a, b⟩ => ⟨?_, b⟩)
  rw [hf] at a
  rw [← bst_congr8 h2 h3]
  rcases a.bst with ⟨p, q⟩ | ⟨x, p, q⟩
  · rw [q, p]; rfl
  · rw [q, p]; rfl
theorem CompIs.kc {M M' : Mm} {g : Sg} (h : CompIs M g) (hs : Same [25, 26, 28, 29, 30, 31, 32, 35, 36] M M') : CompIs M' g ∧ MSame M M' := by
  have r : ∀ a, a < 25 ∨ 36 < a → M'.1 a = M.1 a := fun a ha => hs.1 a (by simp; omega)
  obtain ⟨h1, h2, h3, h4, h5, h6, h7, h8⟩ := h
  refine ⟨⟨h1.same (fun j hj => r _ (by omega)), by rw [r 0 (by decide)]; exact h2, fun k => (h3 k).same (fun j hj => r _ (by omega)), by rw [r 37 (by decide)]; exact h4, fun i hi => by rw [r 38 (by decide)]; exact h5 i hi, fun s hs4 => ?_, fun j hj => by rw [r 48 (by decide)]; exact h7 j hj, fun s hs4 => by rw [hs.1 33 (by decide)]; exact h8 s hs4⟩, hs.ms (by decide)⟩
  rw [r (40 + s) (by omega), hs.2]
  exact h6 s hs4
theorem k_begin {G : Gt} {d : Nat} {M : Mm} (hG : gS G = SHAPE) {g : Sg} (hC : CompIs M g) (hg : SgOk g) : ExV G (d + 3) mX2_begin [.ref 25, .ref 1] M (fun M' => CompIs M' g ∧ MSame M M' ∧ Same KC M M' ∧ KS M' (uS (gU g)) (kc (gU g)) (lk (gU g)) (uE (gU g))) := by
  have hB := hC.1.bk hg.1
  have l1 : Lik9 (M.1 3) 8 := fun t ht => by rw [hC.1.2.1 t ht]; exact hg.1.2.2.2.1 t ht
  have l2 : Lik9 (M.1 4) 5 := fun t ht => by rw [hC.1.2.2.1 t ht]; exact hg.1.2.2.2.2.1 t ht
  have l3 : Lik9 (M.1 5) 4 := fun t ht => by rw [hC.1.2.2.2.1 t ht]; exact hg.1.2.2.2.2.2.1 t ht
  refine (s_begin hG hB hC.2.2.2.2.2.2.2 l1 l2 l3).mono (fun M' ⟨a, b⟩ => ?_)
  have hk := hC.kc (a.mono (by decide))
  exact ⟨hk.1, hk.2, a, _, _, _, _, b, fun t ht => by rw [cpF_lo ht]; exact hC.1.1 t ht, fun x => likD_congr hC.1.2.1 hC.1.2.2.1 hC.1.2.2.2.1 x⟩
theorem ModIs.qm {M M' : Mm} {g : Sg} (h : ModIs M g) (hs : QM (uN (gU g)) M M') : ModIs M' g ∧ CSame M M' := by
  obtain ⟨q1, q2, q3⟩ := hs
  have r : ∀ a, a ≠ 49 → a ≠ 53 → a ≠ 54 → a ≠ 55 → a ≠ 59 → a ≠ 61 → M'.1 a = M.1 a := fun a b1 b2 b3 b4 b5 b6 => q1.1 a (by simp [b1, b2, b3, b4, b5, b6])
  obtain ⟨h1, h2, h3, h4, h5, h6, h7, h8⟩ := h
  refine ⟨⟨?_, by rw [q2 33 (by decide)]; exact h2, fun k => (h3 k).same (q1.1 70 (by decide)), by rw [q2 20 (by decide)]; exact h4, fun i hi => by rw [q1.1 65 (by decide)]; exact h5 i hi, fun s hs4 => by rw [q1.1 66 (by decide), q1.1 67 (by decide), q1.2]; exact h6 s hs4, fun j hj => by rw [q1.1 56 (by decide)]; exact h7 j hj, h8.same (q1.1 57 (by decide)) (q1.1 58 (by decide))⟩, q1.cs (by decide)⟩
  obtain ⟨k1, k2, k3, k4, k5, k6, k7, k8, k9⟩ := h1
  exact ⟨fun t ht => by rw [q1.1 50 (by decide)]; exact k1 t ht, fun t ht => by rw [q1.1 51 (by decide)]; exact k2 t ht, fun t ht => by rw [q1.1 51 (by decide)]; exact k3 t ht, fun t ht => by rw [q1.1 51 (by decide)]; exact k4 t ht, by rw [q2 4 (by decide)]; exact k5, by rw [q1.1 52 (by decide)]; exact k6, by rw [q1.1 52 (by decide)]; exact k7, by rw [q2 3 (by decide)]; exact k8, fun e he => by rw [(q3 e he).1, (q3 e he).2.1, (q3 e he).2.2]; exact k9 e he⟩
theorem QM.mk59 {n : Nat} {M M' : Mm} (h : Same [59] M M') : QM n M M' := ⟨h.mono (by decide), fun j _ => by rw [h.1 49 (by decide)], fun e _ => ⟨by rw [h.1 53 (by decide)], by rw [h.1 54 (by decide)], by rw [h.1 55 (by decide)]⟩⟩
theorem ml_lk {M : Mm} {u : Bu} (h : BuM M u) (x : Nat) : likD (M.1 51) (ml8 M) (ml13 M) x = lk u x := likD_congr h.2.1 h.2.2.1 h.2.2.2.1 x
/-- an answer, or the finding that there is none -/
def ornS (g : Sg) (o : Option Nat) : Int32 × Sg := match o with
  | some v => (nI v, g)
  | none => (-1000000004, fndS g 3)
theorem orn_c {M0 M M' : Mm} {g : Sg} {o : Option Nat} {a r : Int32} (hm : MSame M0 M) (hC : CompIs M g) (ha : a = optI (-1) o) (ho : ∀ i, o = some i → i < 2 ^ 31) (hr : (0 ≤ a ∧ r = a ∧ M' = M) ∨ (a < 0 ∧ r = -1000000004 ∧ M' = fndC M 3)) : r = (ornS g o).1 ∧ CompIs M' (ornS g o).2 ∧ MSame M0 M' := by
  have hng := optI_neg ho
  rw [ha] at hr
  cases o with
  | none =>
    rcases hr with ⟨h1, -, -⟩ | ⟨h1, h2, h3⟩
    · exact absurd rfl (hng.2.mp h1)
    · rw [h3]; exact ⟨h2, hC.fnd.1, hm.trans hC.fnd.2⟩
  | some e =>
    rcases hr with ⟨h1, h2, h3⟩ | ⟨h1, -, -⟩
    · rw [h3]; exact ⟨h2, hC, hm⟩
    · exact absurd (hng.1.mp h1) (by simp)
-- ===== counts =====
theorem blk (F : Nat → Nat) : sumN F 1840 = sumN (fun k => sumN (fun m => F (20 * k + m)) 20) 92 := sum_blocks F 92
theorem sumN_c (a : Nat) : ∀ n, sumN (fun _ => a) n = n * a
  | 0 => by simp [sumN]
  | n + 1 => by rw [sumN, sumN_c a n, Nat.succ_mul]
theorem sumN_mul (F : Nat → Nat) (a : Nat) : ∀ n, sumN (fun i => a * F i) n = sumN F n * a
  | 0 => by simp [sumN]
  | n + 1 => by rw [sumN, sumN_mul F a n, sumN, Nat.add_mul, Nat.mul_comm a]
theorem cnt_can (f : Nat → Int32) : cntN (fun p => canN f (dishN p / 20)) 1840 = cntN (fun j => canN f (sN j)) 92 * 20 := by
  unfold cntN
  rw [blk, ← sumN_mul]
  refine sumN_congr 92 (fun k hk => ?_)
  rw [← sumN_c (if canN f (sN k) = true then 1 else 0) 20]
  refine sumN_congr 20 (fun m hm => ?_)
  show (if canN f (dishN (20 * k + m) / 20) = true then 1 else 0) = _
  rw [dishN_at hm, show (20 * sN k + m) / 20 = sN k by omega]
theorem cnt_good (f : Nat → Int32) (c : Nat → Nat) : sumN (fun j => popN (svM f c (sN j))) 92 = cntN (fun p => goodP f c (dishN p)) 1840 := by
  unfold cntN
  rw [blk]
  refine sumN_congr 92 (fun k hk => ?_)
  rw [popN_bits (svM_lt _ _ _)]
  refine sumN_congr 20 (fun m hm => ?_)
  show _ = if goodP f c (dishN (20 * k + m)) = true then 1 else 0
  rw [svM_bit _ _ _ _ hm, dishN_at hm]
theorem cnt_s (p : Nat → Bool) (n : Nat) : cntN p (n + 1) = cntN p n + (if p n then 1 else 0) := rfl
theorem cnt_not (p : Nat → Bool) : ∀ n, cntN p n + cntN (fun i => !p i) n = n
  | 0 => rfl
  | n + 1 => by
    have := cnt_not p n
    rw [cnt_s, cnt_s]
    cases h : p n
    · simp only [h, Bool.not_false, Bool.false_eq_true, if_true, if_false]; omega
    · simp only [h, Bool.not_true, Bool.false_eq_true, if_true, if_false]; omega
theorem cnt_congr {p q : Nat → Bool} (n : Nat) (h : ∀ i, i < n → p i = q i) : cntN p n = cntN q n := sumN_congr n (fun i hi => by rw [h i hi])
theorem cnt_new {c : Nat → Nat} (h : Out c) : 1840 - nBar c = cntN (fun p => decide (c (dishN p) = 0)) 1840 := by
  have h1 : nBar c = cntN (fun p => decide (1 ≤ c (dishN p))) 1840 := by
    rw [nBar_sets h]
    unfold cntN
    rw [blk]
    refine sumN_congr 92 (fun k hk => sumN_congr 20 (fun m hm => ?_))
    show _ = if decide (1 ≤ c (dishN (20 * k + m))) = true then 1 else 0
    rw [dishN_at hm]
  have h2 := cnt_not (fun p => decide (1 ≤ c (dishN p))) 1840
  have h3 : cntN (fun p => !decide (1 ≤ c (dishN p))) 1840 = cntN (fun p => decide (c (dishN p) = 0)) 1840 := cnt_congr 1840 (fun i _ => by
    rw [Bool.eq_iff_iff]
    simp)
  omega
theorem cnt_incl (a b : Nat → Bool) : ∀ n, cntN (fun i => !a i && !b i) n + cntN a n + cntN b n = n + cntN (fun i => a i && b i) n
  | 0 => rfl
  | n + 1 => by
    have := cnt_incl a b n
    rw [cnt_s, cnt_s, cnt_s, cnt_s]
    cases h1 : a n <;> cases h2 : b n <;> simp only [h1, h2, Bool.not_false, Bool.not_true, Bool.and_true, Bool.and_false, Bool.false_eq_true, if_true, if_false] <;> omega
