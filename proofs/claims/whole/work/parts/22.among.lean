theorem addInt {a b : Int32} (ha : -1000 ≤ a.toInt ∧ a.toInt ≤ 1000) (hb : -1000 ≤ b.toInt ∧ b.toInt ≤ 1000) : (a + b).toInt = a.toInt + b.toInt := by
  rw [Int32.toInt_add]
  exact Int.bmod_eq_of_le (by omega) (by omega)
theorem likF_add (lt : Nat → Int32) (c : Int32) (s : Nat) : ∀ n, likF lt c s n = likF lt 0 s n + c
  | 0 => by simp [likF]
  | n + 1 => by
    rw [likF, likF, likF_add lt c s n, Int32.add_assoc, Int32.add_assoc, Int32.add_comm c]
def Lik9 (f : Nat → Int32) (n : Nat) : Prop := ∀ t, t < n → -9 ≤ (f t).toInt ∧ (f t).toInt ≤ 9
theorem likF_bd {lt : Nat → Int32} (h : Lik9 lt 8) (s : Nat) : ∀ n : Nat, n ≤ 8 → -(9 * n : Int) ≤ (likF lt 0 s n).toInt ∧ (likF lt 0 s n).toInt ≤ 9 * n
  | 0, _ => by simp [likF]
  | n + 1, hn => by
    have ih := likF_bd h s n (by omega)
    have ht := h n (by omega)
    rw [likF]
    have hz : -9 ≤ (if s.testBit n then lt n else (0 : Int32)).toInt ∧ (if s.testBit n then lt n else (0 : Int32)).toInt ≤ 9 := by
      split
      · exact ht
      · simp
    rw [addInt (by omega) (by omega)]
    omega
theorem manB {lw ls : Nat → Int32} (h1 : Lik9 lw 5) (h2 : Lik9 ls 4) {m : Nat} (hm : m < 20) : -18 ≤ (lw (m / 4) + ls (m % 4)).toInt ∧ (lw (m / 4) + ls (m % 4)).toInt ≤ 18 := by
  have a := h1 (m / 4) (by omega)
  have b := h2 (m % 4) (by omega)
  rw [addInt (by omega) (by omega)]
  omega
theorem likD_at (lt lw ls : Nat → Int32) (s : Nat) {m : Nat} (hm : m < 20) : likD lt lw ls (20 * s + m) = likF lt 0 s 8 + (lw (m / 4) + ls (m % 4)) := by
  unfold likD
  rw [show (20 * s + m) % 20 = m by omega, show (20 * s + m) % 4 = m % 4 by omega, show (20 * s + m) / 20 = s by omega, likF_add]
theorem sN_mono : ∀ i, i < 92 → ∀ j, j < i → sN j < sN i := by decide +kernel
def okA (f : Nat → Int32) (c am : Nat → Nat) (i x : Nat) : Prop := (∃ j, j < i ∧ x / 20 = sN j) ∧ goodP f c x = true ∧ (am (x / 20)).testBit (x % 20) = true
def Bst (ok : Nat → Prop) (g : Nat → Int32) (r q : Int32) : Prop := (r = -1 ∧ ∀ x, ¬ ok x) ∨ ∃ x, x < 5120 ∧ r = nI x ∧ q = g x ∧ ok x ∧ ∀ y, ok y → y = x ∨ ahead g x y
theorem Bst.best {ok : Nat → Prop} {g : Nat → Int32} {r q : Int32} (h : Bst ok g r q) : IsBest ok g r := by
  rcases h with h | ⟨x, _, h1, _, h2, h3⟩
  · exact Or.inl h
  · exact Or.inr ⟨x, h1, h2, h3⟩
theorem okA_succ {f : Nat → Int32} {c am : Nat → Nat} {i x : Nat} (h : okA f c am (i + 1) x) : okA f c am i x ∨ (x / 20 = sN i ∧ goodP f c x = true ∧ (am (x / 20)).testBit (x % 20) = true) := by
  obtain ⟨⟨j, hj, e⟩, h1, h2⟩ := h
  by_cases q : j = i
  · subst q; exact Or.inr ⟨e, h1, h2⟩
  · exact Or.inl ⟨⟨j, by omega, e⟩, h1, h2⟩
theorem okA_mono {f : Nat → Int32} {c am : Nat → Nat} {i x : Nat} (h : okA f c am i x) : okA f c am (i + 1) x := by
  obtain ⟨⟨j, hj, e⟩, h1⟩ := h
  exact ⟨⟨j, by omega, e⟩, h1⟩
/-- a set that can't win is passed over -/
theorem Bst.skip {f : Nat → Int32} {c am : Nat → Nat} {i : Nat} {g : Nat → Int32} {r q : Int32} (hi : i < 92) (h : Bst (okA f c am i) g r q) (hs : ∀ y, y / 20 = sN i → goodP f c y = true → (am (y / 20)).testBit (y % 20) = true → ¬ r < 0 ∧ g y ≤ q) : Bst (okA f c am (i + 1)) g r q := by
  rcases h with ⟨h1, h2⟩ | ⟨x, hx, h1, h2, h3, h4⟩
  · refine Or.inl ⟨h1, fun x hx => ?_⟩
    rcases okA_succ hx with k | ⟨k1, k2, k3⟩
    · exact h2 x k
    · exact (hs x k1 k2 k3).1 (by rw [h1]; decide)
  · refine Or.inr ⟨x, hx, h1, h2, okA_mono h3, fun y hy => ?_⟩
    rcases okA_succ hy with k | ⟨k1, k2, k3⟩
    · exact h4 y k
    · have a := (hs y k1 k2 k3).2
      obtain ⟨⟨j, hj, e⟩, -⟩ := h3
      have b := sN_mono i hi j hj
      have hxy : x < y := by omega
      rw [h2] at a
      by_cases e2 : g x = g y
      · exact Or.inr (Or.inr ⟨e2, hxy⟩)
      · refine Or.inr (Or.inl ?_)
        rw [i_le] at a
        rw [i_eq] at e2
        rw [i_lt]
        omega
/-- a set with a better one -/
theorem Bst.take {f : Nat → Int32} {c am : Nat → Nat} {i : Nat} {g : Nat → Int32} {r q : Int32} {m : Nat} (hi : i < 92) (hm : m < 20) (h : Bst (okA f c am i) g r q) (h1 : goodP f c (20 * sN i + m) = true) (h2 : (am (sN i)).testBit m = true) (hb : ∀ m', m' < 20 → goodP f c (20 * sN i + m') = true → (am (sN i)).testBit m' = true → m' = m ∨ ahead g (20 * sN i + m) (20 * sN i + m')) (hr : r < 0 ∨ q < g (20 * sN i + m)) : Bst (okA f c am (i + 1)) g (nI (20 * sN i + m)) (g (20 * sN i + m)) := by
  have hsi := okS_lt (setsN_ok i hi)
  refine Or.inr ⟨20 * sN i + m, by omega, rfl, rfl, ⟨⟨i, by omega, by omega⟩, h1, ?_⟩, fun y hy => ?_⟩
  · rw [show (20 * sN i + m) / 20 = sN i by omega, show (20 * sN i + m) % 20 = m by omega]; exact h2
  · rcases okA_succ hy with k | ⟨k1, k2, k3⟩
    · rcases h with ⟨a, b⟩ | ⟨x, hx, a, b, c1, c2⟩
      · exact absurd k (b y)
      · have hr2 : q < g (20 * sN i + m) := by
          rcases hr with e | e
          · rw [a] at e; exact absurd e (nI_pos (by omega))
          · exact e
        rw [b] at hr2
        refine Or.inr (Or.inl ?_)
        rcases c2 y k with e | e
        · rw [e]; exact hr2
        · have := ahead_le e
          rw [i_le] at this
          rw [i_lt] at hr2 ⊢
          omega
    · have ey : y = 20 * sN i + y % 20 := by omega
      rcases hb (y % 20) (by omega) (by rw [← ey]; exact k2) (by rw [← k1]; exact k3) with e | e
      · exact Or.inl (by omega)
      · refine Or.inr ?_
        rw [← ey] at e
        exact e
def Kit (M : Mm) (c : Nat → Nat) (lt lw ls : Nat → Int32) (fv : Nat → Nat) : Prop :=
  OnceIs M c ∧ Out c ∧ (∀ j, j < 92 → M.1 30 (sN j) = likF lt 0 (sN j) 8) ∧ (∀ m, m < 20 → M.1 31 m = lw (m / 4) + ls (m % 4)) ∧ Fav M (M.1 31) fv ∧ Lik9 lt 8 ∧ Lik9 lw 5 ∧ Lik9 ls 4
/-- likings of dishes of one set go by their manners -/
theorem lik_set {M : Mm} {c : Nat → Nat} {lt lw ls : Nat → Int32} {fv : Nat → Nat} (h : Kit M c lt lw ls fv) (s : Nat) {m m' : Nat} (hm : m < 20) (hm' : m' < 20) : (likD lt lw ls (20 * s + m)).toInt - (likD lt lw ls (20 * s + m')).toInt = (M.1 31 m).toInt - (M.1 31 m').toInt := by
  obtain ⟨-, -, -, h4, -, b1, b2, b3⟩ := h
  have a := likF_bd b1 s 8 (Nat.le_refl _)
  have e1 := manB b2 b3 hm
  have e2 := manB b2 b3 hm'
  rw [likD_at _ _ _ _ hm, likD_at _ _ _ _ hm', addInt (a := likF lt 0 s 8) (b := lw (m / 4) + ls (m % 4)) (by omega) (by omega), addInt (a := likF lt 0 s 8) (b := lw (m' / 4) + ls (m' % 4)) (by omega) (by omega), h4 m hm, h4 m' hm']
  omega
theorem ahead_set {M : Mm} {c : Nat → Nat} {lt lw ls : Nat → Int32} {fv : Nat → Nat} (h : Kit M c lt lw ls fv) (s : Nat) {m m' : Nat} (hm : m < 20) (hm' : m' < 20) (ha : ahead (M.1 31) m m') : ahead (likD lt lw ls) (20 * s + m) (20 * s + m') := by
  have k := lik_set h s hm hm'
  rcases ha with e | e
  · refine Or.inl ?_
    rw [i_lt] at e ⊢
    omega
  · refine Or.inr ⟨?_, by omega⟩
    have e1 := e.1
    rw [i_eq] at e1 ⊢
    omega
theorem likMost {M : Mm} {c : Nat → Nat} {lt lw ls : Nat → Int32} {fv : Nat → Nat} (h : Kit M c lt lw ls fv) {m : Nat} (hm : m < 20) : M.1 31 m ≤ M.1 31 (fv 0) := by
  obtain ⟨j, h1, h2⟩ := h.2.2.2.2.1.1.2.1 m hm
  rw [← h2]
  by_cases e : j = 0
  · rw [e, i_le]; omega
  · exact ahead_le (h.2.2.2.2.1.1.2.2 0 j (by omega) h1)
theorem prune {M : Mm} {c : Nat → Nat} {lt lw ls : Nat → Int32} {fv : Nat → Nat} (h : Kit M c lt lw ls fv) {i : Nat} (hi : i < 92) {q : Int32} (hq : M.1 30 (sN i) + M.1 31 (fv 0) ≤ q) {y : Nat} (hy : y / 20 = sN i) : likD lt lw ls y ≤ q := by
  have k1 := likMost h (m := y % 20) (by omega)
  have e : y = 20 * sN i + y % 20 := by omega
  obtain ⟨-, -, h3, h4, hF, b1, b2, b3⟩ := h
  have a := likF_bd b1 (sN i) 8 (Nat.le_refl _)
  have f0 := hF.1.1 0 (by decide)
  have e1 := manB b2 b3 f0
  have e2 := manB b2 b3 (show y % 20 < 20 by omega)
  rw [e, likD_at _ _ _ _ (by omega)]
  rw [h3 i hi, h4 _ f0] at hq
  rw [h4 _ f0, h4 _ (by omega)] at k1
  rw [i_le] at k1 hq ⊢
  rw [addInt (by omega) (by omega)] at hq ⊢
  omega
set_option maxRecDepth 20000 in
theorem l_among {G : Gt} {d : Nat} {M : Mm} (hG : gS G = SHAPE) {c : Nat → Nat} {lt lw ls : Nat → Int32} {fv : Nat → Nat} (hKit : Kit M c lt lw ls fv) {k : Nat} (hk : (gS G)[k]? = some (.inl (0, 256, []))) {am : Nat → Nat} (ha : ∀ s, s < 256 → M.1 k s = nI (am s) ∧ am s < 2 ^ 20) : ∀ (n i : Nat) (r4 r5 : Int32) (o7 o8 : Option Value), i + n = 92 → Bst (okA (M.1 26) c am i) (likD lt lw ls) r4 r5 → Go G (d + 2) mX2_favouriteAmong 29 [some (.ref 25), some (.ref k), some (.int (nI (maskN (posN (M.1 26)) 8))), some (.int (M.1 31 (fv 0))), some (.int r4), some (.int r5), some (.int (nI i)), o7, o8] [] M (fun v M' => ∃ r, v = some (.int r) ∧ IsBest (okA (M.1 26) c am 92) (likD lt lw ls) r ∧ M' = M) := by
  have hO := hKit.1
  intro n
  induction n with
  | zero =>
    intro i r4 r5 o7 o8 hin hB
    refine Go.iload dX2_favouriteAmong_29 rfl ?_
    refine Go.getSets dX2_favouriteAmong_31 (Or.inr fnX2_75) ?_
    refine Go.setsLen dX2_favouriteAmong_34 ?_
    refine Go.icmp_ge 149 dX2_favouriteAmong_35 rfl (fun _ => ?_) (fun h35 => absurd (nI_le (a := 92) (b := i) (by omega) (by omega)) h35)
    refine Go.iload dX2_favouriteAmong_149 rfl ?_
    refine Go.iret dX2_favouriteAmong_151 rfl rfl ?_
    have e9 : i = 92 := by omega
    subst e9
    exact ⟨_, rfl, hB.best, rfl⟩
  | succ n ih =>
    intro i r4 r5 o7 o8 hin hB
    have hi : i < 92 := by omega
    have hsi := okS_lt (setsN_ok i hi)
    have j86 : ∀ r8 : Int32, IsBest (fun m => m < 20 ∧ (svM (M.1 26) c (sN i) &&& am (sN i)).testBit m = true) (M.1 31) r8 → Go G (d + 2) mX2_favouriteAmong 86 [some (.ref 25), some (.ref k), some (.int (nI (maskN (posN (M.1 26)) 8))), some (.int (M.1 31 (fv 0))), some (.int r4), some (.int r5), some (.int (nI i)), some (.int (nI (sN i))), some (.int r8)] [] M (fun v M' => ∃ r, v = some (.int r) ∧ IsBest (okA (M.1 26) c am 92) (likD lt lw ls) r ∧ M' = M) := by
      intro r8 hfm
      have tb : ∀ m, m < 20 → ((svM (M.1 26) c (sN i) &&& am (sN i)).testBit m = true ↔ (goodP (M.1 26) c (20 * sN i + m) = true ∧ (am (sN i)).testBit m = true)) := fun m hm => by rw [Nat.testBit_and, svM_bit _ _ _ _ hm, Bool.and_eq_true]
      rcases hfm with ⟨e8, hno⟩ | ⟨m, e8, ⟨hm, hbit⟩, hall⟩
      · have hnone : ∀ m, m < 20 → goodP (M.1 26) c (20 * sN i + m) = true → (am (sN i)).testBit m = true → False := fun m hm h1 h2 => hno m ⟨hm, (tb m hm).mpr ⟨h1, h2⟩⟩
        refine Go.iload dX2_favouriteAmong_86 rfl ?_
        refine Go.if_lt 143 dX2_favouriteAmong_88 rfl (fun _ => ?_) (fun h88 => absurd (by rw [e8]; decide) h88)
        refine Go.iinc (v := nI (i + 1)) (ls' := [some (.ref 25), some (.ref k), some (.int (nI (maskN (posN (M.1 26)) 8))), some (.int (M.1 31 (fv 0))), some (.int r4), some (.int r5), some (.int (nI (i + 1))), some (.int (nI (sN i))), some (.int r8)]) dX2_favouriteAmong_143 rfl (nI_1 _) rfl rfl ?_
        refine Go.goto 29 dX2_favouriteAmong_146 rfl ?_
        exact ih (i + 1) r4 r5 _ _ (by omega) (hB.skip hi (fun y h1 h2 h3 => absurd (hnone (y % 20) (by omega) (by rw [show 20 * sN i + y % 20 = y by omega]; exact h2) (by rw [← h1]; exact h3)) (fun q => q)))
      · rw [e8]
        obtain ⟨hgd, ham⟩ := (tb m hm).mp hbit
        have elk : M.1 30 (sN i) + M.1 31 m = likD lt lw ls (20 * sN i + m) := by rw [likD_at _ _ _ _ hm, hKit.2.2.1 i hi, hKit.2.2.2.1 m hm]
        have hbest : ∀ m', m' < 20 → goodP (M.1 26) c (20 * sN i + m') = true → (am (sN i)).testBit m' = true → m' = m ∨ ahead (likD lt lw ls) (20 * sN i + m) (20 * sN i + m') := fun m' h1 h2 h3 => by
          rcases hall m' ⟨h1, (tb m' h1).mpr ⟨h2, h3⟩⟩ with e | e
          · exact Or.inl e
          · exact Or.inr (ahead_set hKit _ hm h1 e)
        have hworse0 : ∀ m', m' < 20 → goodP (M.1 26) c (20 * sN i + m') = true → (am (sN i)).testBit m' = true → likD lt lw ls (20 * sN i + m') ≤ likD lt lw ls (20 * sN i + m) := fun m' h1 h2 h3 => by
          rcases hbest m' h1 h2 h3 with e | e
          · rw [e, i_le]; omega
          · exact ahead_le e
        refine Go.iload dX2_favouriteAmong_86 rfl ?_
        refine Go.if_lt 143 dX2_favouriteAmong_88 rfl (fun h88 => absurd h88 (nI_pos (by omega))) (fun _ => ?_)
        refine Go.iload dX2_favouriteAmong_91 rfl ?_
        refine Go.if_lt 116 dX2_favouriteAmong_93 rfl (fun h93 => ?_) (fun h93 => ?_)
        · refine Go.aload_n dX2_favouriteAmong_116 rfl ?_
          refine Go.getR dX2_favouriteAmong_117 flX2_26 (shp hG rfl) rfl ?_
          refine Go.iload dX2_favouriteAmong_120 rfl ?_
          refine Go.iald dX2_favouriteAmong_122 (shp hG rfl) (vin (by omega) (by decide)) ?_
          refine Go.eqI (y := M.1 30 (sN i)) (by rw [ncl (by omega)]) ?_
          refine Go.aload_n dX2_favouriteAmong_123 rfl ?_
          refine Go.getR dX2_favouriteAmong_124 flX2_29 (shp hG rfl) rfl ?_
          refine Go.iload dX2_favouriteAmong_127 rfl ?_
          refine Go.iald dX2_favouriteAmong_129 (shp hG rfl) (vin (by omega) (by decide)) ?_
          refine Go.eqI (y := M.1 31 m) (by rw [ncl (by omega)]) ?_
          refine Go.iadd dX2_favouriteAmong_130 ?_
          refine Go.nmI (fun x1 ex1 => ?_)
          refine Go.istore (ls' := [some (.ref 25), some (.ref k), some (.int (nI (maskN (posN (M.1 26)) 8))), some (.int (M.1 31 (fv 0))), some (.int r4), some (.int x1), some (.int (nI i)), some (.int (nI (sN i))), some (.int (nI m))]) dX2_favouriteAmong_131 (Nat.le_of_ble_eq_true rfl) rfl rfl ?_
          refine Go.bipush (v := 20) dX2_favouriteAmong_133 (by decide) ?_
          refine Go.iload dX2_favouriteAmong_135 rfl ?_
          refine Go.imul dX2_favouriteAmong_137 ?_
          refine Go.eqI (y := nI (20 * sN i)) (pk_mul _ _) ?_
          refine Go.iload dX2_favouriteAmong_138 rfl ?_
          refine Go.iadd dX2_favouriteAmong_140 ?_
          refine Go.eqI (y := nI (20 * sN i + m)) (nI_add _ _) ?_
          refine Go.istore (ls' := [some (.ref 25), some (.ref k), some (.int (nI (maskN (posN (M.1 26)) 8))), some (.int (M.1 31 (fv 0))), some (.int (nI (20 * sN i + m))), some (.int x1), some (.int (nI i)), some (.int (nI (sN i))), some (.int (nI m))]) dX2_favouriteAmong_141 (Nat.le_of_ble_eq_true rfl) rfl rfl ?_
          refine Go.iinc (v := nI (i + 1)) (ls' := [some (.ref 25), some (.ref k), some (.int (nI (maskN (posN (M.1 26)) 8))), some (.int (M.1 31 (fv 0))), some (.int (nI (20 * sN i + m))), some (.int x1), some (.int (nI (i + 1))), some (.int (nI (sN i))), some (.int (nI m))]) dX2_favouriteAmong_143 rfl (nI_1 _) rfl rfl ?_
          refine Go.goto 29 dX2_favouriteAmong_146 rfl ?_
          rw [ex1, elk]
          exact ih (i + 1) _ _ _ _ (by omega) (hB.take hi hm hgd ham hbest (Or.inl h93))
        · refine Go.aload_n dX2_favouriteAmong_96 rfl ?_
          refine Go.getR dX2_favouriteAmong_97 flX2_26 (shp hG rfl) rfl ?_
          refine Go.iload dX2_favouriteAmong_100 rfl ?_
          refine Go.iald dX2_favouriteAmong_102 (shp hG rfl) (vin (by omega) (by decide)) ?_
          refine Go.eqI (y := M.1 30 (sN i)) (by rw [ncl (by omega)]) ?_
          refine Go.aload_n dX2_favouriteAmong_103 rfl ?_
          refine Go.getR dX2_favouriteAmong_104 flX2_29 (shp hG rfl) rfl ?_
          refine Go.iload dX2_favouriteAmong_107 rfl ?_
          refine Go.iald dX2_favouriteAmong_109 (shp hG rfl) (vin (by omega) (by decide)) ?_
          refine Go.eqI (y := M.1 31 m) (by rw [ncl (by omega)]) ?_
          refine Go.iadd dX2_favouriteAmong_110 ?_
          refine Go.iload dX2_favouriteAmong_111 rfl ?_
          refine Go.icmp_le 143 dX2_favouriteAmong_113 rfl (fun h113 => ?_) (fun h113 => ?_)
          · refine Go.iinc (v := nI (i + 1)) (ls' := [some (.ref 25), some (.ref k), some (.int (nI (maskN (posN (M.1 26)) 8))), some (.int (M.1 31 (fv 0))), some (.int r4), some (.int r5), some (.int (nI (i + 1))), some (.int (nI (sN i))), some (.int (nI m))]) dX2_favouriteAmong_143 rfl (nI_1 _) rfl rfl ?_
            refine Go.goto 29 dX2_favouriteAmong_146 rfl ?_
            exact ih (i + 1) r4 r5 _ _ (by omega) (hB.skip hi (fun y h1 h2 h3 => ⟨fun q => i_lt_n q (i_nlt h93), by
              have q1 := hworse0 (y % 20) (by omega) (by rw [show 20 * sN i + y % 20 = y by omega]; exact h2) (by rw [← h1]; exact h3)
              have q2 := h113
              rw [show 20 * sN i + y % 20 = y by omega] at q1
              rw [elk] at q2
              rw [i_le] at q1 q2 ⊢
              omega⟩))
          · refine Go.aload_n dX2_favouriteAmong_116 rfl ?_
            refine Go.getR dX2_favouriteAmong_117 flX2_26 (shp hG rfl) rfl ?_
            refine Go.iload dX2_favouriteAmong_120 rfl ?_
            refine Go.iald dX2_favouriteAmong_122 (shp hG rfl) (vin (by omega) (by decide)) ?_
            refine Go.eqI (y := M.1 30 (sN i)) (by rw [ncl (by omega)]) ?_
            refine Go.aload_n dX2_favouriteAmong_123 rfl ?_
            refine Go.getR dX2_favouriteAmong_124 flX2_29 (shp hG rfl) rfl ?_
            refine Go.iload dX2_favouriteAmong_127 rfl ?_
            refine Go.iald dX2_favouriteAmong_129 (shp hG rfl) (vin (by omega) (by decide)) ?_
            refine Go.eqI (y := M.1 31 m) (by rw [ncl (by omega)]) ?_
            refine Go.iadd dX2_favouriteAmong_130 ?_
            refine Go.nmI (fun x2 ex2 => ?_)
            refine Go.istore (ls' := [some (.ref 25), some (.ref k), some (.int (nI (maskN (posN (M.1 26)) 8))), some (.int (M.1 31 (fv 0))), some (.int r4), some (.int x2), some (.int (nI i)), some (.int (nI (sN i))), some (.int (nI m))]) dX2_favouriteAmong_131 (Nat.le_of_ble_eq_true rfl) rfl rfl ?_
            refine Go.bipush (v := 20) dX2_favouriteAmong_133 (by decide) ?_
            refine Go.iload dX2_favouriteAmong_135 rfl ?_
            refine Go.imul dX2_favouriteAmong_137 ?_
            refine Go.eqI (y := nI (20 * sN i)) (pk_mul _ _) ?_
            refine Go.iload dX2_favouriteAmong_138 rfl ?_
            refine Go.iadd dX2_favouriteAmong_140 ?_
            refine Go.eqI (y := nI (20 * sN i + m)) (nI_add _ _) ?_
            refine Go.istore (ls' := [some (.ref 25), some (.ref k), some (.int (nI (maskN (posN (M.1 26)) 8))), some (.int (M.1 31 (fv 0))), some (.int (nI (20 * sN i + m))), some (.int x2), some (.int (nI i)), some (.int (nI (sN i))), some (.int (nI m))]) dX2_favouriteAmong_141 (Nat.le_of_ble_eq_true rfl) rfl rfl ?_
            refine Go.iinc (v := nI (i + 1)) (ls' := [some (.ref 25), some (.ref k), some (.int (nI (maskN (posN (M.1 26)) 8))), some (.int (M.1 31 (fv 0))), some (.int (nI (20 * sN i + m))), some (.int x2), some (.int (nI (i + 1))), some (.int (nI (sN i))), some (.int (nI m))]) dX2_favouriteAmong_143 rfl (nI_1 _) rfl rfl ?_
            refine Go.goto 29 dX2_favouriteAmong_146 rfl ?_
            rw [ex2, elk]
            exact ih (i + 1) _ _ _ _ (by omega) (hB.take hi hm hgd ham hbest (Or.inr (by rw [← elk]; exact i_nle h113)))
    refine Go.iload dX2_favouriteAmong_29 rfl ?_
    refine Go.getSets dX2_favouriteAmong_31 (Or.inr fnX2_75) ?_
    refine Go.setsLen dX2_favouriteAmong_34 ?_
    refine Go.icmp_ge 149 dX2_favouriteAmong_35 rfl (fun h35 => absurd h35 (nI_ge (a := i) (b := 92) (by omega) (by omega))) (fun _ => ?_)
    refine Go.getSets dX2_favouriteAmong_38 (Or.inr fnX2_75) ?_
    refine Go.iload dX2_favouriteAmong_41 rfl ?_
    refine Go.sets dX2_favouriteAmong_43 (vin (by omega) (by decide)) ?_
    refine Go.eqI (y := nI (sN i)) (by rw [ncl (by omega)]; exact setsF_nI i (by omega)) ?_
    refine Go.istore (ls' := [some (.ref 25), some (.ref k), some (.int (nI (maskN (posN (M.1 26)) 8))), some (.int (M.1 31 (fv 0))), some (.int r4), some (.int r5), some (.int (nI i)), some (.int (nI (sN i))), o8]) dX2_favouriteAmong_44 (Nat.le_of_ble_eq_true rfl) rfl rfl ?_
    refine Go.iload dX2_favouriteAmong_46 rfl ?_
    refine Go.if_lt 68 dX2_favouriteAmong_48 rfl (fun h48 => ?_) (fun h48 => ?_)
    · refine Go.aload_n dX2_favouriteAmong_68 rfl ?_
      refine Go.aload_n dX2_favouriteAmong_69 rfl ?_
      refine Go.iload dX2_favouriteAmong_70 rfl ?_
      refine Go.iload_n dX2_favouriteAmong_72 rfl ?_
      refine Go.callVI [.ref 25] dX2_favouriteAmong_73 lkX2_102 imX2_servableManners seX2_servableManners cbX2_servableManners (s_servableManners hG (c := c) (s := sN i) (by omega) hO) (shp hG rfl) rfl rfl rfl (Nat.le_of_ble_eq_true rfl) (fun r1 M2 hr1 => ?_)
      obtain ⟨er1, emr1⟩ := hr1
      rw [emr1]
      clear emr1 M2
      subst er1
      refine Go.aload_n dX2_favouriteAmong_76 rfl ?_
      refine Go.iload dX2_favouriteAmong_77 rfl ?_
      refine Go.iald dX2_favouriteAmong_79 hk (vin (by omega) (by decide)) ?_
      refine Go.eqI (y := nI (am (sN i))) (by rw [ncl (by omega)]; exact (ha _ (by omega)).1) ?_
      refine Go.iand dX2_favouriteAmong_80 ?_
      refine Go.eqI (y := nI (svM (M.1 26) c (sN i) &&& am (sN i))) (fa_and _ _) ?_
      refine Go.callVI [] dX2_favouriteAmong_81 lkX2_114 imX2_favouriteManner seX2_favouriteManner cbX2_favouriteManner (s_favMan hG hKit.2.2.2.2.1 (w := svM (M.1 26) c (sN i) &&& am (sN i)) (Nat.lt_of_le_of_lt Nat.and_le_left (svM_lt _ _ _))) (shp hG rfl) rfl rfl rfl (Nat.le_of_ble_eq_true rfl) (fun r3 M4 hr3 => ?_)
      obtain ⟨hr3, emr3⟩ := hr3
      rw [emr3]
      clear emr3 M4
      refine Go.istore (ls' := [some (.ref 25), some (.ref k), some (.int (nI (maskN (posN (M.1 26)) 8))), some (.int (M.1 31 (fv 0))), some (.int r4), some (.int r5), some (.int (nI i)), some (.int (nI (sN i))), some (.int r3)]) dX2_favouriteAmong_84 (Nat.le_of_ble_eq_true rfl) rfl rfl ?_
      exact j86 r3 hr3
    · refine Go.aload_n dX2_favouriteAmong_51 rfl ?_
      refine Go.getR dX2_favouriteAmong_52 flX2_26 (shp hG rfl) rfl ?_
      refine Go.iload dX2_favouriteAmong_55 rfl ?_
      refine Go.iald dX2_favouriteAmong_57 (shp hG rfl) (vin (by omega) (by decide)) ?_
      refine Go.eqI (y := M.1 30 (sN i)) (by rw [ncl (by omega)]) ?_
      refine Go.iload_n dX2_favouriteAmong_58 rfl ?_
      refine Go.iadd dX2_favouriteAmong_59 ?_
      refine Go.iload dX2_favouriteAmong_60 rfl ?_
      refine Go.icmp_gt 68 dX2_favouriteAmong_62 rfl (fun h62 => ?_) (fun h62 => ?_)
      · refine Go.aload_n dX2_favouriteAmong_68 rfl ?_
        refine Go.aload_n dX2_favouriteAmong_69 rfl ?_
        refine Go.iload dX2_favouriteAmong_70 rfl ?_
        refine Go.iload_n dX2_favouriteAmong_72 rfl ?_
        refine Go.callVI [.ref 25] dX2_favouriteAmong_73 lkX2_102 imX2_servableManners seX2_servableManners cbX2_servableManners (s_servableManners hG (c := c) (s := sN i) (by omega) hO) (shp hG rfl) rfl rfl rfl (Nat.le_of_ble_eq_true rfl) (fun r5 M6 hr5 => ?_)
        obtain ⟨er5, emr5⟩ := hr5
        rw [emr5]
        clear emr5 M6
        subst er5
        refine Go.aload_n dX2_favouriteAmong_76 rfl ?_
        refine Go.iload dX2_favouriteAmong_77 rfl ?_
        refine Go.iald dX2_favouriteAmong_79 hk (vin (by omega) (by decide)) ?_
        refine Go.eqI (y := nI (am (sN i))) (by rw [ncl (by omega)]; exact (ha _ (by omega)).1) ?_
        refine Go.iand dX2_favouriteAmong_80 ?_
        refine Go.eqI (y := nI (svM (M.1 26) c (sN i) &&& am (sN i))) (fa_and _ _) ?_
        refine Go.callVI [] dX2_favouriteAmong_81 lkX2_114 imX2_favouriteManner seX2_favouriteManner cbX2_favouriteManner (s_favMan hG hKit.2.2.2.2.1 (w := svM (M.1 26) c (sN i) &&& am (sN i)) (Nat.lt_of_le_of_lt Nat.and_le_left (svM_lt _ _ _))) (shp hG rfl) rfl rfl rfl (Nat.le_of_ble_eq_true rfl) (fun r7 M8 hr7 => ?_)
        obtain ⟨hr7, emr7⟩ := hr7
        rw [emr7]
        clear emr7 M8
        refine Go.istore (ls' := [some (.ref 25), some (.ref k), some (.int (nI (maskN (posN (M.1 26)) 8))), some (.int (M.1 31 (fv 0))), some (.int r4), some (.int r5), some (.int (nI i)), some (.int (nI (sN i))), some (.int r7)]) dX2_favouriteAmong_84 (Nat.le_of_ble_eq_true rfl) rfl rfl ?_
        exact j86 r7 hr7
      · refine Go.goto 143 dX2_favouriteAmong_65 rfl ?_
        refine Go.iinc (v := nI (i + 1)) (ls' := [some (.ref 25), some (.ref k), some (.int (nI (maskN (posN (M.1 26)) 8))), some (.int (M.1 31 (fv 0))), some (.int r4), some (.int r5), some (.int (nI (i + 1))), some (.int (nI (sN i))), o8]) dX2_favouriteAmong_143 rfl (nI_1 _) rfl rfl ?_
        refine Go.goto 29 dX2_favouriteAmong_146 rfl ?_
        exact ih (i + 1) r4 r5 _ _ (by omega) (hB.skip hi (fun y h1 _ _ => ⟨fun q => i_lt_n q (i_nlt h48), prune hKit hi (i_nlt h62) h1⟩))
set_option maxRecDepth 20000 in
theorem s_among {G : Gt} {d : Nat} {M : Mm} (hG : gS G = SHAPE) {c : Nat → Nat} {lt lw ls : Nat → Int32} {fv : Nat → Nat} (hKit : Kit M c lt lw ls fv) {k : Nat} (hk : (gS G)[k]? = some (.inl (0, 256, []))) {am : Nat → Nat} (ha : ∀ s, s < 256 → M.1 k s = nI (am s) ∧ am s < 2 ^ 20) : ExI G (d + 2) mX2_favouriteAmong [.ref 25, .ref k] M (fun r M' => IsBest (okA (M.1 26) c am 92) (likD lt lw ls) r ∧ M' = M) := by
  have hf0 := hKit.2.2.2.2.1.1.1 0 (by decide)
  refine Ex.of (by decide) (Nat.le_of_ble_eq_true rfl) ?_
  show Go G (d + 2) mX2_favouriteAmong 0 [some (.ref 25), some (.ref k), none, none, none, none, none, none, none] [] M _
  refine Go.aload_n dX2_favouriteAmong_0 rfl ?_
  refine Go.getR dX2_favouriteAmong_1 flX2_9 (shp hG rfl) rfl ?_
  refine Go.callSI [] dX2_favouriteAmong_4 lkX2_98 stX6_inStore cbX6_inStore (s_inStore (shp hG rfl)) rfl rfl (Nat.le_of_ble_eq_true rfl) (fun r1 M2 hr1 => ?_)
  obtain ⟨er1, emr1⟩ := hr1
  rw [emr1]
  clear emr1 M2
  subst er1
  refine Go.eqI (y := nI (maskN (posN (M.1 26)) 8)) (rfl) ?_
  refine Go.istore_n (ls' := [some (.ref 25), some (.ref k), some (.int (nI (maskN (posN (M.1 26)) 8))), none, none, none, none, none, none]) dX2_favouriteAmong_7 (Nat.le_of_ble_eq_true rfl) rfl rfl ?_
  refine Go.aload_n dX2_favouriteAmong_8 rfl ?_
  refine Go.getR dX2_favouriteAmong_9 flX2_29 (shp hG rfl) rfl ?_
  refine Go.aload_n dX2_favouriteAmong_12 rfl ?_
  refine Go.getR dX2_favouriteAmong_13 flX2_32 (shp hG rfl) rfl ?_
  refine Go.iconst (v := 0) dX2_favouriteAmong_16 (by decide) ?_
  refine Go.iald dX2_favouriteAmong_17 (shp hG rfl) (vin (i := 0) (by decide) (by decide)) ?_
  refine Go.eqI (y := nI (fv 0)) (hKit.2.2.2.2.1.2 0 (by decide)) ?_
  refine Go.iald dX2_favouriteAmong_18 (shp hG rfl) (vin (by omega) (by decide)) ?_
  refine Go.eqI (y := M.1 31 (fv 0)) (by rw [ncl (by omega)]) ?_
  refine Go.nmI (fun x3 ex3 => ?_)
  refine Go.istore_n (ls' := [some (.ref 25), some (.ref k), some (.int (nI (maskN (posN (M.1 26)) 8))), some (.int x3), none, none, none, none, none]) dX2_favouriteAmong_19 (Nat.le_of_ble_eq_true rfl) rfl rfl ?_
  refine Go.iconst (v := -1) dX2_favouriteAmong_20 (by decide) ?_
  refine Go.istore (ls' := [some (.ref 25), some (.ref k), some (.int (nI (maskN (posN (M.1 26)) 8))), some (.int x3), some (.int ((-1))), none, none, none, none]) dX2_favouriteAmong_21 (Nat.le_of_ble_eq_true rfl) rfl rfl ?_
  refine Go.iconst (v := 0) dX2_favouriteAmong_23 (by decide) ?_
  refine Go.istore (ls' := [some (.ref 25), some (.ref k), some (.int (nI (maskN (posN (M.1 26)) 8))), some (.int x3), some (.int ((-1))), some (.int 0), none, none, none]) dX2_favouriteAmong_24 (Nat.le_of_ble_eq_true rfl) rfl rfl ?_
  refine Go.iconst (v := 0) dX2_favouriteAmong_26 (by decide) ?_
  refine Go.istore (ls' := [some (.ref 25), some (.ref k), some (.int (nI (maskN (posN (M.1 26)) 8))), some (.int x3), some (.int ((-1))), some (.int 0), some (.int 0), none, none]) dX2_favouriteAmong_27 (Nat.le_of_ble_eq_true rfl) rfl rfl ?_
  rw [ex3]
  exact l_among hG hKit hk ha 92 0 (-1) 0 none none (by omega) (Or.inl ⟨rfl, fun x hx => by obtain ⟨⟨j, hj, -⟩, -⟩ := hx; omega⟩)
/-- dishes that can be and are new -/
def okG (f : Nat → Int32) (c : Nat → Nat) (x : Nat) : Prop := okD x = true ∧ goodP f c x = true
theorem sets_iff {s : Nat} : okS s = true ↔ ∃ j, j < 92 ∧ s = sN j := by
  constructor
  · intro h
    have h1 : s ∈ setsN := by simpa [okS] using h
    obtain ⟨j, hj, e⟩ := List.getElem_of_mem h1
    refine ⟨j, hj, ?_⟩
    rw [sN, List.getD_eq_getElem?_getD, List.getElem?_eq_getElem hj]
    exact e.symm
  · rintro ⟨j, hj, e⟩
    rw [e]
    exact setsN_ok j hj
theorem okA_all {f : Nat → Int32} {c am : Nat → Nat} {x : Nat} : okA f c am 92 x ↔ okG f c x ∧ (am (x / 20)).testBit (x % 20) = true := by
  unfold okA okG okD
  rw [sets_iff]
  constructor
  · rintro ⟨a, b, e⟩; exact ⟨⟨a, b⟩, e⟩
  · rintro ⟨⟨a, b⟩, e⟩; exact ⟨a, b, e⟩
theorem IsBest.congr {ok ok' : Nat → Prop} {g : Nat → Int32} {r : Int32} (h : IsBest ok g r) (e : ∀ x, ok x ↔ ok' x) : IsBest ok' g r := by
  rcases h with ⟨a, b⟩ | ⟨x, a, b, c⟩
  · exact Or.inl ⟨a, fun x hx => b x ((e x).mpr hx)⟩
  · exact Or.inr ⟨x, a, (e x).mp b, fun y hy => c y ((e y).mpr hy)⟩
/-- the row of all manners -/
def Every (M : Mm) : Prop := ∀ s, s < 256 → M.1 33 s = 1048575
set_option maxRecDepth 20000 in
theorem s_favourite {G : Gt} {d : Nat} {M : Mm} (hG : gS G = SHAPE) {c : Nat → Nat} {lt lw ls : Nat → Int32} {fv : Nat → Nat} (hKit : Kit M c lt lw ls fv) (hE : Every M) : ExI G (d + 3) mX2_favourite [.ref 25] M (fun r M' => IsBest (okG (M.1 26) c) (likD lt lw ls) r ∧ M' = M) := by
  refine Ex.of (by decide) (Nat.le_of_ble_eq_true rfl) ?_
  show Go G (d + 3) mX2_favourite 0 [some (.ref 25)] [] M _
  refine Go.aload_n dX2_favourite_0 rfl ?_
  refine Go.aload_n dX2_favourite_1 rfl ?_
  refine Go.getR dX2_favourite_2 flX2_35 (shp hG rfl) rfl ?_
  refine Go.callVI [] dX2_favourite_5 lkX2_111 imX2_favouriteAmong seX2_favouriteAmong cbX2_favouriteAmong (s_among hG hKit (k := 33) (shp hG rfl) (am := fun _ => 1048575) (fun s hs => ⟨hE s hs, (by decide)⟩)) (shp hG rfl) rfl rfl rfl (Nat.le_of_ble_eq_true rfl) (fun r1 M2 hr1 => ?_)
  obtain ⟨hr1, emr1⟩ := hr1
  rw [emr1]
  clear emr1 M2
  refine Go.iret dX2_favourite_8 rfl rfl ?_
  refine ⟨_, rfl, hr1.congr (fun x => ?_), rfl⟩
  rw [okA_all]
  have h9 : ∀ m, m < 20 → (1048575 : Nat).testBit m = true := by decide +kernel
  exact ⟨fun q => q.1, fun q => ⟨q, h9 _ (by omega)⟩⟩
def cookP (f : Nat → Int32) (c : Nat → Nat) (k x : Nat) : Bool := if k = 2 then canN f (x / 20) else goodP f c x
set_option maxRecDepth 20000 in
theorem s_canCook {G : Gt} {d : Nat} {M : Mm} (hG : gS G = SHAPE) {c : Nat → Nat} (hO : OnceIs M c) {k x : Nat} (hk : k < 6) (hx : okD x = true) : ExI G (d + 1) mX2_canCook [.ref 25, .int (nI k), .int (nI x)] M (fun r M' => r = bi (cookP (M.1 26) c k x) ∧ M' = M) := by
  have hx5 := okD_lt hx
  have hs := okS_lt hx
  refine Ex.of (by decide) (Nat.le_of_ble_eq_true rfl) ?_
  show Go G (d + 1) mX2_canCook 0 [some (.ref 25), some (.int (nI k)), some (.int (nI x)), none, none] [] M _
  refine Go.iload_n dX2_canCook_0 rfl ?_
  refine Go.callSI [] dX2_canCook_1 lkX2_117 stX6_setOf cbX6_setOf (s_setOf (nI x)) rfl rfl (Nat.le_of_ble_eq_true rfl) (fun r1 M2 hr1 => ?_)
  obtain ⟨er1, emr1⟩ := hr1
  rw [emr1]
  clear emr1 M2
  subst er1
  refine Go.eqI (y := nI (x / 20)) (iset_nI (by omega)) ?_
  refine Go.istore_n (ls' := [some (.ref 25), some (.int (nI k)), some (.int (nI x)), some (.int (nI (x / 20))), none]) dX2_canCook_4 (Nat.le_of_ble_eq_true rfl) rfl rfl ?_
  refine Go.aload_n dX2_canCook_5 rfl ?_
  refine Go.getR dX2_canCook_6 flX2_9 (shp hG rfl) rfl ?_
  refine Go.callSI [] dX2_canCook_9 lkX2_98 stX6_inStore cbX6_inStore (s_inStore (shp hG rfl)) rfl rfl (Nat.le_of_ble_eq_true rfl) (fun r3 M4 hr3 => ?_)
  obtain ⟨er3, emr3⟩ := hr3
  rw [emr3]
  clear emr3 M4
  subst er3
  refine Go.eqI (y := nI (maskN (posN (M.1 26)) 8)) (rfl) ?_
  refine Go.istore (ls' := [some (.ref 25), some (.int (nI k)), some (.int (nI x)), some (.int (nI (x / 20))), some (.int (nI (maskN (posN (M.1 26)) 8)))]) dX2_canCook_12 (Nat.le_of_ble_eq_true rfl) rfl rfl ?_
  refine Go.iload_n dX2_canCook_14 rfl ?_
  refine Go.iconst (v := 2) dX2_canCook_15 (by decide) ?_
  refine Go.icmp_ne 34 dX2_canCook_16 rfl (fun h16 => ?_) (fun h16 => ?_)
  · have n16 : ¬ k = 2 := fun q => h16 ((nI_inj (a := k) (b := 2) (by omega) (by omega)).mpr q)
    refine Go.aload_n dX2_canCook_34 rfl ?_
    refine Go.iload_n dX2_canCook_35 rfl ?_
    refine Go.iload dX2_canCook_36 rfl ?_
    refine Go.callVI [] dX2_canCook_38 lkX2_102 imX2_servableManners seX2_servableManners cbX2_servableManners (s_servableManners hG (c := c) (s := x / 20) (by omega) hO) (shp hG rfl) rfl rfl rfl (Nat.le_of_ble_eq_true rfl) (fun r5 M6 hr5 => ?_)
    obtain ⟨er5, emr5⟩ := hr5
    rw [emr5]
    clear emr5 M6
    subst er5
    refine Go.iload_n dX2_canCook_41 rfl ?_
    refine Go.callSI [.int (nI (svM (M.1 26) c (x / 20)))] dX2_canCook_42 lkX2_120 stX6_mannerOf cbX6_mannerOf (s_mannerOf (nI x)) rfl rfl (Nat.le_of_ble_eq_true rfl) (fun r7 M8 hr7 => ?_)
    obtain ⟨er7, emr7⟩ := hr7
    rw [emr7]
    clear emr7 M8
    subst er7
    refine Go.eqI (y := nI (x % 20)) (iman_nI (by omega)) ?_
    refine Go.callSI [] dX2_canCook_45 lkX2_78 stX6_hasBit cbX6_hasBit (s_hasBit (nI (svM (M.1 26) c (x / 20))) (nI (x % 20))) rfl rfl (Nat.le_of_ble_eq_true rfl) (fun r9 M10 hr9 => ?_)
    obtain ⟨er9, emr9⟩ := hr9
    rw [emr9]
    clear emr9 M10
    subst er9
    refine Go.eqI (y := bi (goodP (M.1 26) c x)) (by rw [bitI_nI (Nat.lt_trans (svM_lt _ _ _) (by decide)) (by omega), svM_bit _ _ _ _ (by omega), show 20 * (x / 20) + x % 20 = x by omega]) ?_
    refine Go.iret dX2_canCook_48 rfl (bi_nar _) ?_
    refine ⟨_, rfl, ?_, rfl⟩
    rw [cookP, if_neg n16]
  · have n16 : k = 2 := (nI_inj (a := k) (b := 2) (by omega) (by omega)).mp h16
    refine Go.iload_n dX2_canCook_19 rfl ?_
    refine Go.iload dX2_canCook_20 rfl ?_
    refine Go.iconst (v := -1) dX2_canCook_22 (by decide) ?_
    refine Go.ixor dX2_canCook_23 ?_
    refine Go.iand dX2_canCook_24 ?_
    refine Go.if_ne 32 dX2_canCook_25 rfl (fun h25 => ?_) (fun h25 => ?_)
    · refine Go.iconst (v := 0) dX2_canCook_32 (by decide) ?_
      refine Go.iret dX2_canCook_33 rfl (by decide) ?_
      refine ⟨_, rfl, ?_, rfl⟩
      rw [cookP, if_pos n16, can_f hs.1 h25]
      rfl
    · refine Go.iconst (v := 1) dX2_canCook_28 (by decide) ?_
      refine Go.goto 33 dX2_canCook_29 rfl ?_
      refine Go.iret dX2_canCook_33 rfl (by decide) ?_
      refine ⟨_, rfl, ?_, rfl⟩
      rw [cookP, if_pos n16, (can_iff hs.1).mp h25]
      rfl
theorem tk_same (M : Mm) (k s n : Nat) {S : List Nat} (h : k ∈ S) : Same S M (tkM M k s n) := Same.seti M k _ h
set_option maxRecDepth 20000 in
theorem s_cook {G : Gt} {d : Nat} {M : Mm} (hG : gS G = SHAPE) {c : Nat → Nat} (hO : OnceIs M c) {k x ed : Nat} (hk : k < 6) (hx : okD x = true) (he : ed < 4) (hed : M.1 25 2 = nI ed) : ExV G (d + 2) mX2_cook [.ref 25, .int (nI k), .int (nI x)] M (fun M' => OnceIs M' (addC c k x ed) ∧ Same [26, 28, 29] M M' ∧ M'.1 26 = takeF (M.1 26) (x / 20) 8) := by
  have hx5 := okD_lt hx
  refine Ex.of (by decide) (Nat.le_of_ble_eq_true rfl) ?_
  show Go G (d + 2) mX2_cook 0 [some (.ref 25), some (.int (nI k)), some (.int (nI x))] [] M _
  refine Go.aload_n dX2_cook_0 rfl ?_
  refine Go.getR dX2_cook_1 flX2_9 (shp hG rfl) rfl ?_
  refine Go.iload_n dX2_cook_4 rfl ?_
  refine Go.callSV [] dX2_cook_5 lkX2_123 stX6_takeFrom cbX6_takeFrom (s_takeFrom (k := 26) (x := x) (shp hG rfl) (by omega)) rfl rfl (Nat.le_of_ble_eq_true rfl) (fun M2 hr1 => ?_)
  refine Go.aload_n dX2_cook_8 rfl ?_
  refine Go.getR dX2_cook_9 flX2_18 (shp hG rfl) rfl ?_
  refine Go.iload_n dX2_cook_12 rfl ?_
  refine Go.iload_n dX2_cook_13 rfl ?_
  refine Go.aload_n dX2_cook_14 rfl ?_
  refine Go.getI dX2_cook_15 flX2_22 (shp hG rfl) rfl ?_
  refine Go.eqI (y := nI ed) (by rw [hr1]; exact hed) ?_
  refine Go.callVV [] dX2_cook_18 lkX2_126 imX0_bar seX0_bar cbX0_bar (s_bar hG (c := c) (k := k) (x := x) (ed := ed) hk hx he (by rw [hr1]; exact hO.same rfl rfl)) (shp hG rfl) rfl rfl rfl (Nat.le_of_ble_eq_true rfl) (fun M4 hr3 => ?_)
  refine Go.vret dX2_cook_21 rfl ?_
  refine ⟨rfl, hr3.1, ?_, ?_⟩
  · rw [hr1] at hr3
    exact (tk_same M 26 _ _ (by decide)).trans (hr3.2.mono (by decide))
  · rw [hr3.2.1 26 (by decide), hr1]
    simp [tkM, seti]
