def bestP (ok : Nat → Prop) (g : Nat → Int32) (x : Nat) : Prop := ok x ∧ ∀ y, ok y → y = x ∨ ahead g x y
noncomputable def bst (ok : Nat → Prop) (g : Nat → Int32) : Option Nat := by
  classical
  exact if h : ∃ x, bestP ok g x then some h.choose else none
theorem bestP_uniq {ok : Nat → Prop} {g : Nat → Int32} {x y : Nat} (h1 : bestP ok g x) (h2 : bestP ok g y) : x = y := by
  rcases h1.2 y h2.1 with e | e
  · exact e.symm
  · rcases h2.2 x h1.1 with e2 | e2
    · exact e2
    · exact absurd (ahead_irr e e2) (fun q => q)
theorem bst_some {ok : Nat → Prop} {g : Nat → Int32} {x : Nat} (h : bestP ok g x) : bst ok g = some x := by
  unfold bst
  have hx : ∃ x, bestP ok g x := ⟨x, h⟩
  rw [dif_pos hx]
  exact congrArg some (bestP_uniq hx.choose_spec h)
theorem bst_spec {ok : Nat → Prop} {g : Nat → Int32} {x : Nat} (h : bst ok g = some x) : bestP ok g x := by
  unfold bst at h
  split at h
  · rename_i hx
    cases h
    exact hx.choose_spec
  · cases h
theorem bst_none {ok : Nat → Prop} {g : Nat → Int32} (h : ∀ x, ¬ ok x) : bst ok g = none := by
  cases e : bst ok g with
  | none => rfl
  | some x => exact absurd (bst_spec e).1 (h x)
theorem IsBest.bst {ok : Nat → Prop} {g : Nat → Int32} {r : Int32} (h : IsBest ok g r) : (r = -1 ∧ bst ok g = none) ∨ ∃ x, r = nI x ∧ bst ok g = some x := by
  rcases h with ⟨a, b⟩ | ⟨x, a, b, c⟩
  · exact Or.inl ⟨a, bst_none b⟩
  · exact Or.inr ⟨x, a, bst_some ⟨b, c⟩⟩
theorem bst_congr {ok ok' : Nat → Prop} {g g' : Nat → Int32} (h : ∀ x, ok x ↔ ok' x) (hg : g = g') : bst ok g = bst ok' g' := by
  have : ok = ok' := funext (fun x => propext (h x))
  rw [this, hg]
/-- the kitchen as it is while meals are tried out -/
def Kst (M : Mm) (f : Nat → Int32) (c : Nat → Nat) (lt lw ls : Nat → Int32) (ed : Nat) : Prop := (∃ fv, Kit M c lt lw ls fv) ∧ Every M ∧ M.1 25 2 = nI ed ∧ ed < 4 ∧ M.1 26 = f
theorem Kst.cooked {M M' : Mm} {f : Nat → Int32} {c : Nat → Nat} {lt lw ls : Nat → Int32} {ed k x : Nat} (h : Kst M f c lt lw ls ed) (h1 : OnceIs M' (addC c k x ed)) (h2 : Same [26, 28, 29] M M') (h3 : M'.1 26 = takeF (M.1 26) (x / 20) 8) : Kst M' (takeF f (x / 20) 8) (addC c k x ed) lt lw ls ed := by
  obtain ⟨⟨fv, a1, a2, a3, a4, a5, a6⟩, b, e1, e2, e3⟩ := h
  have g31 := h2.1 31 (by decide)
  refine ⟨⟨fv, h1, addC_out a2, fun j hj => by rw [h2.1 30 (by decide)]; exact a3 j hj, fun m hm => by rw [g31]; exact a4 m hm, ⟨by rw [g31]; exact a5.1, fun i hi => by rw [h2.1 32 (by decide)]; exact a5.2 i hi⟩, a6⟩, fun s hs => by rw [h2.1 33 (by decide)]; exact b s hs, by rw [h2.1 25 (by decide)]; exact e1, e2, by rw [h3, e3]⟩
/-- what a meal of the favourite comes to -/
def Cooked (M M' : Mm) (f : Nat → Int32) (c : Nat → Nat) (lt lw ls : Nat → Int32) (ed k : Nat) (r : Int32) : Prop := (r = -1 ∧ bst (okG f c) (likD lt lw ls) = none ∧ M' = M) ∨ ∃ x, r = nI x ∧ x < 5120 ∧ bst (okG f c) (likD lt lw ls) = some x ∧ Kst M' (takeF f (x / 20) 8) (addC c k x ed) lt lw ls ed ∧ Same [26, 28, 29] M M'
set_option maxRecDepth 20000 in
theorem s_cookFav {G : Gt} {d : Nat} {M : Mm} (hG : gS G = SHAPE) {f : Nat → Int32} {c : Nat → Nat} {lt lw ls : Nat → Int32} {ed : Nat} (hS : Kst M f c lt lw ls ed) {k : Nat} (hk : k < 6) : ExI G (d + 4) mX2_cookFavourite [.ref 25, .int (nI k)] M (fun r M' => Cooked M M' f c lt lw ls ed k r) := by
  refine Ex.of (by decide) (Nat.le_of_ble_eq_true rfl) ?_
  have hS0 := hS
  obtain ⟨⟨fv, hKit⟩, hE, hed, he, hf⟩ := hS
  subst hf
  show Go G (d + 4) mX2_cookFavourite 0 [some (.ref 25), some (.int (nI k)), none] [] M _
  have j5 : ∀ r : Int32, IsBest (okG (M.1 26) c) (likD lt lw ls) r → Go G (d + 4) mX2_cookFavourite 5 [some (.ref 25), some (.int (nI k)), some (.int r)] [] M (fun v M' => ∃ x, v = some (.int x) ∧ Cooked M M' (M.1 26) c lt lw ls ed k x) := by
    intro r hr
    rcases hr.bst with ⟨e, hb⟩ | ⟨x, e, hb⟩
    · rw [e]
      refine Go.iload_n dX2_cookFavourite_5 rfl ?_
      refine Go.if_lt 15 dX2_cookFavourite_6 rfl (fun _ => ?_) (fun h6 => absurd (by decide) h6)
      refine Go.iload_n dX2_cookFavourite_15 rfl ?_
      refine Go.iret dX2_cookFavourite_16 rfl rfl ?_
      exact ⟨_, rfl, Or.inl ⟨rfl, hb, rfl⟩⟩
    · rw [e]
      have hx : okD x = true := (bst_spec hb).1.1
      have hx5 := okD_lt hx
      refine Go.iload_n dX2_cookFavourite_5 rfl ?_
      refine Go.if_lt 15 dX2_cookFavourite_6 rfl (fun h6 => absurd h6 (nI_pos (by omega))) (fun _ => ?_)
      refine Go.aload_n dX2_cookFavourite_9 rfl ?_
      refine Go.iload_n dX2_cookFavourite_10 rfl ?_
      refine Go.iload_n dX2_cookFavourite_11 rfl ?_
      refine Go.callVV [] dX2_cookFavourite_12 lkX2_134 imX2_cook seX2_cook cbX2_cook (s_cook hG hKit.1 hk hx he hed) (shp hG rfl) rfl rfl rfl (Nat.le_of_ble_eq_true rfl) (fun M2 hr1 => ?_)
      refine Go.iload_n dX2_cookFavourite_15 rfl ?_
      refine Go.iret dX2_cookFavourite_16 rfl rfl ?_
      exact ⟨_, rfl, Or.inr ⟨x, rfl, hx5.1, hb, hS0.cooked hr1.1 hr1.2.1 hr1.2.2, hr1.2.1⟩⟩
  refine Go.aload_n dX2_cookFavourite_0 rfl ?_
  refine Go.callVI [] dX2_cookFavourite_1 lkX2_130 imX2_favourite seX2_favourite cbX2_favourite (s_favourite hG hKit hE) (shp hG rfl) rfl rfl rfl (Nat.le_of_ble_eq_true rfl) (fun r1 M2 hr1 => ?_)
  obtain ⟨hr1, emr1⟩ := hr1
  rw [emr1]
  clear emr1 M2
  refine Go.istore_n (ls' := [some (.ref 25), some (.int (nI k)), some (.int r1)]) dX2_cookFavourite_4 (Nat.le_of_ble_eq_true rfl) rfl rfl ?_
  exact j5 _ hr1
/-- how many meals there are, one behind the other -/
noncomputable def lastN (g : Nat → Int32) (ed k : Nat) : Nat → (Nat → Int32) → (Nat → Nat) → Nat
  | 0, _, _ => 0
  | n + 1, f, c => match bst (okG f c) g with
    | none => 0
    | some x => lastN g ed k n (takeF f (x / 20) 8) (addC c k x ed) + 1
theorem lastN_le (g : Nat → Int32) (ed k : Nat) : ∀ n f c, lastN g ed k n f c ≤ n
  | 0, _, _ => Nat.le_refl 0
  | n + 1, f, c => by
    rw [lastN]
    split
    · omega
    · rename_i x _
      have := lastN_le g ed k n (takeF f (x / 20) 8) (addC c k x ed)
      omega
set_option maxRecDepth 20000 in
theorem l_mealsLeft {G : Gt} {d : Nat} {M : Mm} (hG : gS G = SHAPE) {lt lw ls : Nat → Int32} {ed : Nat} {k : Nat} (hk : k < 6) {T : Nat} : ∀ (n i : Nat) (N : Mm) (f : Nat → Int32) (c : Nat → Nat), i + n = 60 → Kst N f c lt lw ls ed → Same [26, 28, 29] M N → T = i + lastN (likD lt lw ls) ed k n f c → Go G (d + 5) mX2_mealsLeft 2 [some (.ref 25), some (.int (nI k)), some (.int (nI i))] [] N (fun v M' => ∃ r, v = some (.int r) ∧ r = nI T ∧ Same [26, 28, 29] M M') := by
  intro n
  induction n with
  | zero =>
    intro i N f c hin hS hSm hT
    refine Go.iload_n dX2_mealsLeft_2 rfl ?_
    refine Go.bipush (v := 60) dX2_mealsLeft_3 (by decide) ?_
    refine Go.icmp_ge 24 dX2_mealsLeft_5 rfl (fun _ => ?_) (fun h5 => absurd (nI_le (a := 60) (b := i) (by omega) (by omega)) h5)
    refine Go.bipush (v := 60) dX2_mealsLeft_24 (by decide) ?_
    refine Go.iret dX2_mealsLeft_26 rfl rfl ?_
    have e9 : i = 60 := by omega
    exact ⟨_, rfl, by rw [hT, lastN, e9]; rfl, hSm⟩
  | succ n ih =>
    intro i N f c hin hS hSm hT
    have hi : i < 60 := by omega
    have j13 : ∀ (r : Int32) (L : Mm), Cooked N L f c lt lw ls ed k r → Go G (d + 5) mX2_mealsLeft 13 [some (.ref 25), some (.int (nI k)), some (.int (nI i))] [.int r] L (fun v M' => ∃ r, v = some (.int r) ∧ r = nI T ∧ Same [26, 28, 29] M M') := by
      intro r L hr
      rcases hr with ⟨e, hb, eL⟩ | ⟨x, e, hx, hb, hK2, hSm2⟩
      · rw [e]
        refine Go.if_ge 18 dX2_mealsLeft_13 rfl (fun h13 => absurd h13 (by decide)) (fun _ => ?_)
        refine Go.iload_n dX2_mealsLeft_16 rfl ?_
        refine Go.iret dX2_mealsLeft_17 rfl rfl ?_
        exact ⟨_, rfl, by rw [hT, lastN, hb]; rfl, by rw [eL]; exact hSm⟩
      · rw [e]
        refine Go.if_ge 18 dX2_mealsLeft_13 rfl (fun _ => ?_) (fun h13 => absurd (nI_pos' (by omega)) h13)
        refine Go.iinc (v := nI (i + 1)) (ls' := [some (.ref 25), some (.int (nI k)), some (.int (nI (i + 1)))]) dX2_mealsLeft_18 rfl (nI_1 _) rfl rfl ?_
        refine Go.goto 2 dX2_mealsLeft_21 rfl ?_
        refine ih (i + 1) L _ _ (by omega) hK2 (hSm.trans hSm2) ?_
        rw [hT, lastN, hb]
        show i + (lastN (likD lt lw ls) ed k n (takeF f (x / 20) 8) (addC c k x ed) + 1) = _
        omega
    refine Go.iload_n dX2_mealsLeft_2 rfl ?_
    refine Go.bipush (v := 60) dX2_mealsLeft_3 (by decide) ?_
    refine Go.icmp_ge 24 dX2_mealsLeft_5 rfl (fun h5 => absurd h5 (nI_ge (a := i) (b := 60) (by omega) (by omega))) (fun _ => ?_)
    refine Go.aload_n dX2_mealsLeft_8 rfl ?_
    refine Go.iload_n dX2_mealsLeft_9 rfl ?_
    refine Go.callVI [] dX2_mealsLeft_10 lkX2_138 imX2_cookFavourite seX2_cookFavourite cbX2_cookFavourite (s_cookFav hG hS hk) (shp hG rfl) rfl rfl rfl (Nat.le_of_ble_eq_true rfl) (fun r1 M2 hr1 => ?_)
    exact j13 _ _ hr1
set_option maxRecDepth 20000 in
theorem s_mealsLeft {G : Gt} {d : Nat} {M : Mm} (hG : gS G = SHAPE) {f : Nat → Int32} {c : Nat → Nat} {lt lw ls : Nat → Int32} {ed : Nat} (hS : Kst M f c lt lw ls ed) {k : Nat} (hk : k < 6) : ExI G (d + 5) mX2_mealsLeft [.ref 25, .int (nI k)] M (fun r M' => r = nI (lastN (likD lt lw ls) ed k 60 f c) ∧ Same [26, 28, 29] M M') := by
  refine Ex.of (by decide) (Nat.le_of_ble_eq_true rfl) ?_
  show Go G (d + 5) mX2_mealsLeft 0 [some (.ref 25), some (.int (nI k)), none] [] M _
  refine Go.iconst (v := 0) dX2_mealsLeft_0 (by decide) ?_
  refine Go.istore_n (ls' := [some (.ref 25), some (.int (nI k)), some (.int 0)]) dX2_mealsLeft_1 (Nat.le_of_ble_eq_true rfl) rfl rfl ?_
  exact l_mealsLeft hG hk 60 0 M f c (by omega) hS (Same.refl _ _) (by omega)
