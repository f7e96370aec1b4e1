/-- while a manner is being put in: places below p are as they were, those above p up to m are moved up by one -/
def Mid (N : Mm) (fv : Nat → Nat) (p m : Nat) : Prop := (∀ i, i < p → N.1 32 i = nI (fv i)) ∧ ∀ i, p < i → i ≤ m → N.1 32 i = nI (fv (i - 1))
set_option maxRecDepth 20000 in
theorem l_rank {G : Gt} {d : Nat} {M : Mm} (hG : gS G = SHAPE) {g : Nat → Int32} {fv : Nat → Nat} {m : Nat} (hm : m < 20) (hsr : Srt g fv m) {post : Option Value → Mm → Prop} (hout : ∀ (p : Nat) (N : Mm), p ≤ m → Mid N fv p m → Same [32] M N → (0 < p → g m ≤ g (fv (p - 1))) → (∀ j, p ≤ j → j < m → g (fv j) < g m) → Go G d mX2_rankManners 56 [some (.ref 25), some (.int (nI m)), some (.int (nI p))] [] N post) : ∀ (p : Nat) (N : Mm), p ≤ m → Mid N fv p m → Same [32] M N → N.1 31 = g → (∀ j, p ≤ j → j < m → g (fv j) < g m) → Go G d mX2_rankManners 10 [some (.ref 25), some (.int (nI m)), some (.int (nI p))] [] N post := by
  intro p
  induction p with
  | zero =>
    intro N hp hM hS hg hhi
    refine Go.iload_n dX2_rankManners_10 rfl ?_
    refine Go.if_le 56 dX2_rankManners_11 rfl (fun _ => ?_) (fun h11 => absurd (by decide) h11)
    exact hout 0 N (by omega) hM hS (fun h9 => absurd h9 (by decide)) hhi
  | succ p ih =>
    intro N hp hM hS hg hhi
    have hf := hsr.1 p (by omega)
    refine Go.iload_n dX2_rankManners_10 rfl ?_
    refine Go.if_le 56 dX2_rankManners_11 rfl (fun h11 => absurd h11 (nI_nle (n := p + 1) (by omega) (by omega))) (fun _ => ?_)
    refine Go.aload_n dX2_rankManners_14 rfl ?_
    refine Go.getR dX2_rankManners_15 flX2_29 (shp hG rfl) rfl ?_
    refine Go.aload_n dX2_rankManners_18 rfl ?_
    refine Go.getR dX2_rankManners_19 flX2_32 (shp hG rfl) rfl ?_
    refine Go.iload_n dX2_rankManners_22 rfl ?_
    refine Go.iconst (v := 1) dX2_rankManners_23 (by decide) ?_
    refine Go.isub dX2_rankManners_24 ?_
    refine Go.eqI (y := nI p) (nI_pred p) ?_
    refine Go.iald dX2_rankManners_25 (shp hG rfl) (vin (by omega) (by decide)) ?_
    refine Go.eqI (y := nI (fv p)) (by rw [ncl (by omega)]; exact hM.1 p (by omega)) ?_
    refine Go.iald dX2_rankManners_26 (shp hG rfl) (vin (by omega) (by decide)) ?_
    refine Go.eqI (y := g (fv p)) (by rw [ncl (by omega), hg]) ?_
    refine Go.aload_n dX2_rankManners_27 rfl ?_
    refine Go.getR dX2_rankManners_28 flX2_29 (shp hG rfl) rfl ?_
    refine Go.iload_n dX2_rankManners_31 rfl ?_
    refine Go.iald dX2_rankManners_32 (shp hG rfl) (vin (by omega) (by decide)) ?_
    refine Go.eqI (y := g m) (by rw [ncl (by omega), hg]) ?_
    refine Go.icmp_ge 56 dX2_rankManners_33 rfl (fun h33 => ?_) (fun h33 => ?_)
    · exact hout (p + 1) N (by omega) hM hS (fun _ => h33) hhi
    · refine Go.aload_n dX2_rankManners_36 rfl ?_
      refine Go.getR dX2_rankManners_37 flX2_32 (shp hG rfl) rfl ?_
      refine Go.iload_n dX2_rankManners_40 rfl ?_
      refine Go.aload_n dX2_rankManners_41 rfl ?_
      refine Go.getR dX2_rankManners_42 flX2_32 (shp hG rfl) rfl ?_
      refine Go.iload_n dX2_rankManners_45 rfl ?_
      refine Go.iconst (v := 1) dX2_rankManners_46 (by decide) ?_
      refine Go.isub dX2_rankManners_47 ?_
      refine Go.eqI (y := nI p) (nI_pred p) ?_
      refine Go.iald dX2_rankManners_48 (shp hG rfl) (vin (by omega) (by decide)) ?_
      refine Go.eqI (y := nI (fv p)) (by rw [ncl (by omega)]; exact hM.1 p (by omega)) ?_
      refine Go.iast dX2_rankManners_49 (shp hG rfl) (vin (by omega) (by decide)) ?_
      refine Go.nmM (fun N1 eN1 => ?_)
      refine Go.iinc (v := nI p) (ls' := [some (.ref 25), some (.int (nI m)), some (.int (nI p))]) dX2_rankManners_50 rfl (pk_m1 p) rfl rfl ?_
      refine Go.goto 10 dX2_rankManners_53 rfl ?_
      refine ih N1 (by omega) ?_ (by rw [eN1]; exact hS.trans (Same.upi _ 32 _ _ (by decide))) (by rw [eN1, rd_ne (by decide)]; exact hg) (fun j h1 h2 => ?_)
      · refine ⟨fun i hi => ?_, fun i h1 h2 => ?_⟩
        · rw [eN1, ncl (by omega), rd_eq]
          unfold upd
          rw [if_neg (by omega)]
          exact hM.1 i (by omega)
        · rw [eN1, ncl (by omega), rd_eq]
          unfold upd
          by_cases hq : i = p + 1
          · rw [if_pos hq, hq]
            rfl
          · rw [if_neg hq]
            exact hM.2 i (by omega) h2
      · by_cases hq : j = p
        · rw [hq]; exact i_nle h33
        · exact hhi j (by omega) h2
set_option maxRecDepth 20000 in
theorem l_rank2 {G : Gt} {d : Nat} {M : Mm} (hG : gS G = SHAPE) : ∀ (n i : Nat) (N : Mm) (a2 : Int32) (fv : Nat → Nat), i + n = 20 → Same [32] M N → Srt (M.1 31) fv i → (∀ q, q < i → N.1 32 q = nI (fv q)) → Go G d mX2_rankManners 2 [some (.ref 25), some (.int (nI i)), some (.int a2)] [] N (fun v M' => v = none ∧ Same [32] M M' ∧ ∃ fv, Srt (M.1 31) fv 20 ∧ ∀ i, i < 20 → M'.1 32 i = nI (fv i)) := by
  intro n
  induction n with
  | zero =>
    intro i N a2 fv hin hS hsr hv
    refine Go.iload_n dX2_rankManners_2 rfl ?_
    refine Go.bipush (v := 20) dX2_rankManners_3 (by decide) ?_
    refine Go.icmp_ge 69 dX2_rankManners_5 rfl (fun _ => ?_) (fun h5 => absurd (nI_le (a := 20) (b := i) (by omega) (by omega)) h5)
    refine Go.vret dX2_rankManners_69 rfl ?_
    have e9 : i = 20 := by omega
    subst e9
    exact ⟨rfl, hS, fv, hsr, hv⟩
  | succ n ih =>
    intro i N a2 fv hin hS hsr hv
    have hi : i < 20 := by omega
    refine Go.iload_n dX2_rankManners_2 rfl ?_
    refine Go.bipush (v := 20) dX2_rankManners_3 (by decide) ?_
    refine Go.icmp_ge 69 dX2_rankManners_5 rfl (fun h5 => absurd h5 (nI_ge (a := i) (b := 20) (by omega) (by omega))) (fun _ => ?_)
    refine Go.iload_n dX2_rankManners_8 rfl ?_
    refine Go.istore_n (ls' := [some (.ref 25), some (.int (nI i)), some (.int (nI i))]) dX2_rankManners_9 (Nat.le_of_ble_eq_true rfl) rfl rfl ?_
    refine l_rank hG (M := M) hi hsr (fun p L hp hM hS2 hlo hhi => ?_) i N (Nat.le_refl _) ⟨hv, fun q h1 h2 => by omega⟩ hS (hS.1 31 (by decide)) (fun j h1 h2 => by omega)
    refine Go.aload_n dX2_rankManners_56 rfl ?_
    refine Go.getR dX2_rankManners_57 flX2_32 (shp hG rfl) rfl ?_
    refine Go.iload_n dX2_rankManners_60 rfl ?_
    refine Go.iload_n dX2_rankManners_61 rfl ?_
    refine Go.iast dX2_rankManners_62 (shp hG rfl) (vin (by omega) (by decide)) ?_
    refine Go.nmM (fun N1 eN1 => ?_)
    refine Go.iinc (v := nI (i + 1)) (ls' := [some (.ref 25), some (.int (nI (i + 1))), some (.int (nI p))]) dX2_rankManners_63 rfl (nI_1 _) rfl rfl ?_
    refine Go.goto 2 dX2_rankManners_66 rfl ?_
    refine ih (i + 1) N1 _ (insF fv p i) (by omega) (by rw [eN1]; exact hS2.trans (Same.upi _ 32 _ _ (by decide))) (hsr.ins hp hlo hhi) (fun q hq => ?_)
    rw [eN1, ncl (by omega), rd_eq]
    unfold upd insF
    by_cases h1 : q < p
    · rw [if_neg (by omega), if_pos h1]; exact hM.1 q h1
    · by_cases h2 : q = p
      · rw [if_pos h2, if_neg h1, if_pos h2]
      · rw [if_neg h2, if_neg h1, if_neg h2]; exact hM.2 q (by omega) (by omega)
set_option maxRecDepth 20000 in
theorem s_rankManners {G : Gt} {d : Nat} {M : Mm} (hG : gS G = SHAPE) : ExV G d mX2_rankManners [.ref 25] M (fun M' => Same [32] M M' ∧ ∃ fv, Srt (M.1 31) fv 20 ∧ ∀ i, i < 20 → M'.1 32 i = nI (fv i)) := by
  refine Ex.of (by decide) (Nat.le_of_ble_eq_true rfl) ?_
  show Go G d mX2_rankManners 0 [some (.ref 25), none, none] [] M _
  refine Go.iconst (v := 0) dX2_rankManners_0 (by decide) ?_
  refine Go.istore_n (ls' := [some (.ref 25), some (.int 0), none]) dX2_rankManners_1 (Nat.le_of_ble_eq_true rfl) rfl rfl ?_
  refine Go.iload_n dX2_rankManners_2 rfl ?_
  refine Go.bipush (v := 20) dX2_rankManners_3 (by decide) ?_
  refine Go.icmp_ge 69 dX2_rankManners_5 rfl (fun h5 => absurd h5 (nI_ge (a := 0) (b := 20) (by omega) (by decide))) (fun _ => ?_)
  refine Go.iload_n dX2_rankManners_8 rfl ?_
  refine Go.istore_n (ls' := [some (.ref 25), some (.int 0), some (.int 0)]) dX2_rankManners_9 (Nat.le_of_ble_eq_true rfl) rfl rfl ?_
  refine Go.iload_n dX2_rankManners_10 rfl ?_
  refine Go.if_le 56 dX2_rankManners_11 rfl (fun _ => ?_) (fun h11 => absurd (by decide) h11)
  refine Go.aload_n dX2_rankManners_56 rfl ?_
  refine Go.getR dX2_rankManners_57 flX2_32 (shp hG rfl) rfl ?_
  refine Go.iload_n dX2_rankManners_60 rfl ?_
  refine Go.iload_n dX2_rankManners_61 rfl ?_
  refine Go.iast dX2_rankManners_62 (shp hG rfl) (vin (i := 0) (by decide) (by decide)) ?_
  refine Go.nmM (fun N1 eN1 => ?_)
  refine Go.iinc (v := nI (0 + 1)) (ls' := [some (.ref 25), some (.int (nI (0 + 1))), some (.int 0)]) dX2_rankManners_63 rfl (nI_1 _) rfl rfl ?_
  refine Go.goto 2 dX2_rankManners_66 rfl ?_
  refine l_rank2 hG 19 1 N1 _ (fun _ => 0) (by omega) (by rw [eN1]; exact Same.upi _ 32 _ _ (by decide)) ⟨fun i hi => (by decide : (0 : Nat) < 1), fun q hq => ⟨0, by omega, (by omega : (0 : Nat) = q)⟩, fun i j h1 h2 => by omega⟩ (fun q hq => ?_)
  have hq0 : q = 0 := by omega
  subst hq0
  rw [eN1, rd_eq]
  rfl
def Fav (M : Mm) (g : Nat → Int32) (fv : Nat → Nat) : Prop := Srt g fv 20 ∧ ∀ i, i < 20 → M.1 32 i = nI (fv i)
/-- the best one of those, by what is liked, the least first; -1 if there is none -/
def IsBest (ok : Nat → Prop) (g : Nat → Int32) (r : Int32) : Prop := (r = -1 ∧ ∀ x, ¬ ok x) ∨ ∃ x, r = nI x ∧ ok x ∧ ∀ y, ok y → y = x ∨ ahead g x y
theorem ahead_irr {g : Nat → Int32} {a b : Nat} (h1 : ahead g a b) (h2 : ahead g b a) : False := by
  rcases h1 with h1 | h1 <;> rcases h2 with h2 | h2
  · rw [i_lt] at h1 h2; omega
  · have := h2.1; rw [this, i_lt] at h1; omega
  · have := h1.1; rw [this, i_lt] at h2; omega
  · omega
theorem IsBest.uniq {ok : Nat → Prop} {g : Nat → Int32} {r r' : Int32} (h : IsBest ok g r) (h' : IsBest ok g r') : r = r' := by
  rcases h with ⟨a, b⟩ | ⟨x, a, b, c⟩ <;> rcases h' with ⟨a', b'⟩ | ⟨x', a', b', c'⟩
  · rw [a, a']
  · exact absurd b' (b x')
  · exact absurd b (b' x)
  · rcases c x' b' with e | e
    · rw [a, a', e]
    · rcases c' x b with e2 | e2
      · rw [a, a', e2]
      · exact absurd (ahead_irr e e2) (fun q => q)
set_option maxRecDepth 20000 in
theorem l_favMan {G : Gt} {d : Nat} {M : Mm} (hG : gS G = SHAPE) {g : Nat → Int32} {fv : Nat → Nat} (hF : Fav M g fv) {w : Nat} (hw : w < 2 ^ 20) : ∀ (n i : Nat), i + n = 20 → (∀ j, j < i → w.testBit (fv j) = false) → Go G (d + 1) mX2_favouriteManner 8 [some (.ref 25), some (.int (nI w)), some (.int (nI i))] [] M (fun v M' => ∃ r, v = some (.int r) ∧ IsBest (fun m => m < 20 ∧ w.testBit m = true) g r ∧ M' = M) := by
  intro n
  induction n with
  | zero =>
    intro i  hin hno
    refine Go.iload_n dX2_favouriteManner_8 rfl ?_
    refine Go.bipush (v := 20) dX2_favouriteManner_9 (by decide) ?_
    refine Go.icmp_ge 40 dX2_favouriteManner_11 rfl (fun _ => ?_) (fun h11 => absurd (nI_le (a := 20) (b := i) (by omega) (by omega)) h11)
    refine Go.iconst (v := -1) dX2_favouriteManner_40 (by decide) ?_
    refine Go.iret dX2_favouriteManner_41 rfl rfl ?_
    have e9 : i = 20 := by omega
    subst e9
    refine ⟨_, rfl, Or.inl ⟨rfl, fun x hx => ?_⟩, rfl⟩
    obtain ⟨j, h1, h2⟩ := hF.1.2.1 x hx.1
    rw [← h2, hno j h1] at hx
    exact absurd hx.2 (by decide)
  | succ n ih =>
    intro i  hin hno
    have hi : i < 20 := by omega
    have hfi := hF.1.1 i hi
    refine Go.iload_n dX2_favouriteManner_8 rfl ?_
    refine Go.bipush (v := 20) dX2_favouriteManner_9 (by decide) ?_
    refine Go.icmp_ge 40 dX2_favouriteManner_11 rfl (fun h11 => absurd h11 (nI_ge (a := i) (b := 20) (by omega) (by omega))) (fun _ => ?_)
    refine Go.iload_n dX2_favouriteManner_14 rfl ?_
    refine Go.aload_n dX2_favouriteManner_15 rfl ?_
    refine Go.getR dX2_favouriteManner_16 flX2_32 (shp hG rfl) rfl ?_
    refine Go.iload_n dX2_favouriteManner_19 rfl ?_
    refine Go.iald dX2_favouriteManner_20 (shp hG rfl) (vin (by omega) (by decide)) ?_
    refine Go.eqI (y := nI (fv i)) (by rw [ncl (by omega)]; exact hF.2 i (by omega)) ?_
    refine Go.callSI [] dX2_favouriteManner_21 lkX2_78 stX6_hasBit cbX6_hasBit (s_hasBit (nI w) (nI (fv i))) rfl rfl (Nat.le_of_ble_eq_true rfl) (fun r1 M2 hr1 => ?_)
    obtain ⟨er1, emr1⟩ := hr1
    rw [emr1]
    clear emr1 M2
    subst er1
    refine Go.eqI (y := bi (w.testBit (fv i))) (by rw [bitI_nI (by omega) (by omega)]) ?_
    refine Go.if_eq 34 dX2_favouriteManner_24 rfl (fun h24 => ?_) (fun h24 => ?_)
    · refine Go.iinc (v := nI (i + 1)) (ls' := [some (.ref 25), some (.int (nI w)), some (.int (nI (i + 1)))]) dX2_favouriteManner_34 rfl (nI_1 _) rfl rfl ?_
      refine Go.goto 8 dX2_favouriteManner_37 rfl ?_
      exact ih (i + 1) (by omega) (fun j hj => by
        by_cases e1 : j = i
        · rw [e1]; exact bi_0.mp h24
        · exact hno j (by omega))
    · refine Go.aload_n dX2_favouriteManner_27 rfl ?_
      refine Go.getR dX2_favouriteManner_28 flX2_32 (shp hG rfl) rfl ?_
      refine Go.iload_n dX2_favouriteManner_31 rfl ?_
      refine Go.iald dX2_favouriteManner_32 (shp hG rfl) (vin (by omega) (by decide)) ?_
      refine Go.eqI (y := nI (fv i)) (by rw [ncl (by omega)]; exact hF.2 i (by omega)) ?_
      refine Go.iret dX2_favouriteManner_33 rfl rfl ?_
      refine ⟨_, rfl, Or.inr ⟨fv i, rfl, ⟨hfi, bi_n0.mp h24⟩, fun y hy => ?_⟩, rfl⟩
      obtain ⟨j, h1, h2⟩ := hF.1.2.1 y hy.1
      by_cases e1 : j = i
      · exact Or.inl (by rw [← h2, e1])
      · by_cases e2 : j < i
        · rw [← h2, hno j e2] at hy
          exact absurd hy.2 (by decide)
        · exact Or.inr (by rw [← h2]; exact hF.1.2.2 i j (by omega) h1)
set_option maxRecDepth 20000 in
theorem s_favMan {G : Gt} {d : Nat} {M : Mm} (hG : gS G = SHAPE) {g : Nat → Int32} {fv : Nat → Nat} (hF : Fav M g fv) {w : Nat} (hw : w < 2 ^ 20) : ExI G (d + 1) mX2_favouriteManner [.ref 25, .int (nI w)] M (fun r M' => IsBest (fun m => m < 20 ∧ w.testBit m = true) g r ∧ M' = M) := by
  refine Ex.of (by decide) (Nat.le_of_ble_eq_true rfl) ?_
  show Go G (d + 1) mX2_favouriteManner 0 [some (.ref 25), some (.int (nI w)), none] [] M _
  refine Go.iload_n dX2_favouriteManner_0 rfl ?_
  refine Go.if_ne 6 dX2_favouriteManner_1 rfl (fun h1 => ?_) (fun h1 => ?_)
  · have n1 : ¬ w = 0 := fun q => h1 ((nI_inj (a := w) (b := 0) (by omega) (by omega)).mpr q)
    refine Go.iconst (v := 0) dX2_favouriteManner_6 (by decide) ?_
    refine Go.istore_n (ls' := [some (.ref 25), some (.int (nI w)), some (.int 0)]) dX2_favouriteManner_7 (Nat.le_of_ble_eq_true rfl) rfl rfl ?_
    exact l_favMan hG hF hw 20 0 (by omega) (fun j hj => by omega)
  · have n1 : w = 0 := (nI_inj (a := w) (b := 0) (by omega) (by omega)).mp h1
    refine Go.iconst (v := -1) dX2_favouriteManner_4 (by decide) ?_
    refine Go.iret dX2_favouriteManner_5 rfl rfl ?_
    refine ⟨_, rfl, Or.inl ⟨rfl, fun x hx => ?_⟩, rfl⟩
    rw [n1] at hx
    simp at hx
