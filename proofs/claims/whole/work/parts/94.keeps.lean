theorem ite_ok {c : Prop} [Decidable c] {x y : Int32 × Sg} (h1 : c → SgOk x.2) (h2 : ¬ c → SgOk y.2) : SgOk (if c then x else y).2 := by
  split
  · exact h1 (by assumption)
  · exact h2 (by assumption)
theorem tN_lt {k : Int32} {n : Nat} (h : inb k (nI n) = true) (hn : n < 2 ^ 31) : tN k < n := by
  obtain ⟨j, hj, e⟩ := inb_ex h hn
  rw [e, tN_nI (by omega)]
  exact hj
theorem tN_dish {x : Int32} (h : isDishI x = true) : okD (tN x) = true := by
  obtain ⟨y, hy, e, h2⟩ := isDishI_ok h
  rw [e, tN_nI (by omega)]
  exact h2
theorem ok_orn {g : Sg} (h : SgOk g) (o : Option Nat) : SgOk (ornS g o).2 := by cases o <;> exact h
theorem ok_store {g : Sg} (h : SgOk g) (t v : Int32) : SgOk (A_store g t v).2 := ite_ok (fun _ => h.setU h.1) (fun _ => h)
theorem ok_storeOf {g : Sg} (h : SgOk g) (t : Int32) : SgOk (A_storeOf g t).2 := by
  unfold A_storeOf
  (repeat' split) <;> exact h
theorem ok_near {g : Sg} (h : SgOk g) (a b : Int32) : SgOk (A_near g a b).2 := by
  unfold A_near
  (repeat' split) <;> exact h
theorem ok_bars {g : Sg} (h : SgOk g) (e x : Int32) : SgOk (A_bars g e x).2 := by
  unfold A_bars
  (repeat' split) <;> exact h
theorem ok_as {g : Sg} (h : SgOk g) (e k : Int32) : SgOk (A_as g e k).2 := by
  unfold A_as
  (repeat' split) <;> exact h
theorem ok_now {g : Sg} (h : SgOk g) (w : Int32) : SgOk (A_now g w).2 := by
  unfold A_now
  (repeat' split) <;> exact h
theorem ok_status {g : Sg} (h : SgOk g) (w : Int32) : SgOk (A_status g w).2 := by
  unfold A_status
  (repeat' split) <;> exact h
theorem ok_dish {g : Sg} (h : SgOk g) (s w c : Int32) : SgOk (A_dish g s w c).2 := by
  unfold A_dish
  (repeat' split) <;> exact h
theorem ok_of {g : Sg} (h : SgOk g) (x w : Int32) : SgOk (A_of g x w).2 := by
  unfold A_of
  (repeat' split) <;> exact h
theorem ok_nearHad {g : Sg} (h : SgOk g) (x n : Int32) : SgOk (A_nearHad g x n).2 := by
  unfold A_nearHad
  (repeat' split) <;> exact h
theorem ok_count {g : Sg} (h : SgOk g) (w : Int32) : SgOk (A_count g w).2 := by
  unfold A_count
  (repeat' split) <;> exact h
theorem ok_many {g : Sg} (h : SgOk g) (w : Int32) : SgOk (A_many g w).2 := by
  unfold A_many
  (repeat' split) <;> exact h
theorem ok_lasts {g : Sg} (h : SgOk g) (k : Int32) : SgOk (A_lasts g k).2 := by
  unfold A_lasts
  (repeat' split) <;> exact h
theorem ok_entryOf {g : Sg} (h : SgOk g) (e w : Int32) : SgOk (A_entryOf g e w).2 := by
  unfold A_entryOf
  (repeat' split) <;> exact h
theorem ok_wouldBe {g : Sg} (h : SgOk g) (w : Int32) : SgOk (A_wouldBe g w).2 := by
  unfold A_wouldBe
  (repeat' split) <;> exact h
theorem ok_read {g : Sg} (h : SgOk g) (s k : Int32) : SgOk (A_read g s k).2 := by
  unfold A_read
  (repeat' split) <;> exact h
theorem ok_within {g : Sg} (h : SgOk g) (a n : Int32) : SgOk (A_within g a n).2 := by
  unfold A_within
  (repeat' split) <;> exact h
theorem ok_by {g : Sg} (h : SgOk g) (x : Int32) : SgOk (A_by g x).2 := by
  unfold A_by
  refine ite_ok (fun _ => ?_) (fun _ => h)
  cases fstF (barB (uK (gU g)) (uX (gU g)) (uE (gU g)) (tN x)) 0 (uN (gU g)) <;> exact h
theorem ok_breach {g : Sg} (h : SgOk g) : SgOk (A_breach g).2 := by
  unfold A_breach
  cases fstF (breachP (uK (gU g)) (uX (gU g)) (uE (gU g))) 0 (uN (gU g)) <;> exact h
theorem ok_enter {g : Sg} (h : SgOk g) (k x : Int32) : SgOk (A_enter g k x).2 := by
  refine ite_ok (fun c => ite_ok (fun _ => h) (fun n => ?_)) (fun _ => h)
  rw [Bool.and_eq_true] at c
  exact h.setU (entU_ok h.1 (by have := h.1.1; omega) (tN_lt (n := 6) c.1 (by decide)) (tN_dish c.2))
theorem ok_turn {g : Sg} (h : SgOk g) (e k : Int32) : SgOk (A_turn g e k).2 := by
  refine ite_ok (fun c => ?_) (fun _ => h)
  rw [Bool.and_eq_true] at c
  exact h.setU (turU_ok h.1 (tN_lt (n := 6) c.2 (by decide)))
theorem ok_strike {g : Sg} (h : SgOk g) : SgOk (A_strike g).2 := ite_ok (fun _ => h) (fun _ => h.setU (cutU_ok h.1))
theorem ok_wipe {g : Sg} (h : SgOk g) : SgOk (A_wipe g).2 := ⟨h.1, h.2.1, Nat.zero_le _, fun i hi => absurd hi (Nat.not_lt_zero _), h.2.2.2.2⟩
theorem ok_tear {g : Sg} (h : SgOk g) : SgOk (A_tear g).2 := ⟨h.1, fun k => (by cases k), h.2.2⟩
theorem ok_edict {g : Sg} (h : SgOk g) (w : Int32) (v : Bool) : SgOk (A_edict g w v).2 := ite_ok (fun c => h.setU (edU_ok h.1 (tN_lt (n := 2) c (by decide)))) (fun _ => h)
theorem ok_next {g : Sg} (h : SgOk g) (n : Int32) : SgOk (A_next g n).2 := ite_ok (fun _ => ok_orn h _) (fun _ => h)
theorem ok_best {g : Sg} (h : SgOk g) : SgOk (A_best g).2 := ok_orn h _
theorem ok_on {g : Sg} (h : SgOk g) (k n : Int32) : SgOk (A_on g k n).2 := ite_ok (fun _ => ok_orn h _) (fun _ => h)
theorem ok_buy {g : Sg} (h : SgOk g) (k : Int32) : SgOk (A_buy g k).2 := ite_ok (fun _ => ok_orn h _) (fun _ => h)
theorem ok_keenest {g : Sg} (h : SgOk g) : SgOk (A_keenest g).2 := ok_orn h _
theorem ok_steps {g : Sg} (h : SgOk g) (a b : Int32) : SgOk (A_steps g a b).2 := ite_ok (fun _ => ok_orn h _) (fun _ => h)
theorem ok_walk {g : Sg} (h : SgOk g) (a n : Int32) : SgOk (A_walk g a n).2 := ite_ok (fun _ => ok_orn h _) (fun _ => h)
theorem ok_serve {g : Sg} (h : SgOk g) (k x : Int32) : SgOk (A_serve g k x).2 := by
  refine ite_ok (fun c => ite_ok (fun c2 => ite_ok (fun _ => h) (fun n => ?_)) (fun _ => h)) (fun _ => h)
  rw [Bool.and_eq_true] at c c2
  refine h.setU (mealU_ok h.1 (by have := h.1.1; omega) (tN_lt (n := 6) c.1 (by decide)) (tN_dish c.2) ?_)
  have h9 := of_decide_eq_true c2.2
  rw [i_lt, show ((9999 : Int32)).toInt = 9999 by decide] at h9
  exact h9
theorem ok_mealsN {k : Nat} (hk : k < 6) : ∀ (n : Nat) (u : Bu), BuOk u → (uY u).toInt + n ≤ 9999 → BuOk (mealsN k n u).2
  | 0, u, hu, _ => hu
  | n + 1, u, hu, hy => by
    rw [mealsN]
    split
    · exact hu
    · rename_i hn
      split
      · exact hu
      · rename_i x hx
        have hxo := (bst_spec hx).1.1
        have h30 := hu.1
        have hy0 := hu.2.2.2.2.2.2.1
        refine ok_mealsN hk n _ (mealU_ok hu (by omega) hk hxo (by omega)) ?_
        have e : (uY (mealU u k x)).toInt = (uY u).toInt + 1 := by
          show (uY u + 1).toInt = _
          rw [addInt2 (by omega) (by rw [show ((1 : Int32)).toInt = 1 by decide]; omega)]
          rfl
        rw [e]
        omega
theorem ok_meals {g : Sg} (h : SgOk g) (k n : Int32) : SgOk (A_meals g k n).2 := by
  refine ite_ok (fun c => ite_ok (fun c2 => ?_) (fun _ => h)) (fun _ => h)
  rw [Bool.and_eq_true] at c
  obtain ⟨m, h1, h2, e⟩ := inI_nI (a := 1) (b := 30) (by decide) (by decide) c.2
  subst e
  rw [tN_nI (by omega)]
  have hy0 := h.1.2.2.2.2.2.2.1
  have hy1 := h.1.2.2.2.2.2.2.2
  have em : (nI m).toInt = m := nI_toInt (by omega)
  rw [i_le, show ((9999 : Int32)).toInt = 9999 by decide, addInt2 (by omega) (by omega), em] at c2
  exact h.setU (ok_mealsN (tN_lt (n := 6) c.1 (by decide)) m _ h.1 c2)
theorem ok_like {g : Sg} (h : SgOk g) (a b v : Int32) : SgOk (A_like g a b v).2 := by
  refine ite_ok (fun c => ?_) (fun _ => h)
  rw [Bool.and_eq_true, Bool.and_eq_true] at c
  have h9 := c.1.2
  unfold inI at h9
  rw [Bool.and_eq_true] at h9
  have h1 := of_decide_eq_true h9.1
  have h2 := of_decide_eq_true h9.2
  rw [i_le, show ((-9 : Int32)).toInt = -9 by decide] at h1
  rw [i_le, show ((9 : Int32)).toInt = 9 by decide] at h2
  exact h.setU (likU_ok h.1 ⟨h1, h2⟩)
theorem ok_image {g : Sg} (h : SgOk g) : SgOk (A_image g).2 := ⟨h.1, fun _ => h.1, h.2.2⟩
theorem ok_undo {g : Sg} (h : SgOk g) : SgOk (A_undo g).2 := ite_ok (fun c => h.setU (h.2.1 c)) (fun _ => h)
theorem ok_sheet {g : Sg} (h : SgOk g) (s b n : Int32) : SgOk (A_sheet g s b n).2 := by
  refine ite_ok (fun c => ite_ok (fun _ => h) (fun c1 => ite_ok (fun c2 => ?_) (fun _ => h))) (fun _ => h)
  rw [Bool.and_eq_true] at c
  refine ⟨h.1, h.2.1, h.2.2.1, h.2.2.2.1, fun j hj => ?_⟩
  show ((if j = tN s then b else gSb g j) = 0 ∨ (if j = tN s then b else gSb g j) = 8 ∨ (if j = tN s then b else gSb g j) = 16 ∨ (if j = tN s then b else gSb g j) = 64) ∧ (if j = tN s then (if b = 0 then 0 else tN n) else gSl g j) ≤ 40
  by_cases e : j = tN s
  · rw [if_pos e, if_pos e]
    have hb := c.2
    unfold bitsOk at hb
    simp only [Bool.or_eq_true, decide_eq_true_eq] at hb
    refine ⟨by rcases hb with ((hb | hb) | hb) | hb <;> simp [hb], ?_⟩
    obtain ⟨m, h1, e2⟩ := nI_of2 (x := n) (M := 40) (n := 40) (by decide) c1 c2
    split
    · omega
    · rw [e2, tN_nI (by omega)]
      omega
  · rw [if_neg e, if_neg e]
    exact h.2.2.2.2 j hj
theorem ok_write {g : Sg} (h : SgOk g) (s i : Int32) (v : Int64) : SgOk (A_write g s i v).2 := by
  unfold A_write
  (repeat' split) <;> exact h
theorem ok_copy {g : Sg} (h : SgOk g) (s f t c n : Int32) : SgOk (A_copy g s f t c n).2 := by
  unfold A_copy
  (repeat' split) <;> exact h
theorem ok_lyN (V : Nat → Int64) {u : Bu} (h : BuOk u) : ∀ i, BuOk (lyN V u i).2
  | 0 => h
  | i + 1 => by
    rw [lyN]
    split
    · exact ok_lyN V h i
    · exact ok_lyN V h i
theorem ok_lays {g : Sg} (h : SgOk g) (s : Int32) : SgOk (A_lays g s).2 := ite_ok (fun _ => ite_ok (fun _ => h) (fun _ => h.setU (ok_lyN _ h.1 _))) (fun _ => h)
theorem ok_menu {g : Sg} (h : SgOk g) (s k : Int32) : SgOk (A_menu g s k).2 := by
  unfold A_menu
  (repeat' split) <;> exact h
theorem ok_feed {g : Sg} (h : SgOk g) (b n : Int32) : SgOk (A_feed g b n).2 := by
  refine ite_ok (fun _ => ite_ok (fun c2 => ?_) (fun _ => h)) (fun _ => h)
  refine ⟨h.1, h.2.1, c2, fun i hi => ?_, h.2.2.2.2⟩
  show 0 ≤ (fdT g b (tN n) i).toInt ∧ (fdT g b (tN n) i).toInt ≤ 255
  unfold fdT
  split
  · rename_i hlt
    exact h.2.2.2.1 i hlt
  · exact fb_ok _ _
theorem ok_bkN {L : Nat} {b : Nat → Int32} : ∀ (n it e : Nat) (u : Bu), e ≤ L → BuOk u → ∀ a v, bkN L b n it e u = (a, some v) → BuOk v
  | 0, _, _, _, _, _, a, v, h => by
    rw [bkN] at h
    cases h
  | n + 1, it, e, u, he, hu, a, v, h => by
    rw [bkN] at h
    have hg := g_item (b := b) he hu
    split at h
    · rename_i h1
      have hq := hg h1
      split at h
      · cases h
        exact hq.2.2
      · split at h
        · exact ok_bkN n _ _ _ (tE_spec (b := b) hq.2.1).2.1 hq.2.2 a v h
        · have h9 : (none : Option Bu) = some v := congrArg Prod.snd h
          cases h9
    · have h9 : (none : Option Bu) = some v := congrArg Prod.snd h
      cases h9
theorem ok_book {g : Sg} (h : SgOk g) : SgOk (A_book g).2 := by
  unfold A_book
  split
  · rename_i a u he
    exact ⟨ok_bkN 120 1 0 (gU g) (Nat.zero_le _) h.1 a u he, h.2.1, Nat.zero_le _, fun i hi => absurd hi (Nat.not_lt_zero _), h.2.2.2.2⟩
  · exact ⟨h.1, h.2.1, Nat.zero_le _, fun i hi => absurd hi (Nat.not_lt_zero _), h.2.2.2.2⟩
