/-! A small machine over the kit's: the cells are numbered, their shape stands still, what moves is one table of ints and one of longs.
    Go: from a place in a method, with locals and stack as lists, the kit's W holds, whatever the caller. Ex: a method's contract in these words. -/
abbrev Sh : Type := (Nat × Nat × List (Option Nat)) ⊕ (Nat × List (Option Nat ⊕ Bool))
abbrev Mm : Type := (Nat → Nat → Int32) × (Nat → Nat → Int64)
/-- launch; class numbers, slots; addresses by cell numbers; array classes; shape; floor; the script's length and ints -/
abbrev Gt : Type := Launch × va_G × (Nat → Nat) × (Nat → ClassId) × List Sh × Nat × Nat × (Nat → Int32)
def gl (G : Gt) : Launch := G.1
def gD (G : Gt) : va_G := G.2.1
def ga (G : Gt) : Nat → Nat := G.2.2.1
def gA (G : Gt) : Nat → ClassId := G.2.2.2.1
def gS (G : Gt) : List Sh := G.2.2.2.2.1
def gz (G : Gt) : Nat := G.2.2.2.2.2.1
def gn (G : Gt) : Nat := G.2.2.2.2.2.2.1
def gx (G : Gt) : Nat → Int32 := G.2.2.2.2.2.2.2
def tv (ad : Nat → Nat) : Value → Value
  | .ref k => .ref (ad k)
  | v => v
def seti (M : Mm) (k : Nat) (f : Nat → Int32) : Mm := (fun a => if a = k then f else M.1 a, M.2)
def setl (M : Mm) (k : Nat) (f : Nat → Int64) : Mm := (M.1, fun a => if a = k then f else M.2 a)
def upi (M : Mm) (k j : Nat) (x : Int32) : Mm := seti M k (upd (M.1 k) j x)
def upl (M : Mm) (k j : Nat) (x : Int64) : Mm := setl M k (vp_updL (M.2 k) j x)
def cf (ad : Nat → Nat) (M : Mm) (k j : Nat) : Option Nat ⊕ Bool → Value
  | .inl (some r) => .ref (ad r)
  | .inl none => .null
  | .inr true => .int (M.1 k j)
  | .inr false => .long (M.2 k j)
def ce (ad : Nat → Nat) (dA : Nat → ClassId) (M : Mm) (k : Nat) : Sh → va_E
  | .inl (0, n, _) => .inl (dA 0, n, .inl (M.1 k))
  | .inl (1, n, _) => .inl (dA 1, n, .inl (M.1 k))
  | .inl (2, n, _) => .inl (dA 2, n, .inr (.inl (M.2 k)))
  | .inl (_, n, rs) => .inl (dA 3, n, .inr (.inr (.inr (.inr (fun j => (rs.getD j none).map ad)))))
  | .inr (ci, fs) => .inr (ci, fs.mapIdx (cf ad M k))
def wld (G : Gt) (M : Mm) : va_W := (gS G).mapIdx (fun k sh => (ga G k, ce (ga G) (gA G) M k sh))
def tysG (G : Gt) : List (ClassId × FieldType) := [(gA G 0, .int), (gA G 1, .boolean), (gA G 2, .long), (gA G 3, .object "NewDishes$Sheet")]
def A0 (G : Gt) : Nat → Prop := fun q => gz G ≤ q
def OkG (G : Gt) : Prop := (∀ i j : Nat, i < (gS G).length → j < (gS G).length → ga G i = ga G j → i = j) ∧ ∀ k : Nat, k < (gS G).length → gz G ≤ ga G k
theorem wld_at {G : Gt} {M : Mm} {k : Nat} {x : Sh} (h : (gS G)[k]? = some x) : (wld G M)[k]? = some (ga G k, ce (ga G) (gA G) M k x) := by
  simp [wld, h]
theorem wld_len (G : Gt) (M : Mm) : (wld G M).length = (gS G).length := by simp [wld]
theorem wld_D {G : Gt} (h : OkG G) (M : Mm) : va_D (A0 G) (wld G M) := by
  have at' : ∀ (i : Nat) (q : Nat × va_E), (wld G M)[i]? = some q → i < (gS G).length ∧ q.1 = ga G i := by
    intro i q hq
    have hi : i < (wld G M).length := (List.getElem?_eq_some_iff.mp hq).1
    rw [wld_len] at hi
    have := wld_at (G := G) (M := M) (List.getElem?_eq_getElem hi)
    rw [this] at hq
    cases hq
    exact ⟨hi, rfl⟩
  refine ⟨fun i j p q hp hq e => ?_, fun k q hq => ?_⟩
  · obtain ⟨a1, a2⟩ := at' i p hp
    obtain ⟨b1, b2⟩ := at' j q hq
    exact h.1 i j a1 b1 (by rw [← a2, ← b2]; exact e)
  · obtain ⟨a1, a2⟩ := at' k q hq
    show gz G ≤ q.1
    rw [a2]
    exact h.2 k a1
theorem ce_seti {ad : Nat → Nat} {dA : Nat → ClassId} {M : Mm} {k i : Nat} {f : Nat → Int32} (h : i ≠ k) (x : Sh) : ce ad dA (seti M k f) i x = ce ad dA M i x := by
  have e : (seti M k f).1 i = M.1 i := by simp [seti, h]
  rcases x with ⟨t, n, rs⟩ | ⟨ci, fs⟩
  · match t with
    | 0 => simp only [ce, e]
    | 1 => simp only [ce, e]
    | 2 => rfl
    | t + 3 => rfl
  · simp only [ce]
    congr 3
    funext j x
    rcases x with (_ | r) | (_ | _) <;> simp [cf, h, seti]
theorem ce_setl {ad : Nat → Nat} {dA : Nat → ClassId} {M : Mm} {k i : Nat} {f : Nat → Int64} (h : i ≠ k) (x : Sh) : ce ad dA (setl M k f) i x = ce ad dA M i x := by
  have e : (setl M k f).2 i = M.2 i := by simp [setl, h]
  rcases x with ⟨t, n, rs⟩ | ⟨ci, fs⟩
  · match t with
    | 0 => rfl
    | 1 => rfl
    | 2 => simp only [ce, e]
    | t + 3 => rfl
  · simp only [ce]
    congr 3
    funext j x
    rcases x with (_ | r) | (_ | _) <;> simp [cf, h, setl]
theorem wld_set {G : Gt} {M M' : Mm} {k : Nat} {x : Sh} (h : (gS G)[k]? = some x) (ho : ∀ i y, i ≠ k → ce (ga G) (gA G) M' i y = ce (ga G) (gA G) M i y) : wld G M' = (wld G M).set k (ga G k, ce (ga G) (gA G) M' k x) := by
  apply List.ext_getElem?
  intro i
  by_cases hi : i = k
  · subst hi
    rw [wld_at h, List.getElem?_set_self (by rw [wld_len]; exact (List.getElem?_eq_some_iff.mp h).1)]
  · rw [List.getElem?_set_ne (fun e => hi e.symm)]
    simp only [wld, List.getElem?_mapIdx]
    cases (gS G)[i]? with
    | none => rfl
    | some y => simp [ho i y hi]
theorem cf_set {ad : Nat → Nat} {M : Mm} {k j : Nat} {x : Int32} {fs : List (Option Nat ⊕ Bool)} (h : fs[j]? = some (.inr true)) : fs.mapIdx (cf ad (upi M k j x) k) = (fs.mapIdx (cf ad M k)).set j (.int x) := by
  apply List.ext_getElem?
  intro i
  by_cases hi : i = j
  · subst hi
    rw [List.getElem?_set_self (by simp; exact (List.getElem?_eq_some_iff.mp h).1)]
    simp [h, cf, upi, seti, upd]
  · rw [List.getElem?_set_ne (fun e => hi e.symm)]
    simp only [List.getElem?_mapIdx]
    cases fs[i]? with
    | none => rfl
    | some y => rcases y with (_ | r) | (_ | _) <;> simp [cf, upi, seti, upd, hi]
theorem cf_setl {ad : Nat → Nat} {M : Mm} {k j : Nat} {x : Int64} {fs : List (Option Nat ⊕ Bool)} (h : fs[j]? = some (.inr false)) : fs.mapIdx (cf ad (upl M k j x) k) = (fs.mapIdx (cf ad M k)).set j (.long x) := by
  apply List.ext_getElem?
  intro i
  by_cases hi : i = j
  · subst hi
    rw [List.getElem?_set_self (by simp; exact (List.getElem?_eq_some_iff.mp h).1)]
    simp [h, cf, upl, setl, vp_updL]
  · rw [List.getElem?_set_ne (fun e => hi e.symm)]
    simp only [List.getElem?_mapIdx]
    cases fs[i]? with
    | none => rfl
    | some y => rcases y with (_ | r) | (_ | _) <;> simp [cf, upl, setl, vp_updL, hi]
-- ===== locals, by their places =====
theorem tv_cat (ad : Nat → Nat) (v : Value) : (tv ad v).category = v.category := by cases v <;> rfl
def Lh (ad : Nat → Nat) (lsA : Array Slot) (nL : Nat) (ls : List (Option Value)) : Prop :=
  ls.length = nL ∧ lsA.size = nL ∧ lv_wf lsA ∧ ∀ (i : Nat) (v : Value), ls[i]? = some (some v) → lsA[i]? = some (.val (tv ad v))
def posL (ad : Nat → Nat) (ls : List (Option Value)) : List (Nat × Value) := (ls.mapIdx (fun i o => o.map (fun v => (i, tv ad v)))).filterMap id
theorem posL_mem {ad : Nat → Nat} {ls : List (Option Value)} {q : Nat × Value} : q ∈ posL ad ls ↔ ∃ v, ls[q.1]? = some (some v) ∧ q.2 = tv ad v := by
  unfold posL
  rw [List.mem_filterMap]
  constructor
  · rintro ⟨o, ho, e⟩
    obtain ⟨i, hi⟩ := List.getElem?_of_mem ho
    rw [List.getElem?_mapIdx] at hi
    cases h : ls[i]? with
    | none => rw [h] at hi; simp at hi
    | some o2 =>
      rw [h] at hi
      simp only [Option.map_some, Option.some.injEq] at hi
      subst hi
      cases o2 with
      | none => simp at e
      | some v =>
        simp only [Option.map_some, id, Option.some.injEq] at e
        subst e
        exact ⟨v, h, rfl⟩
  · rintro ⟨v, h, e⟩
    refine ⟨some (q.1, tv ad v), ?_, by rw [← e]; rfl⟩
    apply List.mem_of_getElem? (i := q.1)
    rw [List.getElem?_mapIdx, h]
    rfl
theorem Lh.has {ad : Nat → Nat} {lsA : Array Slot} {nL : Nat} {ls : List (Option Value)} (h : Lh ad lsA nL ls) : lv_has lsA nL (posL ad ls) := by
  refine ⟨h.2.1, h.2.2.1, fun q hq => ?_⟩
  obtain ⟨v, h1, h2⟩ := posL_mem.mp hq
  rw [h2]
  exact h.2.2.2 _ _ h1
def ok1 (ls : List (Option Value)) : Nat → Bool
  | 0 => true
  | i + 1 => match ls[i]? with
    | some (some v) => !(v.category == 2)
    | _ => true
theorem ok1_ne {ls : List (Option Value)} {i j : Nat} {v : Value} (h : ok1 ls i = true) (hj : j + 1 = i) (hv : ls[j]? = some (some v)) : (v.category == 2) = false := by
  subst hj
  simp only [ok1, hv] at h
  revert h
  cases (v.category == 2) <;> simp
theorem Lh.set1 {ad : Nat → Nat} {ls' : Array Slot} {nL i : Nat} {ls : List (Option Value)} {v : Value} (hlen : ls.length = nL) (ho : ok1 ls i = true) (h : lv_has ls' nL ((i, tv ad v) :: (posL ad ls).filter (fun q => !(q.1 == i) && !(q.1 + 1 == i && q.2.category == 2)))) : Lh ad ls' nL (ls.set i (some v)) := by
  refine ⟨by simp [hlen], h.1, h.2.1, fun j w hw => ?_⟩
  by_cases hj : j = i
  · subst hj
    have hl : j < ls.length := by
      have := (List.getElem?_eq_some_iff.mp hw).1
      simpa using this
    rw [List.getElem?_set_self hl] at hw
    cases hw
    exact h.2.2 (j, tv ad v) List.mem_cons_self
  · rw [List.getElem?_set_ne (fun e => hj e.symm)] at hw
    refine h.2.2 (j, tv ad w) (List.mem_cons_of_mem _ (List.mem_filter.mpr ⟨posL_mem.mpr ⟨w, hw, rfl⟩, ?_⟩))
    simp only [tv_cat]
    by_cases h2 : j + 1 = i
    · rw [ok1_ne ho h2 hw]
      simp [hj]
    · simp [hj, h2]
theorem Lh.set2 {ad : Nat → Nat} {ls' : Array Slot} {nL i : Nat} {ls : List (Option Value)} {v : Value} (hlen : ls.length = nL) (ho : ok1 ls i = true) (h : lv_has ls' nL ((i, tv ad v) :: (posL ad ls).filter (fun q => !(q.1 == i) && (!(q.1 == i + 1) && !(q.1 + 1 == i && q.2.category == 2))))) : Lh ad ls' nL ((ls.set i (some v)).set (i + 1) none) := by
  refine ⟨by simp [hlen], h.1, h.2.1, fun j w hw => ?_⟩
  by_cases hk : j = i + 1
  · subst hk
    have hl : i + 1 < (ls.set i (some v)).length := by
      have := (List.getElem?_eq_some_iff.mp hw).1
      simpa using this
    rw [List.getElem?_set_self hl] at hw
    cases hw
  · rw [List.getElem?_set_ne (fun e => hk e.symm)] at hw
    by_cases hj : j = i
    · subst hj
      have hl : j < ls.length := by
        have := (List.getElem?_eq_some_iff.mp hw).1
        simpa using this
      rw [List.getElem?_set_self hl] at hw
      cases hw
      exact h.2.2 (j, tv ad v) List.mem_cons_self
    · rw [List.getElem?_set_ne (fun e => hj e.symm)] at hw
      refine h.2.2 (j, tv ad w) (List.mem_cons_of_mem _ (List.mem_filter.mpr ⟨posL_mem.mpr ⟨w, hw, rfl⟩, ?_⟩))
      simp only [tv_cat]
      by_cases h2 : j + 1 = i
      · rw [ok1_ne ho h2 hw]
        simp [hj, hk]
      · simp [hj, h2, hk]
/-- the locals at a method's entry -/
def argL : List Value → List (Option Value)
  | [] => []
  | v :: vs => if v.category = 2 then some v :: none :: argL vs else some v :: argL vs
def entL (n : Nat) (vs : List Value) : List (Option Value) := argL vs ++ List.replicate (n - (argL vs).length) none
theorem lv_args_in {ad : Nat → Nat} : ∀ (vs : List Value) (b i : Nat) (v : Value), (argL vs)[i]? = some (some v) → (b + i, tv ad v) ∈ lv_args b (vs.map (tv ad))
  | [], b, i, v, h => by simp [argL] at h
  | w :: vs, b, i, v, h => by
    simp only [argL] at h
    simp only [List.map_cons, lv_args, tv_cat]
    by_cases hc : w.category = 2
    · rw [if_pos hc] at h ⊢
      match i, h with
      | 0, h =>
        simp at h
        subst h
        exact List.mem_cons_self
      | 1, h => simp at h
      | i + 2, h =>
        have := lv_args_in (ad := ad) vs (b + 2) i v (by simpa using h)
        exact List.mem_cons_of_mem _ (by rw [show b + (i + 2) = b + 2 + i by omega]; exact this)
    · rw [if_neg hc] at h ⊢
      match i, h with
      | 0, h =>
        simp at h
        subst h
        exact List.mem_cons_self
      | i + 1, h =>
        have := lv_args_in (ad := ad) vs (b + 1) i v (by simpa using h)
        exact List.mem_cons_of_mem _ (by rw [show b + (i + 1) = b + 1 + i by omega]; exact this)
theorem argL_len (ad : Nat → Nat) : ∀ vs : List Value, (lg_sl (vs.map (tv ad))).length = (argL vs).length
  | [] => rfl
  | v :: vs => by
    have := argL_len ad vs
    simp only [lg_sl, List.map_cons, List.flatMap_cons, List.length_append, tv_cat, argL] at this ⊢
    rw [this]
    by_cases hc : v.category = 2 <;> simp [hc] <;> omega
theorem Lh.entry (ad : Nat → Nat) (vs : List Value) {n : Nat} (h : (argL vs).length ≤ n) : Lh ad ((lg_sl (vs.map (tv ad)) ++ List.replicate (n - (lg_sl (vs.map (tv ad))).length) Slot.unset).toArray) n (entL n vs) := by
  have h1 := lv_entry (vs.map (tv ad)) (n := n) (by rw [argL_len]; exact h)
  refine ⟨by simp [entL]; omega, h1.1, h1.2.1, fun i v hv => ?_⟩
  have hi : (argL vs)[i]? = some (some v) := by
    unfold entL at hv
    rw [List.getElem?_append] at hv
    split at hv
    · exact hv
    · rw [List.getElem?_replicate] at hv
      split at hv <;> simp at hv
  have := lv_args_in (ad := ad) vs 0 i v hi
  rw [Nat.zero_add] at this
  exact h1.2.2 _ this
