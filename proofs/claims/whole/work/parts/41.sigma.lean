/-! ===== what class and reference both stand for: a bureau's state, and all of it ===== -/
/-- stores, likings of things, ways, sauces; entries, kinds, dishes, days; edicts, day -/
abbrev Bu : Type := (Nat → Int32) × (Nat → Int32) × (Nat → Int32) × (Nat → Int32) × Nat × (Nat → Nat) × (Nat → Nat) × (Nat → Int32) × Nat × Int32
def uS (u : Bu) : Nat → Int32 := u.1
def uT (u : Bu) : Nat → Int32 := u.2.1
def uW (u : Bu) : Nat → Int32 := u.2.2.1
def uC (u : Bu) : Nat → Int32 := u.2.2.2.1
def uN (u : Bu) : Nat := u.2.2.2.2.1
def uK (u : Bu) : Nat → Nat := u.2.2.2.2.2.1
def uX (u : Bu) : Nat → Nat := u.2.2.2.2.2.2.1
def uD (u : Bu) : Nat → Int32 := u.2.2.2.2.2.2.2.1
def uE (u : Bu) : Nat := u.2.2.2.2.2.2.2.2.1
def uY (u : Bu) : Int32 := u.2.2.2.2.2.2.2.2.2
def BuOk (u : Bu) : Prop := uN u ≤ 30 ∧ uE u < 4 ∧ (∀ e, e < uN u → uK u e < 6 ∧ okD (uX u e) = true) ∧ Lik9 (uT u) 8 ∧ Lik9 (uW u) 5 ∧ Lik9 (uC u) 4 ∧ 0 ≤ (uY u).toInt ∧ (uY u).toInt ≤ 9999
def BuC (M : Mm) (b : Nat) (u : Bu) : Prop := (∀ t, t < 8 → M.1 (b + 1) t = uS u t) ∧ (∀ t, t < 8 → M.1 (b + 2) t = uT u t) ∧ (∀ t, t < 5 → M.1 (b + 3) t = uW u t) ∧ (∀ t, t < 4 → M.1 (b + 4) t = uC u t) ∧ M.1 b 7 = nI (uN u) ∧ M.1 b 8 = nI (uE u) ∧ M.1 b 9 = uY u ∧ ∀ e, e < uN u → M.1 (b + 5) e = nI (uK u e) ∧ M.1 (b + 6) e = nI (uX u e) ∧ M.1 (b + 7) e = uD u e
def BuM (M : Mm) (u : Bu) : Prop := (∀ t, t < 8 → M.1 50 t = uS u t) ∧ (∀ t, t < 8 → M.1 51 t = uT u t) ∧ (∀ t, t < 5 → M.1 51 (8 + t) = uW u t) ∧ (∀ t, t < 4 → M.1 51 (13 + t) = uC u t) ∧ M.1 49 4 = nI (uN u) ∧ M.1 52 0 = nI (uE u % 2) ∧ M.1 52 1 = nI (uE u / 2) ∧ M.1 49 3 = uY u ∧ ∀ e, e < uN u → M.1 53 e = nI (uK u e) ∧ M.1 54 e = nI (uX u e) ∧ M.1 55 e = uD u e
/-- a bureau kept in one row of the reference -/
def BuI (M : Mm) (a : Nat) (u : Bu) : Prop := (∀ t, t < 8 → M.1 a (2 + t) = uS u t) ∧ (∀ t, t < 8 → M.1 a (10 + t) = uT u t) ∧ (∀ t, t < 5 → M.1 a (18 + t) = uW u t) ∧ (∀ t, t < 4 → M.1 a (23 + t) = uC u t) ∧ M.1 a 0 = nI (uN u) ∧ M.1 a 27 = nI (uE u % 2) ∧ M.1 a 28 = nI (uE u / 2) ∧ M.1 a 1 = uY u ∧ ∀ e, e < uN u → M.1 a (29 + e) = nI (uK u e) ∧ M.1 a (59 + e) = nI (uX u e) ∧ M.1 a (89 + e) = uD u e
/-- the bureau; whether one is kept, which; the tape; the sheets' bits, lengths, numbers; findings -/
abbrev Sg : Type := Bu × Bool × Bu × (Nat × (Nat → Int32)) × ((Nat → Int32) × (Nat → Nat) × (Nat → Nat → Int64)) × (Nat → Int32)
def gU (g : Sg) : Bu := g.1
def gK (g : Sg) : Bool := g.2.1
def gV (g : Sg) : Bu := g.2.2.1
def gTn (g : Sg) : Nat := g.2.2.2.1.1
def gTb (g : Sg) : Nat → Int32 := g.2.2.2.1.2
def gSb (g : Sg) : Nat → Int32 := g.2.2.2.2.1.1
def gSl (g : Sg) : Nat → Nat := g.2.2.2.2.1.2.1
def gSn (g : Sg) : Nat → Nat → Int64 := g.2.2.2.2.1.2.2
def gF (g : Sg) : Nat → Int32 := g.2.2.2.2.2
def SgOk (g : Sg) : Prop := BuOk (gU g) ∧ (gK g = true → BuOk (gV g)) ∧ gTn g ≤ 120 ∧ (∀ i, i < gTn g → 0 ≤ (gTb g i).toInt ∧ (gTb g i).toInt ≤ 255) ∧ ∀ s, s < 4 → (gSb g s = 0 ∨ gSb g s = 8 ∨ gSb g s = 16 ∨ gSb g s = 64) ∧ gSl g s ≤ 40
def CompIs (M : Mm) (g : Sg) : Prop := BuC M 1 (gU g) ∧ M.1 0 3 = bi (gK g) ∧ (gK g = true → BuC M 9 (gV g)) ∧ M.1 37 0 = nI (gTn g) ∧ (∀ i, i < gTn g → M.1 38 i = gTb g i) ∧ (∀ s, s < 4 → M.1 (40 + s) 0 = gSb g s ∧ M.1 (40 + s) 1 = nI (gSl g s) ∧ ∀ i, i < 40 → M.2 (44 + s) i = gSn g s i) ∧ (∀ q, q < 7 → M.1 48 q = gF g q) ∧ Every M
def ModIs (M : Mm) (g : Sg) : Prop := BuM M (gU g) ∧ M.1 49 33 = bi (gK g) ∧ (gK g = true → BuI M 70 (gV g)) ∧ M.1 49 20 = nI (gTn g) ∧ (∀ i, i < gTn g → M.1 65 i = gTb g i) ∧ (∀ s, s < 4 → M.1 66 s = gSb g s ∧ M.1 67 s = nI (gSl g s) ∧ ∀ i, i < 40 → M.2 68 (40 * s + i) = gSn g s i) ∧ (∀ q, q < 7 → M.1 56 q = gF g q) ∧ MdS M
def CSame (M M' : Mm) : Prop := ∀ a, a < 49 → M'.1 a = M.1 a ∧ M'.2 a = M.2 a
def MSame (M M' : Mm) : Prop := ∀ a, 49 ≤ a → M'.1 a = M.1 a ∧ M'.2 a = M.2 a
theorem CSame.refl (M : Mm) : CSame M M := fun _ _ => ⟨rfl, rfl⟩
theorem MSame.refl (M : Mm) : MSame M M := fun _ _ => ⟨rfl, rfl⟩
theorem CSame.trans {M N L : Mm} (h1 : CSame M N) (h2 : CSame N L) : CSame M L := fun a ha => ⟨((h2 a ha).1).trans (h1 a ha).1, ((h2 a ha).2).trans (h1 a ha).2⟩
theorem MSame.trans {M N L : Mm} (h1 : MSame M N) (h2 : MSame N L) : MSame M L := fun a ha => ⟨((h2 a ha).1).trans (h1 a ha).1, ((h2 a ha).2).trans (h1 a ha).2⟩
theorem Same.ms {S : List Nat} {M M' : Mm} (h : Same S M M') (hs : ∀ a, a ∈ S → a < 49) : MSame M M' := fun a ha => ⟨h.1 a (fun q => by have := hs a q; omega), by rw [h.2]⟩
theorem Same.cs {S : List Nat} {M M' : Mm} (h : Same S M M') (hs : ∀ a, a ∈ S → 49 ≤ a) : CSame M M' := fun a ha => ⟨h.1 a (fun q => by have := hs a q; omega), by rw [h.2]⟩
theorem BuC.same {M M' : Mm} {b : Nat} {u : Bu} (h : BuC M b u) (hs : ∀ j, j < 8 → M'.1 (b + j) = M.1 (b + j)) : BuC M' b u := by
  obtain ⟨h1, h2, h3, h4, h5, h6, h7, h8⟩ := h
  have e0 : M'.1 b = M.1 b := hs 0 (by decide)
  exact ⟨fun t ht => by rw [hs 1 (by decide)]; exact h1 t ht, fun t ht => by rw [hs 2 (by decide)]; exact h2 t ht, fun t ht => by rw [hs 3 (by decide)]; exact h3 t ht, fun t ht => by rw [hs 4 (by decide)]; exact h4 t ht, by rw [e0]; exact h5, by rw [e0]; exact h6, by rw [e0]; exact h7, fun e he => by rw [hs 5 (by decide), hs 6 (by decide), hs 7 (by decide)]; exact h8 e he⟩
theorem BuI.same {M M' : Mm} {a : Nat} {u : Bu} (h : BuI M a u) (hs : M'.1 a = M.1 a) : BuI M' a u := by
  unfold BuI at h ⊢
  rw [hs]
  exact h
theorem CompIs.same {M M' : Mm} {g : Sg} (h : CompIs M g) (hs : CSame M M') : CompIs M' g := by
  obtain ⟨h1, h2, h3, h4, h5, h6, h7, h8⟩ := h
  exact ⟨h1.same (fun j hj => (hs _ (by omega)).1), by rw [(hs 0 (by decide)).1]; exact h2, fun k => (h3 k).same (fun j hj => (hs _ (by omega)).1), by rw [(hs 37 (by decide)).1]; exact h4, fun i hi => by rw [(hs 38 (by decide)).1]; exact h5 i hi, fun s hs4 => by rw [(hs (40 + s) (by omega)).1, (hs (44 + s) (by omega)).2]; exact h6 s hs4, fun q hq => by rw [(hs 48 (by decide)).1]; exact h7 q hq, fun s hs4 => by rw [(hs 33 (by decide)).1]; exact h8 s hs4⟩
theorem ModIs.same {M M' : Mm} {g : Sg} (h : ModIs M g) (hs : MSame M M') : ModIs M' g := by
  have r : ∀ a, 49 ≤ a → M'.1 a = M.1 a := fun a ha => (hs a ha).1
  obtain ⟨h1, h2, h3, h4, h5, h6, h7, h8⟩ := h
  refine ⟨?_, by rw [r 49 (by decide)]; exact h2, fun k => (h3 k).same (r 70 (by decide)), by rw [r 49 (by decide)]; exact h4, fun i hi => by rw [r 65 (by decide)]; exact h5 i hi, fun s hs4 => by rw [r 66 (by decide), r 67 (by decide), (hs 68 (by decide)).2]; exact h6 s hs4, fun q hq => by rw [r 56 (by decide)]; exact h7 q hq, h8.same (r 57 (by decide)) (r 58 (by decide))⟩
  unfold BuM at h1 ⊢
  rw [r 49 (by decide), r 50 (by decide), r 51 (by decide), r 52 (by decide), r 53 (by decide), r 54 (by decide), r 55 (by decide)]
  exact h1
theorem BuC.bk {M : Mm} {b : Nat} {u : Bu} (h : BuC M b u) (ho : BuOk u) : Bk M b (uN u) (uK u) (uX u) (uE u) := ⟨ho.1, ho.2.1, h.2.2.2.2.1, h.2.2.2.2.2.1, fun e he => ⟨(ho.2.2.1 e he).1, (ho.2.2.1 e he).2, (h.2.2.2.2.2.2.2 e he).1, (h.2.2.2.2.2.2.2 e he).2.1⟩⟩
theorem BuM.bk {M : Mm} {u : Bu} (h : BuM M u) (ho : BuOk u) : BkM M (uN u) (uK u) (uX u) (uE u) := ⟨by have := ho.1; omega, ho.2.1, h.2.2.2.2.1, h.2.2.2.2.2.1, h.2.2.2.2.2.2.1, fun e he => ⟨(ho.2.2.1 e he).1, (ho.2.2.1 e he).2, (h.2.2.2.2.2.2.2.2 e he).1, (h.2.2.2.2.2.2.2.2 e he).2.1⟩⟩
/-- a finding is counted -/
def fndS (g : Sg) (q : Nat) : Sg := (g.1, g.2.1, g.2.2.1, g.2.2.2.1, g.2.2.2.2.1, fun j => if j = q then gF g j + 1 else gF g j)
theorem fndS_ok {g : Sg} {q : Nat} (h : SgOk g) : SgOk (fndS g q) := h
theorem CompIs.fnd {M : Mm} {g : Sg} {q : Nat} (h : CompIs M g) : CompIs (fndC M q) (fndS g q) ∧ MSame M (fndC M q) := by
  have hs : Same [48] M (fndC M q) := Same.upi _ 48 _ _ (by decide)
  have r : ∀ a, a ≠ 48 → (fndC M q).1 a = M.1 a := fun a ha => hs.1 a (by simp [ha])
  obtain ⟨h1, h2, h3, h4, h5, h6, h7, h8⟩ := h
  refine ⟨⟨h1.same (fun j hj => r _ (by omega)), by rw [r 0 (by decide)]; exact h2, fun k => (h3 k).same (fun j hj => r _ (by omega)), by rw [r 37 (by decide)]; exact h4, fun i hi => by rw [r 38 (by decide)]; exact h5 i hi, fun s hs4 => by rw [r (40 + s) (by omega)]; exact h6 s hs4, fun j hj => ?_, fun s hs4 => by rw [r 33 (by decide)]; exact h8 s hs4⟩, hs.ms (by decide)⟩
  show (fndC M q).1 48 j = if j = q then gF g j + 1 else gF g j
  rw [fndC, rd_eq]
  unfold upd
  by_cases e : j = q
  · rw [if_pos e, if_pos e, e, ← h7 q (by omega)]
  · rw [if_neg e, if_neg e, h7 j hj]
theorem ModIs.fnd {M : Mm} {g : Sg} {q : Nat} (h : ModIs M g) : ModIs (fndM M q) (fndS g q) ∧ CSame M (fndM M q) := by
  have hs : Same [56] M (fndM M q) := Same.upi _ 56 _ _ (by decide)
  have r : ∀ a, a ≠ 56 → (fndM M q).1 a = M.1 a := fun a ha => hs.1 a (by simp [ha])
  obtain ⟨h1, h2, h3, h4, h5, h6, h7, h8⟩ := h
  refine ⟨⟨?_, by rw [r 49 (by decide)]; exact h2, fun k => (h3 k).same (r 70 (by decide)), by rw [r 49 (by decide)]; exact h4, fun i hi => by rw [r 65 (by decide)]; exact h5 i hi, fun s hs4 => by rw [r 66 (by decide), r 67 (by decide)]; exact h6 s hs4, fun j hj => ?_, h8.same (r 57 (by decide)) (r 58 (by decide))⟩, hs.cs (by decide)⟩
  · show BuM (fndM M q) (gU g)
    unfold BuM at h1 ⊢
    rw [r 49 (by decide), r 50 (by decide), r 51 (by decide), r 52 (by decide), r 53 (by decide), r 54 (by decide), r 55 (by decide)]
    exact h1
  show (fndM M q).1 56 j = if j = q then gF g j + 1 else gF g j
  rw [fndM, rd_eq]
  unfold upd
  by_cases e : j = q
  · rw [if_pos e, if_pos e, e, ← h7 q (by omega)]
  · rw [if_neg e, if_neg e, h7 j hj]
/-- what a call of the class (of the reference) gives, as an answer and a state behind it -/
def CallC (G : Gt) (d : Nat) (mt : Mt) (as : List Value) (g : Sg) (a : Int32 × Sg) : Prop := ∀ M, CompIs M g → ExI G d mt (.ref 0 :: as) M (fun r M' => r = a.1 ∧ CompIs M' a.2 ∧ MSame M M')
def CallM (G : Gt) (d : Nat) (mt : Mt) (as : List Value) (g : Sg) (a : Int32 × Sg) : Prop := ∀ M, ModIs M g → ExI G d mt (.ref 49 :: as) M (fun r M' => r = a.1 ∧ ModIs M' a.2 ∧ CSame M M')
