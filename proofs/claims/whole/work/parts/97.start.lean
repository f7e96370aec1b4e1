def u0 : Bu := (fun _ => 5, fun _ => 0, fun _ => 0, fun _ => 0, 0, fun _ => 0, fun _ => 0, fun _ => 0, 3, 0)
def g0 : Sg := (u0, false, u0, (0, fun _ => 0), (fun _ => 0, fun _ => 0, fun _ _ => 0), fun _ => 0)
theorem u0_ok : BuOk u0 := ⟨by decide, by decide, fun e he => absurd he (Nat.not_lt_zero _), fun t ht => by decide +revert, fun t ht => by decide +revert, fun t ht => by decide +revert, by decide, by decide⟩
theorem g0_ok : SgOk g0 := ⟨u0_ok, fun _ => u0_ok, Nat.zero_le _, fun i hi => absurd hi (Nat.not_lt_zero _), fun s hs => ⟨Or.inl rfl, Nat.zero_le _⟩⟩
/-- the memory that the class's constructors leave -/
def StC (M : Mm) : Prop := (∀ t, t < 8 → M.1 2 t = 5) ∧ (∀ t, t < 8 → M.1 3 t = 0) ∧ (∀ t, t < 5 → M.1 4 t = 0) ∧ (∀ t, t < 4 → M.1 5 t = 0) ∧ M.1 1 7 = 0 ∧ M.1 1 8 = 3 ∧ M.1 1 9 = 0 ∧ M.1 0 3 = 0 ∧ M.1 37 0 = 0 ∧ (∀ s, s < 4 → M.1 (40 + s) 0 = 0 ∧ M.1 (40 + s) 1 = 0 ∧ ∀ i, i < 40 → M.2 (44 + s) i = 0) ∧ (∀ k, k < 7 → M.1 48 k = 0) ∧ Every M
theorem StC.is {M : Mm} (h : StC M) : CompIs M g0 := by
  obtain ⟨h1, h2, h3, h4, h5, h6, h7, h8, h9, h10, h11, h12⟩ := h
  exact ⟨⟨h1, h2, h3, h4, h5, h6, h7, fun e he => absurd he (Nat.not_lt_zero _)⟩, h8, fun k => (by cases k), h9, fun i hi => absurd hi (Nat.not_lt_zero _), h10, h11, h12⟩
/-- the memory that the reference's constructor leaves -/
def StM (M : Mm) : Prop := (∀ t, t < 8 → M.1 50 t = 5) ∧ (∀ t, t < 17 → M.1 51 t = 0) ∧ M.1 49 4 = 0 ∧ M.1 52 0 = 1 ∧ M.1 52 1 = 1 ∧ M.1 49 3 = 0 ∧ M.1 49 33 = 0 ∧ M.1 49 20 = 0 ∧ (∀ s, s < 4 → M.1 66 s = 0 ∧ M.1 67 s = 0) ∧ (∀ i, i < 160 → M.2 68 i = 0) ∧ (∀ k, k < 7 → M.1 56 k = 0) ∧ MdS M
theorem StM.is {M : Mm} (h : StM M) : ModIs M g0 := by
  obtain ⟨h1, h2, h3, h4, h5, h6, h7, h8, h9, h10, h11, h12⟩ := h
  exact ⟨⟨h1, fun t ht => h2 t (by omega), fun t ht => h2 (8 + t) (by omega), fun t ht => h2 (13 + t) (by omega), h3, h4, h5, h6, fun e he => absurd he (Nat.not_lt_zero _)⟩, h7, fun k => (by cases k), h8, fun i hi => absurd hi (Nat.not_lt_zero _), fun s hs => ⟨(h9 s hs).1, (h9 s hs).2, fun i hi => h10 _ (by omega)⟩, h11, h12⟩
/-- the law from its loop's head on, when the constructors are through -/
theorem law_at {G : Gt} (hG : gS G = SHAPE) (hn : gn G ≤ 3072) {M : Mm} (hC : StC M) (hM : StM M) : Go G 11 mL_law 18 [some (.ref 1002), some (.ref 0), some (.ref 49), some (.int (nI 0))] [] M (fun v _ => v = some (.int 1)) := law_go hG hn 3072 0 M g0 (by omega) (by omega) hC.is hM.is g0_ok
