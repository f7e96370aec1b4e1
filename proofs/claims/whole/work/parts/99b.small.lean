/-- the same launch and statics, with cells S from address b on, all below b left alone -/
def Gs (G : Gt) (S : List Sh) (b : Nat) : Gt := (G.1, G.2.1, fun k => if k < 1000 then b + k else ga G k, gA G, S, b, gn G, gx G)
theorem Gs_S (G : Gt) (S : List Sh) (b : Nat) : gS (Gs G S b) = S := rfl
theorem Gs_z (G : Gt) (S : List Sh) (b : Nat) : gz (Gs G S b) = b := rfl
theorem Gs_a (G : Gt) (S : List Sh) (b : Nat) {k : Nat} (h : k < 1000) : ga (Gs G S b) k = b + k := if_pos h
theorem Gs_st (G : Gt) (S : List Sh) (b : Nat) {k : Nat} (h : 1000 ≤ k) : ga (Gs G S b) k = ga G k := if_neg (by omega)
theorem Gs_ok (G : Gt) (S : List Sh) (b : Nat) (h : S.length ≤ 1000) : OkG (Gs G S b) := by
  refine ⟨fun i j hi hj e => ?_, fun k hk => ?_⟩
  · rw [Gs_S] at hi hj
    rw [Gs_a G S b (by omega), Gs_a G S b (by omega)] at e
    omega
  · rw [Gs_S] at hk
    rw [Gs_a G S b (by omega), Gs_z]
    omega
theorem Stat.narrow {G G' : Gt} {U : State} {H : Heap} (h : Stat G U H) (ha : ∀ k, 1000 ≤ k → ga G' k = ga G k) (hn : gn G' = gn G) (hx : gx G' = gx G) (hz : gz G ≤ gz G') : Stat G' U H := by
  have hAB : ∀ q, A0 G' q → A0 G q := fun q h => Nat.le_trans hz h
  have e5 : (fun i => ga G' (2000 + i)) = (fun i => ga G (2000 + i)) := funext (fun i => ha _ (by omega))
  have e6 : (fun i => ga G' (2100 + i)) = (fun i => ga G (2100 + i)) := funext (fun i => ha _ (by omega))
  obtain ⟨h1, h2, h3, h4, h5, h6, h7, h8, h9, h10⟩ := h
  unfold Stat
  rw [ha 1000 (by omega), ha 1001 (by omega), ha 1002 (by omega), ha 3000 (by omega), hn, hx, e5, e6]
  exact ⟨h1, h2.narrow hAB, h3.narrow hAB, h4.narrow hAB, h5.narrow hAB, h6.narrow hAB, h7.narrow hAB, h8.imp (fun z => z.narrow hAB) (fun z => z.narrow hAB), h9.narrow hAB, fun i hi => by rw [ha _ (by omega)]; exact h10 i hi⟩
theorem Stat.small {G : Gt} {U : State} {H : Heap} (h : Stat G U H) (S : List Sh) {b : Nat} (hz : gz G ≤ b) : Stat (Gs G S b) U H := h.narrow (fun k hk => Gs_st G S b hk) rfl rfl hz
/-- the same with addresses as they came -/
def Ga (G : Gt) (S : List Sh) (b : Nat) (ad : Nat → Nat) : Gt := (G.1, G.2.1, fun k => if k < 1000 then ad k else ga G k, gA G, S, b, gn G, gx G)
theorem Ga_a (G : Gt) (S : List Sh) (b : Nat) (ad : Nat → Nat) {k : Nat} (h : k < 1000) : ga (Ga G S b ad) k = ad k := if_pos h
theorem Ga_ok (G : Gt) (S : List Sh) (b : Nat) (ad : Nat → Nat) (h : S.length ≤ 1000) (hi : ∀ i j : Nat, i < S.length → j < S.length → ad i = ad j → i = j) (hg : ∀ k : Nat, k < S.length → b ≤ ad k) : OkG (Ga G S b ad) := by
  refine ⟨fun i j q1 q2 e => ?_, fun k hk => ?_⟩
  · have q1' : i < S.length := q1
    have q2' : j < S.length := q2
    rw [Ga_a G S b ad (by omega), Ga_a G S b ad (by omega)] at e
    exact hi i j q1' q2' e
  · have hk' : k < S.length := hk
    rw [Ga_a G S b ad (by omega)]
    exact hg k hk'
theorem Stat.ga {G : Gt} {U : State} {H : Heap} (h : Stat G U H) (S : List Sh) (ad : Nat → Nat) {b : Nat} (hz : gz G ≤ b) : Stat (Ga G S b ad) U H := h.narrow (fun k hk => if_neg (by omega)) rfl rfl hz
theorem tys_small (G : Gt) (S : List Sh) (b : Nat) : tysG (Gs G S b) = tysG G := rfl
