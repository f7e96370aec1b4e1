set_option maxRecDepth 20000 in
theorem t_sets {G : Gt} {d : Nat} {M : Mm} (hG : gS G = SHAPE) : Go G (d + 1) mX7_init 234 [some (.ref 49), none, none, none] [] M (fun v M' => v = none ∧ SeI M M' 256) := by
  refine Go.iconst (v := 0) dX7_init_234 (by decide) ?_
  refine Go.istore_n (ls' := [some (.ref 49), some (.int 0), none, none]) dX7_init_235 (Nat.le_of_ble_eq_true rfl) rfl rfl ?_
  refine Go.iconst (v := 0) dX7_init_236 (by decide) ?_
  refine Go.istore_n (ls' := [some (.ref 49), some (.int 0), some (.int 0), none]) dX7_init_237 (Nat.le_of_ble_eq_true rfl) rfl rfl ?_
  exact l_sets hG 256 0 M none rfl ⟨Same.refl _ _, fun k hk => absurd hk (Nat.not_lt_zero _), fun s hs => absurd hs (Nat.not_lt_zero _)⟩
set_option maxRecDepth 20000 in
theorem t_bureau {G : Gt} {d : Nat} {M : Mm} {q r a1 a2 a3 a4 a5 a6 : Nat} (hq : (gS G)[q]? = some (.inr (1, [.inl (some r), .inl (some a1), .inl (some a2), .inl (some a3), .inl (some a4), .inl (some a5), .inl (some a6), .inr true, .inr true, .inr true]))) (hr : (gS G)[r]? = some (.inl (0, 8, []))) : Go G (d + 1) mX1_init 73 [some (.ref q)] [] M (fun v M' => v = none ∧ M' = seti M r (filF (M.1 r) (5) 8)) := by
  refine Go.aload_n dX1_init_73 rfl ?_
  refine Go.getR dX1_init_74 flX1_9 hq rfl ?_
  refine Go.iconst (v := 5) dX1_init_77 (by decide) ?_
  refine Go.callSV [] dX1_init_78 lkX1_43 stJ7_fill_53178 cbJ7_fill_53178 (s_fill hr (by decide)) rfl rfl (Nat.le_of_ble_eq_true rfl) (fun M2 hr1 => ?_)
  refine Go.vret dX1_init_81 rfl ?_
  exact ⟨rfl, hr1⟩
set_option maxRecDepth 20000 in
theorem t_kitchen {G : Gt} {d : Nat} {M : Mm} {q r a0 a1 a2 a3 a4 : Nat} (hq : (gS G)[q]? = some (.inr (2, [.inl (some a0), .inl (some a1), .inr true, .inl (some a2), .inl (some a3), .inl (some a4), .inl (some r)]))) (hr : (gS G)[r]? = some (.inl (0, 256, []))) : Go G (d + 1) mX2_init 62 [some (.ref q)] [] M (fun v M' => v = none ∧ M' = seti M r (filF (M.1 r) (1048575) 256)) := by
  refine Go.aload_n dX2_init_62 rfl ?_
  refine Go.getR dX2_init_63 flX2_35 hq rfl ?_
  refine Go.ldc dX2_init_66 kcX2_38 ?_
  refine Go.callSV [] dX2_init_68 lkX2_39 stJ7_fill_53178 cbJ7_fill_53178 (s_fill hr (by decide)) rfl rfl (Nat.le_of_ble_eq_true rfl) (fun M2 hr1 => ?_)
  refine Go.vret dX2_init_71 rfl ?_
  exact ⟨rfl, hr1⟩
