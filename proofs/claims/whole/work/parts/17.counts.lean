theorem sumN_list (f : Nat → Nat) : ∀ n, sumN f n = ((List.range n).map f).sum
  | 0 => rfl
  | n + 1 => by rw [sumN, sumN_list f n, List.range_succ]; simp
theorem sum_filter (p : Nat → Bool) (g : Nat → Nat) : ∀ l : List Nat, (∀ s, s ∈ l → p s = false → g s = 0) → (l.map g).sum = ((l.filter p).map g).sum
  | [], _ => rfl
  | a :: l, h => by
    have ih := sum_filter p g l (fun s hs => h s (List.mem_cons_of_mem _ hs))
    cases hp : p a with
    | false =>
      have : g a = 0 := h a List.mem_cons_self hp
      simp [hp, this, ih]
    | true => simp [hp, ih]
theorem filt_sets : (List.range 256).filter okS = setsN := by decide +kernel
theorem range_sets : (List.range 92).map (fun k => sN k) = setsN := by decide +kernel
/-- a sum over all sets of one to three things -/
theorem sum_sets {g : Nat → Nat} (h : ∀ s, s < 256 → okS s = false → g s = 0) : sumN g 256 = sumN (fun k => g (sN k)) 92 := by
  rw [sumN_list, sum_filter okS g _ (fun s hs hp => h s (List.mem_range.mp hs) hp), filt_sets, sumN_list, ← range_sets, List.map_map]
  rfl
theorem sum_blocks (F : Nat → Nat) : ∀ n, sumN F (20 * n) = sumN (fun k => sumN (fun m => F (20 * k + m)) 20) n
  | 0 => rfl
  | n + 1 => by
    rw [show 20 * (n + 1) = 20 * n + 20 by omega]
    have : ∀ m, sumN F (20 * n + m) = sumN F (20 * n) + sumN (fun j => F (20 * n + j)) m := by
      intro m
      induction m with
      | zero => rfl
      | succ m ih => rw [show 20 * n + (m + 1) = (20 * n + m) + 1 by omega, sumN, ih, sumN]; omega
    rw [this 20, sum_blocks F n]
    rfl
theorem sumN_le {f : Nat → Nat} {b : Nat} : ∀ n, (∀ i, i < n → f i ≤ b) → sumN f n ≤ n * b
  | 0, _ => by simp [sumN]
  | n + 1, h => by
    have h1 := sumN_le n (fun i hi => h i (by omega))
    have h2 := h n (by omega)
    rw [sumN, Nat.succ_mul]
    omega
theorem sumN_0 {f : Nat → Nat} (n : Nat) (h : ∀ i, i < n → f i = 0) : sumN f n = 0 := by
  have := sumN_le (f := f) (b := 0) n (fun i hi => by rw [h i hi]; exact Nat.le_refl 0)
  omega
set_option maxRecDepth 20000 in
theorem l_countOf {G : Gt} {d : Nat} {M : Mm} {k : Nat} {w : Nat → Nat} (hk : (gS G)[k]? = some (.inl (0, 256, []))) (hw : ∀ j, j < 256 → M.1 k j = nI (w j) ∧ w j < 2 ^ 20) : ∀ (n i : Nat), i + n = 256 → Go G (d + 1) mX6_countOf 4 [some (.ref k), some (.int (nI (sumN (fun j => popN (w j)) i))), some (.int (nI i))] [] M (fun v M' => ∃ r, v = some (.int r) ∧ r = nI (sumN (fun j => popN (w j)) 256) ∧ M' = M) := by
  intro n
  induction n with
  | zero =>
    intro i  hin
    refine Go.iload_n dX6_countOf_4 rfl ?_
    refine Go.aload_n dX6_countOf_5 rfl ?_
    refine Go.alenI (v := 256) dX6_countOf_6 hk (by decide) ?_
    refine Go.icmp_ge 25 dX6_countOf_7 rfl (fun _ => ?_) (fun h7 => absurd (nI_le (a := 256) (b := i) (by omega) (by omega)) h7)
    refine Go.iload_n dX6_countOf_25 rfl ?_
    refine Go.iret dX6_countOf_26 rfl rfl ?_
    have e9 : i = 256 := by omega
    subst e9
    exact ⟨_, rfl, rfl, rfl⟩
  | succ n ih =>
    intro i  hin
    have hi : i < 256 := by omega
    refine Go.iload_n dX6_countOf_4 rfl ?_
    refine Go.aload_n dX6_countOf_5 rfl ?_
    refine Go.alenI (v := 256) dX6_countOf_6 hk (by decide) ?_
    refine Go.icmp_ge 25 dX6_countOf_7 rfl (fun h7 => absurd h7 (nI_ge (a := i) (b := 256) (by omega) (by omega))) (fun _ => ?_)
    refine Go.iload_n dX6_countOf_10 rfl ?_
    refine Go.aload_n dX6_countOf_11 rfl ?_
    refine Go.iload_n dX6_countOf_12 rfl ?_
    refine Go.iald dX6_countOf_13 hk (vin (by omega) (by decide)) ?_
    refine Go.eqI (y := nI (w i)) (by rw [ncl (by omega)]; exact (hw i hi).1) ?_
    refine Go.callSI [.int (nI (sumN (fun j => popN (w j)) i))] dX6_countOf_14 lkX6_293 stJ6_bitCount_0f7a4 cbJ6_bitCount_0f7a4 (s_bitCount (nI (w i))) rfl rfl (Nat.le_of_ble_eq_true rfl) (fun r1 M2 hr1 => ?_)
    obtain ⟨er1, emr1⟩ := hr1
    rw [emr1]
    clear emr1 M2
    subst er1
    refine Go.eqI (y := nI (popN (w i))) (pcI_nI (hw i hi).2) ?_
    refine Go.iadd dX6_countOf_17 ?_
    refine Go.eqI (y := nI (sumN (fun j => popN (w j)) i + popN (w i))) (nI_add _ _) ?_
    refine Go.istore_n (ls' := [some (.ref k), some (.int (nI (sumN (fun j => popN (w j)) i + popN (w i)))), some (.int (nI i))]) dX6_countOf_18 (Nat.le_of_ble_eq_true rfl) rfl rfl ?_
    refine Go.iinc (v := nI (i + 1)) (ls' := [some (.ref k), some (.int (nI (sumN (fun j => popN (w j)) i + popN (w i)))), some (.int (nI (i + 1)))]) dX6_countOf_19 rfl (nI_1 _) rfl rfl ?_
    refine Go.goto 4 dX6_countOf_22 rfl ?_
    exact ih (i + 1) (by omega)
set_option maxRecDepth 20000 in
theorem s_countOf {G : Gt} {d : Nat} {M : Mm} {k : Nat} {w : Nat → Nat} (hk : (gS G)[k]? = some (.inl (0, 256, []))) (hw : ∀ j, j < 256 → M.1 k j = nI (w j) ∧ w j < 2 ^ 20) : ExI G (d + 1) mX6_countOf [.ref k] M (fun r M' => r = nI (sumN (fun j => popN (w j)) 256) ∧ M' = M) := by
  refine Ex.of (by decide) (Nat.le_of_ble_eq_true rfl) ?_
  show Go G (d + 1) mX6_countOf 0 [some (.ref k), none, none] [] M _
  refine Go.iconst (v := 0) dX6_countOf_0 (by decide) ?_
  refine Go.istore_n (ls' := [some (.ref k), some (.int 0), none]) dX6_countOf_1 (Nat.le_of_ble_eq_true rfl) rfl rfl ?_
  refine Go.iconst (v := 0) dX6_countOf_2 (by decide) ?_
  refine Go.istore_n (ls' := [some (.ref k), some (.int 0), some (.int 0)]) dX6_countOf_3 (Nat.le_of_ble_eq_true rfl) rfl rfl ?_
  exact l_countOf hk hw 256 0 (by omega)
/-- how many dishes are barred -/
def nBar (c : Nat → Nat) : Nat := sumN (fun s => cntN (fun m => decide (1 ≤ c (20 * s + m))) 20) 256
def Out (c : Nat → Nat) : Prop := ∀ y, okD y = false → c y = 0
theorem cB_out (n : Nat) (K X : Nat → Nat) (ed : Nat) : Out (cB n K X ed) := fun y h => by simp [cB, h]
theorem addC_out {c : Nat → Nat} {k x ed : Nat} (h : Out c) : Out (addC c k x ed) := fun y hy => by simp [addC, hy, h y hy]
theorem nBar_sets {c : Nat → Nat} (h : Out c) : nBar c = sumN (fun k => cntN (fun m => decide (1 ≤ c (20 * sN k + m))) 20) 92 := by
  unfold nBar
  rw [sum_sets]
  intro s hs hp
  apply sumN_0
  intro m hm
  have : okD (20 * s + m) = false := by
    unfold okD
    rw [show (20 * s + m) / 20 = s by omega]
    exact hp
  simp [h _ this]
theorem nBar_le {c : Nat → Nat} (h : Out c) : nBar c ≤ 1840 := by
  rw [nBar_sets h]
  exact sumN_le (b := 20) 92 (fun i hi => cnt_le _ 20)
theorem pop_on (c : Nat → Nat) : sumN (fun s => popN (onM c s)) 256 = nBar c := sumN_congr 256 (fun s hs => pop_mask _)
set_option maxRecDepth 20000 in
theorem s_unbarred {G : Gt} {d : Nat} {M : Mm} (hG : gS G = SHAPE) {c : Nat → Nat} (hO : OnceIs M c) (hc : Out c) : ExI G (d + 2) mX0_unbarred [.ref 27] M (fun r M' => r = nI (1840 - nBar c) ∧ M' = M) := by
  refine Ex.of (by decide) (Nat.le_of_ble_eq_true rfl) ?_
  show Go G (d + 2) mX0_unbarred 0 [some (.ref 27)] [] M _
  refine Go.sipush (v := 1840) dX0_unbarred_0 (by decide) ?_
  refine Go.aload_n dX0_unbarred_3 rfl ?_
  refine Go.getR dX0_unbarred_4 flX0_9 (shp hG rfl) rfl ?_
  refine Go.callSI [.int 1840] dX0_unbarred_7 lkX0_66 stX6_countOf cbX6_countOf (s_countOf (w := onM c) (shp hG rfl) (fun j hj => ⟨(hO j hj).1, maskN_lt _ 20⟩)) rfl rfl (Nat.le_of_ble_eq_true rfl) (fun r1 M2 hr1 => ?_)
  obtain ⟨er1, emr1⟩ := hr1
  rw [emr1]
  clear emr1 M2
  subst er1
  refine Go.isub dX0_unbarred_10 ?_
  refine Go.iret dX0_unbarred_11 rfl rfl ?_
  refine ⟨_, rfl, ?_, rfl⟩
  rw [pop_on]
  exact pk_sub (nBar_le hc)
