/-! ===== what the start gives: classes, static rows, literals ===== -/
def NWl : List Cond := flatC (Jvm.Cond.and given_1 narrow_1)
def nestP : List Nat := [91, 132, 146, 173, 251, 290, 291, 292, 297, 312, 348, 369, 370, 371, 372, 377, 379, 384, 385, 390, 391, 400, 405, 496, 534, 550, 582, 583, 584, 590, 591, 742, 753, 817, 853, 854]
theorem nest_tb : nestW.map some = nestP.map (fun i => tables_1[i]?) := by decide +kernel
theorem nest_in {w : Cond} (h : w ∈ nestW) : w ∈ lw_tbl := by
  have h1 : some w ∈ nestW.map some := List.mem_map.mpr ⟨w, h, rfl⟩
  rw [nest_tb] at h1
  obtain ⟨i, -, hi⟩ := List.mem_map.mp h1
  exact List.mem_append_right _ (List.mem_of_getElem? hi)
theorem nest_ot : ∀ w ∈ nestW, w.onTables = true := by decide +kernel
def strQ : List Nat := [675, 728, 729, 730, 731, 732, 743, 752, 755, 760, 769, 771, 772, 777, 778, 779, 780, 782]
theorem str_tb : ∀ i, i < 18 → tables_1[strQ.getD i 0]? = some (Cond.stringRef "NewDishes$Tape" (strIx.getD i 0) (strTx.getD i "")) := by decide +kernel
def tmS (i : Nat) : Term := .string "NewDishes$Tape" (strIx.getD i 0)
def sWh (i : Nat) : List Cond := [.exactly (tmS i) "java/lang/String", .eq (.field (tmS i) "java/lang/String" "coder" "B") (.int 0), .arrayOf (.field (tmS i) "java/lang/String" "value" "[B") .byte, .eq (.length (.field (tmS i) "java/lang/String" "value" "[B")) (.int (Int32.ofNat (strLn.getD i 0)))]
def sWe (i : Nat) : List Cond := (List.range (strLn.getD i 0)).map (fun j => .eq (.elem (.field (tmS i) "java/lang/String" "value" "[B") (.int (Int32.ofNat j))) (.int ((strBy.getD i []).getD j 0)))
def sWn (i : Nat) : List Cond := (List.range i).map (fun j => .not (.eq (tmS j) (tmS i)))
set_option maxRecDepth 20000 in
theorem sW_all : (List.range 18).flatMap (fun i => sWh i ++ sWe i ++ sWn i) = (NWl.drop 113).take 310 := by decide +kernel
theorem sW_in {i : Nat} (hi : i < 18) {w : Cond} (h : w ∈ sWh i ++ sWe i ++ sWn i) : w ∈ NWl := by
  have h1 : w ∈ (List.range 18).flatMap (fun i => sWh i ++ sWe i ++ sWn i) := List.mem_flatMap.mpr ⟨i, List.mem_range.mpr hi, h⟩
  rw [sW_all] at h1
  exact List.mem_of_mem_drop (List.mem_of_mem_take h1)
set_option maxRecDepth 20000 in
theorem sets_all : (List.range 92).map (fun j => Cond.eq (.elem (.static "NewDishes" "SETS" "[I") (.int (Int32.ofNat j))) (.int (setsF j))) = (NWl.drop 7).take 92 := by decide +kernel
set_option maxRecDepth 20000 in
theorem above_all : (List.range 6).map (fun j => Cond.eq (.elem (.static "NewDishes" "ABOVE" "[I") (.int (Int32.ofNat j))) (.int (aboveF j))) = (NWl.drop 102).take 6 := by decide +kernel
def nwA : List (Nat × Cond) := [(5, .arrayOf (.static "NewDishes" "SETS" "[I") .int), (6, .eq (.length (.static "NewDishes" "SETS" "[I")) (.int (Int32.ofNat 92))), (100, .arrayOf (.static "NewDishes" "ABOVE" "[I") .int), (101, .eq (.length (.static "NewDishes" "ABOVE" "[I")) (.int (Int32.ofNat 6))), (108, .eq (.static "java/lang/String" "COMPACT_STRINGS" "Z") (.int 1)), (109, .isRef (.static "jdk/internal/util/Preconditions" "SIOOBE_FORMATTER" "Ljava/util/function/BiFunction;"))]
theorem nwA_ok : ∀ q ∈ nwA, NWl[q.1]? = some q.2 := by decide +kernel
theorem nwA_in (k : Nat) {i : Nat} {w : Cond} (h : nwA[k]? = some (i, w)) : w ∈ NWl := List.mem_of_getElem? (nwA_ok _ (List.mem_of_getElem? h))
def tbA : List (Nat × Cond) := [(378, .laysStatic "NewDishes" "SETS" "[I"), (464, .laysStatic "NewDishes" "ABOVE" "[I"), (689, .laysStatic "java/lang/String" "COMPACT_STRINGS" "Z"), (705, .laysStatic "jdk/internal/util/Preconditions" "SIOOBE_FORMATTER" "Ljava/util/function/BiFunction;"), (1, .initialized "NewDishes"), (13, .initialized "java/lang/String"), (15, .initialized "jdk/internal/util/Preconditions"), (171, .arrayOver (.object "NewDishes$Sheet"))]
theorem tbA_ok : ∀ q ∈ tbA, tables_1[q.1]? = some q.2 := by decide +kernel
theorem tbA_in (k : Nat) {i : Nat} {w : Cond} (h : tbA[k]? = some (i, w)) : w ∈ lw_tbl := List.mem_append_right _ (List.mem_of_getElem? (tbA_ok _ (List.mem_of_getElem? h)))
theorem vk_S.congr {N : Nat} {len : List Nat} {byt : List (List Int32)} {adK adV adK' adV' : Nat → Nat} {A : Nat → Prop} {U : State} {H : Heap} (h : vk_S N len byt adK adV A U H) (h1 : ∀ i, i < N → adK' i = adK i) (h2 : ∀ i, i < N → adV' i = adV i) : vk_S N len byt adK' adV' A U H := by
  refine ⟨fun i hi => ?_, fun i j hi hj e => ?_⟩
  · rw [h1 i hi, h2 i hi]
    exact h.1 i hi
  · rw [h1 i hi, h1 j hj] at e
    exact h.2 i j hi hj e
set_option maxHeartbeats 1000000 in
theorem start_G (l : Launch) {s : State} {b L : Nat} {xs : Nat → Int32} (hts : ∀ w ∈ lw_tbl, w.before #[Value.ref b] s = true) (hgv : (Jvm.Cond.and given_1 narrow_1).before #[Value.ref b] s = true) (hX : va_X b L xs s s.heap) (hbl : b < s.heap.size) :
    ∃ G : Gt, gl G = l ∧ gz G = s.heap.size ∧ gn G = L ∧ gx G = xs ∧ ga G 1002 = b ∧ va_K (gD G) vwCl (tysG G) s ∧ Stat G s s.heap ∧ va_AO "NewDishes$Sheet" s := by
  have hW : ∀ w ∈ WSall, w.before #[Value.ref b] s = true := fun w h => hts w (List.mem_filter.mp h).1
  have hN : ∀ w ∈ NWl, w.before #[Value.ref b] s = true := flat_of_before _ hgv
  have hA : ∀ a : Nat, a < s.heap.size → ¬ (fun q : Nat => s.heap.size ≤ q) a := fun a h1 h2 => absurd h1 (Nat.not_lt.mpr h2)
  have hk : ∀ k : Nat, ∃ d : ClassId × (Nat → Nat), ∀ q : vw_C, vwCl[k]? = some q → u_Kn s q.1 q.2.1 q.2.2 d.1 d.2
    | 0 => by
      obtain ⟨c, i, h⟩ := u_known (C := RX0) (T := TX0) (N := 2) (n := 2) hW (clsW (ci := 0) rfl) (hW _ kIn0)
      exact ⟨(c, i), fun q hq => by cases hq; exact h⟩
    | 1 => by
      obtain ⟨c, i, h⟩ := u_known (C := RX1) (T := TX1) (N := 10) (n := 10) hW (clsW (ci := 1) rfl) (hW _ kIn1)
      exact ⟨(c, i), fun q hq => by cases hq; exact h⟩
    | 2 => by
      obtain ⟨c, i, h⟩ := u_known (C := RX2) (T := TX2) (N := 7) (n := 7) hW (clsW (ci := 2) rfl) (hW _ kIn2)
      exact ⟨(c, i), fun q hq => by cases hq; exact h⟩
    | 3 => by
      obtain ⟨c, i, h⟩ := u_known (C := RX3) (T := TX3) (N := 2) (n := 2) hW (clsW (ci := 3) rfl) (hW _ kIn3)
      exact ⟨(c, i), fun q hq => by cases hq; exact h⟩
    | 4 => by
      obtain ⟨c, i, h⟩ := u_known (C := RX4) (T := TX4) (N := 3) (n := 3) hW (clsW (ci := 4) rfl) (hW _ kIn4)
      exact ⟨(c, i), fun q hq => by cases hq; exact h⟩
    | 5 => by
      obtain ⟨c, i, h⟩ := u_known (C := RX5) (T := TX5) (N := 6) (n := 6) hW (clsW (ci := 5) rfl) (hW _ kIn5)
      exact ⟨(c, i), fun q hq => by cases hq; exact h⟩
    | 6 => by
      obtain ⟨c, i, h⟩ := u_known (C := RX6) (T := TX6) (N := 9) (n := 9) hW (clsW (ci := 6) rfl) (hW _ kIn6)
      exact ⟨(c, i), fun q hq => by cases hq; exact h⟩
    | 7 => by
      obtain ⟨c, i, h⟩ := u_known (C := RX7) (T := TX7) (N := 36) (n := 36) hW (clsW (ci := 7) rfl) (hW _ kIn7)
      exact ⟨(c, i), fun q hq => by cases hq; exact h⟩
    | k + 8 => ⟨(0, fun _ => 0), fun q hq => by simp at hq⟩
  obtain ⟨dd, hdd⟩ := Classical.axiomOfChoice hk
  obtain ⟨ci, ki, pi_, hi1, hi2, hi3⟩ := Cond.arrayClass_spec (hW _ kAi)
  obtain ⟨cz, kz, pz, hz1, hz2, hz3⟩ := Cond.arrayClass_spec (hW _ kAz)
  obtain ⟨cl, kl, pl, hl1, hl2, hl3⟩ := Cond.arrayClass_spec (hW _ kAl)
  have hAO : va_AO "NewDishes$Sheet" s := va_AO.of (hts _ (tbA_in 7 rfl))
  obtain ⟨po, co, ko, ho1, ho2, ho3, ho4, ho5⟩ := Cond.arrayOver_spec (hts _ (tbA_in 7 rfl))
  obtain ⟨tS, eS, hS⟩ := va_Tof (N := 92) (f := fun j => .int (setsF j)) (A := fun q : Nat => s.heap.size ≤ q) (by decide) (hN _ (nwA_in 0 rfl)) (va_eqt (hN _ (nwA_in 1 rfl))) (fun j hj => va_eqt (hN _ (va_run sets_all j hj))) hA
  obtain ⟨tB, eB, hB⟩ := va_Tof (N := 6) (f := fun j => .int (aboveF j)) (A := fun q : Nat => s.heap.size ≤ q) (by decide) (hN _ (nwA_in 2 rfl)) (va_eqt (hN _ (nwA_in 3 rfl))) (fun j hj => va_eqt (hN _ (va_run above_all j hj))) hA
  have zS := va_Zref (A := fun q : Nat => s.heap.size ≤ q) (hts _ (tbA_in 0 rfl)) (hts _ (tbA_in 4 rfl)) eS hA
  have zB := va_Zref (A := fun q : Nat => s.heap.size ≤ q) (hts _ (tbA_in 1 rfl)) (hts _ (tbA_in 4 rfl)) eB hA
  have zC := va_Zof (A := fun q : Nat => s.heap.size ≤ q) (hts _ (tbA_in 2 rfl)) (hts _ (tbA_in 5 rfl)) (va_eqi (hN _ (nwA_in 4 rfl))) hA
  have zF := va_Zqof (A := fun q : Nat => s.heap.size ≤ q) (hts _ (tbA_in 3 rfl)) (hts _ (tbA_in 6 rfl)) (hN _ (nwA_in 5 rfl)) hA
  obtain ⟨tF, zF⟩ : ∃ t : Nat, va_Z "jdk/internal/util/Preconditions" "SIOOBE_FORMATTER" "Ljava/util/function/BiFunction;" .null (fun q : Nat => s.heap.size ≤ q) s s.heap ∨ va_Z "jdk/internal/util/Preconditions" "SIOOBE_FORMATTER" "Ljava/util/function/BiFunction;" (.ref t) (fun q : Nat => s.heap.size ≤ q) s s.heap := by
    rcases zF with h | ⟨t, h⟩
    · exact ⟨0, Or.inl h⟩
    · exact ⟨t, Or.inr h⟩
  obtain ⟨adK, adV, hK, eK⟩ := vk_Sof (N := 18) (tm := tmS) (len := strLn) (byt := strBy) (A := fun q : Nat => s.heap.size ≤ q) (args := #[Value.ref b]) (s := s) (by decide) (fun i hi => hN _ (sW_in hi (List.mem_append_left _ (List.mem_append_left _ (List.mem_of_getElem? (i := 0) rfl))))) (fun i hi => hN _ (sW_in hi (List.mem_append_left _ (List.mem_append_left _ (List.mem_of_getElem? (i := 1) rfl))))) (fun i hi => hN _ (sW_in hi (List.mem_append_left _ (List.mem_append_left _ (List.mem_of_getElem? (i := 2) rfl))))) (fun i hi => hN _ (sW_in hi (List.mem_append_left _ (List.mem_append_left _ (List.mem_of_getElem? (i := 3) rfl)))))
    (fun i hi j hj => hN _ (sW_in hi (List.mem_append_left _ (List.mem_append_right _ (List.mem_map.mpr ⟨j, List.mem_range.mpr hj, rfl⟩)))))
    (fun i j hi hj hij => by
      rcases Nat.lt_or_gt_of_ne hij with h | h
      · exact Or.inl (hN _ (sW_in hj (List.mem_append_right _ (List.mem_map.mpr ⟨i, List.mem_range.mpr h, rfl⟩))))
      · exact Or.inr (hN _ (sW_in hi (List.mem_append_right _ (List.mem_map.mpr ⟨j, List.mem_range.mpr h, rfl⟩))))) hA
  obtain ⟨scr, x1, x2, x3, x4, x5⟩ := hX
  have hXT : va_T .int b L (fun j => .int (xs j)) (fun q : Nat => s.heap.size ≤ q) s s.heap := ⟨scr, x1, x2, x3, by omega, by rw [x4], x5, hA b hbl⟩
  have g1 : ∀ i, i < 18 → (fun k : Nat => if k = 1000 then tS else if k = 1001 then tB else if k = 1002 then b else if k = 3000 then tF else if k < 2100 then adK (k - 2000) else adV (k - 2100)) (2000 + i) = adK i := by
    intro i hi
    show (if 2000 + i = 1000 then _ else _) = _
    rw [if_neg (by omega), if_neg (by omega), if_neg (by omega), if_neg (by omega), if_pos (by omega), show 2000 + i - 2000 = i by omega]
  have g2 : ∀ i, i < 18 → (fun k : Nat => if k = 1000 then tS else if k = 1001 then tB else if k = 1002 then b else if k = 3000 then tF else if k < 2100 then adK (k - 2000) else adV (k - 2100)) (2100 + i) = adV i := by
    intro i hi
    show (if 2100 + i = 1000 then _ else _) = _
    rw [if_neg (by omega), if_neg (by omega), if_neg (by omega), if_neg (by omega), if_neg (by omega), show 2100 + i - 2100 = i by omega]
  refine ⟨(l, (fun k => (dd k).1, fun k => (dd k).2), fun k : Nat => if k = 1000 then tS else if k = 1001 then tB else if k = 1002 then b else if k = 3000 then tF else if k < 2100 then adK (k - 2000) else adV (k - 2100), fun k => if k = 0 then ci else if k = 1 then cz else if k = 2 then cl else co, [], s.heap.size, L, xs), rfl, rfl, rfl, rfl, rfl, ⟨fun k q hq => hdd k q hq, fun k q hq => ?_⟩, ⟨fun w hw => va_Nw.of (nest_ot w hw) (hts w (nest_in hw)), zS, hS, zB, hB, hXT, zC, zF, hK.congr g1 g2, fun i hi => ?_⟩, hAO⟩
  · match k, hq with
    | 0, hq => cases hq; exact ⟨fun n z => ⟨fun k h => (by cases h), ki, hi2, pi_, hi3⟩, hi1⟩
    | 1, hq => cases hq; exact ⟨fun n z => ⟨fun k h => (by cases h), kz, hz2, pz, hz3⟩, hz1⟩
    | 2, hq => cases hq; exact ⟨fun n z => ⟨fun k h => (by cases h), kl, hl2, pl, hl3⟩, hl1⟩
    | 3, hq => cases hq; exact ⟨fun n z => ⟨fun k h => (by cases h), ko, ho3, po, ho4⟩, ko, po, ho3, ho4, ho1, ho5⟩
    | k + 4, hq => simp [tysG] at hq
  · have e1 := g1 i hi
    show vk_R "NewDishes$Tape" (strIx.getD i 0) (strTx.getD i "") ((fun k : Nat => if k = 1000 then tS else if k = 1001 then tB else if k = 1002 then b else if k = 3000 then tF else if k < 2100 then adK (k - 2000) else adV (k - 2100)) (2000 + i)) s
    rw [e1]
    exact vk_R.of (A := #[Value.ref b]) (hts _ (List.mem_append_right _ (List.mem_of_getElem? (str_tb i hi)))) (eK i hi)
