theorem end_iff {n i : Nat} (hn : n ≤ 3072) (hi : i ≤ 4000) : nI n - 6 < nI i ↔ n < i + 6 := by
  rw [Int32.sub_eq_add_neg, i_lt, addInt2 (by rw [nI_toInt (by omega)]; omega) (by decide), nI_toInt (by omega), nI_toInt (by omega), show ((-6 : Int32)).toInt = -6 by decide]
  omega
theorem in_44 {y : Int32} (h : ¬ (y.toInt < 0 ∨ 43 < y.toInt)) : ∃ j, j < 44 ∧ y = nI j := by
  refine ⟨y.toInt.toNat, by omega, ?_⟩
  rw [i_eq, nI_toInt (by omega)]
  omega
set_option maxRecDepth 20000 in
theorem law_sw {G : Gt} (hG : gS G = SHAPE) {M : Mm} {g : Sg} (hC : CompIs M g) (hD : ModIs M g) (hg : SgOk g) {i : Nat} (hi : i + 6 ≤ gn G) (hn : gn G ≤ 3072) {post : Option Value → Mm → Prop} (hk : ∀ M' g', CompIs M' g' → ModIs M' g' → SgOk g' → Go G 11 mL_law 1503 [some (.ref 1002), some (.ref 0), some (.ref 49), some (.int (nI i))] [] M' post) (y : Int32) : Go G 11 mL_law 33 [some (.ref 1002), some (.ref 0), some (.ref 49), some (.int (nI i))] [.int y] M post := by
  by_cases h : y.toInt < 0 ∨ 43 < y.toInt
  · exact Go.tableOut 1503 dL_law_33 h rfl (hk M g hC hD hg)
  · obtain ⟨j, hj, ej⟩ := in_44 h
    subst ej
    clear h
    have hj2 : j = 0 ∨ j = 1 ∨ j = 2 ∨ j = 3 ∨ j = 4 ∨ j = 5 ∨ j = 6 ∨ j = 7 ∨ j = 8 ∨ j = 9 ∨ j = 10 ∨ j = 11 ∨ j = 12 ∨ j = 13 ∨ j = 14 ∨ j = 15 ∨ j = 16 ∨ j = 17 ∨ j = 18 ∨ j = 19 ∨ j = 20 ∨ j = 21 ∨ j = 22 ∨ j = 23 ∨ j = 24 ∨ j = 25 ∨ j = 26 ∨ j = 27 ∨ j = 28 ∨ j = 29 ∨ j = 30 ∨ j = 31 ∨ j = 32 ∨ j = 33 ∨ j = 34 ∨ j = 35 ∨ j = 36 ∨ j = 37 ∨ j = 38 ∨ j = 39 ∨ j = 40 ∨ j = 41 ∨ j = 42 ∨ j = 43 := by omega
    clear hj
    rcases hj2 with rfl | rfl | rfl | rfl | rfl | rfl | rfl | rfl | rfl | rfl | rfl | rfl | rfl | rfl | rfl | rfl | rfl | rfl | rfl | rfl | rfl | rfl | rfl | rfl | rfl | rfl | rfl | rfl | rfl | rfl | rfl | rfl | rfl | rfl | rfl | rfl | rfl | rfl | rfl | rfl | rfl | rfl | rfl | rfl
    · exact Go.tableIn 224 dL_law_33 (by decide) (by decide) rfl rfl (w_store hG hC hD hg hi hn hk)
    · exact Go.tableIn 257 dL_law_33 (by decide) (by decide) rfl rfl (w_storeOf hG hC hD hg hi hn hk)
    · exact Go.tableIn 280 dL_law_33 (by decide) (by decide) rfl rfl (w_like hG hC hD hg hi hn hk)
    · exact Go.tableIn 323 dL_law_33 (by decide) (by decide) rfl rfl (w_edict hG hC hD hg hi hn hk)
    · exact Go.tableIn 372 dL_law_33 (by decide) (by decide) rfl rfl (w_dish hG hC hD hg hi hn hk)
    · exact Go.tableIn 415 dL_law_33 (by decide) (by decide) rfl rfl (w_of hG hC hD hg hi hn hk)
    · exact Go.tableIn 448 dL_law_33 (by decide) (by decide) rfl rfl (w_near hG hC hD hg hi hn hk)
    · exact Go.tableIn 481 dL_law_33 (by decide) (by decide) rfl rfl (w_nearHad hG hC hD hg hi hn hk)
    · exact Go.tableIn 514 dL_law_33 (by decide) (by decide) rfl rfl (w_many hG hC hD hg hi hn hk)
    · exact Go.tableIn 537 dL_law_33 (by decide) (by decide) rfl rfl (w_next hG hC hD hg hi hn hk)
    · exact Go.tableIn 560 dL_law_33 (by decide) (by decide) rfl rfl (w_enter hG hC hD hg hi hn hk)
    · exact Go.tableIn 593 dL_law_33 (by decide) (by decide) rfl rfl (w_entryOf hG hC hD hg hi hn hk)
    · exact Go.tableIn 626 dL_law_33 (by decide) (by decide) rfl rfl (w_turn hG hC hD hg hi hn hk)
    · exact Go.tableIn 659 dL_law_33 (by decide) (by decide) rfl rfl (w_as hG hC hD hg hi hn hk)
    · exact Go.tableIn 692 dL_law_33 (by decide) (by decide) rfl rfl (w_strike hG hC hD hg hi hn hk)
    · exact Go.tableIn 705 dL_law_33 (by decide) (by decide) rfl rfl (w_bars hG hC hD hg hi hn hk)
    · exact Go.tableIn 738 dL_law_33 (by decide) (by decide) rfl rfl (w_by hG hC hD hg hi hn hk)
    · exact Go.tableIn 761 dL_law_33 (by decide) (by decide) rfl rfl (w_breach hG hC hD hg hi hn hk)
    · exact Go.tableIn 774 dL_law_33 (by decide) (by decide) rfl rfl (w_keenest hG hC hD hg hi hn hk)
    · exact Go.tableIn 787 dL_law_33 (by decide) (by decide) rfl rfl (w_wouldBe hG hC hD hg hi hn hk)
    · exact Go.tableIn 810 dL_law_33 (by decide) (by decide) rfl rfl (w_best hG hC hD hg hi hn hk)
    · exact Go.tableIn 823 dL_law_33 (by decide) (by decide) rfl rfl (w_serve hG hC hD hg hi hn hk)
    · exact Go.tableIn 856 dL_law_33 (by decide) (by decide) rfl rfl (w_meals hG hC hD hg hi hn hk)
    · exact Go.tableIn 889 dL_law_33 (by decide) (by decide) rfl rfl (w_on hG hC hD hg hi hn hk)
    · exact Go.tableIn 922 dL_law_33 (by decide) (by decide) rfl rfl (w_lasts hG hC hD hg hi hn hk)
    · exact Go.tableIn 945 dL_law_33 (by decide) (by decide) rfl rfl (w_buy hG hC hD hg hi hn hk)
    · exact Go.tableIn 968 dL_law_33 (by decide) (by decide) rfl rfl (w_steps hG hC hD hg hi hn hk)
    · exact Go.tableIn 1001 dL_law_33 (by decide) (by decide) rfl rfl (w_within hG hC hD hg hi hn hk)
    · exact Go.tableIn 1034 dL_law_33 (by decide) (by decide) rfl rfl (w_walk hG hC hD hg hi hn hk)
    · exact Go.tableIn 1067 dL_law_33 (by decide) (by decide) rfl rfl (w_now hG hC hD hg hi hn hk)
    · exact Go.tableIn 1090 dL_law_33 (by decide) (by decide) rfl rfl (w_feed hG hC hD hg hi hn hk)
    · exact Go.tableIn 1123 dL_law_33 (by decide) (by decide) rfl rfl (w_wipe hG hC hD hg hi hn hk)
    · exact Go.tableIn 1136 dL_law_33 (by decide) (by decide) rfl rfl (w_book hG hC hD hg hi hn hk)
    · exact Go.tableIn 1149 dL_law_33 (by decide) (by decide) rfl rfl (w_sheet hG hC hD hg hi hn hk)
    · exact Go.tableIn 1192 dL_law_33 (by decide) (by decide) rfl rfl (w_write hG hC hD hg hi hn hk)
    · exact Go.tableIn 1266 dL_law_33 (by decide) (by decide) rfl rfl (w_copy hG hC hD hg hi hn hk)
    · exact Go.tableIn 1329 dL_law_33 (by decide) (by decide) rfl rfl (w_lays hG hC hD hg hi hn hk)
    · exact Go.tableIn 1352 dL_law_33 (by decide) (by decide) rfl rfl (w_menu hG hC hD hg hi hn hk)
    · exact Go.tableIn 1385 dL_law_33 (by decide) (by decide) rfl rfl (w_read hG hC hD hg hi hn hk)
    · exact Go.tableIn 1418 dL_law_33 (by decide) (by decide) rfl rfl (w_image hG hC hD hg hi hn hk)
    · exact Go.tableIn 1431 dL_law_33 (by decide) (by decide) rfl rfl (w_undo hG hC hD hg hi hn hk)
    · exact Go.tableIn 1444 dL_law_33 (by decide) (by decide) rfl rfl (w_tear hG hC hD hg hi hn hk)
    · exact Go.tableIn 1457 dL_law_33 (by decide) (by decide) rfl rfl (w_count hG hC hD hg hi hn hk)
    · exact Go.tableIn 1480 dL_law_33 (by decide) (by decide) rfl rfl (w_status hG hC hD hg hi hn hk)
set_option maxRecDepth 20000 in
theorem law_go {G : Gt} (hG : gS G = SHAPE) (hn : gn G ≤ 3072) : ∀ (n i : Nat) (M : Mm) (g : Sg), gn G ≤ i + n → i ≤ 3078 → CompIs M g → ModIs M g → SgOk g → Go G 11 mL_law 18 [some (.ref 1002), some (.ref 0), some (.ref 49), some (.int (nI i))] [] M (fun v _ => v = some (.int 1)) := by
  intro n
  induction n with
  | zero =>
    intro i M g hin hi9 hC hD hg
    refine Go.iload_n dL_law_18 rfl ?_
    refine Go.aload_n dL_law_19 rfl ?_
    refine Go.scriptLen dL_law_20 ?_
    refine Go.bipush (v := 6) dL_law_21 (by decide) ?_
    refine Go.isub dL_law_23 ?_
    refine Go.icmp_gt 1509 dL_law_24 rfl (fun _ => ?_) (fun h => absurd ((end_iff hn (by omega)).mpr (by omega)) h)
    refine Go.iconst (v := 1) dL_law_1509 (by decide) ?_
    exact Go.iret dL_law_1510 rfl (by decide) rfl
  | succ n ih =>
    intro i M g hin hi9 hC hD hg
    refine Go.iload_n dL_law_18 rfl ?_
    refine Go.aload_n dL_law_19 rfl ?_
    refine Go.scriptLen dL_law_20 ?_
    refine Go.bipush (v := 6) dL_law_21 (by decide) ?_
    refine Go.isub dL_law_23 ?_
    refine Go.icmp_gt 1509 dL_law_24 rfl (fun _ => ?_) (fun h => ?_)
    · refine Go.iconst (v := 1) dL_law_1509 (by decide) ?_
      exact Go.iret dL_law_1510 rfl (by decide) rfl
    · have hi : i + 6 ≤ gn G := Nat.le_of_not_lt (fun z => h ((end_iff hn (by omega)).mpr z))
      refine Go.aload_n dL_law_27 rfl ?_
      refine Go.iload_n dL_law_28 rfl ?_
      refine Go.script dL_law_29 (vin (by omega) (by omega)) ?_
      refine Go.bipush (v := 63) dL_law_30 (by decide) ?_
      refine Go.iand dL_law_32 ?_
      refine law_sw hG hC hD hg hi hn (fun M' g' h1 h2 h3 => ?_) _
      refine Go.iinc (v := nI (i + 6)) (ls' := [some (.ref 1002), some (.ref 0), some (.ref 49), some (.int (nI (i + 6)))]) dL_law_1503 rfl (nI_add i 6) rfl rfl ?_
      refine Go.goto 18 dL_law_1506 rfl ?_
      exact ih (i + 6) M' g' (by omega) (by omega) h1 h2 h3
