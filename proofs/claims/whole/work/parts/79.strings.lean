theorem tkS : chkT [(688, Cond.fieldLink "java/lang/String" 38 "java/lang/String" "COMPACT_STRINGS" "Z"), (704, Cond.fieldLink "java/lang/String" 1053 "jdk/internal/util/Preconditions" "SIOOBE_FORMATTER" "Ljava/util/function/BiFunction;"), (1422, Cond.fieldLink "java/lang/String" 9 "java/lang/String" "value" "[B"), (1423, Cond.fieldLink "java/lang/String" 15 "java/lang/String" "coder" "B")] = true := by decide +kernel
theorem Go.ldcS {G : Gt} {d : Nat} {mt : Mt} {pc : Nat} {ls : List (Option Value)} {st : List Value} {M : Mm} {post : Option Value → Mm → Prop} {idx : Nat} (i : Nat) (hi : i < 18) (hd : decode mt.2.1 pc = .ok (.ldc idx, 2)) (hc : mt.1.cls = "NewDishes$Tape") (hidx : strIx.getD i 0 = idx) (kk : Go G d mt (pc + 2) ls (.ref (2000 + i) :: st) M post) : Go G d mt pc ls st M post := by
  intro p e R s m a below meth c cells slots Q H locs lsA C hP hS hl hF
  obtain ⟨hx, hb, hml, hown, hts, hok, hsz, hK, hSt, hfr, hlo, hce, hsl⟩ := id C
  have h10 := hSt.2.2.2.2.2.2.2.2.2 i hi
  rw [hidx] at h10
  rw [hc] at hown
  exact va_ldcS hx hb hown h10 hd (kk p e R s m a below meth c cells slots Q H locs lsA C hP hS hl hF)
theorem Go.strVal {G : Gt} {d : Nat} {mt : Mt} {pc : Nat} {ls : List (Option Value)} {st : List Value} {M : Mm} {post : Option Value → Mm → Prop} (i : Nat) (hi : i < 18) (hd : decode mt.2.1 pc = .ok (.getfield 9, 3)) (hc : mt.1.cls = "java/lang/String") (kk : Go G d mt (pc + 3) ls (.ref (2100 + i) :: st) M post) : Go G d mt pc ls (.ref (2000 + i) :: st) M post := by
  intro p e R s m a below meth c cells slots Q H locs lsA C hP hS hl hF
  obtain ⟨hx, hb, hml, hown, hts, hok, hsz, hK, hSt, hfr, hlo, hce, hsl⟩ := id C
  rw [hc] at hown
  exact vk_getf hx hb (hSt.2.2.2.2.2.2.2.2.1.1 i hi).2.2.1 hS hown (hts _ (List.mem_cons_of_mem _ (tmem tkS 2 rfl))) (fun _ h => h) hd (kk p e R s m a below meth c cells slots Q H locs lsA C hP hS hl hF)
theorem Go.strCod {G : Gt} {d : Nat} {mt : Mt} {pc : Nat} {ls : List (Option Value)} {st : List Value} {M : Mm} {post : Option Value → Mm → Prop} (i : Nat) (hi : i < 18) (hd : decode mt.2.1 pc = .ok (.getfield 15, 3)) (hc : mt.1.cls = "java/lang/String") (kk : Go G d mt (pc + 3) ls (.int 0 :: st) M post) : Go G d mt pc ls (.ref (2000 + i) :: st) M post := by
  intro p e R s m a below meth c cells slots Q H locs lsA C hP hS hl hF
  obtain ⟨hx, hb, hml, hown, hts, hok, hsz, hK, hSt, hfr, hlo, hce, hsl⟩ := id C
  rw [hc] at hown
  exact vk_getf hx hb (hSt.2.2.2.2.2.2.2.2.1.1 i hi).2.1 hS hown (hts _ (List.mem_cons_of_mem _ (tmem tkS 3 rfl))) (fun _ h => h) hd (kk p e R s m a below meth c cells slots Q H locs lsA C hP hS hl hF)
theorem Go.bytLen {G : Gt} {d : Nat} {mt : Mt} {pc : Nat} {ls : List (Option Value)} {st : List Value} {M : Mm} {post : Option Value → Mm → Prop} (i : Nat) (hi : i < 18) (hd : decode mt.2.1 pc = .ok (.arraylength, 1)) (kk : Go G d mt (pc + 1) ls (.int (nI (strLn.getD i 0)) :: st) M post) : Go G d mt pc ls (.ref (2100 + i) :: st) M post := by
  intro p e R s m a below meth c cells slots Q H locs lsA C hP hS hl hF
  obtain ⟨hx, hb, hml, hown, hts, hok, hsz, hK, hSt, hfr, hlo, hce, hsl⟩ := id C
  exact va_tlen hx hb (hSt.2.2.2.2.2.2.2.2.1.1 i hi).2.2.2 hS rfl hd (kk p e R s m a below meth c cells slots Q H locs lsA C hP hS hl hF)
theorem Go.bytAt {G : Gt} {d : Nat} {mt : Mt} {pc : Nat} {ls : List (Option Value)} {st : List Value} {M : Mm} {post : Option Value → Mm → Prop} {j : Int32} (i : Nat) (hi : i < 18) (hd : decode mt.2.1 pc = .ok (.baload, 1)) (hin : vp_in j (strLn.getD i 0)) (kk : Go G d mt (pc + 1) ls (.int ((strBy.getD i []).getD j.toNatClampNeg 0) :: st) M post) : Go G d mt pc ls (.int j :: .ref (2100 + i) :: st) M post := by
  intro p e R s m a below meth c cells slots Q H locs lsA C hP hS hl hF
  obtain ⟨hx, hb, hml, hown, hts, hok, hsz, hK, hSt, hfr, hlo, hce, hsl⟩ := id C
  exact va_tb hx hb (hSt.2.2.2.2.2.2.2.2.1.1 i hi).2.2.2 hS hin rfl hd (kk p e R s m a below meth c cells slots Q H locs lsA C hP hS hl hF)
theorem Go.compact {G : Gt} {d : Nat} {mt : Mt} {pc : Nat} {ls : List (Option Value)} {st : List Value} {M : Mm} {post : Option Value → Mm → Prop} (hd : decode mt.2.1 pc = .ok (.getstatic 38, 3)) (hc : mt.1.cls = "java/lang/String") (kk : Go G d mt (pc + 3) ls (.int 1 :: st) M post) : Go G d mt pc ls st M post := by
  intro p e R s m a below meth c cells slots Q H locs lsA C hP hS hl hF
  obtain ⟨hx, hb, hml, hown, hts, hok, hsz, hK, hSt, hfr, hlo, hce, hsl⟩ := id C
  rw [hc] at hown
  exact va_gets hx hb hSt.2.2.2.2.2.2.1 hS hown (hts _ (List.mem_cons_of_mem _ (tmem tkS 0 rfl))) (fun _ h => h) hd (kk p e R s m a below meth c cells slots Q H locs lsA C hP hS hl hF)
theorem Go.sioobe {G : Gt} {d : Nat} {mt : Mt} {pc : Nat} {ls : List (Option Value)} {st : List Value} {M : Mm} {post : Option Value → Mm → Prop} (hd : decode mt.2.1 pc = .ok (.getstatic 1053, 3)) (hc : mt.1.cls = "java/lang/String") (kk0 : ∀ v : Value, (v = .null ∨ v = .ref 3000) → Go G d mt (pc + 3) ls (v :: st) M post) : Go G d mt pc ls st M post := by
  intro p e R s m a below meth c cells slots Q H locs lsA C hP hS hl hF
  obtain ⟨hx, hb, hml, hown, hts, hok, hsz, hK, hSt, hfr, hlo, hce, hsl⟩ := id C
  rw [hc] at hown
  rcases hSt.2.2.2.2.2.2.2.1 with h8 | h8
  · exact va_gets hx hb h8 hS hown (hts _ (List.mem_cons_of_mem _ (tmem tkS 1 rfl))) (fun _ h => h) hd (kk0 .null (Or.inl rfl) p e R s m a below meth c cells slots Q H locs lsA C hP hS hl hF)
  · exact va_gets hx hb h8 hS hown (hts _ (List.mem_cons_of_mem _ (tmem tkS 1 rfl))) (fun _ h => h) hd (kk0 (.ref 3000) (Or.inr rfl) p e R s m a below meth c cells slots Q H locs lsA C hP hS hl hF)
theorem Go.callT {G : Gt} {d : Nat} {mt : Mt} {pc : Nat} {ls : List (Option Value)} {st : List Value} {M : Mm} {post : Option Value → Mm → Prop} {idx n i : Nat} {mt' : Mt} {as rest : List Value} {post1 : Option Value → Mm → Prop} (hi : i < 18) (hd : decode mt.2.1 pc = .ok (.invokevirtual idx, 3)) (hk : LK mt.1.cls idx mt') (hin : Cond.instanceMethod mt'.1 ∈ WSall) (hse : Cond.selects mt'.1.cls mt'.1 mt'.1 ∈ WSall) (hc : CB mt' n) (hn : as.length = n) (hcl : mt'.1.cls = "java/lang/String") (hE : Ex G d mt' (.ref (2000 + i) :: as) M post1) (hst2 : st = as.reverse ++ .ref (2000 + i) :: rest) (hr : (rest.map fun v => v.category).sum ≤ 8)
    (kk : ∀ v M', post1 v M' → Go G (d + 1) mt (pc + 3) ls (v.toList ++ rest) M' post) : Go G (d + 1) mt pc ls st M post := by
  intro p e R s m a below meth c cells slots Q H locs lsA C hP hS hl hF
  obtain ⟨hx, hb, hml, hown, hts, hok, hsz, hK, hSt, hfr, hlo, hce, hsl⟩ := id C
  subst hst2
  have hrm : (room d).frames + 1 ≤ R.frames ∧ 8 + (mt'.2.2.1 + 11) + (room d).locals ≤ R.locals := ⟨hfr, by have := hc.2.2.2; show 8 + (mt'.2.2.1 + 11) + 40 * d ≤ R.locals; omega⟩
  have hpre : PreV s H mt'.1.cls (ga G (2000 + i)) (va_Pc ((.ref (2000 + i) :: as).map (tv (ga G))) (PcW G M)) (as.map (tv (ga G))) := ⟨PcW.blind G M _, by rw [hcl]; exact vk_recv (adK := fun i => ga G (2000 + i)) (i := i) hSt.2.2.2.2.2.2.2.2.1 hi hS, fun U hU hW => ⟨rfl, PcW.at hok hsz hP hS hK hSt hU hW⟩⟩
  have hstk : ((as.reverse ++ .ref (2000 + i) :: rest).map (tv (ga G))) = (as.map (tv (ga G))).reverse ++ .ref (ga G (2000 + i)) :: rest.map (tv (ga G)) := by rw [List.map_append, List.map_reverse]; rfl
  have hcat : ((rest.map (tv (ga G))).map fun v => v.category).sum ≤ 8 := by rw [List.map_map]; simpa [Function.comp_def, tv_cat] using hr
  have hini := hts _ (List.mem_cons_of_mem _ hc.1)
  have hrun : va_Run p (gl G) e R s m a below meth c H locs cells slots 0 0 (F0 m pc lsA ((as.reverse ++ .ref (2000 + i) :: rest).map (tv (ga G)))) (rest.map (tv (ga G))) (QcW G post1 ((.ref (2000 + i) :: as).map (tv (ga G))).toArray) (A0 G) := by
    rcases hk with hk | ⟨host, hk⟩
    · exact va_runV ⟨hx, hb, hml, hown, hts⟩ hE ⟨callB_of n hts (hc.good mt) rfl rfl rfl hini (hts _ (List.mem_cons_of_mem _ hk)) hc.2.2.1 hrm, hts _ (List.mem_cons_of_mem _ hin), hts _ (List.mem_cons_of_mem _ hse)⟩ hpre rfl (by simp [hn]) hl.2.1 hstk (lv_room hcat) hd ⟨hce, hsl⟩
    · exact va_runVN ⟨hx, hb, hml, hown, hts⟩ hE ⟨va_cnB n hts (hc.good mt) rfl rfl rfl (hSt.1 _ hk) hini hc.2.2.1 hrm, hts _ (List.mem_cons_of_mem _ hin), hts _ (List.mem_cons_of_mem _ hse)⟩ hpre rfl (by simp [hn]) hl.2.1 hstk (lv_room hcat) hd ⟨hce, hsl⟩
  refine Go.back hrun hS (fun v M' H1 locs1 hv hP1 hS1 => ?_)
  have := kk v M' hv p e R s m a below meth c cells slots Q H1 locs1 lsA C hP1 hS1 hl hF
  rw [List.map_append] at this
  exact this
theorem Go.callTI {G : Gt} {d : Nat} {mt : Mt} {pc : Nat} {ls : List (Option Value)} {st : List Value} {M : Mm} {post : Option Value → Mm → Prop} {idx n i : Nat} {mt' : Mt} {as : List Value} {post1 : Int32 → Mm → Prop} (rest : List Value) (hi : i < 18) (hd : decode mt.2.1 pc = .ok (.invokevirtual idx, 3)) (hk : LK mt.1.cls idx mt') (hin : Cond.instanceMethod mt'.1 ∈ WSall) (hse : Cond.selects mt'.1.cls mt'.1 mt'.1 ∈ WSall) (hc : CB mt' n) (hcl : mt'.1.cls = "java/lang/String") (hE : ExI G d mt' (.ref (2000 + i) :: as) M post1) (hn : as.length = n) (hst2 : st = as.reverse ++ .ref (2000 + i) :: rest) (hr : (rest.map fun v => v.category).sum ≤ 8)
    (kk : ∀ (x : Int32) M', post1 x M' → Go G (d + 1) mt (pc + 3) ls (.int x :: rest) M' post) : Go G (d + 1) mt pc ls st M post :=
  Go.callT hi hd hk hin hse hc hn hcl hE hst2 hr (fun v M' ⟨x, e, h⟩ => by subst e; exact kk x M' h)
theorem s_coder {G : Gt} {d : Nat} {M : Mm} {i : Nat} (hi : i < 18) : ExI G d mJ0_coder_7d493 [.ref (2000 + i)] M (fun r M' => r = 0 ∧ M' = M) := by
  refine Ex.of (by decide) (Nat.le_of_ble_eq_true rfl) ?_
  show Go G d mJ0_coder_7d493 0 [some (.ref (2000 + i))] [] M _
  refine Go.compact dJ0_coder_7d493_0 rfl ?_
  refine Go.if_eq 13 dJ0_coder_7d493_3 rfl (fun h => absurd h (by decide)) (fun _ => ?_)
  refine Go.aload_n dJ0_coder_7d493_6 rfl ?_
  refine Go.strCod i hi dJ0_coder_7d493_7 rfl ?_
  refine Go.goto 14 dJ0_coder_7d493_10 rfl ?_
  refine Go.iret dJ0_coder_7d493_14 rfl (by decide) ?_
  exact ⟨_, rfl, rfl, rfl⟩
theorem s_latin {G : Gt} {d : Nat} {M : Mm} {i : Nat} (hi : i < 18) : ExI G d mJ0_isLatin1_aae02 [.ref (2000 + i)] M (fun r M' => r = 1 ∧ M' = M) := by
  refine Ex.of (by decide) (Nat.le_of_ble_eq_true rfl) ?_
  show Go G d mJ0_isLatin1_aae02 0 [some (.ref (2000 + i))] [] M _
  refine Go.compact dJ0_isLatin1_aae02_0 rfl ?_
  refine Go.if_eq 17 dJ0_isLatin1_aae02_3 rfl (fun h => absurd h (by decide)) (fun _ => ?_)
  refine Go.aload_n dJ0_isLatin1_aae02_6 rfl ?_
  refine Go.strCod i hi dJ0_isLatin1_aae02_7 rfl ?_
  refine Go.if_ne 17 dJ0_isLatin1_aae02_10 rfl (fun h => absurd rfl h) (fun _ => ?_)
  refine Go.iconst (v := 1) dJ0_isLatin1_aae02_13 (by decide) ?_
  refine Go.goto 18 dJ0_isLatin1_aae02_14 rfl ?_
  refine Go.iret dJ0_isLatin1_aae02_18 rfl (by decide) ?_
  exact ⟨_, rfl, rfl, rfl⟩
theorem len_sh : ∀ i, i < 18 → nI (strLn.getD i 0) >>> ((0 : Int32) &&& 31) = nI (strLn.getD i 0) ∧ strLn.getD i 0 ≤ 7 ∧ strLn.getD i 0 = (strBy.getD i []).length := by decide +kernel
theorem s_len {G : Gt} {d : Nat} {M : Mm} {i : Nat} (hi : i < 18) : ExI G (d + 1) mJ0_length_8abf5 [.ref (2000 + i)] M (fun r M' => r = nI (strLn.getD i 0) ∧ M' = M) := by
  refine Ex.of (by decide) (Nat.le_of_ble_eq_true rfl) ?_
  show Go G (d + 1) mJ0_length_8abf5 0 [some (.ref (2000 + i))] [] M _
  refine Go.aload_n dJ0_length_8abf5_0 rfl ?_
  refine Go.strVal i hi dJ0_length_8abf5_1 rfl ?_
  refine Go.bytLen i hi dJ0_length_8abf5_4 ?_
  refine Go.aload_n dJ0_length_8abf5_5 rfl ?_
  refine Go.callTI [.int (nI (strLn.getD i 0))] hi dJ0_length_8abf5_6 lkJ0_335 imJ0_coder_7d493 seJ0_coder_7d493 cbJ0_coder_7d493 rfl (s_coder hi) rfl rfl (Nat.le_of_ble_eq_true rfl) (fun r1 M2 hr1 => ?_)
  obtain ⟨er1, emr1⟩ := hr1
  subst er1
  rw [emr1]
  refine Go.ishr dJ0_length_8abf5_9 ?_
  refine Go.eqI (y := nI (strLn.getD i 0)) (len_sh i hi).1 ?_
  refine Go.iret dJ0_length_8abf5_10 rfl rfl ?_
  exact ⟨_, rfl, rfl, rfl⟩
theorem s_chk3 {G : Gt} {d : Nat} {M : Mm} {k n : Nat} (hk : k < n) (hn : n ≤ 7) {v : Value} (hv : v = .null ∨ v = .ref 3000) : ExI G d mJ3_checkIndex_8e157 [.int (nI k), .int (nI n), v] M (fun r M' => r = nI k ∧ M' = M) := by
  have hlen : (argL [.int (nI k), .int (nI n), v]).length ≤ 3 := by rcases hv with h | h <;> subst h <;> exact Nat.le_of_ble_eq_true rfl
  refine Ex.of (by decide) hlen ?_
  have hs : ∃ w3 : Option Value, entL 3 [.int (nI k), .int (nI n), v] = [some (.int (nI k)), some (.int (nI n)), w3] := by rcases hv with h | h <;> subst h <;> exact ⟨_, rfl⟩
  obtain ⟨w3, hs⟩ := hs
  show Go G d mJ3_checkIndex_8e157 0 (entL 3 [.int (nI k), .int (nI n), v]) [] M _
  rw [hs]
  refine Go.iload_n dJ3_checkIndex_8e157_0 rfl ?_
  refine Go.if_lt 9 dJ3_checkIndex_8e157_1 rfl (fun h => absurd h (nI_pos (by omega))) (fun _ => ?_)
  refine Go.iload_n dJ3_checkIndex_8e157_4 rfl ?_
  refine Go.iload_n dJ3_checkIndex_8e157_5 rfl ?_
  refine Go.icmp_lt 16 dJ3_checkIndex_8e157_6 rfl (fun _ => ?_) (fun h => absurd (nI_lt hk (by omega)) h)
  refine Go.iload_n dJ3_checkIndex_8e157_16 rfl ?_
  refine Go.iret dJ3_checkIndex_8e157_17 rfl rfl ?_
  exact ⟨_, rfl, rfl, rfl⟩
theorem s_chk {G : Gt} {d : Nat} {M : Mm} {k n : Nat} (hk : k < n) (hn : n ≤ 7) : ExV G (d + 1) mJ0_checkIndex_df160 [.int (nI k), .int (nI n)] M (fun M' => M' = M) := by
  refine Ex.of (by decide) (Nat.le_of_ble_eq_true rfl) ?_
  show Go G (d + 1) mJ0_checkIndex_df160 0 [some (.int (nI k)), some (.int (nI n))] [] M _
  refine Go.iload_n dJ0_checkIndex_df160_0 rfl ?_
  refine Go.iload_n dJ0_checkIndex_df160_1 rfl ?_
  refine Go.sioobe dJ0_checkIndex_df160_2 rfl (fun v hv => ?_)
  refine Go.callSI (as := [.int (nI k), .int (nI n), v]) [] dJ0_checkIndex_df160_5 lkJ0_1059 stJ3_checkIndex_8e157 cbJ3_checkIndex_8e157 (s_chk3 hk hn hv) rfl rfl (Nat.le_of_ble_eq_true rfl) (fun r1 M2 hr1 => ?_)
  obtain ⟨er1, emr1⟩ := hr1
  rw [emr1]
  refine Go.pop dJ0_checkIndex_df160_8 rfl ?_
  refine Go.vret dJ0_checkIndex_df160_9 rfl ?_
  exact ⟨rfl, rfl⟩
theorem chr_ok : ∀ i, i < 18 → ∀ k, k < strLn.getD i 0 → (((((strBy.getD i []).getD k 0) &&& 255).toUInt32) % 65536).toInt32 = (strBy.getD i []).getD k 0 ∧ narrow .char (.int ((strBy.getD i []).getD k 0)) = .int ((strBy.getD i []).getD k 0) ∧ 97 ≤ ((strBy.getD i []).getD k 0).toInt ∧ ((strBy.getD i []).getD k 0).toInt ≤ 122 := by decide +kernel
theorem s_chr1 {G : Gt} {d : Nat} {M : Mm} {i k : Nat} (hi : i < 18) (hk : k < strLn.getD i 0) : ExI G (d + 2) mJ1_charAt_3b067 [.ref (2100 + i), .int (nI k)] M (fun r M' => r = (strBy.getD i []).getD k 0 ∧ M' = M) := by
  have h7 := (len_sh i hi).2.1
  refine Ex.of (by decide) (Nat.le_of_ble_eq_true rfl) ?_
  show Go G (d + 2) mJ1_charAt_3b067 0 [some (.ref (2100 + i)), some (.int (nI k))] [] M _
  refine Go.iload_n dJ1_charAt_3b067_0 rfl ?_
  refine Go.aload_n dJ1_charAt_3b067_1 rfl ?_
  refine Go.bytLen i hi dJ1_charAt_3b067_2 ?_
  refine Go.callSV [] dJ1_charAt_3b067_3 lkJ1_9 stJ0_checkIndex_df160 cbJ0_checkIndex_df160 (s_chk hk h7) rfl rfl (Nat.le_of_ble_eq_true rfl) (fun M2 hr1 => ?_)
  rw [hr1]
  refine Go.aload_n dJ1_charAt_3b067_6 rfl ?_
  refine Go.iload_n dJ1_charAt_3b067_7 rfl ?_
  refine Go.bytAt i hi dJ1_charAt_3b067_8 (vin hk (by omega)) ?_
  rw [ncl (by omega)]
  refine Go.sipush (v := 255) dJ1_charAt_3b067_9 (by decide) ?_
  refine Go.iand dJ1_charAt_3b067_12 ?_
  refine Go.i2c dJ1_charAt_3b067_13 ?_
  refine Go.eqI (y := (strBy.getD i []).getD k 0) (chr_ok i hi k hk).1 ?_
  refine Go.iret dJ1_charAt_3b067_14 rfl (chr_ok i hi k hk).2.1 ?_
  exact ⟨_, rfl, rfl, rfl⟩
theorem s_chr {G : Gt} {d : Nat} {M : Mm} {i k : Nat} (hi : i < 18) (hk : k < strLn.getD i 0) : ExI G (d + 3) mJ0_charAt_5068e [.ref (2000 + i), .int (nI k)] M (fun r M' => r = (strBy.getD i []).getD k 0 ∧ M' = M) := by
  refine Ex.of (by decide) (Nat.le_of_ble_eq_true rfl) ?_
  show Go G (d + 3) mJ0_charAt_5068e 0 [some (.ref (2000 + i)), some (.int (nI k))] [] M _
  refine Go.aload_n dJ0_charAt_5068e_0 rfl ?_
  refine Go.callTI [] hi dJ0_charAt_5068e_1 lkJ0_492 imJ0_isLatin1_aae02 seJ0_isLatin1_aae02 cbJ0_isLatin1_aae02 rfl (s_latin hi) rfl rfl (Nat.le_of_ble_eq_true rfl) (fun r1 M2 hr1 => ?_)
  obtain ⟨er1, emr1⟩ := hr1
  subst er1
  rw [emr1]
  refine Go.if_eq 16 dJ0_charAt_5068e_4 rfl (fun h => absurd h (by decide)) (fun _ => ?_)
  refine Go.aload_n dJ0_charAt_5068e_7 rfl ?_
  refine Go.strVal i hi dJ0_charAt_5068e_8 rfl ?_
  refine Go.iload_n dJ0_charAt_5068e_11 rfl ?_
  refine Go.callSI [] dJ0_charAt_5068e_12 lkJ0_495 stJ1_charAt_3b067 cbJ1_charAt_3b067 (s_chr1 hi hk) rfl rfl (Nat.le_of_ble_eq_true rfl) (fun r3 M4 hr3 => ?_)
  obtain ⟨er3, emr3⟩ := hr3
  subst er3
  rw [emr3]
  refine Go.iret dJ0_charAt_5068e_15 rfl (chr_ok i hi k hk).2.1 ?_
  exact ⟨_, rfl, rfl, rfl⟩
theorem tkMin : chkT [(12, Cond.initialized "java/lang/Math"), (660, Cond.methodLink "NewDishes$Tape" 153 Lib.Math.min.name), (661, Cond.static Lib.Math.min.name), (662, Cond.code Lib.Math.min.name Lib.Math.min.code 2 (some .int))] = true := by decide +kernel
theorem Go.mmin {G : Gt} {d : Nat} {mt : Mt} {pc : Nat} {ls : List (Option Value)} {st : List Value} {M : Mm} {post : Option Value → Mm → Prop} {x y : Int32} (hd : decode mt.2.1 pc = .ok (.invokestatic 153, 3)) (hc : mt.1.cls = "NewDishes$Tape") (hr : (st.map fun v => v.category).sum ≤ 8) (kk : Go G (d + 1) mt (pc + 3) ls (.int (if y < x then y else x) :: st) M post) : Go G (d + 1) mt pc ls (.int y :: .int x :: st) M post := by
  intro p e R s m a below meth c cells slots Q H locs lsA C hP hS hl hF
  obtain ⟨hx, hb, hml, hown, hts, hok, hsz, hK, hSt, hfr, hlo, hce, hsl⟩ := id C
  rw [hc] at hown
  have hcat : ((st.map (tv (ga G))).map fun v => v.category).sum ≤ 8 := by rw [List.map_map]; simpa [Function.comp_def, tv_cat] using hr
  exact va_mmin hx hb (by rw [hml, hl.2.1]) hown (hts _ (List.mem_cons_of_mem _ (tmem tkMin 1 rfl))) (hts _ (List.mem_cons_of_mem _ (tmem tkMin 2 rfl))) (hts _ (List.mem_cons_of_mem _ (tmem tkMin 0 rfl))) (hts _ (List.mem_cons_of_mem _ (tmem tkMin 3 rfl))) (by omega) (by omega) hce hsl hd (kk p e R s m a below meth c cells slots Q H locs lsA C hP hS hl hF)
theorem min_nI {a b : Nat} (ha : a < 2 ^ 31) (hb : b < 2 ^ 31) : (if nI b < nI a then nI b else nI a) = nI (min a b) := by
  by_cases h : b < a
  · rw [if_pos ((nI_ltI hb ha).mpr h)]
    congr 1
    omega
  · rw [if_neg (fun q => h ((nI_ltI hb ha).mp q))]
    congr 1
    omega
