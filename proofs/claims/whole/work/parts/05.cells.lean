/-! fields of the classes: every class' words are in WSall, its types and names -/
theorem in_all {w : Cond} (h1 : w ∈ lw_tbl) (h2 : goodWord w = true) : w ∈ WSall := List.mem_filter.mpr ⟨h1, h2⟩
set_option maxRecDepth 100000 in
theorem clsW_ok : ∀ q ∈ vwCl, ∀ w ∈ u_ws q.1 q.2.1 q.2.2, (w ∈ lw_tbl ∧ goodWord w = true) := by decide +kernel
theorem clsW {ci : Nat} {C : String} {T : u_T} {N : Nat} (h : vwCl[ci]? = some (C, T, N)) : ∀ w ∈ u_ws C T N, w ∈ WSall := fun w hw =>
  have := clsW_ok (C, T, N) (List.mem_of_getElem? h) w hw
  in_all this.1 this.2
theorem clsT {ci : Nat} {C : String} {T : u_T} {N : Nat} (h : vwCl[ci]? = some (C, T, N)) : ∃ ty0 : Nat → FieldType, (∀ k, k < N → parseFieldDescriptor (T k).2.2.1 = some (ty0 k)) ∧ ∀ a, a < N → ∀ b, b < N → a ≠ b → (T a).2.1 ≠ (T b).2.1 := by
  match ci, h with
  | 0, h => cases h; exact ⟨_, tyX0_ok, nmX0⟩
  | 1, h => cases h; exact ⟨_, tyX1_ok, nmX1⟩
  | 2, h => cases h; exact ⟨_, tyX2_ok, nmX2⟩
  | 3, h => cases h; exact ⟨_, tyX3_ok, nmX3⟩
  | 4, h => cases h; exact ⟨_, tyX4_ok, nmX4⟩
  | 5, h => cases h; exact ⟨_, tyX5_ok, nmX5⟩
  | 6, h => cases h; exact ⟨_, tyX6_ok, nmX6⟩
  | 7, h => cases h; exact ⟨_, tyX7_ok, nmX7⟩
  | k + 8, h => simp at h
def FL (own : String) (idx ci j : Nat) : Prop := ∃ (C : String) (T : u_T) (N : Nat), vwCl[ci]? = some (C, T, N) ∧ j < N ∧ Cond.fieldLink own idx (T j).1 (T j).2.1 (T j).2.2.1 ∈ WSall
def FP (own : String) (idx ci j : Nat) (ty : FieldType) : Prop := ∃ (C : String) (T : u_T) (N : Nat), vwCl[ci]? = some (C, T, N) ∧ j < N ∧ Cond.fieldLink own idx (T j).1 (T j).2.1 (T j).2.2.1 ∈ WSall ∧ (T j).2.2.2 = false ∧ parseFieldDescriptor (T j).2.2.1 = some ty
theorem Go.getI {G : Gt} {d : Nat} {mt : Mt} {pc : Nat} {ls : List (Option Value)} {st : List Value} {M : Mm} {post : Option Value → Mm → Prop} {idx ci j k : Nat} {fs : List (Option Nat ⊕ Bool)} (hd : decode mt.2.1 pc = .ok (.getfield idx, 3)) (hw : FL mt.1.cls idx ci j) (hs : (gS G)[k]? = some (.inr (ci, fs))) (hf : fs[j]? = some (.inr true)) (kk : Go G d mt (pc + 3) ls (.int (M.1 k j) :: st) M post) : Go G d mt pc ls (.ref k :: st) M post := by
  intro p e R s m a below meth c cells slots Q H locs lsA C hP hS hl hF
  obtain ⟨hx, hb, hml, hown, hts, hok, hsz, hK, hSt, hfr, hlo, hce, hsl⟩ := id C
  obtain ⟨C0, T, N, h1, h2, h3⟩ := hw
  exact va_get (D := gD G) (ci := ci) (v := tv (ga G) (.int (M.1 k j))) (C := C0) (T := T) (N := N) hx hb hts (fun w h => List.mem_cons_of_mem _ (clsW h1 w h)) hown hK hP k (wld_at hs) h1 j h2 (hts _ (List.mem_cons_of_mem _ h3)) (fun _ h9 => h9) (by rw [List.getElem?_mapIdx, hf]; rfl) hd (kk p e R s m a below meth c cells slots Q H locs lsA C hP hS hl hF)
theorem Go.getL {G : Gt} {d : Nat} {mt : Mt} {pc : Nat} {ls : List (Option Value)} {st : List Value} {M : Mm} {post : Option Value → Mm → Prop} {idx ci j k : Nat} {fs : List (Option Nat ⊕ Bool)} (hd : decode mt.2.1 pc = .ok (.getfield idx, 3)) (hw : FL mt.1.cls idx ci j) (hs : (gS G)[k]? = some (.inr (ci, fs))) (hf : fs[j]? = some (.inr false)) (kk : Go G d mt (pc + 3) ls (.long (M.2 k j) :: st) M post) : Go G d mt pc ls (.ref k :: st) M post := by
  intro p e R s m a below meth c cells slots Q H locs lsA C hP hS hl hF
  obtain ⟨hx, hb, hml, hown, hts, hok, hsz, hK, hSt, hfr, hlo, hce, hsl⟩ := id C
  obtain ⟨C0, T, N, h1, h2, h3⟩ := hw
  exact va_get (D := gD G) (ci := ci) (v := tv (ga G) (.long (M.2 k j))) (C := C0) (T := T) (N := N) hx hb hts (fun w h => List.mem_cons_of_mem _ (clsW h1 w h)) hown hK hP k (wld_at hs) h1 j h2 (hts _ (List.mem_cons_of_mem _ h3)) (fun _ h9 => h9) (by rw [List.getElem?_mapIdx, hf]; rfl) hd (kk p e R s m a below meth c cells slots Q H locs lsA C hP hS hl hF)
theorem Go.getR {G : Gt} {d : Nat} {mt : Mt} {pc : Nat} {ls : List (Option Value)} {st : List Value} {M : Mm} {post : Option Value → Mm → Prop} {idx ci j k : Nat} {r : Nat} {fs : List (Option Nat ⊕ Bool)} (hd : decode mt.2.1 pc = .ok (.getfield idx, 3)) (hw : FL mt.1.cls idx ci j) (hs : (gS G)[k]? = some (.inr (ci, fs))) (hf : fs[j]? = some (.inl (some r))) (kk : Go G d mt (pc + 3) ls (.ref r :: st) M post) : Go G d mt pc ls (.ref k :: st) M post := by
  intro p e R s m a below meth c cells slots Q H locs lsA C hP hS hl hF
  obtain ⟨hx, hb, hml, hown, hts, hok, hsz, hK, hSt, hfr, hlo, hce, hsl⟩ := id C
  obtain ⟨C0, T, N, h1, h2, h3⟩ := hw
  exact va_get (D := gD G) (ci := ci) (v := tv (ga G) (.ref r)) (C := C0) (T := T) (N := N) hx hb hts (fun w h => List.mem_cons_of_mem _ (clsW h1 w h)) hown hK hP k (wld_at hs) h1 j h2 (hts _ (List.mem_cons_of_mem _ h3)) (fun _ h9 => h9) (by rw [List.getElem?_mapIdx, hf]; rfl) hd (kk p e R s m a below meth c cells slots Q H locs lsA C hP hS hl hF)
theorem Go.putI {G : Gt} {d : Nat} {mt : Mt} {pc : Nat} {ls : List (Option Value)} {st : List Value} {M : Mm} {post : Option Value → Mm → Prop} {idx ci j k : Nat} {x : Int32} {ty : FieldType} {fs : List (Option Nat ⊕ Bool)} (hd : decode mt.2.1 pc = .ok (.putfield idx, 3)) (hw : FP mt.1.cls idx ci j ty) (hs : (gS G)[k]? = some (.inr (ci, fs))) (hf : fs[j]? = some (.inr true)) (hn : narrow ty (.int x) = .int x) (hfit : fits ty (.int x) = true) (kk : Go G d mt (pc + 3) ls st (upi M k j x) post) : Go G d mt pc ls (.int x :: .ref k :: st) M post := by
  intro p e R s m a below meth c cells slots Q H locs lsA C hP hS hl hF
  obtain ⟨hx, hb, hml, hown, hts, hok, hsz, hK, hSt, hfr, hlo, hce, hsl⟩ := id C
  obtain ⟨C0, T, N, h1, h2, h3, h4, h5⟩ := hw
  obtain ⟨ty0, t1, t2⟩ := clsT h1
  have ew : wld G (upi M k j x) = (wld G M).set k (ga G k, .inr (ci, (fs.mapIdx (cf (ga G) M k)).set j (.int x))) := by
    rw [wld_set hs (M := M) (M' := upi M k j x) (fun i y hi => ce_seti hi y)]
    simp only [ce]
    rw [cf_set hf]
  refine va_put (D := gD G) (ci := ci) (v := .int x) (ty := ty) (C := C0) (T := T) (N := N) hx hb hts (fun w h => List.mem_cons_of_mem _ (clsW h1 w h)) ty0 t1 t2 hown hK hP (wld_D hok M) hS k (wld_at hs) h1 j h2 (hts _ (List.mem_cons_of_mem _ h3)) (fun _ h9 => h9) h4 h5 hn hfit (by simp; exact (List.getElem?_eq_some_iff.mp hf).1) hd (fun H1 locs1 hP1 hD1 hS1 => ?_)
  exact kk p e R s m a below meth c cells slots Q H1 locs1 lsA C (by rw [ew]; exact hP1) hS1 hl hF
theorem Go.putL {G : Gt} {d : Nat} {mt : Mt} {pc : Nat} {ls : List (Option Value)} {st : List Value} {M : Mm} {post : Option Value → Mm → Prop} {idx ci j k : Nat} {x : Int64} {ty : FieldType} {fs : List (Option Nat ⊕ Bool)} (hd : decode mt.2.1 pc = .ok (.putfield idx, 3)) (hw : FP mt.1.cls idx ci j ty) (hs : (gS G)[k]? = some (.inr (ci, fs))) (hf : fs[j]? = some (.inr false)) (hn : narrow ty (.long x) = .long x) (hfit : fits ty (.long x) = true) (kk : Go G d mt (pc + 3) ls st (upl M k j x) post) : Go G d mt pc ls (.long x :: .ref k :: st) M post := by
  intro p e R s m a below meth c cells slots Q H locs lsA C hP hS hl hF
  obtain ⟨hx, hb, hml, hown, hts, hok, hsz, hK, hSt, hfr, hlo, hce, hsl⟩ := id C
  obtain ⟨C0, T, N, h1, h2, h3, h4, h5⟩ := hw
  obtain ⟨ty0, t1, t2⟩ := clsT h1
  have ew : wld G (upl M k j x) = (wld G M).set k (ga G k, .inr (ci, (fs.mapIdx (cf (ga G) M k)).set j (.long x))) := by
    rw [wld_set hs (M := M) (M' := upl M k j x) (fun i y hi => ce_setl hi y)]
    simp only [ce]
    rw [cf_setl hf]
  refine va_put (D := gD G) (ci := ci) (v := .long x) (ty := ty) (C := C0) (T := T) (N := N) hx hb hts (fun w h => List.mem_cons_of_mem _ (clsW h1 w h)) ty0 t1 t2 hown hK hP (wld_D hok M) hS k (wld_at hs) h1 j h2 (hts _ (List.mem_cons_of_mem _ h3)) (fun _ h9 => h9) h4 h5 hn hfit (by simp; exact (List.getElem?_eq_some_iff.mp hf).1) hd (fun H1 locs1 hP1 hD1 hS1 => ?_)
  exact kk p e R s m a below meth c cells slots Q H1 locs1 lsA C (by rw [ew]; exact hP1) hS1 hl hF
theorem Go.iald {G : Gt} {d : Nat} {mt : Mt} {pc : Nat} {ls : List (Option Value)} {st : List Value} {M : Mm} {post : Option Value → Mm → Prop} {k n : Nat} {i : Int32} {rs : List (Option Nat)} (hd : decode mt.2.1 pc = .ok (.iaload, 1)) (hs : (gS G)[k]? = some (.inl (0, n, rs))) (hin : vp_in i n) (kk : Go G d mt (pc + 1) ls (.int (M.1 k i.toNatClampNeg) :: st) M post) : Go G d mt pc ls (.int i :: .ref k :: st) M post := by
  intro p e R s m a below meth c cells slots Q H locs lsA C hP hS hl hF
  obtain ⟨hx, hb, hml, hown, hts, hok, hsz, hK, hSt, hfr, hlo, hce, hsl⟩ := id C
  exact va_iald (D := gD G) hx hb hK hP k 0 (wld_at hs) rfl hin hd (kk p e R s m a below meth c cells slots Q H locs lsA C hP hS hl hF)
theorem Go.zald {G : Gt} {d : Nat} {mt : Mt} {pc : Nat} {ls : List (Option Value)} {st : List Value} {M : Mm} {post : Option Value → Mm → Prop} {k n : Nat} {i : Int32} {rs : List (Option Nat)} (hd : decode mt.2.1 pc = .ok (.baload, 1)) (hs : (gS G)[k]? = some (.inl (1, n, rs))) (hin : vp_in i n) (kk : Go G d mt (pc + 1) ls (.int (M.1 k i.toNatClampNeg) :: st) M post) : Go G d mt pc ls (.int i :: .ref k :: st) M post := by
  intro p e R s m a below meth c cells slots Q H locs lsA C hP hS hl hF
  obtain ⟨hx, hb, hml, hown, hts, hok, hsz, hK, hSt, hfr, hlo, hce, hsl⟩ := id C
  exact va_zald (D := gD G) hx hb hK hP k 1 (wld_at hs) rfl hin hd (kk p e R s m a below meth c cells slots Q H locs lsA C hP hS hl hF)
theorem Go.lald {G : Gt} {d : Nat} {mt : Mt} {pc : Nat} {ls : List (Option Value)} {st : List Value} {M : Mm} {post : Option Value → Mm → Prop} {k n : Nat} {i : Int32} {rs : List (Option Nat)} (hd : decode mt.2.1 pc = .ok (.laload, 1)) (hs : (gS G)[k]? = some (.inl (2, n, rs))) (hin : vp_in i n) (kk : Go G d mt (pc + 1) ls (.long (M.2 k i.toNatClampNeg) :: st) M post) : Go G d mt pc ls (.int i :: .ref k :: st) M post := by
  intro p e R s m a below meth c cells slots Q H locs lsA C hP hS hl hF
  obtain ⟨hx, hb, hml, hown, hts, hok, hsz, hK, hSt, hfr, hlo, hce, hsl⟩ := id C
  exact va_lald (D := gD G) hx hb hK hP k 2 (wld_at hs) rfl hin hd (kk p e R s m a below meth c cells slots Q H locs lsA C hP hS hl hF)
theorem Go.iast {G : Gt} {d : Nat} {mt : Mt} {pc : Nat} {ls : List (Option Value)} {st : List Value} {M : Mm} {post : Option Value → Mm → Prop} {k n : Nat} {i : Int32} {x : Int32} {rs : List (Option Nat)} (hd : decode mt.2.1 pc = .ok (.iastore, 1)) (hs : (gS G)[k]? = some (.inl (0, n, rs))) (hin : vp_in i n) (kk : Go G d mt (pc + 1) ls st (upi M k i.toNatClampNeg x) post) : Go G d mt pc ls (.int x :: .int i :: .ref k :: st) M post := by
  intro p e R s m a below meth c cells slots Q H locs lsA C hP hS hl hF
  obtain ⟨hx, hb, hml, hown, hts, hok, hsz, hK, hSt, hfr, hlo, hce, hsl⟩ := id C
  refine va_iast (D := gD G) hx hb hK hP (wld_D hok M) hS k 0 (wld_at hs) rfl hin hd (fun H1 locs1 hP1 hD1 hS1 => ?_)
  refine kk p e R s m a below meth c cells slots Q H1 locs1 lsA C ?_ hS1 hl hF
  rw [wld_set hs (M := M) (M' := upi M k i.toNatClampNeg x) (fun i y hi => ce_seti hi y)]
  simp only [ce, upi, seti, upl, setl, if_true]
  exact hP1
theorem Go.zast {G : Gt} {d : Nat} {mt : Mt} {pc : Nat} {ls : List (Option Value)} {st : List Value} {M : Mm} {post : Option Value → Mm → Prop} {k n : Nat} {i : Int32} {x : Int32} {rs : List (Option Nat)} (hd : decode mt.2.1 pc = .ok (.bastore, 1)) (hs : (gS G)[k]? = some (.inl (1, n, rs))) (hin : vp_in i n) (kk : Go G d mt (pc + 1) ls st (upi M k i.toNatClampNeg (vp_nar .boolean x)) post) : Go G d mt pc ls (.int x :: .int i :: .ref k :: st) M post := by
  intro p e R s m a below meth c cells slots Q H locs lsA C hP hS hl hF
  obtain ⟨hx, hb, hml, hown, hts, hok, hsz, hK, hSt, hfr, hlo, hce, hsl⟩ := id C
  refine va_zast (D := gD G) hx hb hK hP (wld_D hok M) hS k 1 (wld_at hs) rfl hin hd (fun H1 locs1 hP1 hD1 hS1 => ?_)
  refine kk p e R s m a below meth c cells slots Q H1 locs1 lsA C ?_ hS1 hl hF
  rw [wld_set hs (M := M) (M' := upi M k i.toNatClampNeg (vp_nar .boolean x)) (fun i y hi => ce_seti hi y)]
  simp only [ce, upi, seti, upl, setl, if_true]
  exact hP1
theorem Go.last {G : Gt} {d : Nat} {mt : Mt} {pc : Nat} {ls : List (Option Value)} {st : List Value} {M : Mm} {post : Option Value → Mm → Prop} {k n : Nat} {i : Int32} {x : Int64} {rs : List (Option Nat)} (hd : decode mt.2.1 pc = .ok (.lastore, 1)) (hs : (gS G)[k]? = some (.inl (2, n, rs))) (hin : vp_in i n) (kk : Go G d mt (pc + 1) ls st (upl M k i.toNatClampNeg x) post) : Go G d mt pc ls (.long x :: .int i :: .ref k :: st) M post := by
  intro p e R s m a below meth c cells slots Q H locs lsA C hP hS hl hF
  obtain ⟨hx, hb, hml, hown, hts, hok, hsz, hK, hSt, hfr, hlo, hce, hsl⟩ := id C
  refine va_last (D := gD G) hx hb hK hP (wld_D hok M) hS k 2 (wld_at hs) rfl hin hd (fun H1 locs1 hP1 hD1 hS1 => ?_)
  refine kk p e R s m a below meth c cells slots Q H1 locs1 lsA C ?_ hS1 hl hF
  rw [wld_set hs (M := M) (M' := upl M k i.toNatClampNeg x) (fun i y hi => ce_setl hi y)]
  simp only [ce, upi, seti, upl, setl, if_true]
  exact hP1
theorem Go.alenI {G : Gt} {d : Nat} {mt : Mt} {pc : Nat} {ls : List (Option Value)} {st : List Value} {M : Mm} {post : Option Value → Mm → Prop} {k n : Nat} {v : Int32} {tag : Nat} {rs : List (Option Nat)} (hd : decode mt.2.1 pc = .ok (.arraylength, 1)) (hs : (gS G)[k]? = some (.inl (tag, n, rs))) (hv : Int32.ofNat n = v) (kk : Go G d mt (pc + 1) ls (.int v :: st) M post) : Go G d mt pc ls (.ref k :: st) M post := by
  intro p e R s m a below meth c cells slots Q H locs lsA C hP hS hl hF
  obtain ⟨hx, hb, hml, hown, hts, hok, hsz, hK, hSt, hfr, hlo, hce, hsl⟩ := id C
  match tag, hs with
  | 0, hs => exact va_alen (D := gD G) hx hb hK hP k 0 (wld_at hs) rfl hv hd (kk p e R s m a below meth c cells slots Q H locs lsA C hP hS hl hF)
  | 1, hs => exact va_alen (D := gD G) hx hb hK hP k 1 (wld_at hs) rfl hv hd (kk p e R s m a below meth c cells slots Q H locs lsA C hP hS hl hF)
  | 2, hs => exact va_alen (D := gD G) hx hb hK hP k 2 (wld_at hs) rfl hv hd (kk p e R s m a below meth c cells slots Q H locs lsA C hP hS hl hF)
  | t + 3, hs => exact va_alen (D := gD G) hx hb hK hP k 3 (wld_at hs) rfl hv hd (kk p e R s m a below meth c cells slots Q H locs lsA C hP hS hl hF)
theorem Go.aald {G : Gt} {d : Nat} {mt : Mt} {pc : Nat} {ls : List (Option Value)} {st : List Value} {M : Mm} {post : Option Value → Mm → Prop} {k n r : Nat} {i : Int32} {rs : List (Option Nat)} (hd : decode mt.2.1 pc = .ok (.aaload, 1)) (hs : (gS G)[k]? = some (.inl (3, n, rs))) (hin : vp_in i n) (hr : rs.getD i.toNatClampNeg none = some r) (kk : Go G d mt (pc + 1) ls (.ref r :: st) M post) : Go G d mt pc ls (.int i :: .ref k :: st) M post := by
  intro p e R s m a below meth c cells slots Q H locs lsA C hP hS hl hF
  obtain ⟨hx, hb, hml, hown, hts, hok, hsz, hK, hSt, hfr, hlo, hce, hsl⟩ := id C
  refine va_aldq (D := gD G) hx hb hK hP k 3 (wld_at hs) rfl hin hd ?_
  simp only [hr]
  exact kk p e R s m a below meth c cells slots Q H locs lsA C hP hS hl hF
theorem Go.sets {G : Gt} {d : Nat} {mt : Mt} {pc : Nat} {ls : List (Option Value)} {st : List Value} {M : Mm} {post : Option Value → Mm → Prop} {i : Int32} (hd : decode mt.2.1 pc = .ok (.iaload, 1)) (hin : vp_in i 92) (kk : Go G d mt (pc + 1) ls (.int (setsF i.toNatClampNeg) :: st) M post) : Go G d mt pc ls (.int i :: .ref 1000 :: st) M post := by
  intro p e R s m a below meth c cells slots Q H locs lsA C hP hS hl hF
  obtain ⟨hx, hb, hml, hown, hts, hok, hsz, hK, hSt, hfr, hlo, hce, hsl⟩ := id C
  exact va_ti hx hb hSt.2.2.1 hS hin rfl hd (kk p e R s m a below meth c cells slots Q H locs lsA C hP hS hl hF)
theorem Go.above {G : Gt} {d : Nat} {mt : Mt} {pc : Nat} {ls : List (Option Value)} {st : List Value} {M : Mm} {post : Option Value → Mm → Prop} {i : Int32} (hd : decode mt.2.1 pc = .ok (.iaload, 1)) (hin : vp_in i 6) (kk : Go G d mt (pc + 1) ls (.int (aboveF i.toNatClampNeg) :: st) M post) : Go G d mt pc ls (.int i :: .ref 1001 :: st) M post := by
  intro p e R s m a below meth c cells slots Q H locs lsA C hP hS hl hF
  obtain ⟨hx, hb, hml, hown, hts, hok, hsz, hK, hSt, hfr, hlo, hce, hsl⟩ := id C
  exact va_ti hx hb hSt.2.2.2.2.1 hS hin rfl hd (kk p e R s m a below meth c cells slots Q H locs lsA C hP hS hl hF)
theorem Go.script {G : Gt} {d : Nat} {mt : Mt} {pc : Nat} {ls : List (Option Value)} {st : List Value} {M : Mm} {post : Option Value → Mm → Prop} {i : Int32} (hd : decode mt.2.1 pc = .ok (.iaload, 1)) (hin : vp_in i (gn G)) (kk : Go G d mt (pc + 1) ls (.int (gx G i.toNatClampNeg) :: st) M post) : Go G d mt pc ls (.int i :: .ref 1002 :: st) M post := by
  intro p e R s m a below meth c cells slots Q H locs lsA C hP hS hl hF
  obtain ⟨hx, hb, hml, hown, hts, hok, hsz, hK, hSt, hfr, hlo, hce, hsl⟩ := id C
  exact va_ti hx hb hSt.2.2.2.2.2.1 hS hin rfl hd (kk p e R s m a below meth c cells slots Q H locs lsA C hP hS hl hF)
theorem Go.setsLen {G : Gt} {d : Nat} {mt : Mt} {pc : Nat} {ls : List (Option Value)} {st : List Value} {M : Mm} {post : Option Value → Mm → Prop} (hd : decode mt.2.1 pc = .ok (.arraylength, 1)) (kk : Go G d mt (pc + 1) ls (.int 92 :: st) M post) : Go G d mt pc ls (.ref 1000 :: st) M post := by
  intro p e R s m a below meth c cells slots Q H locs lsA C hP hS hl hF
  obtain ⟨hx, hb, hml, hown, hts, hok, hsz, hK, hSt, hfr, hlo, hce, hsl⟩ := id C
  exact va_tlen hx hb hSt.2.2.1 hS rfl hd (kk p e R s m a below meth c cells slots Q H locs lsA C hP hS hl hF)
theorem Go.scriptLen {G : Gt} {d : Nat} {mt : Mt} {pc : Nat} {ls : List (Option Value)} {st : List Value} {M : Mm} {post : Option Value → Mm → Prop} (hd : decode mt.2.1 pc = .ok (.arraylength, 1)) (kk : Go G d mt (pc + 1) ls (.int (Int32.ofNat (gn G)) :: st) M post) : Go G d mt pc ls (.ref 1002 :: st) M post := by
  intro p e R s m a below meth c cells slots Q H locs lsA C hP hS hl hF
  obtain ⟨hx, hb, hml, hown, hts, hok, hsz, hK, hSt, hfr, hlo, hce, hsl⟩ := id C
  exact va_tlen hx hb hSt.2.2.2.2.2.1 hS rfl hd (kk p e R s m a below meth c cells slots Q H locs lsA C hP hS hl hF)
theorem Go.getSets {G : Gt} {d : Nat} {mt : Mt} {pc : Nat} {ls : List (Option Value)} {st : List Value} {M : Mm} {post : Option Value → Mm → Prop} {idx : Nat} (hd : decode mt.2.1 pc = .ok (.getstatic idx, 3)) (hw : Cond.fieldLink mt.1.cls idx "NewDishes" "SETS" "[I" ∈ WSall ∨ Cond.fieldLinkNest mt.1.cls idx "NewDishes" "SETS" "[I" "NewDishes" ∈ nestW) (kk : Go G d mt (pc + 3) ls (.ref 1000 :: st) M post) : Go G d mt pc ls st M post := by
  intro p e R s m a below meth c cells slots Q H locs lsA C hP hS hl hF
  obtain ⟨hx, hb, hml, hown, hts, hok, hsz, hK, hSt, hfr, hlo, hce, hsl⟩ := id C
  rcases hw with hw | hw
  · exact va_gets hx hb hSt.2.1 hS hown (hts _ (List.mem_cons_of_mem _ hw)) (fun _ h => h) hd (kk p e R s m a below meth c cells slots Q H locs lsA C hP hS hl hF)
  · exact va_getsN hx hb hSt.2.1 hS hown (va_Nw.use rfl (hSt.1 _ hw)) (fun _ h => h) hd (kk p e R s m a below meth c cells slots Q H locs lsA C hP hS hl hF)
theorem Go.getAbove {G : Gt} {d : Nat} {mt : Mt} {pc : Nat} {ls : List (Option Value)} {st : List Value} {M : Mm} {post : Option Value → Mm → Prop} {idx : Nat} (hd : decode mt.2.1 pc = .ok (.getstatic idx, 3)) (hw : Cond.fieldLink mt.1.cls idx "NewDishes" "ABOVE" "[I" ∈ WSall) (kk : Go G d mt (pc + 3) ls (.ref 1001 :: st) M post) : Go G d mt pc ls st M post := by
  intro p e R s m a below meth c cells slots Q H locs lsA C hP hS hl hF
  obtain ⟨hx, hb, hml, hown, hts, hok, hsz, hK, hSt, hfr, hlo, hce, hsl⟩ := id C
  exact va_gets hx hb hSt.2.2.2.1 hS hown (hts _ (List.mem_cons_of_mem _ hw)) (fun _ h => h) hd (kk p e R s m a below meth c cells slots Q H locs lsA C hP hS hl hF)
/-- a call's words -/
def CB (mt : Mt) (n : Nat) : Prop := Cond.initialized mt.1.cls ∈ WSall ∧ Cond.code mt.1 mt.2.1 mt.2.2.1 mt.2.2.2 ∈ WSall ∧ (mt.1.cls ≠ "java/lang/invoke/MethodHandle" ∧ mt.1.cls ≠ "java/lang/invoke/VarHandle" ∧ (parseMethodDescriptor mt.1.desc).map (fun d => d.parameters.length) = some n) ∧ mt.2.2.1 ≤ 21
def LK (own : String) (idx : Nat) (mt : Mt) : Prop := Cond.methodLink own idx mt.1 ∈ WSall ∨ ∃ host, Cond.methodLinkNest own idx mt.1 host ∈ nestW
theorem good_all {w : Cond} (h : w ∈ WSall) : (w.onTables && w.keeps) = true ∨ ∃ ty, w = .arrayClass ty := good_of_word (List.mem_filter.mp h).2
theorem CB.good {mt : Mt} {n : Nat} (h : CB mt n) (mt0 : Mt) : GoodIn (wsM mt0) (wsM mt) := by
  intro w hw
  have hw2 : w ∈ WSall := by
    rcases List.mem_cons.mp hw with e | h9
    · rw [e]; exact h.2.1
    · exact h9
  exact ⟨List.mem_cons_of_mem _ hw2, good_all hw2⟩
set_option maxHeartbeats 1000000 in
theorem Go.callS {G : Gt} {d : Nat} {mt : Mt} {pc : Nat} {ls : List (Option Value)} {st : List Value} {M : Mm} {post : Option Value → Mm → Prop} {idx n : Nat} {mt' : Mt} {as rest : List Value} {post1 : Option Value → Mm → Prop} (hd : decode mt.2.1 pc = .ok (.invokestatic idx, 3)) (hk : LK mt.1.cls idx mt') (hst : Cond.static mt'.1 ∈ WSall) (hc : CB mt' n) (hn : as.length = n) (hE : Ex G d mt' as M post1) (hst2 : st = as.reverse ++ rest) (hr : (rest.map fun v => v.category).sum ≤ 8)
    (kk : ∀ v M', post1 v M' → Go G (d + 1) mt (pc + 3) ls (v.toList ++ rest) M' post) : Go G (d + 1) mt pc ls st M post := by
  intro p e R s m a below meth c cells slots Q H locs lsA C hP hS hl hF
  obtain ⟨hx, hb, hml, hown, hts, hok, hsz, hK, hSt, hfr, hlo, hce, hsl⟩ := id C
  subst hst2
  have hrm : (room d).frames + 1 ≤ R.frames ∧ 8 + (mt'.2.2.1 + 11) + (room d).locals ≤ R.locals := ⟨hfr, by have := hc.2.2.2; show 8 + (mt'.2.2.1 + 11) + 40 * d ≤ R.locals; omega⟩
  have hpre : PreS s H (va_Pc (as.map (tv (ga G))) (PcW G M)) (as.map (tv (ga G))) := ⟨PcW.blind G M _, fun U hU hW => ⟨rfl, PcW.at hok hsz hP hS hK hSt hU hW⟩⟩
  have hstk : ((as.reverse ++ rest).map (tv (ga G))) = (as.map (tv (ga G))).reverse ++ rest.map (tv (ga G)) := by rw [List.map_append, List.map_reverse]
  have hcat : ((rest.map (tv (ga G))).map fun v => v.category).sum ≤ 8 := by rw [List.map_map]; simpa [Function.comp_def, tv_cat] using hr
  have hini := hts _ (List.mem_cons_of_mem _ hc.1)
  have hrun : va_Run p (gl G) e R s m a below meth c H locs cells slots 0 0 (F0 m pc lsA ((as.reverse ++ rest).map (tv (ga G)))) (rest.map (tv (ga G))) (QcW G post1 (as.map (tv (ga G))).toArray) (A0 G) := by
    rcases hk with hk | ⟨host, hk⟩
    · exact va_runS ⟨hx, hb, hml, hown, hts⟩ hE ⟨callB_of n hts (hc.good mt) rfl rfl rfl hini (hts _ (List.mem_cons_of_mem _ hk)) hc.2.2.1 hrm, hts _ (List.mem_cons_of_mem _ hst)⟩ hpre rfl (by simp [hn]) hl.2.1 hstk (lv_room hcat) hd ⟨hce, hsl⟩
    · exact va_runSN ⟨hx, hb, hml, hown, hts⟩ hE ⟨va_cnB n hts (hc.good mt) rfl rfl rfl (hSt.1 _ hk) hini hc.2.2.1 hrm, hts _ (List.mem_cons_of_mem _ hst), trivial⟩ hpre rfl (by simp [hn]) hl.2.1 hstk (lv_room hcat) hd ⟨hce, hsl⟩
  refine Go.back hrun hS (fun v M' H1 locs1 hv hP1 hS1 => ?_)
  have := kk v M' hv p e R s m a below meth c cells slots Q H1 locs1 lsA C hP1 hS1 hl hF
  rw [List.map_append] at this
  exact this
set_option maxHeartbeats 1000000 in
theorem Go.callV {G : Gt} {d : Nat} {mt : Mt} {pc : Nat} {ls : List (Option Value)} {st : List Value} {M : Mm} {post : Option Value → Mm → Prop} {idx n k ci : Nat} {mt' : Mt} {as rest : List Value} {fs : List (Option Nat ⊕ Bool)} {T : u_T} {N : Nat} {post1 : Option Value → Mm → Prop} (hd : decode mt.2.1 pc = .ok (.invokevirtual idx, 3)) (hk : LK mt.1.cls idx mt') (hin : Cond.instanceMethod mt'.1 ∈ WSall) (hse : Cond.selects mt'.1.cls mt'.1 mt'.1 ∈ WSall) (hc : CB mt' n) (hn : as.length = n) (hs : (gS G)[k]? = some (.inr (ci, fs))) (hcl : vwCl[ci]? = some (mt'.1.cls, T, N)) (hE : Ex G d mt' (.ref k :: as) M post1) (hst2 : st = as.reverse ++ .ref k :: rest) (hr : (rest.map fun v => v.category).sum ≤ 8)
    (kk : ∀ v M', post1 v M' → Go G (d + 1) mt (pc + 3) ls (v.toList ++ rest) M' post) : Go G (d + 1) mt pc ls st M post := by
  intro p e R s m a below meth c cells slots Q H locs lsA C hP hS hl hF
  obtain ⟨hx, hb, hml, hown, hts, hok, hsz, hK, hSt, hfr, hlo, hce, hsl⟩ := id C
  subst hst2
  have hrm : (room d).frames + 1 ≤ R.frames ∧ 8 + (mt'.2.2.1 + 11) + (room d).locals ≤ R.locals := ⟨hfr, by have := hc.2.2.2; show 8 + (mt'.2.2.1 + 11) + 40 * d ≤ R.locals; omega⟩
  have hpre : PreV s H mt'.1.cls (ga G k) (va_Pc ((.ref k :: as).map (tv (ga G))) (PcW G M)) (as.map (tv (ga G))) := ⟨PcW.blind G M _, va_recv (D := gD G) hK hP hcl (wld_at hs), fun U hU hW => ⟨rfl, PcW.at hok hsz hP hS hK hSt hU hW⟩⟩
  have hstk : ((as.reverse ++ .ref k :: rest).map (tv (ga G))) = (as.map (tv (ga G))).reverse ++ .ref (ga G k) :: rest.map (tv (ga G)) := by rw [List.map_append, List.map_reverse]; rfl
  have hcat : ((rest.map (tv (ga G))).map fun v => v.category).sum ≤ 8 := by rw [List.map_map]; simpa [Function.comp_def, tv_cat] using hr
  have hini := hts _ (List.mem_cons_of_mem _ hc.1)
  have hrun : va_Run p (gl G) e R s m a below meth c H locs cells slots 0 0 (F0 m pc lsA ((as.reverse ++ .ref k :: rest).map (tv (ga G)))) (rest.map (tv (ga G))) (QcW G post1 ((.ref k :: as).map (tv (ga G))).toArray) (A0 G) := by
    rcases hk with hk | ⟨host, hk⟩
    · exact va_runV ⟨hx, hb, hml, hown, hts⟩ hE ⟨callB_of n hts (hc.good mt) rfl rfl rfl hini (hts _ (List.mem_cons_of_mem _ hk)) hc.2.2.1 hrm, hts _ (List.mem_cons_of_mem _ hin), hts _ (List.mem_cons_of_mem _ hse)⟩ hpre rfl (by simp [hn]) hl.2.1 hstk (lv_room hcat) hd ⟨hce, hsl⟩
    · exact va_runVN ⟨hx, hb, hml, hown, hts⟩ hE ⟨va_cnB n hts (hc.good mt) rfl rfl rfl (hSt.1 _ hk) hini hc.2.2.1 hrm, hts _ (List.mem_cons_of_mem _ hin), hts _ (List.mem_cons_of_mem _ hse)⟩ hpre rfl (by simp [hn]) hl.2.1 hstk (lv_room hcat) hd ⟨hce, hsl⟩
  refine Go.back hrun hS (fun v M' H1 locs1 hv hP1 hS1 => ?_)
  have := kk v M' hv p e R s m a below meth c cells slots Q H1 locs1 lsA C hP1 hS1 hl hF
  rw [List.map_append] at this
  exact this
