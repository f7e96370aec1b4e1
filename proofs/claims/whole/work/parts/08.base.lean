/-! ===== the shape of class and reference, contracts by their answers ===== -/
def SHAPE : List Sh := [
  .inr (6, [.inl (some 1), .inl (some 9), .inl (some 17), .inr true, .inl (some 25), .inl (some 34), .inl (some 37), .inl (some 39), .inl (some 48)]),
  .inr (1, [.inl (some 2), .inl (some 3), .inl (some 4), .inl (some 5), .inl (some 6), .inl (some 7), .inl (some 8), .inr true, .inr true, .inr true]),
  .inl (0, 8, []),
  .inl (0, 8, []),
  .inl (0, 5, []),
  .inl (0, 4, []),
  .inl (0, 30, []),
  .inl (0, 30, []),
  .inl (0, 30, []),
  .inr (1, [.inl (some 10), .inl (some 11), .inl (some 12), .inl (some 13), .inl (some 14), .inl (some 15), .inl (some 16), .inr true, .inr true, .inr true]),
  .inl (0, 8, []),
  .inl (0, 8, []),
  .inl (0, 5, []),
  .inl (0, 4, []),
  .inl (0, 30, []),
  .inl (0, 30, []),
  .inl (0, 30, []),
  .inr (1, [.inl (some 18), .inl (some 19), .inl (some 20), .inl (some 21), .inl (some 22), .inl (some 23), .inl (some 24), .inr true, .inr true, .inr true]),
  .inl (0, 8, []),
  .inl (0, 8, []),
  .inl (0, 5, []),
  .inl (0, 4, []),
  .inl (0, 30, []),
  .inl (0, 30, []),
  .inl (0, 30, []),
  .inr (2, [.inl (some 26), .inl (some 27), .inr true, .inl (some 30), .inl (some 31), .inl (some 32), .inl (some 33)]),
  .inl (0, 8, []),
  .inr (0, [.inl (some 28), .inl (some 29)]),
  .inl (0, 256, []),
  .inl (0, 256, []),
  .inl (0, 256, []),
  .inl (0, 20, []),
  .inl (0, 20, []),
  .inl (0, 256, []),
  .inr (3, [.inl (some 35), .inl (some 36)]),
  .inl (0, 256, []),
  .inl (0, 256, []),
  .inr (5, [.inr true, .inl (some 38), .inr true, .inr true, .inr true, .inr true]),
  .inl (0, 120, []),
  .inl (3, 4, [some 40, some 41, some 42, some 43]),
  .inr (4, [.inr true, .inr true, .inl (some 44)]),
  .inr (4, [.inr true, .inr true, .inl (some 45)]),
  .inr (4, [.inr true, .inr true, .inl (some 46)]),
  .inr (4, [.inr true, .inr true, .inl (some 47)]),
  .inl (2, 40, []),
  .inl (2, 40, []),
  .inl (2, 40, []),
  .inl (2, 40, []),
  .inl (0, 7, []),
  .inr (7, [.inl (some 50), .inl (some 51), .inl (some 52), .inr true, .inr true, .inl (some 53), .inl (some 54), .inl (some 55), .inl (some 56), .inl (some 57), .inl (some 58), .inl (some 59), .inl (some 60), .inl (some 61), .inr true, .inl (some 62), .inl (some 63), .inl (some 64), .inr true, .inl (some 65), .inr true, .inr true, .inr true, .inr true, .inr false, .inr true, .inr true, .inl (some 66), .inl (some 67), .inl (some 68), .inl (some 69), .inl (some 70), .inl (some 71), .inr true, .inr true, .inl (some 72)]),
  .inl (0, 8, []),
  .inl (0, 17, []),
  .inl (0, 2, []),
  .inl (0, 90, []),
  .inl (0, 90, []),
  .inl (0, 90, []),
  .inl (0, 7, []),
  .inl (0, 92, []),
  .inl (0, 256, []),
  .inl (1, 1840, []),
  .inl (0, 30, []),
  .inl (0, 8, []),
  .inl (0, 1840, []),
  .inl (0, 1840, []),
  .inl (1, 1840, []),
  .inl (0, 120, []),
  .inl (0, 4, []),
  .inl (0, 4, []),
  .inl (2, 160, []),
  .inl (2, 40, []),
  .inl (0, 130, []),
  .inl (0, 130, []),
  .inl (0, 2, [])]
theorem shp {G : Gt} (hG : gS G = SHAPE) {k : Nat} {x : Sh} (h : SHAPE[k]? = some x) : (gS G)[k]? = some x := by rw [hG]; exact h
def bi (b : Bool) : Int32 := if b then 1 else 0
theorem bi_t : bi true = 1 := rfl
theorem bi_f : bi false = 0 := rfl
theorem bi_0 {b : Bool} : bi b = 0 ↔ b = false := by cases b <;> decide
theorem bi_1 {b : Bool} : bi b = 1 ↔ b = true := by cases b <;> decide
theorem bi_n0 {b : Bool} : ¬ bi b = 0 ↔ b = true := by cases b <;> decide
theorem bi_nar (b : Bool) : narrow .boolean (.int (bi b)) = .int (bi b) := by cases b <;> decide
theorem bi_fit (b : Bool) : fits .boolean (.int (bi b)) = true := by cases b <;> decide
theorem bi_vp (b : Bool) : vp_nar .boolean (bi b) = bi b := by cases b <;> decide
def ExI (G : Gt) (d : Nat) (mt : Mt) (as : List Value) (M : Mm) (post : Int32 → Mm → Prop) : Prop := Ex G d mt as M (fun v M' => ∃ x, v = some (.int x) ∧ post x M')
def ExL (G : Gt) (d : Nat) (mt : Mt) (as : List Value) (M : Mm) (post : Int64 → Mm → Prop) : Prop := Ex G d mt as M (fun v M' => ∃ x, v = some (.long x) ∧ post x M')
def ExR (G : Gt) (d : Nat) (mt : Mt) (as : List Value) (M : Mm) (post : Nat → Mm → Prop) : Prop := Ex G d mt as M (fun v M' => ∃ x, v = some (.ref x) ∧ post x M')
def ExV (G : Gt) (d : Nat) (mt : Mt) (as : List Value) (M : Mm) (post : Mm → Prop) : Prop := Ex G d mt as M (fun v M' => v = none ∧ post M')
theorem ExI.mono {G : Gt} {d : Nat} {mt : Mt} {as : List Value} {M : Mm} {p q : Int32 → Mm → Prop} (h : ExI G d mt as M p) (hp : ∀ x M', p x M' → q x M') : ExI G d mt as M q := Ex.mono h (fun v M' ⟨x, e, h⟩ => ⟨x, e, hp x M' h⟩)
theorem ExV.mono {G : Gt} {d : Nat} {mt : Mt} {as : List Value} {M : Mm} {p q : Mm → Prop} (h : ExV G d mt as M p) (hp : ∀ M', p M' → q M') : ExV G d mt as M q := Ex.mono h (fun v M' ⟨e, h⟩ => ⟨e, hp M' h⟩)
theorem ExL.mono {G : Gt} {d : Nat} {mt : Mt} {as : List Value} {M : Mm} {p q : Int64 → Mm → Prop} (h : ExL G d mt as M p) (hp : ∀ x M', p x M' → q x M') : ExL G d mt as M q := Ex.mono h (fun v M' ⟨x, e, h⟩ => ⟨x, e, hp x M' h⟩)
/-- a name for the top of the stack -/
theorem Go.nmI {G : Gt} {d : Nat} {mt : Mt} {pc : Nat} {ls : List (Option Value)} {st : List Value} {M : Mm} {post : Option Value → Mm → Prop} {z : Int32} (k : ∀ x : Int32, x = z → Go G d mt pc ls (.int x :: st) M post) : Go G d mt pc ls (.int z :: st) M post := k z rfl
theorem Go.nmL {G : Gt} {d : Nat} {mt : Mt} {pc : Nat} {ls : List (Option Value)} {st : List Value} {M : Mm} {post : Option Value → Mm → Prop} {z : Int64} (k : ∀ x : Int64, x = z → Go G d mt pc ls (.long x :: st) M post) : Go G d mt pc ls (.long z :: st) M post := k z rfl
theorem Go.nmM {G : Gt} {d : Nat} {mt : Mt} {pc : Nat} {ls : List (Option Value)} {st : List Value} {M : Mm} {post : Option Value → Mm → Prop} (k : ∀ N : Mm, N = M → Go G d mt pc ls st N post) : Go G d mt pc ls st M post := k M rfl
theorem Go.callSI {G : Gt} {d : Nat} {mt : Mt} {pc : Nat} {ls : List (Option Value)} {st : List Value} {M : Mm} {post : Option Value → Mm → Prop} {idx n : Nat} {mt' : Mt} {as : List Value} {post1 : Int32 → Mm → Prop} (rest : List Value) (hd : decode mt.2.1 pc = .ok (.invokestatic idx, 3)) (hk : LK mt.1.cls idx mt') (hst : Cond.static mt'.1 ∈ WSall) (hc : CB mt' n) (hE : ExI G d mt' as M post1) (hn : as.length = n) (hst2 : st = as.reverse ++ rest) (hr : (rest.map fun v => v.category).sum ≤ 8)
    (kk : ∀ (x : Int32) M', post1 x M' → Go G (d + 1) mt (pc + 3) ls (.int x :: rest) M' post) : Go G (d + 1) mt pc ls st M post :=
  Go.callS hd hk hst hc hn hE hst2 hr (fun v M' ⟨x, e, h⟩ => by subst e; exact kk x M' h)
theorem Go.callVI {G : Gt} {d : Nat} {mt : Mt} {pc : Nat} {ls : List (Option Value)} {st : List Value} {M : Mm} {post : Option Value → Mm → Prop} {idx n k ci : Nat} {mt' : Mt} {as : List Value} {fs : List (Option Nat ⊕ Bool)} {T : u_T} {N : Nat} {post1 : Int32 → Mm → Prop} (rest : List Value) (hd : decode mt.2.1 pc = .ok (.invokevirtual idx, 3)) (hk : LK mt.1.cls idx mt') (hin : Cond.instanceMethod mt'.1 ∈ WSall) (hse : Cond.selects mt'.1.cls mt'.1 mt'.1 ∈ WSall) (hc : CB mt' n) (hE : ExI G d mt' (.ref k :: as) M post1) (hs : (gS G)[k]? = some (.inr (ci, fs))) (hcl : vwCl[ci]? = some (mt'.1.cls, T, N)) (hn : as.length = n) (hst2 : st = as.reverse ++ .ref k :: rest) (hr : (rest.map fun v => v.category).sum ≤ 8)
    (kk : ∀ (x : Int32) M', post1 x M' → Go G (d + 1) mt (pc + 3) ls (.int x :: rest) M' post) : Go G (d + 1) mt pc ls st M post :=
  Go.callV hd hk hin hse hc hn hs hcl hE hst2 hr (fun v M' ⟨x, e, h⟩ => by subst e; exact kk x M' h)
theorem Go.callSL {G : Gt} {d : Nat} {mt : Mt} {pc : Nat} {ls : List (Option Value)} {st : List Value} {M : Mm} {post : Option Value → Mm → Prop} {idx n : Nat} {mt' : Mt} {as : List Value} {post1 : Int64 → Mm → Prop} (rest : List Value) (hd : decode mt.2.1 pc = .ok (.invokestatic idx, 3)) (hk : LK mt.1.cls idx mt') (hst : Cond.static mt'.1 ∈ WSall) (hc : CB mt' n) (hE : ExL G d mt' as M post1) (hn : as.length = n) (hst2 : st = as.reverse ++ rest) (hr : (rest.map fun v => v.category).sum ≤ 8)
    (kk : ∀ (x : Int64) M', post1 x M' → Go G (d + 1) mt (pc + 3) ls (.long x :: rest) M' post) : Go G (d + 1) mt pc ls st M post :=
  Go.callS hd hk hst hc hn hE hst2 hr (fun v M' ⟨x, e, h⟩ => by subst e; exact kk x M' h)
theorem Go.callVL {G : Gt} {d : Nat} {mt : Mt} {pc : Nat} {ls : List (Option Value)} {st : List Value} {M : Mm} {post : Option Value → Mm → Prop} {idx n k ci : Nat} {mt' : Mt} {as : List Value} {fs : List (Option Nat ⊕ Bool)} {T : u_T} {N : Nat} {post1 : Int64 → Mm → Prop} (rest : List Value) (hd : decode mt.2.1 pc = .ok (.invokevirtual idx, 3)) (hk : LK mt.1.cls idx mt') (hin : Cond.instanceMethod mt'.1 ∈ WSall) (hse : Cond.selects mt'.1.cls mt'.1 mt'.1 ∈ WSall) (hc : CB mt' n) (hE : ExL G d mt' (.ref k :: as) M post1) (hs : (gS G)[k]? = some (.inr (ci, fs))) (hcl : vwCl[ci]? = some (mt'.1.cls, T, N)) (hn : as.length = n) (hst2 : st = as.reverse ++ .ref k :: rest) (hr : (rest.map fun v => v.category).sum ≤ 8)
    (kk : ∀ (x : Int64) M', post1 x M' → Go G (d + 1) mt (pc + 3) ls (.long x :: rest) M' post) : Go G (d + 1) mt pc ls st M post :=
  Go.callV hd hk hin hse hc hn hs hcl hE hst2 hr (fun v M' ⟨x, e, h⟩ => by subst e; exact kk x M' h)
theorem Go.callSR {G : Gt} {d : Nat} {mt : Mt} {pc : Nat} {ls : List (Option Value)} {st : List Value} {M : Mm} {post : Option Value → Mm → Prop} {idx n : Nat} {mt' : Mt} {as : List Value} {post1 : Nat → Mm → Prop} (rest : List Value) (hd : decode mt.2.1 pc = .ok (.invokestatic idx, 3)) (hk : LK mt.1.cls idx mt') (hst : Cond.static mt'.1 ∈ WSall) (hc : CB mt' n) (hE : ExR G d mt' as M post1) (hn : as.length = n) (hst2 : st = as.reverse ++ rest) (hr : (rest.map fun v => v.category).sum ≤ 8)
    (kk : ∀ (x : Nat) M', post1 x M' → Go G (d + 1) mt (pc + 3) ls (.ref x :: rest) M' post) : Go G (d + 1) mt pc ls st M post :=
  Go.callS hd hk hst hc hn hE hst2 hr (fun v M' ⟨x, e, h⟩ => by subst e; exact kk x M' h)
theorem Go.callVR {G : Gt} {d : Nat} {mt : Mt} {pc : Nat} {ls : List (Option Value)} {st : List Value} {M : Mm} {post : Option Value → Mm → Prop} {idx n k ci : Nat} {mt' : Mt} {as : List Value} {fs : List (Option Nat ⊕ Bool)} {T : u_T} {N : Nat} {post1 : Nat → Mm → Prop} (rest : List Value) (hd : decode mt.2.1 pc = .ok (.invokevirtual idx, 3)) (hk : LK mt.1.cls idx mt') (hin : Cond.instanceMethod mt'.1 ∈ WSall) (hse : Cond.selects mt'.1.cls mt'.1 mt'.1 ∈ WSall) (hc : CB mt' n) (hE : ExR G d mt' (.ref k :: as) M post1) (hs : (gS G)[k]? = some (.inr (ci, fs))) (hcl : vwCl[ci]? = some (mt'.1.cls, T, N)) (hn : as.length = n) (hst2 : st = as.reverse ++ .ref k :: rest) (hr : (rest.map fun v => v.category).sum ≤ 8)
    (kk : ∀ (x : Nat) M', post1 x M' → Go G (d + 1) mt (pc + 3) ls (.ref x :: rest) M' post) : Go G (d + 1) mt pc ls st M post :=
  Go.callV hd hk hin hse hc hn hs hcl hE hst2 hr (fun v M' ⟨x, e, h⟩ => by subst e; exact kk x M' h)
theorem Go.callSV {G : Gt} {d : Nat} {mt : Mt} {pc : Nat} {ls : List (Option Value)} {st : List Value} {M : Mm} {post : Option Value → Mm → Prop} {idx n : Nat} {mt' : Mt} {as : List Value} {post1 : Mm → Prop} (rest : List Value) (hd : decode mt.2.1 pc = .ok (.invokestatic idx, 3)) (hk : LK mt.1.cls idx mt') (hst : Cond.static mt'.1 ∈ WSall) (hc : CB mt' n) (hE : ExV G d mt' as M post1) (hn : as.length = n) (hst2 : st = as.reverse ++ rest) (hr : (rest.map fun v => v.category).sum ≤ 8)
    (kk : ∀ M', post1 M' → Go G (d + 1) mt (pc + 3) ls (rest) M' post) : Go G (d + 1) mt pc ls st M post :=
  Go.callS hd hk hst hc hn hE hst2 hr (fun v M' ⟨e, h⟩ => by subst e; exact kk M' h)
theorem Go.callVV {G : Gt} {d : Nat} {mt : Mt} {pc : Nat} {ls : List (Option Value)} {st : List Value} {M : Mm} {post : Option Value → Mm → Prop} {idx n k ci : Nat} {mt' : Mt} {as : List Value} {fs : List (Option Nat ⊕ Bool)} {T : u_T} {N : Nat} {post1 : Mm → Prop} (rest : List Value) (hd : decode mt.2.1 pc = .ok (.invokevirtual idx, 3)) (hk : LK mt.1.cls idx mt') (hin : Cond.instanceMethod mt'.1 ∈ WSall) (hse : Cond.selects mt'.1.cls mt'.1 mt'.1 ∈ WSall) (hc : CB mt' n) (hE : ExV G d mt' (.ref k :: as) M post1) (hs : (gS G)[k]? = some (.inr (ci, fs))) (hcl : vwCl[ci]? = some (mt'.1.cls, T, N)) (hn : as.length = n) (hst2 : st = as.reverse ++ .ref k :: rest) (hr : (rest.map fun v => v.category).sum ≤ 8)
    (kk : ∀ M', post1 M' → Go G (d + 1) mt (pc + 3) ls (rest) M' post) : Go G (d + 1) mt pc ls st M post :=
  Go.callV hd hk hin hse hc hn hs hcl hE hst2 hr (fun v M' ⟨e, h⟩ => by subst e; exact kk M' h)
set_option maxHeartbeats 1000000 in
theorem Go.copyi {G : Gt} {d : Nat} {mt : Mt} {pc : Nat} {ls : List (Option Value)} {st : List Value} {M : Mm} {post : Option Value → Mm → Prop} {idx k0 k1 n0 n1 : Nat} {r0 r1 : List (Option Nat)} {sp dp n : Int32} (hd : decode mt.2.1 pc = .ok (.invokestatic idx, 3)) (hk : Cond.methodLink mt.1.cls idx arraycopyName ∈ WSall) (hs0 : (gS G)[k0]? = some (.inl (0, n0, r0))) (hs1 : (gS G)[k1]? = some (.inl (0, n1, r1))) (h1 : ¬ sp < 0) (h2 : ¬ dp < 0) (h3 : ¬ n < 0) (h4 : sp.toNatClampNeg + n.toNatClampNeg ≤ n0) (h5 : dp.toNatClampNeg + n.toNatClampNeg ≤ n1) (hr : (st.map fun v => v.category).sum ≤ 8)
    (kk : Go G (d + 1) mt (pc + 3) ls st (seti M k1 (va_cpy (M.1 k0) (M.1 k1) sp.toNatClampNeg dp.toNatClampNeg n.toNatClampNeg)) post) : Go G (d + 1) mt pc ls (.int n :: .int dp :: .ref k1 :: .int sp :: .ref k0 :: st) M post := by
  intro p e R s m a below meth c cells slots Q H locs lsA C hP hS hl hF
  obtain ⟨hx, hb, hml, hown, hts, hok, hsz, hK, hSt, hfr, hlo, hce, hsl⟩ := id C
  have hcat : ((st.map (tv (ga G))).map fun v => v.category).sum ≤ 8 := by rw [List.map_map]; simpa [Function.comp_def, tv_cat] using hr
  have hnw : nativeFrameWords "java/lang/System" "arraycopy" 5 + 11 ≤ 32 := by decide +kernel
  refine va_copyi (D := gD G) hx hb (by rw [hml, hl.2.1]) hown (hts _ (List.mem_cons_of_mem _ hk)) (hts _ (List.mem_cons_of_mem _ kNat)) (hts _ (List.mem_cons_of_mem _ kSta)) (hts _ (List.mem_cons_of_mem _ kIni)) hK hP (wld_D hok M) hS k0 k1 0 0 (wld_at hs0) (wld_at hs1) rfl rfl rfl h1 h2 h3 h4 h5 (fun i hi => rfl) (by omega) (by omega) hd (fun H1 locs1 hP1 hD1 hS1 => ?_)
  refine kk p e R s m a below meth c cells slots Q H1 locs1 lsA C ?_ hS1 hl hF
  rw [wld_set hs1 (M := M) (M' := seti M k1 _) (fun i y hi => ce_seti hi y)]
  simp only [ce, seti, if_true]
  exact hP1
set_option maxHeartbeats 1000000 in
theorem Go.copyl {G : Gt} {d : Nat} {mt : Mt} {pc : Nat} {ls : List (Option Value)} {st : List Value} {M : Mm} {post : Option Value → Mm → Prop} {idx k0 k1 n0 n1 : Nat} {r0 r1 : List (Option Nat)} {sp dp n : Int32} (hd : decode mt.2.1 pc = .ok (.invokestatic idx, 3)) (hk : Cond.methodLink mt.1.cls idx arraycopyName ∈ WSall) (hs0 : (gS G)[k0]? = some (.inl (2, n0, r0))) (hs1 : (gS G)[k1]? = some (.inl (2, n1, r1))) (h1 : ¬ sp < 0) (h2 : ¬ dp < 0) (h3 : ¬ n < 0) (h4 : sp.toNatClampNeg + n.toNatClampNeg ≤ n0) (h5 : dp.toNatClampNeg + n.toNatClampNeg ≤ n1) (hr : (st.map fun v => v.category).sum ≤ 8)
    (kk : Go G (d + 1) mt (pc + 3) ls st (setl M k1 (va_cpy (M.2 k0) (M.2 k1) sp.toNatClampNeg dp.toNatClampNeg n.toNatClampNeg)) post) : Go G (d + 1) mt pc ls (.int n :: .int dp :: .ref k1 :: .int sp :: .ref k0 :: st) M post := by
  intro p e R s m a below meth c cells slots Q H locs lsA C hP hS hl hF
  obtain ⟨hx, hb, hml, hown, hts, hok, hsz, hK, hSt, hfr, hlo, hce, hsl⟩ := id C
  have hcat : ((st.map (tv (ga G))).map fun v => v.category).sum ≤ 8 := by rw [List.map_map]; simpa [Function.comp_def, tv_cat] using hr
  have hnw : nativeFrameWords "java/lang/System" "arraycopy" 5 + 11 ≤ 32 := by decide +kernel
  refine va_copyl (D := gD G) hx hb (by rw [hml, hl.2.1]) hown (hts _ (List.mem_cons_of_mem _ hk)) (hts _ (List.mem_cons_of_mem _ kNat)) (hts _ (List.mem_cons_of_mem _ kSta)) (hts _ (List.mem_cons_of_mem _ kIni)) hK hP (wld_D hok M) hS k0 k1 2 2 (wld_at hs0) (wld_at hs1) rfl rfl rfl h1 h2 h3 h4 h5 (fun i hi => rfl) (by omega) (by omega) hd (fun H1 locs1 hP1 hD1 hS1 => ?_)
  refine kk p e R s m a below meth c cells slots Q H1 locs1 lsA C ?_ hS1 hl hF
  rw [wld_set hs1 (M := M) (M' := setl M k1 _) (fun i y hi => ce_setl hi y)]
  simp only [ce, setl, if_true]
  exact hP1
