set_option maxRecDepth 20000 in
theorem tkB : chkT [(23, Cond.instanceMethod ⟨"java/lang/Object", "<init>", "()V"⟩), (24, Cond.code ⟨"java/lang/Object", "<init>", "()V"⟩ object_method_1_code (1) none), (82, Cond.arrayClass .int), (994, Cond.arrayClass .boolean), (190, Cond.arrayClass .long), (90, Cond.instantiable "NewDishes$Barred" (2)), (94, Cond.methodLink "NewDishes$Barred" (3) ⟨"java/lang/Object", "<init>", "()V"⟩), (26, Cond.instantiable "NewDishes$Bureau" (10)), (30, Cond.methodLink "NewDishes$Bureau" (3) ⟨"java/lang/Object", "<init>", "()V"⟩), (84, Cond.instantiable "NewDishes$Kitchen" (7)), (88, Cond.methodLink "NewDishes$Kitchen" (3) ⟨"java/lang/Object", "<init>", "()V"⟩), (131, Cond.instantiable "NewDishes$Paths" (2)), (135, Cond.methodLink "NewDishes$Paths" (3) ⟨"java/lang/Object", "<init>", "()V"⟩), (172, Cond.instantiable "NewDishes$Sheet" (3)), (176, Cond.methodLink "NewDishes$Sheet" (3) ⟨"java/lang/Object", "<init>", "()V"⟩), (145, Cond.instantiable "NewDishes$Tape" (6)), (149, Cond.methodLink "NewDishes$Tape" (3) ⟨"java/lang/Object", "<init>", "()V"⟩), (18, Cond.instantiable "NewDishes" (9)), (22, Cond.methodLink "NewDishes" (3) ⟨"java/lang/Object", "<init>", "()V"⟩), (877, Cond.instantiable "NewDishesModel" (36)), (881, Cond.methodLink "NewDishesModel" (1) ⟨"java/lang/Object", "<init>", "()V"⟩), (17, Cond.classLink "NewDishesLaw" (7) "NewDishes"), (25, Cond.classLink "NewDishes" (9) "NewDishes$Bureau"), (83, Cond.classLink "NewDishes" (26) "NewDishes$Kitchen"), (89, Cond.classLink "NewDishes$Kitchen" (15) "NewDishes$Barred"), (130, Cond.classLink "NewDishes" (33) "NewDishes$Paths"), (144, Cond.classLink "NewDishes" (40) "NewDishes$Tape"), (170, Cond.classLink "NewDishes" (47) "NewDishes$Sheet"), (876, Cond.classLink "NewDishesLaw" (10) "NewDishesModel")] = true := by decide +kernel
theorem kOim : Cond.instanceMethod Lib.objectInit ∈ WSall := tmem tkB 0 rfl
theorem kOco : Cond.code Lib.objectInit ⟨#[0xb1]⟩ 1 none ∈ WSall := tmem tkB 1 rfl
theorem kAi : Cond.arrayClass .int ∈ WSall := tmem tkB 2 rfl
theorem kAz : Cond.arrayClass .boolean ∈ WSall := tmem tkB 3 rfl
theorem kAl : Cond.arrayClass .long ∈ WSall := tmem tkB 4 rfl
theorem kIn0 : Cond.instantiable RX0 2 ∈ WSall := tmem tkB 5 rfl
theorem kOi0 : Cond.methodLink RX0 3 Lib.objectInit ∈ WSall := tmem tkB 6 rfl
theorem kIn1 : Cond.instantiable RX1 10 ∈ WSall := tmem tkB 7 rfl
theorem kOi1 : Cond.methodLink RX1 3 Lib.objectInit ∈ WSall := tmem tkB 8 rfl
theorem kIn2 : Cond.instantiable RX2 7 ∈ WSall := tmem tkB 9 rfl
theorem kOi2 : Cond.methodLink RX2 3 Lib.objectInit ∈ WSall := tmem tkB 10 rfl
theorem kIn3 : Cond.instantiable RX3 2 ∈ WSall := tmem tkB 11 rfl
theorem kOi3 : Cond.methodLink RX3 3 Lib.objectInit ∈ WSall := tmem tkB 12 rfl
theorem kIn4 : Cond.instantiable RX4 3 ∈ WSall := tmem tkB 13 rfl
theorem kOi4 : Cond.methodLink RX4 3 Lib.objectInit ∈ WSall := tmem tkB 14 rfl
theorem kIn5 : Cond.instantiable RX5 6 ∈ WSall := tmem tkB 15 rfl
theorem kOi5 : Cond.methodLink RX5 3 Lib.objectInit ∈ WSall := tmem tkB 16 rfl
theorem kIn6 : Cond.instantiable RX6 9 ∈ WSall := tmem tkB 17 rfl
theorem kOi6 : Cond.methodLink RX6 3 Lib.objectInit ∈ WSall := tmem tkB 18 rfl
theorem kIn7 : Cond.instantiable RX7 36 ∈ WSall := tmem tkB 19 rfl
theorem kOi7 : Cond.methodLink RX7 1 Lib.objectInit ∈ WSall := tmem tkB 20 rfl
theorem kClL_7 : Cond.classLink RL 7 RX6 ∈ WSall := tmem tkB 21 rfl
theorem kClX6_9 : Cond.classLink RX6 9 RX1 ∈ WSall := tmem tkB 22 rfl
theorem kClX6_26 : Cond.classLink RX6 26 RX2 ∈ WSall := tmem tkB 23 rfl
theorem kClX2_15 : Cond.classLink RX2 15 RX0 ∈ WSall := tmem tkB 24 rfl
theorem kClX6_33 : Cond.classLink RX6 33 RX3 ∈ WSall := tmem tkB 25 rfl
theorem kClX6_40 : Cond.classLink RX6 40 RX5 ∈ WSall := tmem tkB 26 rfl
theorem kClX6_47 : Cond.classLink RX6 47 RX4 ∈ WSall := tmem tkB 27 rfl
theorem kClL_10 : Cond.classLink RL 10 RX7 ∈ WSall := tmem tkB 28 rfl
/-! the same world, cell by cell -/
def mpR {α β : Type} (f : Nat → α → β) : Nat → List α → List β
  | _, [] => []
  | k, x :: xs => f k x :: mpR f (k + 1) xs
theorem mpR_at {α β : Type} (f : Nat → α → β) : ∀ (l : List α) (k i : Nat), (mpR f k l)[i]? = l[i]?.map (f (k + i))
  | [], k, i => by simp [mpR]
  | x :: xs, k, 0 => by simp [mpR]
  | x :: xs, k, i + 1 => by
    simp only [mpR, List.getElem?_cons_succ]
    rw [mpR_at f xs (k + 1) i, show k + 1 + i = k + (i + 1) by omega]
def ceR (q : Nat → Nat) (dA : Nat → ClassId) (M : Mm) (k : Nat) : Sh → va_E
  | .inl (0, n, _) => .inl (dA 0, n, .inl (M.1 k))
  | .inl (1, n, _) => .inl (dA 1, n, .inl (M.1 k))
  | .inl (2, n, _) => .inl (dA 2, n, .inr (.inl (M.2 k)))
  | .inl (_, n, rs) => .inl (dA 3, n, .inr (.inr (.inr (.inr (fun j => (rs.getD j none).map q)))))
  | .inr (ci, fs) => .inr (ci, mpR (cf q M k) 0 fs)
def wlR (q : Nat → Nat) (dA : Nat → ClassId) (M : Mm) (S : List Sh) : va_W := mpR (fun k x => (q k, ceR q dA M k x)) 0 S
def orB : Option Nat → Bool
  | none => true
  | some r => decide (r < 1000)
def shB : Sh → Bool
  | .inl (_, _, rs) => rs.all orB
  | .inr (_, fs) => fs.all (fun o => match o with | .inl r => orB r | .inr _ => true)
theorem ce_R {ad q : Nat → Nat} {dA : Nat → ClassId} {M : Mm} {k : Nat} {x : Sh} (hx : shB x = true) (ha : ∀ r, r < 1000 → ad r = q r) : ce ad dA M k x = ceR q dA M k x := by
  rcases x with ⟨t, n, rs⟩ | ⟨ci, fs⟩
  · match t with
    | 0 => rfl
    | 1 => rfl
    | 2 => rfl
    | t + 3 =>
      simp only [ce, ceR]
      congr 7
      funext j
      have h1 : orB (rs.getD j none) = true := by
        rw [List.getD_eq_getElem?_getD]
        cases h : rs[j]? with
        | none => rfl
        | some o => exact List.all_eq_true.mp hx o (List.mem_of_getElem? h)
      cases h : rs.getD j none with
      | none => rfl
      | some r =>
        rw [h] at h1
        simp only [orB, decide_eq_true_eq] at h1
        simp only [Option.map_some, ha r h1]
  · simp only [ce, ceR]
    congr 2
    apply List.ext_getElem?
    intro j
    rw [mpR_at, List.getElem?_mapIdx, Nat.zero_add]
    cases h : fs[j]? with
    | none => rfl
    | some o =>
      have h1 := List.all_eq_true.mp hx o (List.mem_of_getElem? h)
      rcases o with (_ | r) | (_ | _)
      · rfl
      · simp only [orB, decide_eq_true_eq] at h1
        simp only [Option.map_some, cf, ha r h1]
      · rfl
      · rfl
theorem wl_eq {G : Gt} {S : List Sh} {b : Nat} {q : Nat → Nat} {N : Mm} (h : S.all shB = true) (hl : S.length ≤ 1000) : wld (Ga G S b q) N = wlR q (gA G) N S := by
  apply List.ext_getElem?
  intro i
  unfold wlR
  rw [mpR_at, Nat.zero_add]
  cases hx : S[i]? with
  | none =>
    have h1 : (wld (Ga G S b q) N).length ≤ i := by rw [wld_len]; exact List.getElem?_eq_none_iff.mp hx
    rw [List.getElem?_eq_none_iff.mpr h1]
    rfl
  | some x =>
    have hi : i < S.length := (List.getElem?_eq_some_iff.mp hx).1
    rw [wld_at (G := Ga G S b q) (M := N) (k := i) (x := x) hx, Ga_a G S b q (by omega)]
    rw [ce_R (q := q) (List.all_eq_true.mp h x (List.mem_of_getElem? hx)) (fun r hr => Ga_a G S b q hr)]
    rfl
/-- a constructor's end: cells of the shape S, the first at b -/
def Pw (G : Gt) (S : List Sh) (Ft : Mm → Prop) (b : Nat) (ws : va_W) : Prop := ∃ (q : Nat → Nat) (N : Mm), q 0 = b ∧ Ft N ∧ ws = wld (Ga G S b q) N
theorem l2z {ad : Nat → Nat} {lv : List (Nat × Value)} {n : Nat} (h : (0, Value.ref (ad 0)) ∈ lv) : ∀ (i : Nat) (v : Value), ((some (.ref 0) : Option Value) :: List.replicate n none)[i]? = some (some v) → (i, tv ad v) ∈ lv := by
  intro i v hv
  match i, hv with
  | 0, hv =>
    simp only [List.getElem?_cons_zero, Option.some.injEq] at hv
    subst hv
    exact h
  | i + 1, hv =>
    rw [List.getElem?_cons_succ, List.getElem?_replicate] at hv
    split at hv <;> simp at hv
/-! ===== constructors: a walk whose world grows. Bo: at a place in a method, with the world's cells as a list, all at or above b ===== -/
def Fl (b : Nat) : Nat → Prop := fun q => b ≤ q
def Bc (G : Gt) (b F L : Nat) (mt : Mt) (p : Program) (R : Room) (s : State) (m : MethodId) (a : Array Value) (meth : Method) (c : Code) : Prop :=
  p.tables.exec = Jvm.exec ∧ c.code = mt.2.1 ∧ c.maxLocals = mt.2.2.1 ∧ s.vm.findClass mt.1.cls = some m.cls ∧ (∀ w ∈ wsM mt, w.before a s = true) ∧ gz G ≤ b ∧ b ≤ s.heap.size ∧ va_K (gD G) vwCl (tysG G) s ∧ Stat G s s.heap ∧ va_AO "NewDishes$Sheet" s ∧ (mt.1.name = "<init>" → meth.name = "<init>") ∧ F ≤ R.frames ∧ L ≤ R.locals
abbrev Be : Type := Program → Env → Room → State → MethodId → Array Value → List Frame → Method → Code → (State → Prop) → Prop
def BFin (G : Gt) (b nc ns : Nat) (mt : Mt) (post : va_W → Prop) : Be := fun p e R s m a below meth c Q =>
  ∀ (ws : va_W) (pc : Nat) (lsA : Array Slot) (H : Heap) (locs : List Loc), post ws → decode mt.2.1 pc = .ok (.return_, 1) → va_P (gD G) vwCl ws H → va_D (Fl b) ws → va_S (Fl b) s.heap H locs → W p (gl G) e R s m a below meth c H locs nc ns Q (F0 m pc lsA [])
def Bo (G : Gt) (b F L nc ns : Nat) (mt : Mt) (pc : Nat) (lv : List (Nat × Value)) (st : List Value) (ws : va_W) (cells slots : Nat) (E : Be) : Prop :=
  ∀ (p : Program) (e : Env) (R : Room) (s : State) (m : MethodId) (a : Array Value) (below : List Frame) (meth : Method) (c : Code) (Q : State → Prop) (H : Heap) (locs : List Loc) (lsA : Array Slot),
    Bc G b F L mt p R s m a meth c → nc ≤ R.cells → ns ≤ R.slots → va_P (gD G) vwCl ws H → va_D (Fl b) ws → va_S (Fl b) s.heap H locs → lv_has lsA mt.2.2.1 lv → E p e R s m a below meth c Q →
    W p (gl G) e R s m a below meth c H locs cells slots Q (F0 m pc lsA st)
def CnP (G : Gt) (b ci : Nat) (fs0 : List Value) (U : State) : Prop := U.heap.size = b + 1 ∧ va_P (gD G) vwCl [(b, .inr (ci, fs0))] U.heap ∧ va_K (gD G) vwCl (tysG G) U ∧ Stat G U U.heap ∧ va_AO "NewDishes$Sheet" U
/-- a constructor's contract: the receiver is the heap's last cell -/
def Cn (G : Gt) (mt : Mt) (ci : Nat) (fs0 : List Value) (F L nc ns : Nat) (post : Nat → va_W → Prop) : Prop :=
  ∀ b : Nat, gz G ≤ b → Met (gl G) mt.1 (wsM mt) { frames := F, cells := nc, slots := ns, locals := L } (va_Pc [.ref b] (CnP G b ci fs0)) (va_Qv (post b) (fun ws t => va_P (gD G) vwCl ws t.heap ∧ va_D (Fl b) ws) (Fl b)) nc ns (Fl b)
section BoRows
variable {G : Gt} {b F L nc ns : Nat} {mt : Mt} {pc : Nat} {lv lv' : List (Nat × Value)} {st : List Value} {ws : va_W} {cells slots : Nat} {E : Be}
theorem Bo.eq {ws' : va_W} (h : ws = ws') (kk : Bo G b F L nc ns mt pc lv st ws' cells slots E) : Bo G b F L nc ns mt pc lv st ws cells slots E := by subst h; exact kk
theorem Bo.aload_n {k : Fin 4} {i x j : Nat} (hd : decode mt.2.1 pc = .ok (.aload_n k, 1)) (hi : (k : Nat) = i) (hj : lv[j]? = some (i, .ref x)) (kk : Bo G b F L nc ns mt (pc + 1) lv (.ref x :: st) ws cells slots E) : Bo G b F L nc ns mt pc lv st ws cells slots E := by
  intro p e R s m a below meth c Q H locs lsA C hnc hns hP hD hS hl hE
  exact lv_aload_n C.1 C.2.1 hd hi (lv_at hl j hj) (kk p e R s m a below meth c Q H locs lsA C hnc hns hP hD hS hl hE)
theorem Bo.iload_n {k : Fin 4} {i j : Nat} {x : Int32} (hd : decode mt.2.1 pc = .ok (.iload_n k, 1)) (hi : (k : Nat) = i) (hj : lv[j]? = some (i, .int x)) (kk : Bo G b F L nc ns mt (pc + 1) lv (.int x :: st) ws cells slots E) : Bo G b F L nc ns mt pc lv st ws cells slots E := by
  intro p e R s m a below meth c Q H locs lsA C hnc hns hP hD hS hl hE
  exact lv_iload_n C.1 C.2.1 hd hi (lv_at hl j hj) (kk p e R s m a below meth c Q H locs lsA C hnc hns hP hD hS hl hE)
theorem Bo.iconst {n : Int} {v : Int32} (hd : decode mt.2.1 pc = .ok (.iconst n, 1)) (hv : Int32.ofInt n = v) (kk : Bo G b F L nc ns mt (pc + 1) lv (.int v :: st) ws cells slots E) : Bo G b F L nc ns mt pc lv st ws cells slots E := by
  intro p e R s m a below meth c Q H locs lsA C hnc hns hP hD hS hl hE
  exact lv_iconst C.1 C.2.1 hd hv (kk p e R s m a below meth c Q H locs lsA C hnc hns hP hD hS hl hE)
theorem Bo.bipush {n : Int} {v : Int32} (hd : decode mt.2.1 pc = .ok (.bipush n, 2)) (hv : (Int8.ofInt n).toInt32 = v) (kk : Bo G b F L nc ns mt (pc + 2) lv (.int v :: st) ws cells slots E) : Bo G b F L nc ns mt pc lv st ws cells slots E := by
  intro p e R s m a below meth c Q H locs lsA C hnc hns hP hD hS hl hE
  exact lv_bipush C.1 C.2.1 hd hv (kk p e R s m a below meth c Q H locs lsA C hnc hns hP hD hS hl hE)
theorem Bo.sipush {n : Int} {v : Int32} (hd : decode mt.2.1 pc = .ok (.sipush n, 3)) (hv : (Int16.ofInt n).toInt32 = v) (kk : Bo G b F L nc ns mt (pc + 3) lv (.int v :: st) ws cells slots E) : Bo G b F L nc ns mt pc lv st ws cells slots E := by
  intro p e R s m a below meth c Q H locs lsA C hnc hns hP hD hS hl hE
  exact lv_sipush C.1 C.2.1 hd hv (kk p e R s m a below meth c Q H locs lsA C hnc hns hP hD hS hl hE)
theorem Bo.dup {va : Value} (hd : decode mt.2.1 pc = .ok (.dup, 1)) (hv : va.category = 1) (kk : Bo G b F L nc ns mt (pc + 1) lv (va :: va :: st) ws cells slots E) : Bo G b F L nc ns mt pc lv (va :: st) ws cells slots E := by
  intro p e R s m a below meth c Q H locs lsA C hnc hns hP hD hS hl hE
  exact lv_dup C.1 C.2.1 hd hv (kk p e R s m a below meth c Q H locs lsA C hnc hns hP hD hS hl hE)
theorem Bo.istore_n {k : Fin 4} {i : Nat} {x : Int32} (hd : decode mt.2.1 pc = .ok (.istore_n k, 1)) (hi : (k : Nat) = i) (hn : i < mt.2.2.1) (hlv : (i, Value.int x) :: lv.filter (fun q => !(q.1 == i) && !(q.1 + 1 == i && q.2.category == 2)) = lv') (kk : Bo G b F L nc ns mt (pc + 1) lv' st ws cells slots E) : Bo G b F L nc ns mt pc lv (.int x :: st) ws cells slots E := by
  intro p e R s m a below meth c Q H locs lsA C hnc hns hP hD hS hl hE
  exact lv_istore_n C.1 C.2.1 hd hi hl hn hlv (fun ls' hl' => kk p e R s m a below meth c Q H locs ls' C hnc hns hP hD hS hl' hE)
theorem Bo.iinc {i k : Nat} {n : Int} {x v : Int32} (hd : decode mt.2.1 pc = .ok (.iinc i n, 3)) (hk : lv[k]? = some (i, .int x)) (hv : x + Int32.ofInt n = v) (hn : i < mt.2.2.1) (hlv : (i, Value.int v) :: lv.filter (fun q => !(q.1 == i) && !(q.1 + 1 == i && q.2.category == 2)) = lv') (kk : Bo G b F L nc ns mt (pc + 3) lv' st ws cells slots E) : Bo G b F L nc ns mt pc lv st ws cells slots E := by
  intro p e R s m a below meth c Q H locs lsA C hnc hns hP hD hS hl hE
  exact lv_iinc C.1 C.2.1 hd hl hk hv hn hlv (fun ls' hl' => kk p e R s m a below meth c Q H locs ls' C hnc hns hP hD hS hl' hE)
theorem Bo.goto {off : Int} (tgt : Nat) (hd : decode mt.2.1 pc = .ok (.goto off, 3)) (ht : (pc : Int) + off = (tgt : Int)) (kk : Bo G b F L nc ns mt tgt lv st ws cells slots E) : Bo G b F L nc ns mt pc lv st ws cells slots E := by
  intro p e R s m a below meth c Q H locs lsA C hnc hns hP hD hS hl hE
  exact lv_goto C.1 C.2.1 hd ht (kk p e R s m a below meth c Q H locs lsA C hnc hns hP hD hS hl hE)
theorem Bo.icmp_geT {x y : Int32} {off : Int} (tgt : Nat) (hd : decode mt.2.1 pc = .ok (.if_icmp .ge off, 3)) (ht : (pc : Int) + off = (tgt : Int)) (h : y ≤ x) (kk : Bo G b F L nc ns mt tgt lv st ws cells slots E) : Bo G b F L nc ns mt pc lv (.int y :: .int x :: st) ws cells slots E := by
  intro p e R s m a below meth c Q H locs lsA C hnc hns hP hD hS hl hE
  exact lv_icmp_ge C.1 C.2.1 hd ht (fun _ => kk p e R s m a below meth c Q H locs lsA C hnc hns hP hD hS hl hE) (fun h' => absurd h h')
theorem Bo.icmp_geF {x y : Int32} {off : Int} (tgt : Nat) (hd : decode mt.2.1 pc = .ok (.if_icmp .ge off, 3)) (ht : (pc : Int) + off = (tgt : Int)) (h : ¬ y ≤ x) (kk : Bo G b F L nc ns mt (pc + 3) lv st ws cells slots E) : Bo G b F L nc ns mt pc lv (.int y :: .int x :: st) ws cells slots E := by
  intro p e R s m a below meth c Q H locs lsA C hnc hns hP hD hS hl hE
  exact lv_icmp_ge C.1 C.2.1 hd ht (fun h' => absurd h' h) (fun _ => kk p e R s m a below meth c Q H locs lsA C hnc hns hP hD hS hl hE)
theorem Bo.objInit {idx a0 : Nat} (hd : decode mt.2.1 pc = .ok (.invokespecial idx, 3)) (hw : Cond.methodLink mt.1.cls idx Lib.objectInit ∈ WSall) (hF : 1 ≤ F) (hL : 20 ≤ L) (hr : (st.map fun v => v.category).sum ≤ 8) (kk : Bo G b F L nc ns mt (pc + 3) lv st ws cells slots E) : Bo G b F L nc ns mt pc lv (.ref a0 :: st) ws cells slots E := by
  intro p e R s m a below meth c Q H locs lsA C hnc hns hP hD hS hl hE
  obtain ⟨hx, hb, hml, hown, hts, hz, hsz, hK, hSt, hAO, hnm, hfr, hlo⟩ := id C
  have h0 : 2 * (F0 m pc lsA (.ref a0 :: st)).monitorRoom + (st.map fun v => v.category).sum ≤ 8 := lv_room hr
  refine W.objInit hx hb hown (hts _ (List.mem_cons_of_mem _ hw)) (hts _ (List.mem_cons_of_mem _ kOim)) (hts _ (List.mem_cons_of_mem _ kOco)) rfl (by rw [hml]; exact hl.1) rfl hd (Nat.le_trans hF hfr) (by omega) ?_
  exact W.eq (g2 := F0 m (pc + 3) lsA st) rfl (kk p e R s m a below meth c Q H locs lsA C hnc hns hP hD hS hl hE)
theorem Bo.newA {r : Nat × va_E} {atype : ArrayType} {t0 : Nat} {ty : FieldType} {cA : ClassId} {n : Int32} {N : Nat} {a0 : vp_A} (hd : decode mt.2.1 pc = .ok (.newarray atype, 2)) (hty : newarray.typeOf atype = ty) (hw : Cond.arrayClass ty ∈ WSall) (ht : (tysG G)[t0]? = some (cA, ty)) (hra : ∀ U : State, va_RA U cA ty → U.vm.findClass ("[" ++ ty.toString) = some cA) (ha : ∀ cA : ClassId, vp_cell cA a0 = arrV cA N (fun _ => defaultValue ty)) (hn : ¬ n < 0) (hN : n.toNatClampNeg = N) (hb2 : N * componentBytes ty ≤ 536870912) (hc2 : cells + 1 ≤ nc) (hs2 : slots + N ≤ ns)
    (kk : ∀ q : Nat, Bo G b F L nc ns mt (pc + 2) lv (.ref q :: st) (r :: (q, .inl (cA, a0)) :: ws) (cells + 1) (slots + N) E) : Bo G b F L nc ns mt pc lv (.int n :: st) (r :: ws) cells slots E := by
  intro p e R s m a below meth c Q H locs lsA C hnc hns hP hD hS hl hE
  obtain ⟨hx, hb, hml, hown, hts, hz, hsz, hK, hSt, hAO, hnm, hfr, hlo⟩ := id C
  subst hty
  refine bn_arr hx hb (hts _ (List.mem_cons_of_mem _ hw)) (hra s (hK.2 t0 _ ht).2) hP hS rfl (ha cA) hn hN hb2 (by omega) (by omega) hd (fun H1 hz1 hP1 hS1 => ?_)
  have hD1 : va_D (Fl b) ((r :: ws) ++ [(H.size, .inl (cA, a0))]) := hD.push hP rfl (show b ≤ H.size from Nat.le_trans hsz hS.1)
  exact kk H.size p e R s m a below meth c Q H1 locs lsA C hnc hns (va_P.swap (a := [r]) (b := ws) (c := [(H.size, .inl (cA, a0))]) hP1) (va_D.swap (a := [r]) (b := ws) (c := [(H.size, .inl (cA, a0))]) hD1) hS1 hl hE
theorem Bo.fin {idx ci j a0 : Nat} {fs fs' : List Value} {v : Value} {ty : FieldType} (hd : decode mt.2.1 pc = .ok (.putfield idx, 3)) (hi : mt.1.name = "<init>") (hw : FL mt.1.cls idx ci j) (hT : ∀ C T N, vwCl[ci]? = some (C, T, N) → (T j).2.2.2 = true ∧ (T j).1 = mt.1.cls ∧ parseFieldDescriptor (T j).2.2.1 = some ty) (hn : narrow ty v = v) (hfit : fits ty v = true) (hj : j < fs.length) (hfs : fs.set j v = fs')
    (kk : Bo G b F L nc ns mt (pc + 3) lv st ((a0, .inr (ci, fs')) :: ws) cells slots E) : Bo G b F L nc ns mt pc lv (v :: .ref a0 :: st) ((a0, .inr (ci, fs)) :: ws) cells slots E := by
  intro p e R s m a below meth c Q H locs lsA C hnc hns hP hD hS hl hE
  obtain ⟨hx, hb, hml, hown, hts, hz, hsz, hK, hSt, hAO, hnm, hfr, hlo⟩ := id C
  subst hfs
  exact bn_fin (q0 := 0) hx hb hts hown (hnm hi) hK hP hD hS hw hT rfl hn hfit hj hd (fun H1 locs1 hP1 hD1 hS1 => kk p e R s m a below meth c Q H1 locs1 lsA C hnc hns hP1 hD1 hS1 hl hE)
theorem Bo.put {idx ci j a0 : Nat} {fs fs' : List Value} {v : Value} {ty : FieldType} (hd : decode mt.2.1 pc = .ok (.putfield idx, 3)) (hw : FP mt.1.cls idx ci j ty) (hn : narrow ty v = v) (hfit : fits ty v = true) (hj : j < fs.length) (hfs : fs.set j v = fs')
    (kk : Bo G b F L nc ns mt (pc + 3) lv st ((a0, .inr (ci, fs')) :: ws) cells slots E) : Bo G b F L nc ns mt pc lv (v :: .ref a0 :: st) ((a0, .inr (ci, fs)) :: ws) cells slots E := by
  intro p e R s m a below meth c Q H locs lsA C hnc hns hP hD hS hl hE
  obtain ⟨hx, hb, hml, hown, hts, hz, hsz, hK, hSt, hAO, hnm, hfr, hlo⟩ := id C
  subst hfs
  obtain ⟨C0, T, N, h1, h2, h3, h4, h5⟩ := hw
  obtain ⟨ty0, t1, t2⟩ := clsT h1
  exact va_put (D := gD G) (ci := ci) (v := v) (ty := ty) (C := C0) (T := T) (N := N) hx hb hts (fun w h => List.mem_cons_of_mem _ (clsW h1 w h)) ty0 t1 t2 hown hK hP hD hS 0 rfl h1 j h2 (hts _ (List.mem_cons_of_mem _ h3)) (fun _ h9 => h9) h4 h5 hn hfit hj hd (fun H1 locs1 hP1 hD1 hS1 => kk p e R s m a below meth c Q H1 locs1 lsA C hnc hns hP1 hD1 hS1 hl hE)
theorem Bo.get {idx ci j a0 r : Nat} {fs : List Value} (hd : decode mt.2.1 pc = .ok (.getfield idx, 3)) (hw : FL mt.1.cls idx ci j) (hj : fs[j]? = some (.ref r))
    (kk : Bo G b F L nc ns mt (pc + 3) lv (.ref r :: st) ((a0, .inr (ci, fs)) :: ws) cells slots E) : Bo G b F L nc ns mt pc lv (.ref a0 :: st) ((a0, .inr (ci, fs)) :: ws) cells slots E := by
  intro p e R s m a below meth c Q H locs lsA C hnc hns hP hD hS hl hE
  obtain ⟨hx, hb, hml, hown, hts, hz, hsz, hK, hSt, hAO, hnm, hfr, hlo⟩ := id C
  obtain ⟨C0, T, N, h1, h2, h3⟩ := hw
  exact va_get (D := gD G) (ci := ci) (v := .ref r) (C := C0) (T := T) (N := N) hx hb hts (fun w h => List.mem_cons_of_mem _ (clsW h1 w h)) hown hK hP 0 rfl h1 j h2 (hts _ (List.mem_cons_of_mem _ h3)) (fun _ h9 => h9) hj hd (kk p e R s m a below meth c Q H locs lsA C hnc hns hP hD hS hl hE)
theorem Bo.iast {r : Nat × va_E} {t0 a0 n : Nat} {cA : ClassId} {f : Nat → Int32} {i x : Int32} (hd : decode mt.2.1 pc = .ok (.iastore, 1)) (ht : (tysG G)[t0]? = some (cA, .int)) (hin : vp_in i n)
    (kk : Bo G b F L nc ns mt (pc + 1) lv st (r :: (a0, .inl (cA, n, .inl (upd f i.toNatClampNeg x))) :: ws) cells slots E) : Bo G b F L nc ns mt pc lv (.int x :: .int i :: .ref a0 :: st) (r :: (a0, .inl (cA, n, .inl f)) :: ws) cells slots E := by
  intro p e R s m a below meth c Q H locs lsA C hnc hns hP hD hS hl hE
  obtain ⟨hx, hb, hml, hown, hts, hz, hsz, hK, hSt, hAO, hnm, hfr, hlo⟩ := id C
  exact va_iast (D := gD G) hx hb hK hP hD hS 1 t0 rfl ht hin hd (fun H1 locs1 hP1 hD1 hS1 => kk p e R s m a below meth c Q H1 locs1 lsA C hnc hns hP1 hD1 hS1 hl hE)
theorem Bo.ret {post : va_W → Prop} (hd : decode mt.2.1 pc = .ok (.return_, 1)) (hc : cells ≤ nc) (hs : slots ≤ ns) (hp : post ws) : Bo G b F L nc ns mt pc lv [] ws cells slots (BFin G b nc ns mt post) := by
  intro p e R s m a below meth c Q H locs lsA C hnc hns hP hD hS hl hE
  exact W.widen hc hs (hE ws pc lsA H locs hp hd hP hD hS)
end BoRows
theorem CnP.blind (G : Gt) (b ci : Nat) (fs0 : List Value) (av : List Value) : FrameBlind (va_Pc av (CnP G b ci fs0)) := by
  intro a U g mk q
  obtain ⟨q0, q1, q2, q3, q4, q5⟩ := q
  exact ⟨q0, q1, q2, va_K.moved (u := U) (U := U.calling g mk a) (Vm.Alike.refl U.vm) q3, Stat.same q4 rfl, va_AO.moved (u := U) (U := U.calling g mk a) (Vm.Alike.refl U.vm) q5⟩
set_option maxHeartbeats 1000000 in
/-- new, dup, the constructor's call -/
theorem bn_call {G : Gt} {b F L : Nat} {mt : Mt} {p : Program} {e : Env} {R : Room} {s : State} {m : MethodId} {a : Array Value} {below : List Frame} {meth : Method} {c : Code} {Q : State → Prop} {H : Heap} {locs : List Loc} {lsA : Array Slot} {ws : va_W} {cells slots pc : Nat} {rest : List Value}
    (C : Bc G b F L mt p R s m a meth c) (hP : va_P (gD G) vwCl ws H) (hD : va_D (Fl b) ws) (hS : va_S (Fl b) s.heap H locs) (hl : lsA.size = mt.2.2.1)
    {idx1 idx2 ci F1 L1 nc1 ns1 N : Nat} {T : u_T} {mt' : Mt} {fs0 : List Value} {post1 : Nat → va_W → Prop} {ty : Nat → FieldType}
    (d1 : decode mt.2.1 pc = .ok (.new idx1, 3)) (d2 : decode mt.2.1 (pc + 3) = .ok (.dup, 1)) (d3 : decode mt.2.1 (pc + 3 + 1) = .ok (.invokespecial idx2, 3))
    (hcl : Cond.classLink mt.1.cls idx1 mt'.1.cls ∈ WSall) (hin : Cond.instantiable mt'.1.cls N ∈ WSall) (hk : LK mt.1.cls idx2 mt') (him : Cond.instanceMethod mt'.1 ∈ WSall) (hc : CB mt' 0) (hnm : mt'.1.name = "<init>") (hre : mt'.2.2.2 = none) (hvc : vwCl[ci]? = some (mt'.1.cls, T, N)) (hty : ∀ k, k < N → parseFieldDescriptor (T k).2.2.1 = some (ty k)) (hfs : ∀ j, j < N → defaultValue (ty j) = vp_V fs0 j)
    (hM : Cn G mt' ci fs0 F1 L1 nc1 ns1 post1) (hF : F1 + 1 ≤ F) (hL : 8 + (mt'.2.2.1 + 11) + L1 ≤ L) (hc2 : cells + 1 + nc1 ≤ R.cells) (hs2 : slots + N + ns1 ≤ R.slots) (hr : (rest.map fun v => v.category).sum ≤ 7)
    (kk : ∀ (q : Nat) (w1 : va_W) (H1 : Heap) (locs1 : List Loc), post1 q w1 → va_P (gD G) vwCl (ws ++ w1) H1 → va_D (Fl b) (ws ++ w1) → va_S (Fl b) s.heap H1 locs1 → W p (gl G) e R s m a below meth c H1 locs1 (cells + 1 + nc1) (slots + N + ns1) Q (F0 m (pc + 3 + 1 + 3) lsA (.ref q :: rest))) : W p (gl G) e R s m a below meth c H locs cells slots Q (F0 m pc lsA rest) := by
  obtain ⟨hx, hb, hml, hown, hts, hz, hsz, hK, hSt, hAO, hnm0, hfr, hlo⟩ := id C
  have hini := hts _ (List.mem_cons_of_mem _ hc.1)
  refine bn_obj (ci := ci) hx hb hts (fun w h => List.mem_cons_of_mem _ (clsW hvc w h)) ty hty hown (hts _ (List.mem_cons_of_mem _ hcl)) (hts _ (List.mem_cons_of_mem _ hin)) hini hK hP hS rfl hvc hfs (by omega) (by omega) d1 (fun H1 hz1 hP1 hS1 => ?_)
  refine lv_dup hx hb d2 rfl ?_
  have hbh : b ≤ H.size := Nat.le_trans hsz hS.1
  have hP0 : va_P (gD G) vwCl [(H.size, .inr (ci, fs0))] H1 := fun k q hk => hP1 (ws.length + k) q (by rw [List.getElem?_append_right (by omega), show ws.length + k - ws.length = k by omega]; exact hk)
  have hPw : va_P (gD G) vwCl ws H1 := fun k q hk => hP1 k q (by rw [List.getElem?_append_left (List.getElem?_eq_some_iff.mp hk).1]; exact hk)
  have hcat : ((Value.ref H.size :: rest).map fun v => v.category).sum ≤ 8 := by simp only [List.map_cons, List.sum_cons]; show 1 + _ ≤ 8; omega
  have hpre : PreS s H1 (va_Pc [.ref H.size] (CnP G H.size ci fs0)) [.ref H.size] := ⟨CnP.blind G _ _ _ _, fun U hU hW => ⟨rfl, by rw [hU]; exact hz1, by rw [hU]; exact hP0, va_K.moved hW.alike hK, by
    rw [hU]
    exact (hSt.kept (fun a h1 h2 => hS1.2.1 a h1 (fun h3 => h2 (Nat.le_trans hz h3)))).warm hW, va_AO.moved hW.alike hAO⟩⟩
  have hrm : F1 + 1 ≤ R.frames ∧ 8 + (mt'.2.2.1 + 11) + L1 ≤ R.locals := ⟨Nat.le_trans hF hfr, Nat.le_trans hL hlo⟩
  have hMet := hM H.size (Nat.le_trans hz hbh)
  have hwe : wsM mt' = Cond.code mt'.1 mt'.2.1 mt'.2.2.1 none :: WSall := by unfold wsM; rw [hre]
  have hrun : va_Run p (gl G) e R s m a below meth c H1 locs (cells + 1) (slots + N) nc1 ns1 (F0 m (pc + 3 + 1) lsA (.ref H.size :: .ref H.size :: rest)) (.ref H.size :: rest) (va_Qv (post1 H.size) (fun ws t => va_P (gD G) vwCl ws t.heap ∧ va_D (Fl H.size) ws) (Fl H.size) (Value.ref H.size :: []).toArray) (Fl H.size) := by
    rcases hk with hk | ⟨host, hk⟩
    · exact va_runI (As := []) (nL := mt.2.2.1) ⟨hx, hb, hml, hown, hts⟩ hMet (cwI 0 hts (hc.good mt) hwe rfl rfl hini (hts _ (List.mem_cons_of_mem _ hk)) (hts _ (List.mem_cons_of_mem _ him)) hnm hc.2.2.1 hrm) hpre rfl rfl hl rfl (lv_room hcat) d3 ⟨hc2, hs2⟩
    · exact va_runIN (As := []) (nL := mt.2.2.1) ⟨hx, hb, hml, hown, hts⟩ hMet ⟨va_cnB 0 hts (hc.good mt) hwe rfl rfl (hSt.1 _ hk) hini hc.2.2.1 hrm, hnm, hts _ (List.mem_cons_of_mem _ him)⟩ hpre rfl rfl hl rfl (lv_room hcat) d3 ⟨hc2, hs2⟩
  refine va_callv hrun hS1 (fun q _ h => Nat.le_trans hbh h) (fun q h => Nat.le_trans hbh h) (fun w1 t H2 locs2 ht hvm hw hB hz2 hk2 hS2 => ?_)
  obtain ⟨hPc, hDc⟩ := hB
  rw [ht] at hPc
  have hkeep : va_P (gD G) vwCl ws H2 := hPw.kept (fun k q hq => hk2 q.1 (by rw [hz1]; exact Nat.lt_succ_of_lt ((hP k q hq).lt)) (fun h => absurd ((hP k q hq).lt) (Nat.not_lt.mpr h)))
  refine kk H.size w1 H2 locs2 hw (hkeep.app hPc) (hD.app (hDc.weaken (fun k q _ h => Nat.le_trans hbh h)) (fun i j x y hx hy e => ?_)) hS2
  have h1 := (hP i x hx).lt
  have h2 : H.size ≤ y.1 := hDc.2 j y hy
  omega
section BoCalls
variable {G : Gt} {b F L nc ns : Nat} {mt : Mt} {pc : Nat} {lv lv' : List (Nat × Value)} {st : List Value} {ws : va_W} {cells slots : Nat} {E : Be}
theorem Bo.newc {r : Nat × va_E} {idx1 idx2 ci F1 L1 nc1 ns1 N : Nat} {T : u_T} {mt' : Mt} {fs0 : List Value} {post1 : Nat → va_W → Prop} {ty : Nat → FieldType}
    (d1 : decode mt.2.1 pc = .ok (.new idx1, 3)) (d2 : decode mt.2.1 (pc + 3) = .ok (.dup, 1)) (d3 : decode mt.2.1 (pc + 3 + 1) = .ok (.invokespecial idx2, 3))
    (hcl : Cond.classLink mt.1.cls idx1 mt'.1.cls ∈ WSall) (hin : Cond.instantiable mt'.1.cls N ∈ WSall) (hk : LK mt.1.cls idx2 mt') (him : Cond.instanceMethod mt'.1 ∈ WSall) (hc : CB mt' 0) (hnm : mt'.1.name = "<init>") (hre : mt'.2.2.2 = none) (hvc : vwCl[ci]? = some (mt'.1.cls, T, N)) (hty : ∀ k, k < N → parseFieldDescriptor (T k).2.2.1 = some (ty k)) (hfs : ∀ j, j < N → defaultValue (ty j) = vp_V fs0 j)
    (hM : Cn G mt' ci fs0 F1 L1 nc1 ns1 post1) (hF : F1 + 1 ≤ F) (hL : 8 + (mt'.2.2.1 + 11) + L1 ≤ L) (hc2 : cells + 1 + nc1 ≤ nc) (hs2 : slots + N + ns1 ≤ ns) (hr : (st.map fun v => v.category).sum ≤ 7)
    (kk : ∀ (q : Nat) (w1 : va_W), post1 q w1 → Bo G b F L nc ns mt (pc + 3 + 1 + 3) lv (.ref q :: st) (r :: (w1 ++ ws)) (cells + 1 + nc1) (slots + N + ns1) E) : Bo G b F L nc ns mt pc lv st (r :: ws) cells slots E := by
  intro p e R s m a below meth c Q H locs lsA C hnc hns hP hD hS hl hE
  refine bn_call C hP hD hS hl.1 d1 d2 d3 hcl hin hk him hc hnm hre hvc hty hfs hM hF hL (by omega) (by omega) hr (fun q w1 H1 locs1 hw hP1 hD1 hS1 => ?_)
  exact kk q w1 hw p e R s m a below meth c Q H1 locs1 lsA C hnc hns (va_P.swap (a := [r]) (b := ws) (c := w1) hP1) (va_D.swap (a := [r]) (b := ws) (c := w1) hD1) hS1 hl hE
theorem Bo.newq {r : Nat × va_E} {idx : Nat} {n : Int32} {N : Nat} (hd : decode mt.2.1 pc = .ok (.anewarray idx, 3)) (hw : Cond.classLink mt.1.cls idx "NewDishes$Sheet" ∈ WSall) (hn : ¬ n < 0) (hN : n.toNatClampNeg = N) (hb2 : N * 4 ≤ 536870912) (hc2 : cells + 1 ≤ nc) (hs2 : slots + N ≤ ns)
    (kk : ∀ q : Nat, Bo G b F L nc ns mt (pc + 3) lv (.ref q :: st) (r :: (q, .inl (gA G 3, N, .inr (.inr (.inr (.inr (fun _ => none)))))) :: ws) (cells + 1) (slots + N) E) : Bo G b F L nc ns mt pc lv (.int n :: st) (r :: ws) cells slots E := by
  intro p e R s m a below meth c Q H locs lsA C hnc hns hP hD hS hl hE
  obtain ⟨hx, hb, hml, hown, hts, hz, hsz, hK, hSt, hAO, hnm, hfr, hlo⟩ := id C
  refine va_newq hx hb hown (hts _ (List.mem_cons_of_mem _ hw)) hAO hK hP hD hS (fun q h => Nat.le_trans hsz h) hn hN hb2 (by omega) (by omega) hd (fun q cA H1 hK1 hP1 hD1 hS1 => ?_)
  have e1 : va_RA s cA (.object "NewDishes$Sheet") := (hK1.2 4 _ rfl).2
  have e2 : va_RA s (gA G 3) (.object "NewDishes$Sheet") := (hK.2 3 _ rfl).2
  obtain ⟨-, -, -, -, -, f1⟩ := e1
  obtain ⟨-, -, -, -, -, f2⟩ := e2
  have eA : cA = gA G 3 := Option.some.inj (f1.symm.trans f2)
  subst eA
  exact kk q p e R s m a below meth c Q H1 locs lsA C hnc hns (va_P.swap (a := [r]) (b := ws) (c := [(q, .inl (gA G 3, N, .inr (.inr (.inr (.inr (fun _ => none))))))]) hP1) (va_D.swap (a := [r]) (b := ws) (c := [(q, .inl (gA G 3, N, .inr (.inr (.inr (.inr (fun _ => none))))))]) hD1) hS1 hl hE
theorem Bo.astq (q0 qk : Nat) {ws' : va_W} {i : Int32} {a0 v n : Nat} {vs : List Value} {f : Nat → Option Nat} (hd : decode mt.2.1 pc = .ok (.aastore, 1)) (ha : ws[q0]? = some (a0, .inl (gA G 3, n, .inr (.inr (.inr (.inr f)))))) (hv : ws[qk]? = some (v, .inr (4, vs))) (hin : vp_in i n) (hw : ws.set q0 (a0, .inl (gA G 3, n, .inr (.inr (.inr (.inr (va_up f i.toNatClampNeg (some v))))))) = ws')
    (kk : Bo G b F L nc ns mt (pc + 1) lv st ws' cells slots E) : Bo G b F L nc ns mt pc lv (.ref v :: .int i :: .ref a0 :: st) ws cells slots E := by
  intro p e R s m a below meth c Q H locs lsA C hnc hns hP hD hS hl hE
  obtain ⟨hx, hb, hml, hown, hts, hz, hsz, hK, hSt, hAO, hnm, hfr, hlo⟩ := id C
  subst hw
  exact va_astq (D := gD G) (r := (RX4, TX4, 3)) hx hb hK hP hD hS q0 3 qk 4 ha rfl hv rfl hin hd (fun H1 locs1 hP1 hD1 hS1 => kk p e R s m a below meth c Q H1 locs1 lsA C hnc hns hP1 hD1 hS1 hl hE)
end BoCalls
set_option maxHeartbeats 1000000 in
theorem Cn.of {G : Gt} {mt : Mt} {ci : Nat} {fs0 : List Value} {F L nc ns : Nat} {post : Nat → va_W → Prop} (hy : plainName mt.1.cls = true) (h1 : 1 ≤ mt.2.2.1) (hre : mt.2.2.2 = none) (h : ∀ b, Bo G b F L nc ns mt 0 [(0, .ref b)] [] [(b, .inr (ci, fs0))] 0 0 (BFin G b nc ns mt (post b))) : Cn G mt ci fs0 F L nc ns post := by
  intro b hgb
  refine Met.ofW (cc := mt.2.1) (maxL := mt.2.2.1) (ret := mt.2.2.2) hy rfl ?_
  intro p e s m args below meth c s₁ B hml hv
  obtain ⟨rfl, hsz, hP, hK, hSt, hAO⟩ := hv
  have hx := B.exec
  have hb := B.bytes
  have hr := B.returns
  have hts := atoms_spec (ws := wsM mt) B.pre
  have hown : s.vm.findClass mt.1.cls = some m.cls := findClass_of_methodNamed B.named
  have hlocks := B.notSynchronized
  have hin : meth.name = mt.1.name := (name_of_methodNamed B.named B.method).1
  have hl := lv_entry ([.ref b]) (n := mt.2.2.1) h1
  rw [lg_entry_eq]
  have hD : va_D (Fl b) [(b, .inr (ci, fs0))] := by
    refine ⟨fun i j x y hx hy _ => ?_, fun k q hk => ?_⟩
    · have g1 : i < 1 := (List.getElem?_eq_some_iff.mp hx).1
      have g2 : j < 1 := (List.getElem?_eq_some_iff.mp hy).1
      omega
    · have g1 : k < 1 := (List.getElem?_eq_some_iff.mp hk).1
      have g2 : k = 0 := by omega
      subst g2
      cases hk
      exact Nat.le_refl b
  refine h b p e _ s m _ below meth c _ s.heap [] _ ⟨hx, hb, hml, hown, hts, hgb, by omega, hK, hSt, hAO, fun q => hin.trans q, Nat.le_refl F, Nat.le_refl L⟩ (Nat.le_refl nc) (Nat.le_refl ns) hP hD va_S.rf hl ?_
  intro ws pc lsA H locs hp hd hP' hD' hS'
  exact W.vret hx hb (by rw [hr, hre]) (fun t ht _ => ⟨⟨ws, rfl, hp, by rw [ht]; exact hP', hD'⟩, hS'.F ht⟩) hS'.2.2 hd hlocks
theorem OkG.ofD {G : Gt} {M : Mm} (h : va_D (A0 G) (wld G M)) : OkG G := by
  have at' : ∀ k : Nat, k < (gS G).length → ∃ x, (wld G M)[k]? = some (ga G k, x) := fun k hk => ⟨_, wld_at (List.getElem?_eq_getElem hk)⟩
  refine ⟨fun i j hi hj e => ?_, fun k hk => ?_⟩
  · obtain ⟨x, hx⟩ := at' i hi
    obtain ⟨y, hy⟩ := at' j hj
    exact h.1 i j _ _ hx hy e
  · obtain ⟨x, hx⟩ := at' k hk
    exact h.2 k _ hx
/-- the rest of a constructor, walked in Go -/
theorem Bo.tail {G : Gt} {b F L nc ns : Nat} {mt : Mt} {pc : Nat} {lv : List (Nat × Value)} {ws : va_W} {cells slots : Nat} {post : va_W → Prop} {P : Mm → Prop} (S : List Sh) (ad : Nat → Nat) (M : Mm) (d : Nat) (ls : List (Option Value)) (hG : Go (Ga G S b ad) d mt pc ls [] M (fun v M' => v = none ∧ P M')) (hSo : S.all shB = true ∧ S.length ≤ 1000) (hw : ws = wlR ad (gA G) M S) (hl1 : ls.length = mt.2.2.1) (hl2 : ∀ (i : Nat) (v : Value), ls[i]? = some (some v) → (i, tv (ga (Ga G S b ad)) v) ∈ lv) (hd : d ≤ F) (hL : 40 * d ≤ L) (hc : cells ≤ nc) (hs : slots ≤ ns) (hp : ∀ M', P M' → post (wld (Ga G S b ad) M')) : Bo G b F L nc ns mt pc lv [] ws cells slots (BFin G b nc ns mt post) := by
  intro p e R s m a below meth c Q H locs lsA C hnc hns hP hD hS hl hE
  obtain ⟨hx, hb, hml, hown, hts, hz, hsz, hK, hSt, hAO, hnm, hfr, hlo⟩ := id C
  rw [← wl_eq (G := G) (b := b) hSo.1 hSo.2] at hw
  subst hw
  have hok : OkG (Ga G S b ad) := OkG.ofD hD
  refine hG p e R s m a below meth c cells slots Q H locs lsA ⟨hx, hb, hml, hown, hts, hok, hsz, hK, hSt.ga S ad hz, Nat.le_trans hd hfr, Nat.le_trans hL hlo, Nat.le_trans hc hnc, Nat.le_trans hs hns⟩ hP hS ⟨hl1, hl.1, hl.2.1, fun i v hv => hl.2.2 _ (hl2 i v hv)⟩ ?_
  rintro v M' ⟨rfl, hPM⟩ pc' lsA' H' locs' ⟨hret, -⟩ hP' hS'
  exact W.widen hc hs (hE _ pc' lsA' H' locs' (hp M' hPM) hret hP' (wld_D hok M') hS')
