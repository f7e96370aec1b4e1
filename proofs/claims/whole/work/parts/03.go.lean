/-! ===== what stands still about a state: nest links, static rows, the literals ===== -/
def WSall : List Cond := lw_tbl.filter goodWord
def nestW : List Cond := [Cond.methodLinkNest "NewDishes$Kitchen" 17 ⟨"NewDishes$Barred", "<init>", "()V"⟩ "NewDishes", Cond.methodLinkNest "NewDishes" 35 ⟨"NewDishes$Paths", "<init>", "()V"⟩ "NewDishes", Cond.methodLinkNest "NewDishes" 42 ⟨"NewDishes$Tape", "<init>", "()V"⟩ "NewDishes", Cond.methodLinkNest "NewDishes" 57 ⟨"NewDishes$Sheet", "<init>", "()V"⟩ "NewDishes", Cond.methodLinkNest "NewDishes$Bureau" 55 ⟨"NewDishes", "hasBit", "(II)Z"⟩ "NewDishes", Cond.methodLinkNest "NewDishes$Bureau" 59 ⟨"NewDishes", "wayOf", "(I)I"⟩ "NewDishes", Cond.methodLinkNest "NewDishes$Bureau" 63 ⟨"NewDishes", "sauceOf", "(I)I"⟩ "NewDishes", Cond.methodLinkNest "NewDishes$Bureau" 66 ⟨"NewDishes", "setOf", "(I)I"⟩ "NewDishes", Cond.methodLinkNest "NewDishes$Bureau" 69 ⟨"NewDishes", "inStore", "([I)I"⟩ "NewDishes", Cond.methodLinkNest "NewDishes$Bureau" 91 ⟨"NewDishes", "barsDish", "(IIII)Z"⟩ "NewDishes", Cond.methodLinkNest "NewDishes$Bureau" 98 ⟨"NewDishes", "nearness", "(II)I"⟩ "NewDishes", Cond.methodLinkNest "NewDishes$Barred" 40 ⟨"NewDishes", "mannerOf", "(I)I"⟩ "NewDishes", Cond.methodLinkNest "NewDishes$Barred" 44 ⟨"NewDishes", "mannersBarred", "(III)I"⟩ "NewDishes", Cond.methodLinkNest "NewDishes$Barred" 48 ⟨"NewDishes", "setOf", "(I)I"⟩ "NewDishes", Cond.methodLinkNest "NewDishes$Barred" 51 ⟨"NewDishes", "barsParts", "(I)Z"⟩ "NewDishes", Cond.fieldLinkNest "NewDishes$Barred" 59 "NewDishes" "SETS" "[I" "NewDishes", Cond.methodLinkNest "NewDishes$Barred" 62 ⟨"NewDishes", "isPartEitherWay", "(II)Z"⟩ "NewDishes", Cond.fieldLinkNest "NewDishes$Kitchen" 75 "NewDishes" "SETS" "[I" "NewDishes", Cond.methodLinkNest "NewDishes$Kitchen" 78 ⟨"NewDishes", "hasBit", "(II)Z"⟩ "NewDishes", Cond.methodLinkNest "NewDishes$Kitchen" 85 ⟨"NewDishes", "wayOf", "(I)I"⟩ "NewDishes", Cond.methodLinkNest "NewDishes$Kitchen" 92 ⟨"NewDishes", "sauceOf", "(I)I"⟩ "NewDishes", Cond.methodLinkNest "NewDishes$Kitchen" 98 ⟨"NewDishes", "inStore", "([I)I"⟩ "NewDishes", Cond.methodLinkNest "NewDishes$Barred" 66 ⟨"NewDishes", "countOf", "([I)I"⟩ "NewDishes", Cond.methodLinkNest "NewDishes$Barred" 70 ⟨"NewDishes", "barsSet", "(III)Z"⟩ "NewDishes", Cond.methodLinkNest "NewDishes$Bureau" 88 ⟨"NewDishes", "takeFrom", "([II)V"⟩ "NewDishes", Cond.methodLinkNest "NewDishes$Kitchen" 123 ⟨"NewDishes", "takeFrom", "([II)V"⟩ "NewDishes", Cond.methodLinkNest "NewDishes$Paths" 26 ⟨"NewDishes", "setOf", "(I)I"⟩ "NewDishes", Cond.methodLinkNest "NewDishes$Paths" 30 ⟨"NewDishes", "mannerOf", "(I)I"⟩ "NewDishes", Cond.methodLinkNest "NewDishes$Paths" 33 ⟨"NewDishes", "hasBit", "(II)Z"⟩ "NewDishes", Cond.methodLinkNest "NewDishes$Paths" 54 ⟨"NewDishes", "inStore", "([I)I"⟩ "NewDishes", Cond.fieldLinkNest "NewDishes$Paths" 58 "NewDishes" "SETS" "[I" "NewDishes", Cond.methodLinkNest "NewDishes$Tape" 112 ⟨"NewDishes", "hasBit", "(II)Z"⟩ "NewDishes", Cond.methodLinkNest "NewDishes$Tape" 104 ⟨"NewDishes", "dishNumber", "(III)I"⟩ "NewDishes", Cond.methodLinkNest "NewDishes$Sheet" 28 ⟨"NewDishes", "isBelow", "(II)Z"⟩ "NewDishes", Cond.methodLinkNest "NewDishes$Kitchen" 117 ⟨"NewDishes", "setOf", "(I)I"⟩ "NewDishes", Cond.methodLinkNest "NewDishes$Kitchen" 120 ⟨"NewDishes", "mannerOf", "(I)I"⟩ "NewDishes"]
def nestOk : Cond → Bool
  | .methodLinkNest _ _ _ _ => true
  | .fieldLinkNest _ _ _ _ _ _ => true
  | _ => false
theorem nestW_ok : ∀ w ∈ nestW, nestOk w = true := by decide +kernel
def strIx : List Nat := [72, 77, 79, 81, 83, 85, 96, 102, 46, 55, 126, 60, 62, 128, 130, 132, 134, 67]
def strTx : List String := ["entry", "parted", "guest", "named", "feast", "secret", "way", "sauce", "store", "likes", "thing", "loathes", "edict", "sauces", "ways", "on", "off", "day"]
def strBy : List (List Int32) := [[101, 110, 116, 114, 121], [112, 97, 114, 116, 101, 100], [103, 117, 101, 115, 116], [110, 97, 109, 101, 100], [102, 101, 97, 115, 116], [115, 101, 99, 114, 101, 116], [119, 97, 121], [115, 97, 117, 99, 101], [115, 116, 111, 114, 101], [108, 105, 107, 101, 115], [116, 104, 105, 110, 103], [108, 111, 97, 116, 104, 101, 115], [101, 100, 105, 99, 116], [115, 97, 117, 99, 101, 115], [119, 97, 121, 115], [111, 110], [111, 102, 102], [100, 97, 121]]
def strLn : List Nat := [5, 6, 5, 5, 5, 6, 3, 5, 5, 5, 5, 7, 5, 6, 4, 2, 3, 3]
def setsL : List Int32 := [1, 2, 3, 4, 5, 6, 7, 8, 9, 10, 11, 12, 13, 14, 16, 17, 18, 19, 20, 21, 22, 24, 25, 26, 28, 32, 33, 34, 35, 36, 37, 38, 40, 41, 42, 44, 48, 49, 50, 52, 56, 64, 65, 66, 67, 68, 69, 70, 72, 73, 74, 76, 80, 81, 82, 84, 88, 96, 97, 98, 100, 104, 112, 128, 129, 130, 131, 132, 133, 134, 136, 137, 138, 140, 144, 145, 146, 148, 152, 160, 161, 162, 164, 168, 176, 192, 193, 194, 196, 200, 208, 224]
def setsF (j : Nat) : Int32 := setsL.getD j 0
def aboveF (j : Nat) : Int32 := ([-1, 0, 0, 0, 1, 3] : List Int32).getD j 0
def Stat (G : Gt) (U : State) (H : Heap) : Prop :=
  (∀ w ∈ nestW, va_Nw w U) ∧
  va_Z "NewDishes" "SETS" "[I" (.ref (ga G 1000)) (A0 G) U H ∧ va_T .int (ga G 1000) 92 (fun j => .int (setsF j)) (A0 G) U H ∧
  va_Z "NewDishes" "ABOVE" "[I" (.ref (ga G 1001)) (A0 G) U H ∧ va_T .int (ga G 1001) 6 (fun j => .int (aboveF j)) (A0 G) U H ∧
  va_T .int (ga G 1002) (gn G) (fun j => .int (gx G j)) (A0 G) U H ∧
  va_Z "java/lang/String" "COMPACT_STRINGS" "Z" (.int 1) (A0 G) U H ∧
  (va_Z "jdk/internal/util/Preconditions" "SIOOBE_FORMATTER" "Ljava/util/function/BiFunction;" .null (A0 G) U H ∨ va_Z "jdk/internal/util/Preconditions" "SIOOBE_FORMATTER" "Ljava/util/function/BiFunction;" (.ref (ga G 3000)) (A0 G) U H) ∧
  vk_S 18 strLn strBy (fun i => ga G (2000 + i)) (fun i => ga G (2100 + i)) (A0 G) U H ∧
  ∀ i : Nat, i < 18 → vk_R "NewDishes$Tape" (strIx.getD i 0) (strTx.getD i "") (ga G (2000 + i)) U
theorem nest_warm {w : Cond} (hw : nestOk w = true) {s U : State} (hW : s.WarmedH U.vm) (h : va_Nw w s) : va_Nw w U := by
  cases w with
  | methodLinkNest a b c d => exact va_Nw.warmM hW h
  | fieldLinkNest a b c d e f => exact va_Nw.warmF hW h
  | _ => simp [nestOk] at hw
theorem nest_same {w : Cond} (hw : nestOk w = true) {s U : State} (hv : s.vm = U.vm) (h : va_Nw w s) : va_Nw w U := by
  cases w with
  | methodLinkNest a b c d => exact va_Nw.same rfl hv h
  | fieldLinkNest a b c d e f => exact va_Nw.same rfl hv h
  | _ => simp [nestOk] at hw
theorem Stat.kept {G : Gt} {U : State} {H H1 : Heap} (h : Stat G U H) (hq : ∀ a : Nat, a < H.size → ¬ A0 G a → H1[a]? = H[a]?) : Stat G U H1 := by
  obtain ⟨h1, h2, h3, h4, h5, h6, h7, h8, h9, h10⟩ := h
  exact ⟨h1, h2.kept hq, h3.kept hq, h4.kept hq, h5.kept hq, h6.kept hq, h7.kept hq, h8.imp (fun z => z.kept hq) (fun z => z.kept hq), h9.kept hq, h10⟩
theorem Stat.warm {G : Gt} {s U : State} {H : Heap} (h : Stat G s H) (hW : s.WarmedH U.vm) : Stat G U H := by
  obtain ⟨h1, h2, h3, h4, h5, h6, h7, h8, h9, h10⟩ := h
  have hA := hW.alike
  exact ⟨fun w hw => nest_warm (nestW_ok w hw) hW (h1 w hw), h2.moved hA, h3.moved hA, h4.moved hA, h5.moved hA, h6.moved hA, h7.moved hA, h8.imp (fun z => z.moved hA) (fun z => z.moved hA), h9.moved hA, fun i hi => (h10 i hi).warm hW⟩
theorem Stat.same {G : Gt} {s U : State} {H : Heap} (h : Stat G s H) (hv : s.vm = U.vm) : Stat G U H := by
  obtain ⟨h1, h2, h3, h4, h5, h6, h7, h8, h9, h10⟩ := h
  have hA : s.vm.Alike U.vm := by rw [hv]; exact Vm.Alike.refl _
  exact ⟨fun w hw => nest_same (nestW_ok w hw) hv (h1 w hw), h2.moved hA, h3.moved hA, h4.moved hA, h5.moved hA, h6.moved hA, h7.moved hA, h8.imp (fun z => z.moved hA) (fun z => z.moved hA), h9.moved hA, fun i hi => (h10 i hi).same hv.symm⟩
-- ===== Go and Ex =====
abbrev Mt : Type := MethodName × ByteArray × Nat × Option FieldType
def wsM (mt : Mt) : List Cond := .code mt.1 mt.2.1 mt.2.2.1 mt.2.2.2 :: WSall
def room (d : Nat) : Room := { frames := d, cells := 0, slots := 0, locals := 40 * d }
def Cx (G : Gt) (d : Nat) (mt : Mt) (p : Program) (R : Room) (s : State) (m : MethodId) (a : Array Value) (c : Code) (cells slots : Nat) : Prop :=
  p.tables.exec = Jvm.exec ∧ c.code = mt.2.1 ∧ c.maxLocals = mt.2.2.1 ∧ s.vm.findClass mt.1.cls = some m.cls ∧ (∀ w ∈ wsM mt, w.before a s = true) ∧ OkG G ∧ gz G ≤ s.heap.size ∧ va_K (gD G) vwCl (tysG G) s ∧ Stat G s s.heap ∧ d ≤ R.frames ∧ 40 * d ≤ R.locals ∧ cells ≤ R.cells ∧ slots ≤ R.slots
def RetAt (mt : Mt) (pc : Nat) : Option Value → Prop
  | none => decode mt.2.1 pc = .ok (.return_, 1) ∧ mt.2.2.2 = none
  | some (.int x) => decode mt.2.1 pc = .ok (.ireturn, 1) ∧ ∃ ty, mt.2.2.2 = some ty ∧ narrow ty (.int x) = .int x
  | some (.long _) => decode mt.2.1 pc = .ok (.lreturn, 1) ∧ mt.2.2.2 = some .long
  | some (.ref _) => decode mt.2.1 pc = .ok (.areturn, 1) ∧ ∃ t, mt.2.2.2 = some (.array t)
  | _ => False
def Fin' (G : Gt) (mt : Mt) (post : Option Value → Mm → Prop) (p : Program) (e : Env) (R : Room) (s : State) (m : MethodId) (a : Array Value) (below : List Frame) (meth : Method) (c : Code) (cells slots : Nat) (Q : State → Prop) : Prop :=
  ∀ (v : Option Value) (M : Mm), post v M → ∀ (pc : Nat) (lsA : Array Slot) (H : Heap) (locs : List Loc), RetAt mt pc v → va_P (gD G) vwCl (wld G M) H → va_S (A0 G) s.heap H locs → W p (gl G) e R s m a below meth c H locs cells slots Q (F0 m pc lsA (v.toList.map (tv (ga G))))
def Go (G : Gt) (d : Nat) (mt : Mt) (pc : Nat) (ls : List (Option Value)) (st : List Value) (M : Mm) (post : Option Value → Mm → Prop) : Prop :=
  ∀ (p : Program) (e : Env) (R : Room) (s : State) (m : MethodId) (a : Array Value) (below : List Frame) (meth : Method) (c : Code) (cells slots : Nat) (Q : State → Prop) (H : Heap) (locs : List Loc) (lsA : Array Slot),
    Cx G d mt p R s m a c cells slots → va_P (gD G) vwCl (wld G M) H → va_S (A0 G) s.heap H locs → Lh (ga G) lsA mt.2.2.1 ls → Fin' G mt post p e R s m a below meth c cells slots Q →
    W p (gl G) e R s m a below meth c H locs cells slots Q (F0 m pc lsA (st.map (tv (ga G))))
def PcW (G : Gt) (M : Mm) (U : State) : Prop := OkG G ∧ gz G ≤ U.heap.size ∧ va_P (gD G) vwCl (wld G M) U.heap ∧ va_K (gD G) vwCl (tysG G) U ∧ Stat G U U.heap
def QcW (G : Gt) (post : Option Value → Mm → Prop) : Array Value → State → Outcome → State → Prop := fun _ st oc t => (∃ (v : Option Value) (M : Mm), oc = .returned (v.map (tv (ga G))) ∧ post v M ∧ va_P (gD G) vwCl (wld G M) t.heap) ∧ va_F (A0 G) st t
def Ex (G : Gt) (d : Nat) (mt : Mt) (as : List Value) (M : Mm) (post : Option Value → Mm → Prop) : Prop :=
  Met (gl G) mt.1 (wsM mt) (room d) (va_Pc (as.map (tv (ga G))) (PcW G M)) (QcW G post) 0 0 (A0 G)
set_option maxHeartbeats 1000000 in
theorem Ex.of {G : Gt} {d : Nat} {mt : Mt} {as : List Value} {M : Mm} {post : Option Value → Mm → Prop} (hy : plainName mt.1.cls = true) (hlen : (argL as).length ≤ mt.2.2.1) (h : Go G d mt 0 (entL mt.2.2.1 as) [] M post) : Ex G d mt as M post := by
  refine Met.ofW (cc := mt.2.1) (maxL := mt.2.2.1) (ret := mt.2.2.2) hy rfl ?_
  intro p e s m args below meth c s₁ B hml hv
  obtain ⟨rfl, hok, hsz, hP, hK, hSt⟩ := hv
  have hx := B.exec
  have hb := B.bytes
  have hr := B.returns
  have hts := atoms_spec (ws := wsM mt) B.pre
  have hown : s.vm.findClass mt.1.cls = some m.cls := findClass_of_methodNamed B.named
  have hlocks := B.notSynchronized
  rw [lg_entry_eq]
  have hS : va_S (A0 G) s.heap s.heap [] := va_S.rf
  refine h p e _ s m _ below meth c 0 0 _ s.heap [] _ ⟨hx, hb, hml, hown, hts, hok, hsz, hK, hSt, Nat.le_refl d, Nat.le_refl (40 * d), Nat.zero_le _, Nat.zero_le _⟩ hP hS (Lh.entry (ga G) as hlen) ?_
  intro v M' hpost pc lsA H locs hret hP' hS'
  have hq : ∀ t : State, t.heap = H → QcW G post (as.map (tv (ga G))).toArray s (.returned (v.map (tv (ga G)))) t := fun t ht => ⟨⟨v, M', rfl, hpost, by rw [ht]; exact hP'⟩, hS'.F ht⟩
  match v, hret, hq with
  | none, ⟨h1, h2⟩, hq => exact W.vret hx hb (by rw [hr, h2]) (fun t ht _ => hq t ht) hS'.2.2 h1 hlocks
  | some (.int x), ⟨h1, ty, h2, h3⟩, hq => exact W.zret (ty := ty) hx hb (by rw [hr, h2]) h3 (fun t ht _ => hq t ht) hS'.2.2 h1 hlocks
  | some (.long x), ⟨h1, h2⟩, hq => exact W.lret hx hb (by rw [hr, h2]) (fun t ht _ => hq t ht) hS'.2.2 h1 hlocks
  | some (.ref x), ⟨h1, t0, h2⟩, hq => exact W.aret (rt := .array t0) hx hb (by rw [hr, h2]) (Or.inr ⟨t0, rfl⟩) (Or.inr ⟨_, rfl⟩) (fun t ht _ => hq t ht) hS'.2.2 h1 hlocks
  | some .null, h1, _ => exact absurd h1 (fun z => z)
  | some (.float _), h1, _ => exact absurd h1 (fun z => z)
  | some (.double _), h1, _ => exact absurd h1 (fun z => z)
  | some (.retAddr _), h1, _ => exact absurd h1 (fun z => z)
theorem Ex.mono {G : Gt} {d : Nat} {mt : Mt} {as : List Value} {M : Mm} {post post' : Option Value → Mm → Prop} (h : Ex G d mt as M post) (hp : ∀ v M', post v M' → post' v M') : Ex G d mt as M post' := by
  intro p e ha hc hk s m args below hf happ hP hx
  obtain ⟨t, o, h1, h2, h3, ⟨⟨⟨v, M', e1, e2, e3⟩, e4⟩, hF⟩⟩ := h p e ha hc hk s m args below hf happ hP hx
  exact ⟨t, o, h1, h2, h3, ⟨⟨v, M', e1, hp v M' e2, e3⟩, e4⟩, hF⟩
theorem Go.mono {G : Gt} {d : Nat} {mt : Mt} {pc : Nat} {ls : List (Option Value)} {st : List Value} {M : Mm} {post post' : Option Value → Mm → Prop} (h : Go G d mt pc ls st M post) (hp : ∀ v M', post v M' → post' v M') : Go G d mt pc ls st M post' := by
  intro p e R s m a below meth c cells slots Q H locs lsA C hP hS hl hF
  exact h p e R s m a below meth c cells slots Q H locs lsA C hP hS hl (fun v M' hv => hF v M' (hp v M' hv))
theorem PcW.blind (G : Gt) (M : Mm) (av : List Value) : FrameBlind (va_Pc av (PcW G M)) := by
  intro a U g mk q
  obtain ⟨q0, q1, q2, q3, q4, q5⟩ := q
  exact ⟨q0, q1, q2, q3, va_K.moved (u := U) (U := U.calling g mk a) (Vm.Alike.refl U.vm) q4, Stat.same q5 rfl⟩
theorem PcW.at {G : Gt} {M : Mm} {s U : State} {H : Heap} {locs : List Loc} (hok : OkG G) (hsz : gz G ≤ s.heap.size) (hP : va_P (gD G) vwCl (wld G M) H) (hS : va_S (A0 G) s.heap H locs) (hK : va_K (gD G) vwCl (tysG G) s) (hSt : Stat G s s.heap) (hU : U.heap = H) (hW : s.WarmedH U.vm) : PcW G M U := by
  refine ⟨hok, by rw [hU]; exact Nat.le_trans hsz hS.1, by rw [hU]; exact hP, va_K.moved hW.alike hK, ?_⟩
  rw [hU]
  exact (hSt.kept (fun a h1 h2 => hS.2.1 a h1 h2)).warm hW
/-- behind a call: its answer on the stack -/
theorem Go.back {G : Gt} {p : Program} {e : Env} {R : Room} {s : State} {m : MethodId} {a : Array Value} {below : List Frame} {meth : Method} {c : Code} {cells slots : Nat} {Q : State → Prop} {H : Heap} {locs : List Loc} {lsA : Array Slot} {pc : Nat} {st0 rest : List Value} {post1 : Option Value → Mm → Prop} {av : Array Value}
    (hr : va_Run p (gl G) e R s m a below meth c H locs cells slots 0 0 (F0 m pc lsA st0) rest (QcW G post1 av) (A0 G)) (hS : va_S (A0 G) s.heap H locs)
    (kk : ∀ (v : Option Value) (M : Mm) (H1 : Heap) (locs1 : List Loc), post1 v M → va_P (gD G) vwCl (wld G M) H1 → va_S (A0 G) s.heap H1 locs1 → W p (gl G) e R s m a below meth c H1 locs1 cells slots Q (F0 m (pc + 3) lsA (v.toList.map (tv (ga G)) ++ rest))) : W p (gl G) e R s m a below meth c H locs cells slots Q (F0 m pc lsA st0) := by
  intro T hT X
  obtain ⟨v, st₀, t, T', L, h0, X', hL, e1, e2, ⟨⟨u, M, hv, hp, hb⟩, hz, hk⟩, st⟩ := hr T hT X
  cases hv
  rw [h0] at hz hk
  have hS' : va_S (A0 G) s.heap T'.heap (locs ++ L) := ⟨Nat.le_trans hS.1 (by rw [e1]; exact hz), fun q h1 h2 => by rw [e1, hk q (Nat.lt_of_lt_of_le h1 hS.1) h2]; exact hS.2.1 q h1 h2, fun q hq => by
      rcases List.mem_append.mp hq with h | h
      · exact hS.2.2 q h
      · exact hL q h⟩
  obtain ⟨t2, a1, b1⟩ := kk u M T'.heap (locs ++ L) hp (by rw [e1]; exact hb) hS' T' rfl X'
  refine ⟨t2, st t2 ?_, b1⟩
  have e3 : (u.map (tv (ga G))).toList = u.toList.map (tv (ga G)) := by cases u <;> rfl
  rw [e3]
  exact a1
