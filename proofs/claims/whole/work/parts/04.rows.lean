theorem Go.iconst {G : Gt} {d : Nat} {mt : Mt} {pc : Nat} {ls : List (Option Value)} {st : List Value} {M : Mm} {post : Option Value → Mm → Prop} {n : Int} {v : Int32} (hd : decode mt.2.1 pc = .ok (.iconst n, 1)) (hv : Int32.ofInt n = v) (k : Go G d mt (pc + 1) ls (.int v :: st) M post) : Go G d mt pc ls (st) M post := by
  intro p e R s m a below meth c cells slots Q H locs lsA C hP hS hl hF
  have hx := C.1
  have hb := C.2.1
  exact lv_iconst hx hb hd hv (k p e R s m a below meth c cells slots Q H locs lsA C hP hS hl hF)
theorem Go.bipush {G : Gt} {d : Nat} {mt : Mt} {pc : Nat} {ls : List (Option Value)} {st : List Value} {M : Mm} {post : Option Value → Mm → Prop} {n : Int} {v : Int32} (hd : decode mt.2.1 pc = .ok (.bipush n, 2)) (hv : (Int8.ofInt n).toInt32 = v) (k : Go G d mt (pc + 2) ls (.int v :: st) M post) : Go G d mt pc ls (st) M post := by
  intro p e R s m a below meth c cells slots Q H locs lsA C hP hS hl hF
  have hx := C.1
  have hb := C.2.1
  exact lv_bipush hx hb hd hv (k p e R s m a below meth c cells slots Q H locs lsA C hP hS hl hF)
theorem Go.sipush {G : Gt} {d : Nat} {mt : Mt} {pc : Nat} {ls : List (Option Value)} {st : List Value} {M : Mm} {post : Option Value → Mm → Prop} {n : Int} {v : Int32} (hd : decode mt.2.1 pc = .ok (.sipush n, 3)) (hv : (Int16.ofInt n).toInt32 = v) (k : Go G d mt (pc + 3) ls (.int v :: st) M post) : Go G d mt pc ls (st) M post := by
  intro p e R s m a below meth c cells slots Q H locs lsA C hP hS hl hF
  have hx := C.1
  have hb := C.2.1
  exact lv_sipush hx hb hd hv (k p e R s m a below meth c cells slots Q H locs lsA C hP hS hl hF)
theorem Go.lconst {G : Gt} {d : Nat} {mt : Mt} {pc : Nat} {ls : List (Option Value)} {st : List Value} {M : Mm} {post : Option Value → Mm → Prop} {n : Fin 2} {v : Int64} (hd : decode mt.2.1 pc = .ok (.lconst n, 1)) (hv : Int64.ofNat (n : Nat) = v) (k : Go G d mt (pc + 1) ls (.long v :: st) M post) : Go G d mt pc ls (st) M post := by
  intro p e R s m a below meth c cells slots Q H locs lsA C hP hS hl hF
  have hx := C.1
  have hb := C.2.1
  exact lv_lconst hx hb hd hv (k p e R s m a below meth c cells slots Q H locs lsA C hP hS hl hF)
theorem Go.ldc {G : Gt} {d : Nat} {mt : Mt} {pc : Nat} {ls : List (Option Value)} {st : List Value} {M : Mm} {post : Option Value → Mm → Prop} {i : Nat} {v : Int32} (hd : decode mt.2.1 pc = .ok (.ldc i, 2)) (hw : Cond.constant mt.1.cls i v ∈ WSall) (k : Go G d mt (pc + 2) ls (.int v :: st) M post) : Go G d mt pc ls (st) M post := by
  intro p e R s m a below meth c cells slots Q H locs lsA C hP hS hl hF
  have hx := C.1
  have hb := C.2.1
  exact lv_ldc hx hb C.2.2.2.1 (C.2.2.2.2.1 _ (List.mem_cons_of_mem _ hw)) hd (k p e R s m a below meth c cells slots Q H locs lsA C hP hS hl hF)
theorem Go.ldcw {G : Gt} {d : Nat} {mt : Mt} {pc : Nat} {ls : List (Option Value)} {st : List Value} {M : Mm} {post : Option Value → Mm → Prop} {i : Nat} {v : Int32} (hd : decode mt.2.1 pc = .ok (.ldc_w i, 3)) (hw : Cond.constant mt.1.cls i v ∈ WSall) (k : Go G d mt (pc + 3) ls (.int v :: st) M post) : Go G d mt pc ls (st) M post := by
  intro p e R s m a below meth c cells slots Q H locs lsA C hP hS hl hF
  have hx := C.1
  have hb := C.2.1
  exact lv_ldcw hx hb C.2.2.2.1 (C.2.2.2.2.1 _ (List.mem_cons_of_mem _ hw)) hd (k p e R s m a below meth c cells slots Q H locs lsA C hP hS hl hF)
theorem Go.ldc2 {G : Gt} {d : Nat} {mt : Mt} {pc : Nat} {ls : List (Option Value)} {st : List Value} {M : Mm} {post : Option Value → Mm → Prop} {i : Nat} {v : Int64} (hd : decode mt.2.1 pc = .ok (.ldc2_w i, 3)) (hw : Cond.constantLong mt.1.cls i v ∈ WSall) (k : Go G d mt (pc + 3) ls (.long v :: st) M post) : Go G d mt pc ls (st) M post := by
  intro p e R s m a below meth c cells slots Q H locs lsA C hP hS hl hF
  have hx := C.1
  have hb := C.2.1
  exact lv_ldc2 hx hb C.2.2.2.1 (C.2.2.2.2.1 _ (List.mem_cons_of_mem _ hw)) hd (k p e R s m a below meth c cells slots Q H locs lsA C hP hS hl hF)
theorem Go.iload_n {G : Gt} {d : Nat} {mt : Mt} {pc : Nat} {ls : List (Option Value)} {st : List Value} {M : Mm} {post : Option Value → Mm → Prop} {n : Fin 4} {x : Int32} (hd : decode mt.2.1 pc = .ok (.iload_n n, 1)) (hv : ls[(n : Nat)]? = some (some (.int x))) (k : Go G d mt (pc + 1) ls (.int x :: st) M post) : Go G d mt pc ls (st) M post := by
  intro p e R s m a below meth c cells slots Q H locs lsA C hP hS hl hF
  have hx := C.1
  have hb := C.2.1
  exact lv_iload_n hx hb hd rfl (hl.2.2.2 _ _ hv) (k p e R s m a below meth c cells slots Q H locs lsA C hP hS hl hF)
theorem Go.iload {G : Gt} {d : Nat} {mt : Mt} {pc : Nat} {ls : List (Option Value)} {st : List Value} {M : Mm} {post : Option Value → Mm → Prop} {i : Nat} {x : Int32} (hd : decode mt.2.1 pc = .ok (.iload i, 2)) (hv : ls[i]? = some (some (.int x))) (k : Go G d mt (pc + 2) ls (.int x :: st) M post) : Go G d mt pc ls (st) M post := by
  intro p e R s m a below meth c cells slots Q H locs lsA C hP hS hl hF
  have hx := C.1
  have hb := C.2.1
  exact lv_iload hx hb hd (hl.2.2.2 _ _ hv) (k p e R s m a below meth c cells slots Q H locs lsA C hP hS hl hF)
theorem Go.lload_n {G : Gt} {d : Nat} {mt : Mt} {pc : Nat} {ls : List (Option Value)} {st : List Value} {M : Mm} {post : Option Value → Mm → Prop} {n : Fin 4} {x : Int64} (hd : decode mt.2.1 pc = .ok (.lload_n n, 1)) (hv : ls[(n : Nat)]? = some (some (.long x))) (k : Go G d mt (pc + 1) ls (.long x :: st) M post) : Go G d mt pc ls (st) M post := by
  intro p e R s m a below meth c cells slots Q H locs lsA C hP hS hl hF
  have hx := C.1
  have hb := C.2.1
  exact lv_lload_n hx hb hd rfl (hl.2.2.2 _ _ hv) (k p e R s m a below meth c cells slots Q H locs lsA C hP hS hl hF)
theorem Go.lload {G : Gt} {d : Nat} {mt : Mt} {pc : Nat} {ls : List (Option Value)} {st : List Value} {M : Mm} {post : Option Value → Mm → Prop} {i : Nat} {x : Int64} (hd : decode mt.2.1 pc = .ok (.lload i, 2)) (hv : ls[i]? = some (some (.long x))) (k : Go G d mt (pc + 2) ls (.long x :: st) M post) : Go G d mt pc ls (st) M post := by
  intro p e R s m a below meth c cells slots Q H locs lsA C hP hS hl hF
  have hx := C.1
  have hb := C.2.1
  exact lv_lload hx hb hd (hl.2.2.2 _ _ hv) (k p e R s m a below meth c cells slots Q H locs lsA C hP hS hl hF)
theorem Go.aload_n {G : Gt} {d : Nat} {mt : Mt} {pc : Nat} {ls : List (Option Value)} {st : List Value} {M : Mm} {post : Option Value → Mm → Prop} {n : Fin 4} {x : Nat} (hd : decode mt.2.1 pc = .ok (.aload_n n, 1)) (hv : ls[(n : Nat)]? = some (some (.ref x))) (k : Go G d mt (pc + 1) ls (.ref x :: st) M post) : Go G d mt pc ls (st) M post := by
  intro p e R s m a below meth c cells slots Q H locs lsA C hP hS hl hF
  have hx := C.1
  have hb := C.2.1
  exact lv_aload_n hx hb hd rfl (hl.2.2.2 _ _ hv) (k p e R s m a below meth c cells slots Q H locs lsA C hP hS hl hF)
theorem Go.aload {G : Gt} {d : Nat} {mt : Mt} {pc : Nat} {ls : List (Option Value)} {st : List Value} {M : Mm} {post : Option Value → Mm → Prop} {i : Nat} {x : Nat} (hd : decode mt.2.1 pc = .ok (.aload i, 2)) (hv : ls[i]? = some (some (.ref x))) (k : Go G d mt (pc + 2) ls (.ref x :: st) M post) : Go G d mt pc ls (st) M post := by
  intro p e R s m a below meth c cells slots Q H locs lsA C hP hS hl hF
  have hx := C.1
  have hb := C.2.1
  exact lv_aload hx hb hd (hl.2.2.2 _ _ hv) (k p e R s m a below meth c cells slots Q H locs lsA C hP hS hl hF)
theorem Go.istore_n {G : Gt} {d : Nat} {mt : Mt} {pc : Nat} {ls : List (Option Value)} {st : List Value} {M : Mm} {post : Option Value → Mm → Prop} {n : Fin 4} {x : Int32} {ls' : List (Option Value)} (hd : decode mt.2.1 pc = .ok (.istore_n n, 1)) (hi : (n : Nat) < ls.length) (ho : ok1 ls (n : Nat) = true) (hl2 : ls.set (n : Nat) (some (.int x)) = ls') (k : Go G d mt (pc + 1) ls' st M post) : Go G d mt pc ls (.int x :: st) M post := by
  intro p e R s m a below meth c cells slots Q H locs lsA C hP hS hl hF
  have hx := C.1
  have hb := C.2.1
  exact lv_istore_n hx hb hd rfl hl.has (by have := hl.1; omega) rfl (fun ls2 h2 => k p e R s m a below meth c cells slots Q H locs ls2 C hP hS (by rw [← hl2]; exact Lh.set1 (v := .int x) hl.1 ho h2) hF)
theorem Go.istore {G : Gt} {d : Nat} {mt : Mt} {pc : Nat} {ls : List (Option Value)} {st : List Value} {M : Mm} {post : Option Value → Mm → Prop} {i : Nat} {x : Int32} {ls' : List (Option Value)} (hd : decode mt.2.1 pc = .ok (.istore i, 2)) (hi : i < ls.length) (ho : ok1 ls i = true) (hl2 : ls.set i (some (.int x)) = ls') (k : Go G d mt (pc + 2) ls' st M post) : Go G d mt pc ls (.int x :: st) M post := by
  intro p e R s m a below meth c cells slots Q H locs lsA C hP hS hl hF
  have hx := C.1
  have hb := C.2.1
  exact lv_istore hx hb hd hl.has (by have := hl.1; omega) rfl (fun ls2 h2 => k p e R s m a below meth c cells slots Q H locs ls2 C hP hS (by rw [← hl2]; exact Lh.set1 (v := .int x) hl.1 ho h2) hF)
theorem Go.astore_n {G : Gt} {d : Nat} {mt : Mt} {pc : Nat} {ls : List (Option Value)} {st : List Value} {M : Mm} {post : Option Value → Mm → Prop} {n : Fin 4} {x : Nat} {ls' : List (Option Value)} (hd : decode mt.2.1 pc = .ok (.astore_n n, 1)) (hi : (n : Nat) < ls.length) (ho : ok1 ls (n : Nat) = true) (hl2 : ls.set (n : Nat) (some (.ref x)) = ls') (k : Go G d mt (pc + 1) ls' st M post) : Go G d mt pc ls (.ref x :: st) M post := by
  intro p e R s m a below meth c cells slots Q H locs lsA C hP hS hl hF
  have hx := C.1
  have hb := C.2.1
  exact lv_astore_n hx hb hd rfl hl.has (by have := hl.1; omega) rfl (fun ls2 h2 => k p e R s m a below meth c cells slots Q H locs ls2 C hP hS (by rw [← hl2]; exact Lh.set1 (v := .ref x) hl.1 ho h2) hF)
theorem Go.astore {G : Gt} {d : Nat} {mt : Mt} {pc : Nat} {ls : List (Option Value)} {st : List Value} {M : Mm} {post : Option Value → Mm → Prop} {i : Nat} {x : Nat} {ls' : List (Option Value)} (hd : decode mt.2.1 pc = .ok (.astore i, 2)) (hi : i < ls.length) (ho : ok1 ls i = true) (hl2 : ls.set i (some (.ref x)) = ls') (k : Go G d mt (pc + 2) ls' st M post) : Go G d mt pc ls (.ref x :: st) M post := by
  intro p e R s m a below meth c cells slots Q H locs lsA C hP hS hl hF
  have hx := C.1
  have hb := C.2.1
  exact lv_astore hx hb hd hl.has (by have := hl.1; omega) rfl (fun ls2 h2 => k p e R s m a below meth c cells slots Q H locs ls2 C hP hS (by rw [← hl2]; exact Lh.set1 (v := .ref x) hl.1 ho h2) hF)
theorem Go.lstore_n {G : Gt} {d : Nat} {mt : Mt} {pc : Nat} {ls : List (Option Value)} {st : List Value} {M : Mm} {post : Option Value → Mm → Prop} {n : Fin 4} {x : Int64} {ls' : List (Option Value)} (hd : decode mt.2.1 pc = .ok (.lstore_n n, 1)) (hi : (n : Nat) + 1 < ls.length) (ho : ok1 ls (n : Nat) = true) (hl2 : (ls.set (n : Nat) (some (.long x))).set ((n : Nat) + 1) none = ls') (k : Go G d mt (pc + 1) ls' st M post) : Go G d mt pc ls (.long x :: st) M post := by
  intro p e R s m a below meth c cells slots Q H locs lsA C hP hS hl hF
  have hx := C.1
  have hb := C.2.1
  exact lv_lstore_n hx hb hd rfl hl.has (by have := hl.1; omega) rfl (fun ls2 h2 => k p e R s m a below meth c cells slots Q H locs ls2 C hP hS (by rw [← hl2]; exact Lh.set2 (v := .long x) hl.1 ho h2) hF)
theorem Go.lstore {G : Gt} {d : Nat} {mt : Mt} {pc : Nat} {ls : List (Option Value)} {st : List Value} {M : Mm} {post : Option Value → Mm → Prop} {i : Nat} {x : Int64} {ls' : List (Option Value)} (hd : decode mt.2.1 pc = .ok (.lstore i, 2)) (hi : i + 1 < ls.length) (ho : ok1 ls i = true) (hl2 : (ls.set i (some (.long x))).set (i + 1) none = ls') (k : Go G d mt (pc + 2) ls' st M post) : Go G d mt pc ls (.long x :: st) M post := by
  intro p e R s m a below meth c cells slots Q H locs lsA C hP hS hl hF
  have hx := C.1
  have hb := C.2.1
  exact lv_lstore hx hb hd hl.has (by have := hl.1; omega) rfl (fun ls2 h2 => k p e R s m a below meth c cells slots Q H locs ls2 C hP hS (by rw [← hl2]; exact Lh.set2 (v := .long x) hl.1 ho h2) hF)
theorem Go.iinc {G : Gt} {d : Nat} {mt : Mt} {pc : Nat} {ls : List (Option Value)} {st : List Value} {M : Mm} {post : Option Value → Mm → Prop} {i : Nat} {n : Int} {x v : Int32} {ls' : List (Option Value)} (hd : decode mt.2.1 pc = .ok (.iinc i n, 3)) (hv : ls[i]? = some (some (.int x))) (hn : x + Int32.ofInt n = v) (ho : ok1 ls i = true) (hl2 : ls.set i (some (.int v)) = ls') (k : Go G d mt (pc + 3) ls' st M post) : Go G d mt pc ls st M post := by
  intro p e R s m a below meth c cells slots Q H locs lsA C hP hS hl hF
  have hx := C.1
  have hb := C.2.1
  have hi : i < ls.length := (List.getElem?_eq_some_iff.mp hv).1
  have hm : (i, Value.int x) ∈ posL (ga G) ls := posL_mem.mpr ⟨.int x, hv, rfl⟩
  obtain ⟨k0, hk0⟩ := List.getElem?_of_mem hm
  exact lv_iinc (k := k0) hx hb hd hl.has hk0 hn (by have := hl.1; omega) rfl (fun ls2 h2 => k p e R s m a below meth c cells slots Q H locs ls2 C hP hS (by rw [← hl2]; exact Lh.set1 (v := .int v) hl.1 ho h2) hF)
theorem Go.iadd {G : Gt} {d : Nat} {mt : Mt} {pc : Nat} {ls : List (Option Value)} {st : List Value} {M : Mm} {post : Option Value → Mm → Prop} {x y : Int32} (hd : decode mt.2.1 pc = .ok (.iadd, 1)) (k : Go G d mt (pc + 1) ls (.int (x + y) :: st) M post) : Go G d mt pc ls (.int y :: .int x :: st) M post := by
  intro p e R s m a below meth c cells slots Q H locs lsA C hP hS hl hF
  have hx := C.1
  have hb := C.2.1
  exact lv_iadd hx hb hd (k p e R s m a below meth c cells slots Q H locs lsA C hP hS hl hF)
theorem Go.isub {G : Gt} {d : Nat} {mt : Mt} {pc : Nat} {ls : List (Option Value)} {st : List Value} {M : Mm} {post : Option Value → Mm → Prop} {x y : Int32} (hd : decode mt.2.1 pc = .ok (.isub, 1)) (k : Go G d mt (pc + 1) ls (.int (x - y) :: st) M post) : Go G d mt pc ls (.int y :: .int x :: st) M post := by
  intro p e R s m a below meth c cells slots Q H locs lsA C hP hS hl hF
  have hx := C.1
  have hb := C.2.1
  exact lv_isub hx hb hd (k p e R s m a below meth c cells slots Q H locs lsA C hP hS hl hF)
theorem Go.imul {G : Gt} {d : Nat} {mt : Mt} {pc : Nat} {ls : List (Option Value)} {st : List Value} {M : Mm} {post : Option Value → Mm → Prop} {x y : Int32} (hd : decode mt.2.1 pc = .ok (.imul, 1)) (k : Go G d mt (pc + 1) ls (.int (x * y) :: st) M post) : Go G d mt pc ls (.int y :: .int x :: st) M post := by
  intro p e R s m a below meth c cells slots Q H locs lsA C hP hS hl hF
  have hx := C.1
  have hb := C.2.1
  exact lv_imul hx hb hd (k p e R s m a below meth c cells slots Q H locs lsA C hP hS hl hF)
theorem Go.iand {G : Gt} {d : Nat} {mt : Mt} {pc : Nat} {ls : List (Option Value)} {st : List Value} {M : Mm} {post : Option Value → Mm → Prop} {x y : Int32} (hd : decode mt.2.1 pc = .ok (.iand, 1)) (k : Go G d mt (pc + 1) ls (.int (x &&& y) :: st) M post) : Go G d mt pc ls (.int y :: .int x :: st) M post := by
  intro p e R s m a below meth c cells slots Q H locs lsA C hP hS hl hF
  have hx := C.1
  have hb := C.2.1
  exact lv_iand hx hb hd (k p e R s m a below meth c cells slots Q H locs lsA C hP hS hl hF)
theorem Go.ior {G : Gt} {d : Nat} {mt : Mt} {pc : Nat} {ls : List (Option Value)} {st : List Value} {M : Mm} {post : Option Value → Mm → Prop} {x y : Int32} (hd : decode mt.2.1 pc = .ok (.ior, 1)) (k : Go G d mt (pc + 1) ls (.int (x ||| y) :: st) M post) : Go G d mt pc ls (.int y :: .int x :: st) M post := by
  intro p e R s m a below meth c cells slots Q H locs lsA C hP hS hl hF
  have hx := C.1
  have hb := C.2.1
  exact lv_ior hx hb hd (k p e R s m a below meth c cells slots Q H locs lsA C hP hS hl hF)
theorem Go.ixor {G : Gt} {d : Nat} {mt : Mt} {pc : Nat} {ls : List (Option Value)} {st : List Value} {M : Mm} {post : Option Value → Mm → Prop} {x y : Int32} (hd : decode mt.2.1 pc = .ok (.ixor, 1)) (k : Go G d mt (pc + 1) ls (.int (x ^^^ y) :: st) M post) : Go G d mt pc ls (.int y :: .int x :: st) M post := by
  intro p e R s m a below meth c cells slots Q H locs lsA C hP hS hl hF
  have hx := C.1
  have hb := C.2.1
  exact lv_ixor hx hb hd (k p e R s m a below meth c cells slots Q H locs lsA C hP hS hl hF)
theorem Go.ishl {G : Gt} {d : Nat} {mt : Mt} {pc : Nat} {ls : List (Option Value)} {st : List Value} {M : Mm} {post : Option Value → Mm → Prop} {x y : Int32} (hd : decode mt.2.1 pc = .ok (.ishl, 1)) (k : Go G d mt (pc + 1) ls (.int (x <<< (y &&& 31)) :: st) M post) : Go G d mt pc ls (.int y :: .int x :: st) M post := by
  intro p e R s m a below meth c cells slots Q H locs lsA C hP hS hl hF
  have hx := C.1
  have hb := C.2.1
  exact lv_ishl hx hb hd (k p e R s m a below meth c cells slots Q H locs lsA C hP hS hl hF)
theorem Go.ishr {G : Gt} {d : Nat} {mt : Mt} {pc : Nat} {ls : List (Option Value)} {st : List Value} {M : Mm} {post : Option Value → Mm → Prop} {x y : Int32} (hd : decode mt.2.1 pc = .ok (.ishr, 1)) (k : Go G d mt (pc + 1) ls (.int (x >>> (y &&& 31)) :: st) M post) : Go G d mt pc ls (.int y :: .int x :: st) M post := by
  intro p e R s m a below meth c cells slots Q H locs lsA C hP hS hl hF
  have hx := C.1
  have hb := C.2.1
  exact lv_ishr hx hb hd (k p e R s m a below meth c cells slots Q H locs lsA C hP hS hl hF)
theorem Go.iushr {G : Gt} {d : Nat} {mt : Mt} {pc : Nat} {ls : List (Option Value)} {st : List Value} {M : Mm} {post : Option Value → Mm → Prop} {x y : Int32} (hd : decode mt.2.1 pc = .ok (.iushr, 1)) (k : Go G d mt (pc + 1) ls (.int ((x.toUInt32 >>> (y.toUInt32 &&& Int32.toUInt32 31)).toInt32) :: st) M post) : Go G d mt pc ls (.int y :: .int x :: st) M post := by
  intro p e R s m a below meth c cells slots Q H locs lsA C hP hS hl hF
  have hx := C.1
  have hb := C.2.1
  exact lv_iushr hx hb hd rfl (k p e R s m a below meth c cells slots Q H locs lsA C hP hS hl hF)
theorem Go.idiv {G : Gt} {d : Nat} {mt : Mt} {pc : Nat} {ls : List (Option Value)} {st : List Value} {M : Mm} {post : Option Value → Mm → Prop} {x y : Int32} (hd : decode mt.2.1 pc = .ok (.idiv, 1)) (hne : ¬ y = 0) (k : Go G d mt (pc + 1) ls (.int (x / y) :: st) M post) : Go G d mt pc ls (.int y :: .int x :: st) M post := by
  intro p e R s m a below meth c cells slots Q H locs lsA C hP hS hl hF
  have hx := C.1
  have hb := C.2.1
  exact lv_idiv hx hb hd hne (k p e R s m a below meth c cells slots Q H locs lsA C hP hS hl hF)
theorem Go.irem {G : Gt} {d : Nat} {mt : Mt} {pc : Nat} {ls : List (Option Value)} {st : List Value} {M : Mm} {post : Option Value → Mm → Prop} {x y : Int32} (hd : decode mt.2.1 pc = .ok (.irem, 1)) (hne : ¬ y = 0) (k : Go G d mt (pc + 1) ls (.int (x - x / y * y) :: st) M post) : Go G d mt pc ls (.int y :: .int x :: st) M post := by
  intro p e R s m a below meth c cells slots Q H locs lsA C hP hS hl hF
  have hx := C.1
  have hb := C.2.1
  exact lv_irem hx hb hd hne (k p e R s m a below meth c cells slots Q H locs lsA C hP hS hl hF)
theorem Go.ladd {G : Gt} {d : Nat} {mt : Mt} {pc : Nat} {ls : List (Option Value)} {st : List Value} {M : Mm} {post : Option Value → Mm → Prop} {x y : Int64} (hd : decode mt.2.1 pc = .ok (.ladd, 1)) (k : Go G d mt (pc + 1) ls (.long (x + y) :: st) M post) : Go G d mt pc ls (.long y :: .long x :: st) M post := by
  intro p e R s m a below meth c cells slots Q H locs lsA C hP hS hl hF
  have hx := C.1
  have hb := C.2.1
  exact lv_ladd hx hb hd (k p e R s m a below meth c cells slots Q H locs lsA C hP hS hl hF)
theorem Go.lsub {G : Gt} {d : Nat} {mt : Mt} {pc : Nat} {ls : List (Option Value)} {st : List Value} {M : Mm} {post : Option Value → Mm → Prop} {x y : Int64} (hd : decode mt.2.1 pc = .ok (.lsub, 1)) (k : Go G d mt (pc + 1) ls (.long (x - y) :: st) M post) : Go G d mt pc ls (.long y :: .long x :: st) M post := by
  intro p e R s m a below meth c cells slots Q H locs lsA C hP hS hl hF
  have hx := C.1
  have hb := C.2.1
  exact lv_lsub hx hb hd (k p e R s m a below meth c cells slots Q H locs lsA C hP hS hl hF)
theorem Go.lmul {G : Gt} {d : Nat} {mt : Mt} {pc : Nat} {ls : List (Option Value)} {st : List Value} {M : Mm} {post : Option Value → Mm → Prop} {x y : Int64} (hd : decode mt.2.1 pc = .ok (.lmul, 1)) (k : Go G d mt (pc + 1) ls (.long (x * y) :: st) M post) : Go G d mt pc ls (.long y :: .long x :: st) M post := by
  intro p e R s m a below meth c cells slots Q H locs lsA C hP hS hl hF
  have hx := C.1
  have hb := C.2.1
  exact lv_lmul hx hb hd (k p e R s m a below meth c cells slots Q H locs lsA C hP hS hl hF)
theorem Go.land {G : Gt} {d : Nat} {mt : Mt} {pc : Nat} {ls : List (Option Value)} {st : List Value} {M : Mm} {post : Option Value → Mm → Prop} {x y : Int64} (hd : decode mt.2.1 pc = .ok (.land, 1)) (k : Go G d mt (pc + 1) ls (.long (x &&& y) :: st) M post) : Go G d mt pc ls (.long y :: .long x :: st) M post := by
  intro p e R s m a below meth c cells slots Q H locs lsA C hP hS hl hF
  have hx := C.1
  have hb := C.2.1
  exact lv_land hx hb hd (k p e R s m a below meth c cells slots Q H locs lsA C hP hS hl hF)
theorem Go.lor {G : Gt} {d : Nat} {mt : Mt} {pc : Nat} {ls : List (Option Value)} {st : List Value} {M : Mm} {post : Option Value → Mm → Prop} {x y : Int64} (hd : decode mt.2.1 pc = .ok (.lor, 1)) (k : Go G d mt (pc + 1) ls (.long (x ||| y) :: st) M post) : Go G d mt pc ls (.long y :: .long x :: st) M post := by
  intro p e R s m a below meth c cells slots Q H locs lsA C hP hS hl hF
  have hx := C.1
  have hb := C.2.1
  exact lv_lor hx hb hd (k p e R s m a below meth c cells slots Q H locs lsA C hP hS hl hF)
theorem Go.lshl {G : Gt} {d : Nat} {mt : Mt} {pc : Nat} {ls : List (Option Value)} {st : List Value} {M : Mm} {post : Option Value → Mm → Prop} {x : Int64} {y : Int32} (hd : decode mt.2.1 pc = .ok (.lshl, 1)) (k : Go G d mt (pc + 1) ls (.long (x <<< (y.toInt64 &&& 63)) :: st) M post) : Go G d mt pc ls (.int y :: .long x :: st) M post := by
  intro p e R s m a below meth c cells slots Q H locs lsA C hP hS hl hF
  have hx := C.1
  have hb := C.2.1
  exact lv_lshl hx hb hd rfl (k p e R s m a below meth c cells slots Q H locs lsA C hP hS hl hF)
theorem Go.lshr {G : Gt} {d : Nat} {mt : Mt} {pc : Nat} {ls : List (Option Value)} {st : List Value} {M : Mm} {post : Option Value → Mm → Prop} {x : Int64} {y : Int32} (hd : decode mt.2.1 pc = .ok (.lshr, 1)) (k : Go G d mt (pc + 1) ls (.long (x >>> (y.toInt64 &&& 63)) :: st) M post) : Go G d mt pc ls (.int y :: .long x :: st) M post := by
  intro p e R s m a below meth c cells slots Q H locs lsA C hP hS hl hF
  have hx := C.1
  have hb := C.2.1
  exact lv_lshr hx hb hd rfl (k p e R s m a below meth c cells slots Q H locs lsA C hP hS hl hF)
theorem Go.lcmp {G : Gt} {d : Nat} {mt : Mt} {pc : Nat} {ls : List (Option Value)} {st : List Value} {M : Mm} {post : Option Value → Mm → Prop} {x y : Int64} (hd : decode mt.2.1 pc = .ok (.lcmp, 1)) (k : Go G d mt (pc + 1) ls (.int (lg_cmp x y) :: st) M post) : Go G d mt pc ls (.long y :: .long x :: st) M post := by
  intro p e R s m a below meth c cells slots Q H locs lsA C hP hS hl hF
  have hx := C.1
  have hb := C.2.1
  exact W.lcmp hx hb hd (k p e R s m a below meth c cells slots Q H locs lsA C hP hS hl hF)
theorem Go.i2l {G : Gt} {d : Nat} {mt : Mt} {pc : Nat} {ls : List (Option Value)} {st : List Value} {M : Mm} {post : Option Value → Mm → Prop} {x : Int32} (hd : decode mt.2.1 pc = .ok (.i2l, 1)) (k : Go G d mt (pc + 1) ls (.long x.toInt64 :: st) M post) : Go G d mt pc ls (.int x :: st) M post := by
  intro p e R s m a below meth c cells slots Q H locs lsA C hP hS hl hF
  have hx := C.1
  have hb := C.2.1
  exact lv_i2l hx hb hd rfl (k p e R s m a below meth c cells slots Q H locs lsA C hP hS hl hF)
theorem Go.l2i {G : Gt} {d : Nat} {mt : Mt} {pc : Nat} {ls : List (Option Value)} {st : List Value} {M : Mm} {post : Option Value → Mm → Prop} {x : Int64} (hd : decode mt.2.1 pc = .ok (.l2i, 1)) (k : Go G d mt (pc + 1) ls (.int x.toInt32 :: st) M post) : Go G d mt pc ls (.long x :: st) M post := by
  intro p e R s m a below meth c cells slots Q H locs lsA C hP hS hl hF
  have hx := C.1
  have hb := C.2.1
  exact lv_l2i hx hb hd rfl (k p e R s m a below meth c cells slots Q H locs lsA C hP hS hl hF)
theorem Go.i2b {G : Gt} {d : Nat} {mt : Mt} {pc : Nat} {ls : List (Option Value)} {st : List Value} {M : Mm} {post : Option Value → Mm → Prop} {x : Int32} (hd : decode mt.2.1 pc = .ok (.i2b, 1)) (k : Go G d mt (pc + 1) ls (.int x.toInt8.toInt32 :: st) M post) : Go G d mt pc ls (.int x :: st) M post := by
  intro p e R s m a below meth c cells slots Q H locs lsA C hP hS hl hF
  have hx := C.1
  have hb := C.2.1
  exact lv_i2b hx hb hd rfl (k p e R s m a below meth c cells slots Q H locs lsA C hP hS hl hF)
theorem Go.i2s {G : Gt} {d : Nat} {mt : Mt} {pc : Nat} {ls : List (Option Value)} {st : List Value} {M : Mm} {post : Option Value → Mm → Prop} {x : Int32} (hd : decode mt.2.1 pc = .ok (.i2s, 1)) (k : Go G d mt (pc + 1) ls (.int x.toInt16.toInt32 :: st) M post) : Go G d mt pc ls (.int x :: st) M post := by
  intro p e R s m a below meth c cells slots Q H locs lsA C hP hS hl hF
  have hx := C.1
  have hb := C.2.1
  exact lv_i2s hx hb hd rfl (k p e R s m a below meth c cells slots Q H locs lsA C hP hS hl hF)
theorem Go.i2c {G : Gt} {d : Nat} {mt : Mt} {pc : Nat} {ls : List (Option Value)} {st : List Value} {M : Mm} {post : Option Value → Mm → Prop} {x : Int32} (hd : decode mt.2.1 pc = .ok (.i2c, 1)) (k : Go G d mt (pc + 1) ls (.int (x.toUInt32 % 65536).toInt32 :: st) M post) : Go G d mt pc ls (.int x :: st) M post := by
  intro p e R s m a below meth c cells slots Q H locs lsA C hP hS hl hF
  have hx := C.1
  have hb := C.2.1
  exact lv_i2c hx hb hd rfl (k p e R s m a below meth c cells slots Q H locs lsA C hP hS hl hF)
theorem Go.dup {G : Gt} {d : Nat} {mt : Mt} {pc : Nat} {ls : List (Option Value)} {st : List Value} {M : Mm} {post : Option Value → Mm → Prop} {v : Value} (hd : decode mt.2.1 pc = .ok (.dup, 1)) (hc : v.category = 1) (k : Go G d mt (pc + 1) ls (v :: v :: st) M post) : Go G d mt pc ls (v :: st) M post := by
  intro p e R s m a below meth c cells slots Q H locs lsA C hP hS hl hF
  have hx := C.1
  have hb := C.2.1
  exact lv_dup hx hb hd (by rw [tv_cat]; exact hc) (k p e R s m a below meth c cells slots Q H locs lsA C hP hS hl hF)
theorem Go.pop {G : Gt} {d : Nat} {mt : Mt} {pc : Nat} {ls : List (Option Value)} {st : List Value} {M : Mm} {post : Option Value → Mm → Prop} {v : Value} (hd : decode mt.2.1 pc = .ok (.pop, 1)) (hc : v.category = 1) (k : Go G d mt (pc + 1) ls (st) M post) : Go G d mt pc ls (v :: st) M post := by
  intro p e R s m a below meth c cells slots Q H locs lsA C hP hS hl hF
  have hx := C.1
  have hb := C.2.1
  exact lv_pop hx hb hd (by rw [tv_cat]; exact hc) (k p e R s m a below meth c cells slots Q H locs lsA C hP hS hl hF)
theorem Go.dup2 {G : Gt} {d : Nat} {mt : Mt} {pc : Nat} {ls : List (Option Value)} {st : List Value} {M : Mm} {post : Option Value → Mm → Prop} {v w : Value} (hd : decode mt.2.1 pc = .ok (.dup2, 1)) (hc : v.category = 1) (hc2 : w.category = 1) (k : Go G d mt (pc + 1) ls (v :: w :: v :: w :: st) M post) : Go G d mt pc ls (v :: w :: st) M post := by
  intro p e R s m a below meth c cells slots Q H locs lsA C hP hS hl hF
  have hx := C.1
  have hb := C.2.1
  exact lv_dup2_11 hx hb hd (by rw [tv_cat]; exact hc) (by rw [tv_cat]; exact hc2) (k p e R s m a below meth c cells slots Q H locs lsA C hP hS hl hF)
theorem Go.if_eq {G : Gt} {d : Nat} {mt : Mt} {pc : Nat} {ls : List (Option Value)} {st : List Value} {M : Mm} {post : Option Value → Mm → Prop} {x : Int32} {off : Int} (tgt : Nat) (hd : decode mt.2.1 pc = .ok (.ifCond .eq off, 3)) (ht : (pc : Int) + off = (tgt : Int)) (kt : x = 0 → Go G d mt tgt ls st M post) (kf : ¬ (x = 0) → Go G d mt (pc + 3) ls st M post) : Go G d mt pc ls (.int x :: st) M post := by
  intro p e R s m a below meth c cells slots Q H locs lsA C hP hS hl hF
  have hx := C.1
  have hb := C.2.1
  exact lv_if_eq hx hb hd ht (fun h => kt h p e R s m a below meth c cells slots Q H locs lsA C hP hS hl hF) (fun h => kf h p e R s m a below meth c cells slots Q H locs lsA C hP hS hl hF)
theorem Go.icmp_eq {G : Gt} {d : Nat} {mt : Mt} {pc : Nat} {ls : List (Option Value)} {st : List Value} {M : Mm} {post : Option Value → Mm → Prop} {x y : Int32} {off : Int} (tgt : Nat) (hd : decode mt.2.1 pc = .ok (.if_icmp .eq off, 3)) (ht : (pc : Int) + off = (tgt : Int)) (kt : x = y → Go G d mt tgt ls st M post) (kf : ¬ (x = y) → Go G d mt (pc + 3) ls st M post) : Go G d mt pc ls (.int y :: .int x :: st) M post := by
  intro p e R s m a below meth c cells slots Q H locs lsA C hP hS hl hF
  have hx := C.1
  have hb := C.2.1
  exact lv_icmp_eq hx hb hd ht (fun h => kt h p e R s m a below meth c cells slots Q H locs lsA C hP hS hl hF) (fun h => kf h p e R s m a below meth c cells slots Q H locs lsA C hP hS hl hF)
theorem Go.if_ne {G : Gt} {d : Nat} {mt : Mt} {pc : Nat} {ls : List (Option Value)} {st : List Value} {M : Mm} {post : Option Value → Mm → Prop} {x : Int32} {off : Int} (tgt : Nat) (hd : decode mt.2.1 pc = .ok (.ifCond .ne off, 3)) (ht : (pc : Int) + off = (tgt : Int)) (kt : ¬ x = 0 → Go G d mt tgt ls st M post) (kf : x = 0 → Go G d mt (pc + 3) ls st M post) : Go G d mt pc ls (.int x :: st) M post := by
  intro p e R s m a below meth c cells slots Q H locs lsA C hP hS hl hF
  have hx := C.1
  have hb := C.2.1
  exact lv_if_ne hx hb hd ht (fun h => kt h p e R s m a below meth c cells slots Q H locs lsA C hP hS hl hF) (fun h => kf h p e R s m a below meth c cells slots Q H locs lsA C hP hS hl hF)
theorem Go.icmp_ne {G : Gt} {d : Nat} {mt : Mt} {pc : Nat} {ls : List (Option Value)} {st : List Value} {M : Mm} {post : Option Value → Mm → Prop} {x y : Int32} {off : Int} (tgt : Nat) (hd : decode mt.2.1 pc = .ok (.if_icmp .ne off, 3)) (ht : (pc : Int) + off = (tgt : Int)) (kt : ¬ x = y → Go G d mt tgt ls st M post) (kf : x = y → Go G d mt (pc + 3) ls st M post) : Go G d mt pc ls (.int y :: .int x :: st) M post := by
  intro p e R s m a below meth c cells slots Q H locs lsA C hP hS hl hF
  have hx := C.1
  have hb := C.2.1
  exact lv_icmp_ne hx hb hd ht (fun h => kt h p e R s m a below meth c cells slots Q H locs lsA C hP hS hl hF) (fun h => kf h p e R s m a below meth c cells slots Q H locs lsA C hP hS hl hF)
theorem Go.if_lt {G : Gt} {d : Nat} {mt : Mt} {pc : Nat} {ls : List (Option Value)} {st : List Value} {M : Mm} {post : Option Value → Mm → Prop} {x : Int32} {off : Int} (tgt : Nat) (hd : decode mt.2.1 pc = .ok (.ifCond .lt off, 3)) (ht : (pc : Int) + off = (tgt : Int)) (kt : x < 0 → Go G d mt tgt ls st M post) (kf : ¬ (x < 0) → Go G d mt (pc + 3) ls st M post) : Go G d mt pc ls (.int x :: st) M post := by
  intro p e R s m a below meth c cells slots Q H locs lsA C hP hS hl hF
  have hx := C.1
  have hb := C.2.1
  exact lv_if_lt hx hb hd ht (fun h => kt h p e R s m a below meth c cells slots Q H locs lsA C hP hS hl hF) (fun h => kf h p e R s m a below meth c cells slots Q H locs lsA C hP hS hl hF)
theorem Go.icmp_lt {G : Gt} {d : Nat} {mt : Mt} {pc : Nat} {ls : List (Option Value)} {st : List Value} {M : Mm} {post : Option Value → Mm → Prop} {x y : Int32} {off : Int} (tgt : Nat) (hd : decode mt.2.1 pc = .ok (.if_icmp .lt off, 3)) (ht : (pc : Int) + off = (tgt : Int)) (kt : x < y → Go G d mt tgt ls st M post) (kf : ¬ (x < y) → Go G d mt (pc + 3) ls st M post) : Go G d mt pc ls (.int y :: .int x :: st) M post := by
  intro p e R s m a below meth c cells slots Q H locs lsA C hP hS hl hF
  have hx := C.1
  have hb := C.2.1
  exact lv_icmp_lt hx hb hd ht (fun h => kt h p e R s m a below meth c cells slots Q H locs lsA C hP hS hl hF) (fun h => kf h p e R s m a below meth c cells slots Q H locs lsA C hP hS hl hF)
theorem Go.if_ge {G : Gt} {d : Nat} {mt : Mt} {pc : Nat} {ls : List (Option Value)} {st : List Value} {M : Mm} {post : Option Value → Mm → Prop} {x : Int32} {off : Int} (tgt : Nat) (hd : decode mt.2.1 pc = .ok (.ifCond .ge off, 3)) (ht : (pc : Int) + off = (tgt : Int)) (kt : 0 ≤ x → Go G d mt tgt ls st M post) (kf : ¬ (0 ≤ x) → Go G d mt (pc + 3) ls st M post) : Go G d mt pc ls (.int x :: st) M post := by
  intro p e R s m a below meth c cells slots Q H locs lsA C hP hS hl hF
  have hx := C.1
  have hb := C.2.1
  exact lv_if_ge hx hb hd ht (fun h => kt h p e R s m a below meth c cells slots Q H locs lsA C hP hS hl hF) (fun h => kf h p e R s m a below meth c cells slots Q H locs lsA C hP hS hl hF)
theorem Go.icmp_ge {G : Gt} {d : Nat} {mt : Mt} {pc : Nat} {ls : List (Option Value)} {st : List Value} {M : Mm} {post : Option Value → Mm → Prop} {x y : Int32} {off : Int} (tgt : Nat) (hd : decode mt.2.1 pc = .ok (.if_icmp .ge off, 3)) (ht : (pc : Int) + off = (tgt : Int)) (kt : y ≤ x → Go G d mt tgt ls st M post) (kf : ¬ (y ≤ x) → Go G d mt (pc + 3) ls st M post) : Go G d mt pc ls (.int y :: .int x :: st) M post := by
  intro p e R s m a below meth c cells slots Q H locs lsA C hP hS hl hF
  have hx := C.1
  have hb := C.2.1
  exact lv_icmp_ge hx hb hd ht (fun h => kt h p e R s m a below meth c cells slots Q H locs lsA C hP hS hl hF) (fun h => kf h p e R s m a below meth c cells slots Q H locs lsA C hP hS hl hF)
theorem Go.if_gt {G : Gt} {d : Nat} {mt : Mt} {pc : Nat} {ls : List (Option Value)} {st : List Value} {M : Mm} {post : Option Value → Mm → Prop} {x : Int32} {off : Int} (tgt : Nat) (hd : decode mt.2.1 pc = .ok (.ifCond .gt off, 3)) (ht : (pc : Int) + off = (tgt : Int)) (kt : 0 < x → Go G d mt tgt ls st M post) (kf : ¬ (0 < x) → Go G d mt (pc + 3) ls st M post) : Go G d mt pc ls (.int x :: st) M post := by
  intro p e R s m a below meth c cells slots Q H locs lsA C hP hS hl hF
  have hx := C.1
  have hb := C.2.1
  exact lv_if_gt hx hb hd ht (fun h => kt h p e R s m a below meth c cells slots Q H locs lsA C hP hS hl hF) (fun h => kf h p e R s m a below meth c cells slots Q H locs lsA C hP hS hl hF)
theorem Go.icmp_gt {G : Gt} {d : Nat} {mt : Mt} {pc : Nat} {ls : List (Option Value)} {st : List Value} {M : Mm} {post : Option Value → Mm → Prop} {x y : Int32} {off : Int} (tgt : Nat) (hd : decode mt.2.1 pc = .ok (.if_icmp .gt off, 3)) (ht : (pc : Int) + off = (tgt : Int)) (kt : y < x → Go G d mt tgt ls st M post) (kf : ¬ (y < x) → Go G d mt (pc + 3) ls st M post) : Go G d mt pc ls (.int y :: .int x :: st) M post := by
  intro p e R s m a below meth c cells slots Q H locs lsA C hP hS hl hF
  have hx := C.1
  have hb := C.2.1
  exact lv_icmp_gt hx hb hd ht (fun h => kt h p e R s m a below meth c cells slots Q H locs lsA C hP hS hl hF) (fun h => kf h p e R s m a below meth c cells slots Q H locs lsA C hP hS hl hF)
theorem Go.if_le {G : Gt} {d : Nat} {mt : Mt} {pc : Nat} {ls : List (Option Value)} {st : List Value} {M : Mm} {post : Option Value → Mm → Prop} {x : Int32} {off : Int} (tgt : Nat) (hd : decode mt.2.1 pc = .ok (.ifCond .le off, 3)) (ht : (pc : Int) + off = (tgt : Int)) (kt : x ≤ 0 → Go G d mt tgt ls st M post) (kf : ¬ (x ≤ 0) → Go G d mt (pc + 3) ls st M post) : Go G d mt pc ls (.int x :: st) M post := by
  intro p e R s m a below meth c cells slots Q H locs lsA C hP hS hl hF
  have hx := C.1
  have hb := C.2.1
  exact lv_if_le hx hb hd ht (fun h => kt h p e R s m a below meth c cells slots Q H locs lsA C hP hS hl hF) (fun h => kf h p e R s m a below meth c cells slots Q H locs lsA C hP hS hl hF)
theorem Go.icmp_le {G : Gt} {d : Nat} {mt : Mt} {pc : Nat} {ls : List (Option Value)} {st : List Value} {M : Mm} {post : Option Value → Mm → Prop} {x y : Int32} {off : Int} (tgt : Nat) (hd : decode mt.2.1 pc = .ok (.if_icmp .le off, 3)) (ht : (pc : Int) + off = (tgt : Int)) (kt : x ≤ y → Go G d mt tgt ls st M post) (kf : ¬ (x ≤ y) → Go G d mt (pc + 3) ls st M post) : Go G d mt pc ls (.int y :: .int x :: st) M post := by
  intro p e R s m a below meth c cells slots Q H locs lsA C hP hS hl hF
  have hx := C.1
  have hb := C.2.1
  exact lv_icmp_le hx hb hd ht (fun h => kt h p e R s m a below meth c cells slots Q H locs lsA C hP hS hl hF) (fun h => kf h p e R s m a below meth c cells slots Q H locs lsA C hP hS hl hF)
theorem Go.goto {G : Gt} {d : Nat} {mt : Mt} {pc : Nat} {ls : List (Option Value)} {st : List Value} {M : Mm} {post : Option Value → Mm → Prop} {off : Int} (tgt : Nat) (hd : decode mt.2.1 pc = .ok (.goto off, 3)) (ht : (pc : Int) + off = (tgt : Int)) (k : Go G d mt tgt ls st M post) : Go G d mt pc ls st M post := by
  intro p e R s m a below meth c cells slots Q H locs lsA C hP hS hl hF
  have hx := C.1
  have hb := C.2.1
  exact lv_goto hx hb hd ht (k p e R s m a below meth c cells slots Q H locs lsA C hP hS hl hF)
theorem Go.tableIn {G : Gt} {d : Nat} {mt : Mt} {pc : Nat} {ls : List (Option Value)} {st : List Value} {M : Mm} {post : Option Value → Mm → Prop} {dflt lo hi : Int} {offs : Array Int} {len : Nat} {x : Int32} {off : Int} (tgt : Nat) (hd : decode mt.2.1 pc = .ok (.tableswitch dflt lo hi offs, len)) (h1 : ¬ x.toInt < lo) (h2 : ¬ hi < x.toInt) (ho : offs[(x.toInt - lo).toNat]? = some off) (ht : (pc : Int) + off = (tgt : Int)) (k : Go G d mt tgt ls st M post) : Go G d mt pc ls (.int x :: st) M post := by
  intro p e R s m a below meth c cells slots Q H locs lsA C hP hS hl hF
  have hx := C.1
  have hb := C.2.1
  exact lv_tableIn hx hb hd h1 h2 ho ht (k p e R s m a below meth c cells slots Q H locs lsA C hP hS hl hF)
theorem Go.tableOut {G : Gt} {d : Nat} {mt : Mt} {pc : Nat} {ls : List (Option Value)} {st : List Value} {M : Mm} {post : Option Value → Mm → Prop} {dflt lo hi : Int} {offs : Array Int} {len : Nat} {x : Int32} (tgt : Nat) (hd : decode mt.2.1 pc = .ok (.tableswitch dflt lo hi offs, len)) (h : x.toInt < lo ∨ hi < x.toInt) (ht : (pc : Int) + dflt = (tgt : Int)) (k : Go G d mt tgt ls st M post) : Go G d mt pc ls (.int x :: st) M post := by
  intro p e R s m a below meth c cells slots Q H locs lsA C hP hS hl hF
  have hx := C.1
  have hb := C.2.1
  exact lv_tableOut hx hb hd h ht (k p e R s m a below meth c cells slots Q H locs lsA C hP hS hl hF)
theorem Go.lookup {G : Gt} {d : Nat} {mt : Mt} {pc : Nat} {ls : List (Option Value)} {st : List Value} {M : Mm} {post : Option Value → Mm → Prop} {dflt : Int} {ps : Array (Int × Int)} {len : Nat} {x : Int32} {off : Int} (tgt : Nat) (hd : decode mt.2.1 pc = .ok (.lookupswitch dflt ps, len)) (hp : (ps.toList.zip (ps.toList.drop 1)).all (fun (a, next) => a.1 < next.1) = true) (ho : Op.lookupswitch.offset ps.toList dflt x.toInt = off) (ht : (pc : Int) + off = (tgt : Int)) (k : Go G d mt tgt ls st M post) : Go G d mt pc ls (.int x :: st) M post := by
  intro p e R s m a below meth c cells slots Q H locs lsA C hP hS hl hF
  have hx := C.1
  have hb := C.2.1
  exact lv_lookup hx hb hd hp ho ht (k p e R s m a below meth c cells slots Q H locs lsA C hP hS hl hF)
theorem Go.iret {G : Gt} {d : Nat} {mt : Mt} {pc : Nat} {ls : List (Option Value)} {M : Mm} {post : Option Value → Mm → Prop} {x : Int32} {ty : FieldType} (hd : decode mt.2.1 pc = .ok (.ireturn, 1)) (hr : mt.2.2.2 = some ty) (hn : narrow ty (.int x) = .int x) (hp : post (some (.int x)) M) : Go G d mt pc ls [.int x] M post := by
  intro p e R s m a below meth c cells slots Q H locs lsA C hP hS hl hF
  exact hF _ _ hp pc lsA H locs ⟨hd, ty, hr, hn⟩ hP hS
theorem Go.lret {G : Gt} {d : Nat} {mt : Mt} {pc : Nat} {ls : List (Option Value)} {M : Mm} {post : Option Value → Mm → Prop} {x : Int64} (hd : decode mt.2.1 pc = .ok (.lreturn, 1)) (hr : mt.2.2.2 = some .long) (hp : post (some (.long x)) M) : Go G d mt pc ls [.long x] M post := by
  intro p e R s m a below meth c cells slots Q H locs lsA C hP hS hl hF
  exact hF _ _ hp pc lsA H locs ⟨hd, hr⟩ hP hS
theorem Go.vret {G : Gt} {d : Nat} {mt : Mt} {pc : Nat} {ls : List (Option Value)} {M : Mm} {post : Option Value → Mm → Prop} (hd : decode mt.2.1 pc = .ok (.return_, 1)) (hr : mt.2.2.2 = none) (hp : post none M) : Go G d mt pc ls [] M post := by
  intro p e R s m a below meth c cells slots Q H locs lsA C hP hS hl hF
  exact hF _ _ hp pc lsA H locs ⟨hd, hr⟩ hP hS
theorem Go.aret {G : Gt} {d : Nat} {mt : Mt} {pc : Nat} {ls : List (Option Value)} {M : Mm} {post : Option Value → Mm → Prop} {x : Nat} {t : FieldType} (hd : decode mt.2.1 pc = .ok (.areturn, 1)) (hr : mt.2.2.2 = some (.array t)) (hp : post (some (.ref x)) M) : Go G d mt pc ls [.ref x] M post := by
  intro p e R s m a below meth c cells slots Q H locs lsA C hP hS hl hF
  exact hF _ _ hp pc lsA H locs ⟨hd, t, hr⟩ hP hS
