section Finals
variable {p : Program} {l : Launch} {e : Env} {R : Room} {s : State} {m : MethodId} {args : Array Value} {below : List Frame} {meth : Method} {c : Code} {H H0 : Heap} {locs : List Loc} {cells slots : Nat} {Q : State → Prop} {pc : Nat} {ls : Array Slot} {rest : List Value} {D : va_G} {ws : va_W} {A : Nat → Prop}
theorem bn_fin {mt : Mt} {tys : List (ClassId × FieldType)} (hexec : p.tables.exec = Jvm.exec) (hb : c.code = mt.2.1) (hts : ∀ w ∈ wsM mt, w.before args s = true) (hown : s.vm.findClass mt.1.cls = some m.cls) (hin2 : meth.name = "<init>") (hK : va_K D vwCl tys s) (hP : va_P D vwCl ws H) (hD : va_D A ws) (hS : va_S A H0 H locs) {idx ci j q0 a : Nat} {fs : List Value} {v : Value} {ty : FieldType} (hw : FL mt.1.cls idx ci j) (hT : ∀ C T N, vwCl[ci]? = some (C, T, N) → (T j).2.2.2 = true ∧ (T j).1 = mt.1.cls ∧ parseFieldDescriptor (T j).2.2.1 = some ty) (he : ws[q0]? = some (a, .inr (ci, fs))) (hn : narrow ty v = v) (hfit : fits ty v = true) (hl : j < fs.length) (hdg : decode mt.2.1 pc = .ok (.putfield idx, 3))
    (kk : ∀ (H1 : Heap) (locs1 : List Loc), va_P D vwCl (ws.set q0 (a, .inr (ci, fs.set j v))) H1 → va_D A (ws.set q0 (a, .inr (ci, fs.set j v))) → va_S A H0 H1 locs1 → W p l e R s m args below meth c H1 locs1 cells slots Q (F0 m (pc + 3) ls rest)) : W p l e R s m args below meth c H locs cells slots Q (F0 m pc ls (v :: .ref a :: rest)) := by
  obtain ⟨C0, T, N, h1, h2, h3⟩ := hw
  obtain ⟨ty0, t1, t2⟩ := clsT h1
  obtain ⟨f1, f2, f3⟩ := hT C0 T N h1
  exact va_putF (D := D) (ci := ci) (v := v) (ty := ty) (C := C0) (T := T) (N := N) hexec hb hts (fun w h => List.mem_cons_of_mem _ (clsW h1 w h)) ty0 t1 t2 hown hK hP hD hS q0 he h1 j h2 (hts _ (List.mem_cons_of_mem _ h3)) (fun _ h9 => h9) f1 hin2 f2 f3 hn hfit hl hdg kk
end Finals
