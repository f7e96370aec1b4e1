theorem StC_z {N1 N2 N3 N4 N5 N6 N9 N10 N11 N12 Nm : Mm} (f1 : Ftz1 N1) (f4 : Ftz2 N4) (f6 : Ftz5 N6) (f9 : Ftz4 N9) (f10 : Ftz4 N10) (f11 : Ftz4 N11) (f12 : Ftz4 N12) : StC (Mz N1 N2 N3 N4 N5 N6 N9 N10 N11 N12 Nm) := by
  obtain ⟨a1, a2, a3, a4, a5, a6, a7⟩ := f1
  refine ⟨a1, a2, a3, a4, a5, a6, a7, rfl, f6, fun s hs => ?_, fun _ _ => rfl, f4⟩
  match s, hs with
  | 0, _ => exact f9
  | 1, _ => exact f10
  | 2, _ => exact f11
  | 3, _ => exact f12
  | s + 4, h => exact absurd h (by omega)
theorem StM_z {N1 N2 N3 N4 N5 N6 N9 N10 N11 N12 Nm : Mm} (fm : Ftz7 Nm) : StM (Mz N1 N2 N3 N4 N5 N6 N9 N10 N11 N12 Nm) := by
  obtain ⟨a1, a2, a3, a4, a5, a6, a7, a8, a9, a10, a11, a12, a13⟩ := fm
  exact ⟨a1, a2, a3, a4, a5, a6, a7, a8, a9, a10, a11, a12, a13⟩
theorem fS_z {q1 q2 q3 q4 q5 q6 q9 q10 q11 q12 qm : Nat → Nat} {q8 q7 b6 : Nat} {fS : Nat → Option Nat} (hfS : ∀ j, fS j = if j = 0 then some (q9 0) else if j = 1 then some (q10 0) else if j = 2 then some (q11 0) else if j = 3 then some (q12 0) else none) : fS = fun j => (([some 40, some 41, some 42, some 43] : List (Option Nat)).getD j none).map (Az q1 q2 q3 q4 q5 q6 q9 q10 q11 q12 qm q8 q7 b6) := by
  funext j
  rw [hfS j]
  rcases j with _ | _ | _ | _ | j
  · rfl
  · rfl
  · rfl
  · rfl
  · rfl
theorem joined {G : Gt} {b6 b7 z : Nat} {w6 w7 : va_W} {H : Heap} (h6 : Pz6 G b6 w6) (h7 : Pw G Sz7 Ftz7 b7 w7) (hP : va_P (gD G) vwCl (w6 ++ w7) H) (hD : va_D (Fl z) (w6 ++ w7)) : ∃ (ad : Nat → Nat) (M : Mm), ad 0 = b6 ∧ ad 49 = b7 ∧ StC M ∧ StM M ∧ va_P (gD G) vwCl (wld (Ga G SHAPE z ad) M) H ∧ va_D (Fl z) (wld (Ga G SHAPE z ad) M) := by
  obtain ⟨q1, q2, q3, q4, q5, q6, q9, q10, q11, q12, N1, N2, N3, N4, N5, N6, N9, N10, N11, N12, q8, q7, fS, f1, f2, f3, f4, f6, f9, f10, f11, f12, hfS, rfl⟩ := h6
  obtain ⟨qm, Nm, h0, fm, h1⟩ := h7
  rw [wl_eq Sz7_ok.1 Sz7_ok.2] at h1
  subst h1
  subst h0
  have hP2 : va_P (gD G) vwCl (Yz G q1 q2 q3 q4 q5 q6 q9 q10 q11 q12 qm N1 N2 N3 N4 N5 N6 N9 N10 N11 N12 Nm q8 q7 b6 fS) H := by rw [← Yz_eq G q1 q2 q3 q4 q5 q6 q9 q10 q11 q12 qm N1 N2 N3 N4 N5 N6 N9 N10 N11 N12 Nm q8 q7 b6 fS]; exact hP
  have hD2 : va_D (Fl z) (Yz G q1 q2 q3 q4 q5 q6 q9 q10 q11 q12 qm N1 N2 N3 N4 N5 N6 N9 N10 N11 N12 Nm q8 q7 b6 fS) := by rw [← Yz_eq G q1 q2 q3 q4 q5 q6 q9 q10 q11 q12 qm N1 N2 N3 N4 N5 N6 N9 N10 N11 N12 Nm q8 q7 b6 fS]; exact hD
  clear hP hD
  have e := fS_z (q1 := q1) (q2 := q2) (q3 := q3) (q4 := q4) (q5 := q5) (q6 := q6) (qm := qm) (q8 := q8) (q7 := q7) (b6 := b6) hfS
  have e1 := Xz_eq G q1 q2 q3 q4 q5 q6 q9 q10 q11 q12 qm N1 N2 N3 N4 N5 N6 N9 N10 N11 N12 Nm q8 q7 b6 fS e
  refine ⟨(Az q1 q2 q3 q4 q5 q6 q9 q10 q11 q12 qm q8 q7 b6), (Mz N1 N2 N3 N4 N5 N6 N9 N10 N11 N12 Nm), rfl, rfl, StC_z f1 f4 f6 f9 f10 f11 f12, StM_z fm, ?_⟩
  rw [wl_eq SHAPE_ok.1 SHAPE_ok.2]
  exact ⟨hP2.subm plW e1, hD2.sub plW plW_nd e1⟩
