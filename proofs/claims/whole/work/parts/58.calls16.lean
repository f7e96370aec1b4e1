def lenL (w : Nat) : Nat := if w = 0 then 8 else if w = 1 then 5 else 4
def getL (u : Bu) (w j : Nat) : Int32 := if w = 0 then uT u j else if w = 1 then uW u j else uC u j
def likU (u : Bu) (w j : Nat) (v : Int32) : Bu := (uS u, if w = 0 then upd (uT u) j v else uT u, if w = 1 then upd (uW u) j v else uW u, if w = 2 then upd (uC u) j v else uC u, uN u, uK u, uX u, uD u, uE u, uY u)
def A_like (g : Sg) (a b v : Int32) : Int32 × Sg := if (inb a 3 && inI v (-9) 9) && inb b (nI (lenL (tN a))) then (getL (gU g) (tN a) (tN b), setU g (likU (gU g) (tN a) (tN b) v)) else (-1000000001, fndS g 0)
theorem upd_rd {f f' : Nat → Int32} {n : Nat} (h : ∀ t, t < n → f t = f' t) (j : Nat) (v : Int32) : ∀ t, t < n → upd f j v t = upd f' j v t := fun t ht => by
  unfold upd
  split
  · rfl
  · exact h t ht
theorem BuC.lik {M : Mm} {b : Nat} {u : Bu} (h : BuC M b u) {w : Nat} (hw : w < 3) (j : Nat) (v : Int32) : BuC (upi M (b + 2 + w) j v) b (likU u w j v) := by
  obtain ⟨h1, h2, h3, h4, h5, h6, h7, h8⟩ := h
  have r : ∀ a, a ≠ b + 2 + w → (upi M (b + 2 + w) j v).1 a = M.1 a := fun a q => rd_ne q
  refine ⟨fun t ht => by rw [r _ (by omega)]; exact h1 t ht, ?_, ?_, ?_, by rw [r _ (by omega)]; exact h5, by rw [r _ (by omega)]; exact h6, by rw [r _ (by omega)]; exact h7, fun e he => by rw [r _ (by omega), r _ (by omega), r _ (by omega)]; exact h8 e he⟩
  · intro t ht
    show _ = (if w = 0 then upd (uT u) j v else uT u) t
    by_cases q : w = 0
    · subst q; rw [if_pos rfl, rd_eq]; exact upd_rd h2 j v t ht
    · rw [if_neg q, r _ (by omega)]; exact h2 t ht
  · intro t ht
    show _ = (if w = 1 then upd (uW u) j v else uW u) t
    by_cases q : w = 1
    · subst q; rw [if_pos rfl, rd_eq]; exact upd_rd h3 j v t ht
    · rw [if_neg q, r _ (by omega)]; exact h3 t ht
  · intro t ht
    show _ = (if w = 2 then upd (uC u) j v else uC u) t
    by_cases q : w = 2
    · subst q; rw [if_pos rfl, rd_eq]; exact upd_rd h4 j v t ht
    · rw [if_neg q, r _ (by omega)]; exact h4 t ht
def atL (w : Nat) : Nat := if w = 0 then 0 else if w = 1 then 8 else 13
theorem BuM.lik {M : Mm} {u : Bu} (h : BuM M u) {w : Nat} (hw : w < 3) {j : Nat} (hj : j < lenL w) (v : Int32) : BuM (upi M 51 (atL w + j) v) (likU u w j v) := by
  obtain ⟨h1, h2, h3, h4, h5, h6, h7, h8, h9⟩ := h
  have r : ∀ a, a ≠ 51 → (upi M 51 (atL w + j) v).1 a = M.1 a := fun a q => rd_ne q
  refine ⟨fun t ht => by rw [r 50 (by decide)]; exact h1 t ht, ?_, ?_, ?_, by rw [r 49 (by decide)]; exact h5, by rw [r 52 (by decide)]; exact h6, by rw [r 52 (by decide)]; exact h7, by rw [r 49 (by decide)]; exact h8, fun e he => by rw [r 53 (by decide), r 54 (by decide), r 55 (by decide)]; exact h9 e he⟩
  · intro t ht
    show _ = (if w = 0 then upd (uT u) j v else uT u) t
    rw [rd_eq]
    match w, hw with
    | 0, _ => simp only [if_true, atL, upd, Nat.zero_add]; split; rfl; exact h2 t ht
    | 1, _ => have q : ¬ t = 8 + j := by omega
              simp only [atL, upd, Nat.one_ne_zero, if_false, if_true, q]; exact h2 t ht
    | 2, _ => have q : ¬ t = 13 + j := by omega
              simp [atL, upd, q]; exact h2 t ht
  · intro t ht
    show _ = (if w = 1 then upd (uW u) j v else uW u) t
    rw [rd_eq]
    match w, hw with
    | 0, _ => have q : ¬ 8 + t = j := by have : j < 8 := hj; omega
              simp [atL, upd, q]; exact h3 t ht
    | 1, _ => by_cases q : t = j
              · simp [atL, upd, q]
              · simp [atL, upd, q]; exact h3 t ht
    | 2, _ => have q : ¬ 8 + t = 13 + j := by omega
              simp [atL, upd, q]; exact h3 t ht
  · intro t ht
    show _ = (if w = 2 then upd (uC u) j v else uC u) t
    rw [rd_eq]
    match w, hw with
    | 0, _ => have q : ¬ 13 + t = j := by have : j < 8 := hj; omega
              simp [atL, upd, q]; exact h4 t ht
    | 1, _ => have q : ¬ 13 + t = 8 + j := by have : j < 5 := hj; omega
              simp [atL, upd, q]; exact h4 t ht
    | 2, _ => by_cases q : t = j
              · simp [atL, upd, q]
              · simp [atL, upd, q]; exact h4 t ht
theorem likU_ok {u : Bu} {w j : Nat} {v : Int32} (h : BuOk u) (hv : -9 ≤ v.toInt ∧ v.toInt ≤ 9) : BuOk (likU u w j v) := by
  obtain ⟨h1, h2, h3, h4, h5, h6, h7, h8⟩ := h
  have z : ∀ (f : Nat → Int32) n, Lik9 f n → Lik9 (upd f j v) n := fun f n q t ht => by
    unfold upd
    split
    · exact hv
    · exact q t ht
  refine ⟨h1, h2, h3, ?_, ?_, ?_, h7, h8⟩
  · show Lik9 (if w = 0 then upd (uT u) j v else uT u) 8
    split
    · exact z _ _ h4
    · exact h4
  · show Lik9 (if w = 1 then upd (uW u) j v else uW u) 5
    split
    · exact z _ _ h5
    · exact h5
  · show Lik9 (if w = 2 then upd (uC u) j v else uC u) 4
    split
    · exact z _ _ h6
    · exact h6
theorem lenL_le (w : Nat) : lenL w ≤ 8 ∧ 0 < lenL w := by
  unfold lenL
  split
  · omega
  · split <;> omega
theorem inI_9 {v : Int32} : inI v (-9) 9 = (decide (-9 ≤ v) && decide (v ≤ 9)) := rfl
set_option maxRecDepth 20000 in
theorem c_like {G : Gt} {d : Nat} {M : Mm} (hG : gS G = SHAPE) {g : Sg} (hC : CompIs M g) (hg : SgOk g) (a0 b0 v : Int32) : ExI G (d + 2) mX6_like [.ref 0, .int a0, .int b0, .int v] M (fun r M' => r = (A_like g a0 b0 v).1 ∧ CompIs M' (A_like g a0 b0 v).2 ∧ MSame M M') := by
  refine Ex.of (by decide) (Nat.le_of_ble_eq_true rfl) ?_
  show Go G (d + 2) mX6_like 0 [some (.ref 0), some (.int a0), some (.int b0), some (.int v), none, none] [] M _
  by_cases hgd : ((inb a0 3 && inI v (-9) 9) && inb b0 (nI (lenL (tN a0)))) = true
  · rw [Bool.and_eq_true, Bool.and_eq_true] at hgd
    obtain ⟨w, hw, ew⟩ := inb_ex (n := 3) hgd.1.1 (by decide)
    subst ew
    have h23 := hgd.2
    rw [tN_nI (by omega)] at h23
    obtain ⟨j, hj, ej⟩ := inb_ex h23 (by have := lenL_le w; omega)
    subst ej
    have hv := hgd.1.2
    rw [inI_9, Bool.and_eq_true] at hv
    have hv1 := of_decide_eq_true hv.1
    have hv2 := of_decide_eq_true hv.2
    have hA0 : A_like g (nI w) (nI j) v = (getL (gU g) w j, setU g (likU (gU g) w j v)) := by
      have h9 : A_like g (nI w) (nI j) v = _ := if_pos (by rw [hgd.1.1, hgd.1.2, hgd.2]; rfl)
      rw [tN_nI (by omega), tN_nI (by have := lenL_le w; omega)] at h9
      exact h9
    rw [hA0]
    clear hA0
    obtain hw0 | hw0 | hw0 : w = 0 ∨ w = 1 ∨ w = 2 := by omega
    · subst hw0
      have hj8 : j < 8 := hj
      refine Go.iload_n dX6_like_0 rfl ?_
      refine Go.iconst (v := 3) dX6_like_1 (by decide) ?_
      refine Go.callSI [] dX6_like_2 lkX6_58 stX6_isBelow cbX6_isBelow (s_isBelow (nI 0) 3) rfl rfl (Nat.le_of_ble_eq_true rfl) (fun r1 M2 hr1 => ?_)
      obtain ⟨er1, emr1⟩ := hr1
      rw [emr1]
      clear emr1 M2
      subst er1
      refine Go.eqI (y := 1) (by decide) ?_
      refine Go.if_eq 20 dX6_like_5 rfl (fun h5 => absurd h5 (by decide)) (fun _ => ?_)
      refine Go.iload_n dX6_like_8 rfl ?_
      refine Go.bipush (v := -9) dX6_like_9 (by decide) ?_
      refine Go.icmp_lt 20 dX6_like_11 rfl (fun h11 => absurd h11 (i_le_n hv1)) (fun _ => ?_)
      refine Go.iload_n dX6_like_14 rfl ?_
      refine Go.bipush (v := 9) dX6_like_15 (by decide) ?_
      refine Go.icmp_le 27 dX6_like_17 rfl (fun _ => ?_) (fun h17 => absurd (hv2) h17)
      refine Go.aload_n dX6_like_27 rfl ?_
      refine Go.getR dX6_like_28 flX6_12 (shp hG rfl) rfl ?_
      refine Go.iload_n dX6_like_31 rfl ?_
      refine Go.callVR [] dX6_like_32 lkX6_70 imX1_likedOf seX1_likedOf cbX1_likedOf (s_likedOf1 hG (w := 0) (by decide)) (shp hG rfl) rfl rfl rfl (Nat.le_of_ble_eq_true rfl) (fun r3 M4 hr3 => ?_)
      obtain ⟨rfl, emr3⟩ := hr3
      rw [emr3]
      clear emr3 M4
      refine Go.astore (ls' := [some (.ref 0), some (.int (nI 0)), some (.int (nI j)), some (.int v), some (.ref 3), none]) dX6_like_35 (Nat.le_of_ble_eq_true rfl) rfl rfl ?_
      refine Go.iload_n dX6_like_37 rfl ?_
      refine Go.aload dX6_like_38 rfl ?_
      refine Go.alenI (v := 8) dX6_like_40 (shp hG rfl) (by decide) ?_
      refine Go.callSI [] dX6_like_41 lkX6_58 stX6_isBelow cbX6_isBelow (s_isBelow (nI j) 8) rfl rfl (Nat.le_of_ble_eq_true rfl) (fun r5 M6 hr5 => ?_)
      obtain ⟨er5, emr5⟩ := hr5
      rw [emr5]
      clear emr5 M6
      subst er5
      refine Go.eqI (y := 1) (by rw [show inb (nI j) 8 = decide (j < 8) from inb_nI (by omega) (by decide), decide_eq_true (by omega)]; rfl) ?_
      refine Go.if_ne 54 dX6_like_44 rfl (fun _ => ?_) (fun h44 => absurd h44 (by decide))
      refine Go.aload dX6_like_54 rfl ?_
      refine Go.iload_n dX6_like_56 rfl ?_
      refine Go.iald dX6_like_57 (shp hG rfl) (vin (by omega) (by decide)) ?_
      refine Go.nmI (fun x7 ex7 => ?_)
      refine Go.istore (ls' := [some (.ref 0), some (.int (nI 0)), some (.int (nI j)), some (.int v), some (.ref 3), some (.int x7)]) dX6_like_58 (Nat.le_of_ble_eq_true rfl) rfl rfl ?_
      refine Go.aload dX6_like_60 rfl ?_
      refine Go.iload_n dX6_like_62 rfl ?_
      refine Go.iload_n dX6_like_63 rfl ?_
      refine Go.iast dX6_like_64 (shp hG rfl) (vin (by omega) (by decide)) ?_
      refine Go.nmM (fun N8 eN8 => ?_)
      refine Go.iload dX6_like_65 rfl ?_
      refine Go.iret dX6_like_67 rfl rfl ?_
      subst ex7
      rw [eN8, ncl (by omega)]
      exact ⟨_, rfl, hC.1.2.1 j hj8, hC.setU (hC.1.lik (w := 0) (by decide) j v) (Same.upi _ 3 _ _ (by decide))⟩
    · subst hw0
      have hj8 : j < 5 := hj
      refine Go.iload_n dX6_like_0 rfl ?_
      refine Go.iconst (v := 3) dX6_like_1 (by decide) ?_
      refine Go.callSI [] dX6_like_2 lkX6_58 stX6_isBelow cbX6_isBelow (s_isBelow (nI 1) 3) rfl rfl (Nat.le_of_ble_eq_true rfl) (fun r9 M10 hr9 => ?_)
      obtain ⟨er9, emr9⟩ := hr9
      rw [emr9]
      clear emr9 M10
      subst er9
      refine Go.eqI (y := 1) (by decide) ?_
      refine Go.if_eq 20 dX6_like_5 rfl (fun h5 => absurd h5 (by decide)) (fun _ => ?_)
      refine Go.iload_n dX6_like_8 rfl ?_
      refine Go.bipush (v := -9) dX6_like_9 (by decide) ?_
      refine Go.icmp_lt 20 dX6_like_11 rfl (fun h11 => absurd h11 (i_le_n hv1)) (fun _ => ?_)
      refine Go.iload_n dX6_like_14 rfl ?_
      refine Go.bipush (v := 9) dX6_like_15 (by decide) ?_
      refine Go.icmp_le 27 dX6_like_17 rfl (fun _ => ?_) (fun h17 => absurd (hv2) h17)
      refine Go.aload_n dX6_like_27 rfl ?_
      refine Go.getR dX6_like_28 flX6_12 (shp hG rfl) rfl ?_
      refine Go.iload_n dX6_like_31 rfl ?_
      refine Go.callVR [] dX6_like_32 lkX6_70 imX1_likedOf seX1_likedOf cbX1_likedOf (s_likedOf1 hG (w := 1) (by decide)) (shp hG rfl) rfl rfl rfl (Nat.le_of_ble_eq_true rfl) (fun r11 M12 hr11 => ?_)
      obtain ⟨rfl, emr11⟩ := hr11
      rw [emr11]
      clear emr11 M12
      refine Go.astore (ls' := [some (.ref 0), some (.int (nI 1)), some (.int (nI j)), some (.int v), some (.ref 4), none]) dX6_like_35 (Nat.le_of_ble_eq_true rfl) rfl rfl ?_
      refine Go.iload_n dX6_like_37 rfl ?_
      refine Go.aload dX6_like_38 rfl ?_
      refine Go.alenI (v := 5) dX6_like_40 (shp hG rfl) (by decide) ?_
      refine Go.callSI [] dX6_like_41 lkX6_58 stX6_isBelow cbX6_isBelow (s_isBelow (nI j) 5) rfl rfl (Nat.le_of_ble_eq_true rfl) (fun r13 M14 hr13 => ?_)
      obtain ⟨er13, emr13⟩ := hr13
      rw [emr13]
      clear emr13 M14
      subst er13
      refine Go.eqI (y := 1) (by rw [show inb (nI j) 5 = decide (j < 5) from inb_nI (by omega) (by decide), decide_eq_true (by omega)]; rfl) ?_
      refine Go.if_ne 54 dX6_like_44 rfl (fun _ => ?_) (fun h44 => absurd h44 (by decide))
      refine Go.aload dX6_like_54 rfl ?_
      refine Go.iload_n dX6_like_56 rfl ?_
      refine Go.iald dX6_like_57 (shp hG rfl) (vin (by omega) (by decide)) ?_
      refine Go.nmI (fun x15 ex15 => ?_)
      refine Go.istore (ls' := [some (.ref 0), some (.int (nI 1)), some (.int (nI j)), some (.int v), some (.ref 4), some (.int x15)]) dX6_like_58 (Nat.le_of_ble_eq_true rfl) rfl rfl ?_
      refine Go.aload dX6_like_60 rfl ?_
      refine Go.iload_n dX6_like_62 rfl ?_
      refine Go.iload_n dX6_like_63 rfl ?_
      refine Go.iast dX6_like_64 (shp hG rfl) (vin (by omega) (by decide)) ?_
      refine Go.nmM (fun N16 eN16 => ?_)
      refine Go.iload dX6_like_65 rfl ?_
      refine Go.iret dX6_like_67 rfl rfl ?_
      subst ex15
      rw [eN16, ncl (by omega)]
      exact ⟨_, rfl, hC.1.2.2.1 j hj8, hC.setU (hC.1.lik (w := 1) (by decide) j v) (Same.upi _ 4 _ _ (by decide))⟩
    · subst hw0
      have hj8 : j < 4 := hj
      refine Go.iload_n dX6_like_0 rfl ?_
      refine Go.iconst (v := 3) dX6_like_1 (by decide) ?_
      refine Go.callSI [] dX6_like_2 lkX6_58 stX6_isBelow cbX6_isBelow (s_isBelow (nI 2) 3) rfl rfl (Nat.le_of_ble_eq_true rfl) (fun r17 M18 hr17 => ?_)
      obtain ⟨er17, emr17⟩ := hr17
      rw [emr17]
      clear emr17 M18
      subst er17
      refine Go.eqI (y := 1) (by decide) ?_
      refine Go.if_eq 20 dX6_like_5 rfl (fun h5 => absurd h5 (by decide)) (fun _ => ?_)
      refine Go.iload_n dX6_like_8 rfl ?_
      refine Go.bipush (v := -9) dX6_like_9 (by decide) ?_
      refine Go.icmp_lt 20 dX6_like_11 rfl (fun h11 => absurd h11 (i_le_n hv1)) (fun _ => ?_)
      refine Go.iload_n dX6_like_14 rfl ?_
      refine Go.bipush (v := 9) dX6_like_15 (by decide) ?_
      refine Go.icmp_le 27 dX6_like_17 rfl (fun _ => ?_) (fun h17 => absurd (hv2) h17)
      refine Go.aload_n dX6_like_27 rfl ?_
      refine Go.getR dX6_like_28 flX6_12 (shp hG rfl) rfl ?_
      refine Go.iload_n dX6_like_31 rfl ?_
      refine Go.callVR [] dX6_like_32 lkX6_70 imX1_likedOf seX1_likedOf cbX1_likedOf (s_likedOf1 hG (w := 2) (by decide)) (shp hG rfl) rfl rfl rfl (Nat.le_of_ble_eq_true rfl) (fun r19 M20 hr19 => ?_)
      obtain ⟨rfl, emr19⟩ := hr19
      rw [emr19]
      clear emr19 M20
      refine Go.astore (ls' := [some (.ref 0), some (.int (nI 2)), some (.int (nI j)), some (.int v), some (.ref 5), none]) dX6_like_35 (Nat.le_of_ble_eq_true rfl) rfl rfl ?_
      refine Go.iload_n dX6_like_37 rfl ?_
      refine Go.aload dX6_like_38 rfl ?_
      refine Go.alenI (v := 4) dX6_like_40 (shp hG rfl) (by decide) ?_
      refine Go.callSI [] dX6_like_41 lkX6_58 stX6_isBelow cbX6_isBelow (s_isBelow (nI j) 4) rfl rfl (Nat.le_of_ble_eq_true rfl) (fun r21 M22 hr21 => ?_)
      obtain ⟨er21, emr21⟩ := hr21
      rw [emr21]
      clear emr21 M22
      subst er21
      refine Go.eqI (y := 1) (by rw [show inb (nI j) 4 = decide (j < 4) from inb_nI (by omega) (by decide), decide_eq_true (by omega)]; rfl) ?_
      refine Go.if_ne 54 dX6_like_44 rfl (fun _ => ?_) (fun h44 => absurd h44 (by decide))
      refine Go.aload dX6_like_54 rfl ?_
      refine Go.iload_n dX6_like_56 rfl ?_
      refine Go.iald dX6_like_57 (shp hG rfl) (vin (by omega) (by decide)) ?_
      refine Go.nmI (fun x23 ex23 => ?_)
      refine Go.istore (ls' := [some (.ref 0), some (.int (nI 2)), some (.int (nI j)), some (.int v), some (.ref 5), some (.int x23)]) dX6_like_58 (Nat.le_of_ble_eq_true rfl) rfl rfl ?_
      refine Go.aload dX6_like_60 rfl ?_
      refine Go.iload_n dX6_like_62 rfl ?_
      refine Go.iload_n dX6_like_63 rfl ?_
      refine Go.iast dX6_like_64 (shp hG rfl) (vin (by omega) (by decide)) ?_
      refine Go.nmM (fun N24 eN24 => ?_)
      refine Go.iload dX6_like_65 rfl ?_
      refine Go.iret dX6_like_67 rfl rfl ?_
      subst ex23
      rw [eN24, ncl (by omega)]
      exact ⟨_, rfl, hC.1.2.2.2.1 j hj8, hC.setU (hC.1.lik (w := 2) (by decide) j v) (Same.upi _ 5 _ _ (by decide))⟩
  · refine Go.iload_n dX6_like_0 rfl ?_
    refine Go.iconst (v := 3) dX6_like_1 (by decide) ?_
    refine Go.callSI [] dX6_like_2 lkX6_58 stX6_isBelow cbX6_isBelow (s_isBelow a0 3) rfl rfl (Nat.le_of_ble_eq_true rfl) (fun r1 M2 hr1 => ?_)
    obtain ⟨er1, emr1⟩ := hr1
    rw [emr1]
    clear emr1 M2
    subst er1
    refine Go.if_eq 20 dX6_like_5 rfl (fun h5 => ?_) (fun h5 => ?_)
    · refine Go.aload_n dX6_like_20 rfl ?_
      refine Go.ldc dX6_like_21 kcX6_62 ?_
      refine Go.callVI [] dX6_like_23 lkX6_63 imX6_finding seX6_finding cbX6_finding (s_finding hG (code := (-1000000001)) (q := 0) (by decide) (by decide)) (shp hG rfl) rfl rfl rfl (Nat.le_of_ble_eq_true rfl) (fun r3 M4 hr3 => ?_)
      refine Go.iret dX6_like_26 rfl rfl ?_
      refine ⟨_, rfl, ?_⟩
      rw [show A_like g a0 b0 v = (-1000000001, fndS g 0) from if_neg hgd, hr3.2]
      exact ⟨hr3.1, hC.fnd⟩
    · refine Go.iload_n dX6_like_8 rfl ?_
      refine Go.bipush (v := -9) dX6_like_9 (by decide) ?_
      refine Go.icmp_lt 20 dX6_like_11 rfl (fun h11 => ?_) (fun h11 => ?_)
      · refine Go.aload_n dX6_like_20 rfl ?_
        refine Go.ldc dX6_like_21 kcX6_62 ?_
        refine Go.callVI [] dX6_like_23 lkX6_63 imX6_finding seX6_finding cbX6_finding (s_finding hG (code := (-1000000001)) (q := 0) (by decide) (by decide)) (shp hG rfl) rfl rfl rfl (Nat.le_of_ble_eq_true rfl) (fun r5 M6 hr5 => ?_)
        refine Go.iret dX6_like_26 rfl rfl ?_
        refine ⟨_, rfl, ?_⟩
        rw [show A_like g a0 b0 v = (-1000000001, fndS g 0) from if_neg hgd, hr5.2]
        exact ⟨hr5.1, hC.fnd⟩
      · refine Go.iload_n dX6_like_14 rfl ?_
        refine Go.bipush (v := 9) dX6_like_15 (by decide) ?_
        refine Go.icmp_le 27 dX6_like_17 rfl (fun h17 => ?_) (fun h17 => ?_)
        · refine Go.aload_n dX6_like_27 rfl ?_
          refine Go.getR dX6_like_28 flX6_12 (shp hG rfl) rfl ?_
          obtain ⟨w, hw, ew⟩ := inb_ex (n := 3) (bi_n0.mp h5) (by decide)
          subst ew
          obtain hw0 | hw0 | hw0 : w = 0 ∨ w = 1 ∨ w = 2 := by omega
          · subst hw0
            refine Go.iload_n dX6_like_31 rfl ?_
            refine Go.callVR [] dX6_like_32 lkX6_70 imX1_likedOf seX1_likedOf cbX1_likedOf (s_likedOf1 hG (w := 0) (by decide)) (shp hG rfl) rfl rfl rfl (Nat.le_of_ble_eq_true rfl) (fun r7 M8 hr7 => ?_)
            obtain ⟨rfl, emr7⟩ := hr7
            rw [emr7]
            clear emr7 M8
            refine Go.astore (ls' := [some (.ref 0), some (.int (nI 0)), some (.int b0), some (.int v), some (.ref 3), none]) dX6_like_35 (Nat.le_of_ble_eq_true rfl) rfl rfl ?_
            refine Go.iload_n dX6_like_37 rfl ?_
            refine Go.aload dX6_like_38 rfl ?_
            refine Go.alenI (v := 8) dX6_like_40 (shp hG rfl) (by decide) ?_
            refine Go.callSI [] dX6_like_41 lkX6_58 stX6_isBelow cbX6_isBelow (s_isBelow b0 8) rfl rfl (Nat.le_of_ble_eq_true rfl) (fun r9 M10 hr9 => ?_)
            obtain ⟨er9, emr9⟩ := hr9
            rw [emr9]
            clear emr9 M10
            subst er9
            refine Go.if_ne 54 dX6_like_44 rfl (fun h44 => ?_) (fun h44 => ?_)
            · exact absurd (by rw [bi_n0.mp h5, inI_9, decide_eq_true (i_nlt h11), decide_eq_true h17]; exact bi_n0.mp h44) hgd
            · refine Go.aload_n dX6_like_47 rfl ?_
              refine Go.ldc dX6_like_48 kcX6_62 ?_
              refine Go.callVI [] dX6_like_50 lkX6_63 imX6_finding seX6_finding cbX6_finding (s_finding hG (code := (-1000000001)) (q := 0) (by decide) (by decide)) (shp hG rfl) rfl rfl rfl (Nat.le_of_ble_eq_true rfl) (fun r11 M12 hr11 => ?_)
              refine Go.iret dX6_like_53 rfl rfl ?_
              refine ⟨_, rfl, ?_⟩
              rw [show A_like g (nI 0) b0 v = (-1000000001, fndS g 0) from if_neg hgd, hr11.2]
              exact ⟨hr11.1, hC.fnd⟩
          · subst hw0
            refine Go.iload_n dX6_like_31 rfl ?_
            refine Go.callVR [] dX6_like_32 lkX6_70 imX1_likedOf seX1_likedOf cbX1_likedOf (s_likedOf1 hG (w := 1) (by decide)) (shp hG rfl) rfl rfl rfl (Nat.le_of_ble_eq_true rfl) (fun r13 M14 hr13 => ?_)
            obtain ⟨rfl, emr13⟩ := hr13
            rw [emr13]
            clear emr13 M14
            refine Go.astore (ls' := [some (.ref 0), some (.int (nI 1)), some (.int b0), some (.int v), some (.ref 4), none]) dX6_like_35 (Nat.le_of_ble_eq_true rfl) rfl rfl ?_
            refine Go.iload_n dX6_like_37 rfl ?_
            refine Go.aload dX6_like_38 rfl ?_
            refine Go.alenI (v := 5) dX6_like_40 (shp hG rfl) (by decide) ?_
            refine Go.callSI [] dX6_like_41 lkX6_58 stX6_isBelow cbX6_isBelow (s_isBelow b0 5) rfl rfl (Nat.le_of_ble_eq_true rfl) (fun r15 M16 hr15 => ?_)
            obtain ⟨er15, emr15⟩ := hr15
            rw [emr15]
            clear emr15 M16
            subst er15
            refine Go.if_ne 54 dX6_like_44 rfl (fun h44 => ?_) (fun h44 => ?_)
            · exact absurd (by rw [bi_n0.mp h5, inI_9, decide_eq_true (i_nlt h11), decide_eq_true h17]; exact bi_n0.mp h44) hgd
            · refine Go.aload_n dX6_like_47 rfl ?_
              refine Go.ldc dX6_like_48 kcX6_62 ?_
              refine Go.callVI [] dX6_like_50 lkX6_63 imX6_finding seX6_finding cbX6_finding (s_finding hG (code := (-1000000001)) (q := 0) (by decide) (by decide)) (shp hG rfl) rfl rfl rfl (Nat.le_of_ble_eq_true rfl) (fun r17 M18 hr17 => ?_)
              refine Go.iret dX6_like_53 rfl rfl ?_
              refine ⟨_, rfl, ?_⟩
              rw [show A_like g (nI 1) b0 v = (-1000000001, fndS g 0) from if_neg hgd, hr17.2]
              exact ⟨hr17.1, hC.fnd⟩
          · subst hw0
            refine Go.iload_n dX6_like_31 rfl ?_
            refine Go.callVR [] dX6_like_32 lkX6_70 imX1_likedOf seX1_likedOf cbX1_likedOf (s_likedOf1 hG (w := 2) (by decide)) (shp hG rfl) rfl rfl rfl (Nat.le_of_ble_eq_true rfl) (fun r19 M20 hr19 => ?_)
            obtain ⟨rfl, emr19⟩ := hr19
            rw [emr19]
            clear emr19 M20
            refine Go.astore (ls' := [some (.ref 0), some (.int (nI 2)), some (.int b0), some (.int v), some (.ref 5), none]) dX6_like_35 (Nat.le_of_ble_eq_true rfl) rfl rfl ?_
            refine Go.iload_n dX6_like_37 rfl ?_
            refine Go.aload dX6_like_38 rfl ?_
            refine Go.alenI (v := 4) dX6_like_40 (shp hG rfl) (by decide) ?_
            refine Go.callSI [] dX6_like_41 lkX6_58 stX6_isBelow cbX6_isBelow (s_isBelow b0 4) rfl rfl (Nat.le_of_ble_eq_true rfl) (fun r21 M22 hr21 => ?_)
            obtain ⟨er21, emr21⟩ := hr21
            rw [emr21]
            clear emr21 M22
            subst er21
            refine Go.if_ne 54 dX6_like_44 rfl (fun h44 => ?_) (fun h44 => ?_)
            · exact absurd (by rw [bi_n0.mp h5, inI_9, decide_eq_true (i_nlt h11), decide_eq_true h17]; exact bi_n0.mp h44) hgd
            · refine Go.aload_n dX6_like_47 rfl ?_
              refine Go.ldc dX6_like_48 kcX6_62 ?_
              refine Go.callVI [] dX6_like_50 lkX6_63 imX6_finding seX6_finding cbX6_finding (s_finding hG (code := (-1000000001)) (q := 0) (by decide) (by decide)) (shp hG rfl) rfl rfl rfl (Nat.le_of_ble_eq_true rfl) (fun r23 M24 hr23 => ?_)
              refine Go.iret dX6_like_53 rfl rfl ?_
              refine ⟨_, rfl, ?_⟩
              rw [show A_like g (nI 2) b0 v = (-1000000001, fndS g 0) from if_neg hgd, hr23.2]
              exact ⟨hr23.1, hC.fnd⟩
        · refine Go.aload_n dX6_like_20 rfl ?_
          refine Go.ldc dX6_like_21 kcX6_62 ?_
          refine Go.callVI [] dX6_like_23 lkX6_63 imX6_finding seX6_finding cbX6_finding (s_finding hG (code := (-1000000001)) (q := 0) (by decide) (by decide)) (shp hG rfl) rfl rfl rfl (Nat.le_of_ble_eq_true rfl) (fun r25 M26 hr25 => ?_)
          refine Go.iret dX6_like_26 rfl rfl ?_
          refine ⟨_, rfl, ?_⟩
          rw [show A_like g a0 b0 v = (-1000000001, fndS g 0) from if_neg hgd, hr25.2]
          exact ⟨hr25.1, hC.fnd⟩
theorem in3 {a : Int32} : inI a 0 2 = inb a 3 := by
  unfold inI inb
  congr 1
  rw [Bool.eq_iff_iff, decide_eq_true_eq, decide_eq_true_eq, i_le, i_lt]
  have e1 : (2 : Int32).toInt = 2 := by decide
  have e2 : (3 : Int32).toInt = 3 := by decide
  omega
theorem like_in {a b v : Int32} (h1 : inI a 0 2 = true) (h2 : inI b 0 (if a = 0 then 7 else if a = 1 then 4 else 3) = true) (h3 : inI v (-9) 9 = true) : ((inb a 3 && inI v (-9) 9) && inb b (nI (lenL (tN a)))) = true := by
  rw [in3] at h1
  rw [h1, h3]
  obtain ⟨w, hw, ew⟩ := inb_ex (n := 3) h1 (by decide)
  subst ew
  rw [tN_nI (by omega)]
  match w, hw with
  | 0, _ => rw [if_pos (by decide)] at h2; rw [inI_inb] at h2; exact h2
  | 1, _ => rw [if_neg (by decide), if_pos (by decide)] at h2; rw [inI_five] at h2; exact h2
  | 2, _ => rw [if_neg (by decide), if_neg (by decide)] at h2; rw [inI_four] at h2; exact h2
set_option maxRecDepth 20000 in
theorem m_like {G : Gt} {d : Nat} {M : Mm} (hG : gS G = SHAPE) {g : Sg} (hC : ModIs M g) (hg : SgOk g) (a0 b0 v : Int32) : ExI G (d + 2) mX7_like [.ref 49, .int a0, .int b0, .int v] M (fun r M' => r = (A_like g a0 b0 v).1 ∧ ModIs M' (A_like g a0 b0 v).2 ∧ CSame M M') := by
  refine Ex.of (by decide) (Nat.le_of_ble_eq_true rfl) ?_
  show Go G (d + 2) mX7_like 0 [some (.ref 49), some (.int a0), some (.int b0), some (.int v), none, none] [] M _
  by_cases hgd : ((inb a0 3 && inI v (-9) 9) && inb b0 (nI (lenL (tN a0)))) = true
  · rw [Bool.and_eq_true, Bool.and_eq_true] at hgd
    obtain ⟨w, hw, ew⟩ := inb_ex (n := 3) hgd.1.1 (by decide)
    subst ew
    have h23 := hgd.2
    rw [tN_nI (by omega)] at h23
    obtain ⟨j, hj, ej⟩ := inb_ex h23 (by have := lenL_le w; omega)
    subst ej
    have hv := hgd.1.2
    rw [inI_9, Bool.and_eq_true] at hv
    have hv1 := of_decide_eq_true hv.1
    have hv2 := of_decide_eq_true hv.2
    have hA0 : A_like g (nI w) (nI j) v = (getL (gU g) w j, setU g (likU (gU g) w j v)) := by
      have h9 : A_like g (nI w) (nI j) v = _ := if_pos (by rw [hgd.1.1, hgd.1.2, hgd.2]; rfl)
      rw [tN_nI (by omega), tN_nI (by have := lenL_le w; omega)] at h9
      exact h9
    rw [hA0]
    clear hA0
    obtain hw0 | hw0 | hw0 : w = 0 ∨ w = 1 ∨ w = 2 := by omega
    · subst hw0
      have hj8 : j < 8 := hj
      refine Go.iload_n dX7_like_0 rfl ?_
      refine Go.iconst (v := 0) dX7_like_1 (by decide) ?_
      refine Go.iconst (v := 2) dX7_like_2 (by decide) ?_
      refine Go.callSI [] dX7_like_3 lkX7_86 stX7_in cbX7_in (m_in (nI 0) 0 2) rfl rfl (Nat.le_of_ble_eq_true rfl) (fun r1 M2 hr1 => ?_)
      obtain ⟨er1, emr1⟩ := hr1
      rw [emr1]
      clear emr1 M2
      subst er1
      refine Go.eqI (y := 1) (by decide) ?_
      refine Go.if_eq 32 dX7_like_6 rfl (fun h6 => absurd h6 (by decide)) (fun _ => ?_)
      refine Go.iload_n dX7_like_9 rfl ?_
      refine Go.iconst (v := 0) dX7_like_10 (by decide) ?_
      refine Go.iload_n dX7_like_11 rfl ?_
      refine Go.callSI [.int 0, .int (nI j)] dX7_like_12 lkX7_107 stX7_mostOf cbX7_mostOf (m_mostOf (nI 0)) rfl rfl (Nat.le_of_ble_eq_true rfl) (fun r3 M4 hr3 => ?_)
      obtain ⟨er3, emr3⟩ := hr3
      rw [emr3]
      clear emr3 M4
      subst er3
      refine Go.eqI (y := 7) (by decide) ?_
      refine Go.callSI [] dX7_like_15 lkX7_86 stX7_in cbX7_in (m_in (nI j) 0 7) rfl rfl (Nat.le_of_ble_eq_true rfl) (fun r5 M6 hr5 => ?_)
      obtain ⟨er5, emr5⟩ := hr5
      rw [emr5]
      clear emr5 M6
      subst er5
      refine Go.eqI (y := 1) (by rw [show inI (nI j) 0 7 = true from inI_lo (N := 7) (by omega) (by decide)]; rfl) ?_
      refine Go.if_eq 32 dX7_like_18 rfl (fun h18 => absurd h18 (by decide)) (fun _ => ?_)
      refine Go.iload_n dX7_like_21 rfl ?_
      refine Go.bipush (v := -9) dX7_like_22 (by decide) ?_
      refine Go.bipush (v := 9) dX7_like_24 (by decide) ?_
      refine Go.callSI [] dX7_like_26 lkX7_86 stX7_in cbX7_in (m_in v ((-9)) 9) rfl rfl (Nat.le_of_ble_eq_true rfl) (fun r7 M8 hr7 => ?_)
      obtain ⟨er7, emr7⟩ := hr7
      rw [emr7]
      clear emr7 M8
      subst er7
      refine Go.eqI (y := 1) (by rw [hgd.1.2]; rfl) ?_
      refine Go.if_ne 39 dX7_like_29 rfl (fun _ => ?_) (fun h29 => absurd h29 (by decide))
      refine Go.iload_n dX7_like_39 rfl ?_
      refine Go.iload_n dX7_like_40 rfl ?_
      refine Go.callSI [] dX7_like_41 lkX7_110 stX7_likedAt cbX7_likedAt (m_likedAt (nI 0) (nI j)) rfl rfl (Nat.le_of_ble_eq_true rfl) (fun r9 M10 hr9 => ?_)
      obtain ⟨er9, emr9⟩ := hr9
      rw [emr9]
      clear emr9 M10
      subst er9
      refine Go.eqI (y := nI (0 + j)) (by rw [if_pos (by decide), Nat.zero_add]) ?_
      refine Go.istore (ls' := [some (.ref 49), some (.int (nI 0)), some (.int (nI j)), some (.int v), some (.int (nI (0 + j))), none]) dX7_like_44 (Nat.le_of_ble_eq_true rfl) rfl rfl ?_
      refine Go.aload_n dX7_like_46 rfl ?_
      refine Go.getR dX7_like_47 flX7_13 (shp hG rfl) rfl ?_
      refine Go.iload dX7_like_50 rfl ?_
      refine Go.iald dX7_like_52 (shp hG rfl) (vin (by omega) (by decide)) ?_
      refine Go.nmI (fun x11 ex11 => ?_)
      refine Go.istore (ls' := [some (.ref 49), some (.int (nI 0)), some (.int (nI j)), some (.int v), some (.int (nI (0 + j))), some (.int x11)]) dX7_like_53 (Nat.le_of_ble_eq_true rfl) rfl rfl ?_
      refine Go.aload_n dX7_like_55 rfl ?_
      refine Go.getR dX7_like_56 flX7_13 (shp hG rfl) rfl ?_
      refine Go.iload dX7_like_59 rfl ?_
      refine Go.iload_n dX7_like_61 rfl ?_
      refine Go.iast dX7_like_62 (shp hG rfl) (vin (by omega) (by decide)) ?_
      refine Go.nmM (fun N12 eN12 => ?_)
      refine Go.iload dX7_like_63 rfl ?_
      refine Go.iret dX7_like_65 rfl rfl ?_
      subst ex11
      rw [eN12, ncl (by omega)]
      exact ⟨_, rfl, by rw [Nat.zero_add]; exact hC.1.2.1 j hj8, hC.setU (hC.1.lik (w := 0) (by decide) hj v) (Same.upi _ 51 _ _ (by decide)) (by rw [rd_ne (by decide)]) (by rw [rd_ne (by decide)])⟩
    · subst hw0
      have hj8 : j < 5 := hj
      refine Go.iload_n dX7_like_0 rfl ?_
      refine Go.iconst (v := 0) dX7_like_1 (by decide) ?_
      refine Go.iconst (v := 2) dX7_like_2 (by decide) ?_
      refine Go.callSI [] dX7_like_3 lkX7_86 stX7_in cbX7_in (m_in (nI 1) 0 2) rfl rfl (Nat.le_of_ble_eq_true rfl) (fun r13 M14 hr13 => ?_)
      obtain ⟨er13, emr13⟩ := hr13
      rw [emr13]
      clear emr13 M14
      subst er13
      refine Go.eqI (y := 1) (by decide) ?_
      refine Go.if_eq 32 dX7_like_6 rfl (fun h6 => absurd h6 (by decide)) (fun _ => ?_)
      refine Go.iload_n dX7_like_9 rfl ?_
      refine Go.iconst (v := 0) dX7_like_10 (by decide) ?_
      refine Go.iload_n dX7_like_11 rfl ?_
      refine Go.callSI [.int 0, .int (nI j)] dX7_like_12 lkX7_107 stX7_mostOf cbX7_mostOf (m_mostOf (nI 1)) rfl rfl (Nat.le_of_ble_eq_true rfl) (fun r15 M16 hr15 => ?_)
      obtain ⟨er15, emr15⟩ := hr15
      rw [emr15]
      clear emr15 M16
      subst er15
      refine Go.eqI (y := 4) (by decide) ?_
      refine Go.callSI [] dX7_like_15 lkX7_86 stX7_in cbX7_in (m_in (nI j) 0 4) rfl rfl (Nat.le_of_ble_eq_true rfl) (fun r17 M18 hr17 => ?_)
      obtain ⟨er17, emr17⟩ := hr17
      rw [emr17]
      clear emr17 M18
      subst er17
      refine Go.eqI (y := 1) (by rw [show inI (nI j) 0 4 = true from inI_lo (N := 4) (by omega) (by decide)]; rfl) ?_
      refine Go.if_eq 32 dX7_like_18 rfl (fun h18 => absurd h18 (by decide)) (fun _ => ?_)
      refine Go.iload_n dX7_like_21 rfl ?_
      refine Go.bipush (v := -9) dX7_like_22 (by decide) ?_
      refine Go.bipush (v := 9) dX7_like_24 (by decide) ?_
      refine Go.callSI [] dX7_like_26 lkX7_86 stX7_in cbX7_in (m_in v ((-9)) 9) rfl rfl (Nat.le_of_ble_eq_true rfl) (fun r19 M20 hr19 => ?_)
      obtain ⟨er19, emr19⟩ := hr19
      rw [emr19]
      clear emr19 M20
      subst er19
      refine Go.eqI (y := 1) (by rw [hgd.1.2]; rfl) ?_
      refine Go.if_ne 39 dX7_like_29 rfl (fun _ => ?_) (fun h29 => absurd h29 (by decide))
      refine Go.iload_n dX7_like_39 rfl ?_
      refine Go.iload_n dX7_like_40 rfl ?_
      refine Go.callSI [] dX7_like_41 lkX7_110 stX7_likedAt cbX7_likedAt (m_likedAt (nI 1) (nI j)) rfl rfl (Nat.le_of_ble_eq_true rfl) (fun r21 M22 hr21 => ?_)
      obtain ⟨er21, emr21⟩ := hr21
      rw [emr21]
      clear emr21 M22
      subst er21
      refine Go.eqI (y := nI (8 + j)) (by rw [if_neg (by decide), if_pos (by decide)]; exact nI_add 8 j) ?_
      refine Go.istore (ls' := [some (.ref 49), some (.int (nI 1)), some (.int (nI j)), some (.int v), some (.int (nI (8 + j))), none]) dX7_like_44 (Nat.le_of_ble_eq_true rfl) rfl rfl ?_
      refine Go.aload_n dX7_like_46 rfl ?_
      refine Go.getR dX7_like_47 flX7_13 (shp hG rfl) rfl ?_
      refine Go.iload dX7_like_50 rfl ?_
      refine Go.iald dX7_like_52 (shp hG rfl) (vin (by omega) (by decide)) ?_
      refine Go.nmI (fun x23 ex23 => ?_)
      refine Go.istore (ls' := [some (.ref 49), some (.int (nI 1)), some (.int (nI j)), some (.int v), some (.int (nI (8 + j))), some (.int x23)]) dX7_like_53 (Nat.le_of_ble_eq_true rfl) rfl rfl ?_
      refine Go.aload_n dX7_like_55 rfl ?_
      refine Go.getR dX7_like_56 flX7_13 (shp hG rfl) rfl ?_
      refine Go.iload dX7_like_59 rfl ?_
      refine Go.iload_n dX7_like_61 rfl ?_
      refine Go.iast dX7_like_62 (shp hG rfl) (vin (by omega) (by decide)) ?_
      refine Go.nmM (fun N24 eN24 => ?_)
      refine Go.iload dX7_like_63 rfl ?_
      refine Go.iret dX7_like_65 rfl rfl ?_
      subst ex23
      rw [eN24, ncl (by omega)]
      exact ⟨_, rfl, by exact hC.1.2.2.1 j hj8, hC.setU (hC.1.lik (w := 1) (by decide) hj v) (Same.upi _ 51 _ _ (by decide)) (by rw [rd_ne (by decide)]) (by rw [rd_ne (by decide)])⟩
    · subst hw0
      have hj8 : j < 4 := hj
      refine Go.iload_n dX7_like_0 rfl ?_
      refine Go.iconst (v := 0) dX7_like_1 (by decide) ?_
      refine Go.iconst (v := 2) dX7_like_2 (by decide) ?_
      refine Go.callSI [] dX7_like_3 lkX7_86 stX7_in cbX7_in (m_in (nI 2) 0 2) rfl rfl (Nat.le_of_ble_eq_true rfl) (fun r25 M26 hr25 => ?_)
      obtain ⟨er25, emr25⟩ := hr25
      rw [emr25]
      clear emr25 M26
      subst er25
      refine Go.eqI (y := 1) (by decide) ?_
      refine Go.if_eq 32 dX7_like_6 rfl (fun h6 => absurd h6 (by decide)) (fun _ => ?_)
      refine Go.iload_n dX7_like_9 rfl ?_
      refine Go.iconst (v := 0) dX7_like_10 (by decide) ?_
      refine Go.iload_n dX7_like_11 rfl ?_
      refine Go.callSI [.int 0, .int (nI j)] dX7_like_12 lkX7_107 stX7_mostOf cbX7_mostOf (m_mostOf (nI 2)) rfl rfl (Nat.le_of_ble_eq_true rfl) (fun r27 M28 hr27 => ?_)
      obtain ⟨er27, emr27⟩ := hr27
      rw [emr27]
      clear emr27 M28
      subst er27
      refine Go.eqI (y := 3) (by decide) ?_
      refine Go.callSI [] dX7_like_15 lkX7_86 stX7_in cbX7_in (m_in (nI j) 0 3) rfl rfl (Nat.le_of_ble_eq_true rfl) (fun r29 M30 hr29 => ?_)
      obtain ⟨er29, emr29⟩ := hr29
      rw [emr29]
      clear emr29 M30
      subst er29
      refine Go.eqI (y := 1) (by rw [show inI (nI j) 0 3 = true from inI_lo (N := 3) (by omega) (by decide)]; rfl) ?_
      refine Go.if_eq 32 dX7_like_18 rfl (fun h18 => absurd h18 (by decide)) (fun _ => ?_)
      refine Go.iload_n dX7_like_21 rfl ?_
      refine Go.bipush (v := -9) dX7_like_22 (by decide) ?_
      refine Go.bipush (v := 9) dX7_like_24 (by decide) ?_
      refine Go.callSI [] dX7_like_26 lkX7_86 stX7_in cbX7_in (m_in v ((-9)) 9) rfl rfl (Nat.le_of_ble_eq_true rfl) (fun r31 M32 hr31 => ?_)
      obtain ⟨er31, emr31⟩ := hr31
      rw [emr31]
      clear emr31 M32
      subst er31
      refine Go.eqI (y := 1) (by rw [hgd.1.2]; rfl) ?_
      refine Go.if_ne 39 dX7_like_29 rfl (fun _ => ?_) (fun h29 => absurd h29 (by decide))
      refine Go.iload_n dX7_like_39 rfl ?_
      refine Go.iload_n dX7_like_40 rfl ?_
      refine Go.callSI [] dX7_like_41 lkX7_110 stX7_likedAt cbX7_likedAt (m_likedAt (nI 2) (nI j)) rfl rfl (Nat.le_of_ble_eq_true rfl) (fun r33 M34 hr33 => ?_)
      obtain ⟨er33, emr33⟩ := hr33
      rw [emr33]
      clear emr33 M34
      subst er33
      refine Go.eqI (y := nI (13 + j)) (by rw [if_neg (by decide), if_neg (by decide)]; exact nI_add 13 j) ?_
      refine Go.istore (ls' := [some (.ref 49), some (.int (nI 2)), some (.int (nI j)), some (.int v), some (.int (nI (13 + j))), none]) dX7_like_44 (Nat.le_of_ble_eq_true rfl) rfl rfl ?_
      refine Go.aload_n dX7_like_46 rfl ?_
      refine Go.getR dX7_like_47 flX7_13 (shp hG rfl) rfl ?_
      refine Go.iload dX7_like_50 rfl ?_
      refine Go.iald dX7_like_52 (shp hG rfl) (vin (by omega) (by decide)) ?_
      refine Go.nmI (fun x35 ex35 => ?_)
      refine Go.istore (ls' := [some (.ref 49), some (.int (nI 2)), some (.int (nI j)), some (.int v), some (.int (nI (13 + j))), some (.int x35)]) dX7_like_53 (Nat.le_of_ble_eq_true rfl) rfl rfl ?_
      refine Go.aload_n dX7_like_55 rfl ?_
      refine Go.getR dX7_like_56 flX7_13 (shp hG rfl) rfl ?_
      refine Go.iload dX7_like_59 rfl ?_
      refine Go.iload_n dX7_like_61 rfl ?_
      refine Go.iast dX7_like_62 (shp hG rfl) (vin (by omega) (by decide)) ?_
      refine Go.nmM (fun N36 eN36 => ?_)
      refine Go.iload dX7_like_63 rfl ?_
      refine Go.iret dX7_like_65 rfl rfl ?_
      subst ex35
      rw [eN36, ncl (by omega)]
      exact ⟨_, rfl, by exact hC.1.2.2.2.1 j hj8, hC.setU (hC.1.lik (w := 2) (by decide) hj v) (Same.upi _ 51 _ _ (by decide)) (by rw [rd_ne (by decide)]) (by rw [rd_ne (by decide)])⟩
  · refine Go.iload_n dX7_like_0 rfl ?_
    refine Go.iconst (v := 0) dX7_like_1 (by decide) ?_
    refine Go.iconst (v := 2) dX7_like_2 (by decide) ?_
    refine Go.callSI [] dX7_like_3 lkX7_86 stX7_in cbX7_in (m_in a0 0 2) rfl rfl (Nat.le_of_ble_eq_true rfl) (fun r1 M2 hr1 => ?_)
    obtain ⟨er1, emr1⟩ := hr1
    rw [emr1]
    clear emr1 M2
    subst er1
    refine Go.if_eq 32 dX7_like_6 rfl (fun h6 => ?_) (fun h6 => ?_)
    · refine Go.aload_n dX7_like_32 rfl ?_
      refine Go.ldc dX7_like_33 kcX7_85 ?_
      refine Go.callVI [] dX7_like_35 lkX7_104 imX7_finds seX7_finds cbX7_finds (m_finds hG (code := (-1000000001)) (q := 0) (by decide) (by decide)) (shp hG rfl) rfl rfl rfl (Nat.le_of_ble_eq_true rfl) (fun r3 M4 hr3 => ?_)
      refine Go.iret dX7_like_38 rfl rfl ?_
      refine ⟨_, rfl, ?_⟩
      rw [show A_like g a0 b0 v = ((-1000000001), fndS g 0) from if_neg hgd, hr3.2]
      exact ⟨hr3.1, hC.fnd⟩
    · refine Go.iload_n dX7_like_9 rfl ?_
      refine Go.iconst (v := 0) dX7_like_10 (by decide) ?_
      refine Go.iload_n dX7_like_11 rfl ?_
      refine Go.callSI [.int 0, .int b0] dX7_like_12 lkX7_107 stX7_mostOf cbX7_mostOf (m_mostOf a0) rfl rfl (Nat.le_of_ble_eq_true rfl) (fun r5 M6 hr5 => ?_)
      obtain ⟨er5, emr5⟩ := hr5
      rw [emr5]
      clear emr5 M6
      subst er5
      refine Go.callSI [] dX7_like_15 lkX7_86 stX7_in cbX7_in (m_in b0 0 ((if a0 = 0 then 7 else if a0 = 1 then 4 else 3))) rfl rfl (Nat.le_of_ble_eq_true rfl) (fun r7 M8 hr7 => ?_)
      obtain ⟨er7, emr7⟩ := hr7
      rw [emr7]
      clear emr7 M8
      subst er7
      refine Go.if_eq 32 dX7_like_18 rfl (fun h18 => ?_) (fun h18 => ?_)
      · refine Go.aload_n dX7_like_32 rfl ?_
        refine Go.ldc dX7_like_33 kcX7_85 ?_
        refine Go.callVI [] dX7_like_35 lkX7_104 imX7_finds seX7_finds cbX7_finds (m_finds hG (code := (-1000000001)) (q := 0) (by decide) (by decide)) (shp hG rfl) rfl rfl rfl (Nat.le_of_ble_eq_true rfl) (fun r9 M10 hr9 => ?_)
        refine Go.iret dX7_like_38 rfl rfl ?_
        refine ⟨_, rfl, ?_⟩
        rw [show A_like g a0 b0 v = ((-1000000001), fndS g 0) from if_neg hgd, hr9.2]
        exact ⟨hr9.1, hC.fnd⟩
      · refine Go.iload_n dX7_like_21 rfl ?_
        refine Go.bipush (v := -9) dX7_like_22 (by decide) ?_
        refine Go.bipush (v := 9) dX7_like_24 (by decide) ?_
        refine Go.callSI [] dX7_like_26 lkX7_86 stX7_in cbX7_in (m_in v ((-9)) 9) rfl rfl (Nat.le_of_ble_eq_true rfl) (fun r11 M12 hr11 => ?_)
        obtain ⟨er11, emr11⟩ := hr11
        rw [emr11]
        clear emr11 M12
        subst er11
        refine Go.if_ne 39 dX7_like_29 rfl (fun h29 => ?_) (fun h29 => ?_)
        · exact absurd (like_in (bi_n0.mp h6) (bi_n0.mp h18) (bi_n0.mp h29)) hgd
        · refine Go.aload_n dX7_like_32 rfl ?_
          refine Go.ldc dX7_like_33 kcX7_85 ?_
          refine Go.callVI [] dX7_like_35 lkX7_104 imX7_finds seX7_finds cbX7_finds (m_finds hG (code := (-1000000001)) (q := 0) (by decide) (by decide)) (shp hG rfl) rfl rfl rfl (Nat.le_of_ble_eq_true rfl) (fun r13 M14 hr13 => ?_)
          refine Go.iret dX7_like_38 rfl rfl ?_
          refine ⟨_, rfl, ?_⟩
          rw [show A_like g a0 b0 v = ((-1000000001), fndS g 0) from if_neg hgd, hr13.2]
          exact ⟨hr13.1, hC.fnd⟩
