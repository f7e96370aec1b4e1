def cntN (p : Nat → Bool) (n : Nat) : Nat := sumN (fun i => if p i then 1 else 0) n
theorem cnt_t {p : Nat → Bool} {i : Nat} (h : p i = true) : nI (cntN p i + 1) = nI (cntN p (i + 1)) := by simp [cntN, sumN, h]
theorem cnt_f {p : Nat → Bool} {i : Nat} (h : p i = false) : nI (cntN p i) = nI (cntN p (i + 1)) := by simp [cntN, sumN, h]
theorem cnt_le (p : Nat → Bool) : ∀ n, cntN p n ≤ n
  | 0 => Nat.le_refl 0
  | n + 1 => by
    have := cnt_le p n
    simp only [cntN, sumN] at this ⊢
    split <;> omega
def guestP (K : Nat → Nat) (e : Nat) : Bool := decide (K e = 2)
def nearP (K X : Nat → Nat) (x : Nat) (m : Int32) (e : Nat) : Bool := !decide (K e = 2) && decide (nearI (nI (X e)) (nI x) ≤ m)
def breachP (K X : Nat → Nat) (ed : Nat) (e : Nat) : Bool := !decide (K e = 2) && (fstF (barB K X ed (X e)) 0 e).isSome
theorem bit_set {x i : Nat} (hx : x < 5120) (hi : i < 31) : bi (bitI (iset (nI x)) (nI i)) = bi ((x / 20).testBit i) := by rw [iset_nI (by omega), bitI_nI (by omega) hi]
def takeF (f : Nat → Int32) (s n : Nat) : Nat → Int32 := fun t => if decide (t < n) && s.testBit t then f t - 1 else f t
def tkM (M : Mm) (k s n : Nat) : Mm := seti M k (takeF (M.1 k) s n)
theorem seti_self (M : Mm) (k : Nat) : seti M k (M.1 k) = M := by
  unfold seti
  congr 1
  funext a
  by_cases h : a = k
  · rw [if_pos h, h]
  · rw [if_neg h]
theorem tkM_0 (M : Mm) (k s : Nat) : tkM M k s 0 = M := by
  have : takeF (M.1 k) s 0 = M.1 k := by funext t; simp [takeF]
  rw [tkM, this, seti_self]
theorem tkM_f {M : Mm} {k s i : Nat} (h : s.testBit i = false) : tkM M k s i = tkM M k s (i + 1) := by
  unfold tkM
  congr 1
  funext t
  unfold takeF
  by_cases ht : t = i
  · subst ht; simp [h]
  · have : decide (t < i + 1) = decide (t < i) := by simp; omega
    rw [this]
theorem tkM_t {M : Mm} {k s i : Nat} (h : s.testBit i = true) : upi (tkM M k s i) k i ((tkM M k s i).1 k i - 1) = tkM M k s (i + 1) := by
  unfold tkM upi seti
  simp only [if_true]
  congr 1
  funext a
  by_cases ha : a = k
  · rw [if_pos ha, if_pos ha]
    funext t
    unfold upd takeF
    by_cases ht : t = i
    · subst ht; simp [h]
    · have : decide (t < i + 1) = decide (t < i) := by simp; omega
      rw [if_neg ht, this]
  · rw [if_neg ha, if_neg ha, if_neg ha]
set_option maxRecDepth 20000 in
theorem l_guests {G : Gt} {d : Nat} {M : Mm} (hG : gS G = SHAPE) {n9 : Nat} {K X : Nat → Nat} {ed : Nat} (hB : Bk M 1 n9 K X ed) : ∀ (n i : Nat), i + n = n9 → Go G (d) mX1_guests 4 [some (.ref 1), some (.int (nI (cntN (guestP K) i))), some (.int (nI i))] [] M (fun v M' => ∃ r, v = some (.int r) ∧ r = nI (cntN (guestP K) n9) ∧ M' = M) := by
  intro n
  induction n with
  | zero =>
    intro i  hin
    have hn := hB.1
    have hed := hB.2.1
    refine Go.iload_n dX1_guests_4 rfl ?_
    refine Go.aload_n dX1_guests_5 rfl ?_
    refine Go.getI dX1_guests_6 flX1_33 (shp hG rfl) rfl ?_
    refine Go.eqI (y := nI n9) (hB.2.2.1) ?_
    refine Go.icmp_ge 31 dX1_guests_9 rfl (fun _ => ?_) (fun h9 => absurd (nI_le (a := n9) (b := i) (by omega) (by omega)) h9)
    refine Go.iload_n dX1_guests_31 rfl ?_
    refine Go.iret dX1_guests_32 rfl rfl ?_
    have e9 : i = n9 := by omega
    subst e9
    exact ⟨_, rfl, rfl, rfl⟩
  | succ n ih =>
    intro i  hin
    have hi : i < n9 := by omega
    have hn := hB.1
    have hed := hB.2.1
    have hk6 := (hB.2.2.2.2 i (by omega)).1
    refine Go.iload_n dX1_guests_4 rfl ?_
    refine Go.aload_n dX1_guests_5 rfl ?_
    refine Go.getI dX1_guests_6 flX1_33 (shp hG rfl) rfl ?_
    refine Go.eqI (y := nI n9) (hB.2.2.1) ?_
    refine Go.icmp_ge 31 dX1_guests_9 rfl (fun h9 => absurd h9 (nI_ge (a := i) (b := n9) (by omega) (by omega))) (fun _ => ?_)
    refine Go.aload_n dX1_guests_12 rfl ?_
    refine Go.getR dX1_guests_13 flX1_24 (shp hG rfl) rfl ?_
    refine Go.iload_n dX1_guests_16 rfl ?_
    refine Go.iald dX1_guests_17 (shp hG rfl) (vin (by omega) (by decide)) ?_
    refine Go.eqI (y := nI (K i)) (by rw [ncl (by omega)]; exact (hB.2.2.2.2 i (by omega)).2.2.1) ?_
    refine Go.iconst (v := 2) dX1_guests_18 (by decide) ?_
    refine Go.icmp_ne 25 dX1_guests_19 rfl (fun h19 => ?_) (fun h19 => ?_)
    · have n19 : ¬ (K i) = 2 := fun q => h19 ((nI_inj (a := (K i)) (b := 2) (by omega) (by omega)).mpr q)
      refine Go.iinc (v := nI (i + 1)) (ls' := [some (.ref 1), some (.int (nI (cntN (guestP K) i))), some (.int (nI (i + 1)))]) dX1_guests_25 rfl (nI_1 _) rfl rfl ?_
      refine Go.goto 4 dX1_guests_28 rfl ?_
      rw [cnt_f (p := guestP K) (i := i) (by simpa [guestP] using n19)]
      exact ih (i + 1) (by omega)
    · have n19 : (K i) = 2 := (nI_inj (a := (K i)) (b := 2) (by omega) (by omega)).mp h19
      refine Go.iinc (v := nI (cntN (guestP K) i + 1)) (ls' := [some (.ref 1), some (.int (nI (cntN (guestP K) i + 1))), some (.int (nI i))]) dX1_guests_22 rfl (nI_1 _) rfl rfl ?_
      refine Go.iinc (v := nI (i + 1)) (ls' := [some (.ref 1), some (.int (nI (cntN (guestP K) i + 1))), some (.int (nI (i + 1)))]) dX1_guests_25 rfl (nI_1 _) rfl rfl ?_
      refine Go.goto 4 dX1_guests_28 rfl ?_
      rw [cnt_t (p := guestP K) (i := i) (by simpa [guestP] using n19)]
      exact ih (i + 1) (by omega)
set_option maxRecDepth 20000 in
theorem s_guests {G : Gt} {d : Nat} {M : Mm} (hG : gS G = SHAPE) {n9 : Nat} {K X : Nat → Nat} {ed : Nat} (hB : Bk M 1 n9 K X ed) : ExI G (d) mX1_guests [.ref 1] M (fun r M' => r = nI (cntN (guestP K) n9) ∧ M' = M) := by
  refine Ex.of (by decide) (Nat.le_of_ble_eq_true rfl) ?_
  show Go G (d) mX1_guests 0 [some (.ref 1), none, none] [] M _
  refine Go.iconst (v := 0) dX1_guests_0 (by decide) ?_
  refine Go.istore_n (ls' := [some (.ref 1), some (.int 0), none]) dX1_guests_1 (Nat.le_of_ble_eq_true rfl) rfl rfl ?_
  refine Go.iconst (v := 0) dX1_guests_2 (by decide) ?_
  refine Go.istore_n (ls' := [some (.ref 1), some (.int 0), some (.int 0)]) dX1_guests_3 (Nat.le_of_ble_eq_true rfl) rfl rfl ?_
  exact l_guests hG hB n9 0 (by omega)
set_option maxRecDepth 20000 in
theorem l_hadNear {G : Gt} {d : Nat} {M : Mm} (hG : gS G = SHAPE) {n9 : Nat} {K X : Nat → Nat} {ed : Nat} (hB : Bk M 1 n9 K X ed) {x : Nat} {m : Int32} : ∀ (n i : Nat), i + n = n9 → Go G (d + 2) mX1_hadNear 5 [some (.ref 1), some (.int (nI x)), some (.int m), some (.int (nI (cntN (nearP K X x m) i))), some (.int (nI i))] [] M (fun v M' => ∃ r, v = some (.int r) ∧ r = nI (cntN (nearP K X x m) n9) ∧ M' = M) := by
  intro n
  induction n with
  | zero =>
    intro i  hin
    have hn := hB.1
    have hed := hB.2.1
    refine Go.iload dX1_hadNear_5 rfl ?_
    refine Go.aload_n dX1_hadNear_7 rfl ?_
    refine Go.getI dX1_hadNear_8 flX1_33 (shp hG rfl) rfl ?_
    refine Go.eqI (y := nI n9) (hB.2.2.1) ?_
    refine Go.icmp_ge 49 dX1_hadNear_11 rfl (fun _ => ?_) (fun h11 => absurd (nI_le (a := n9) (b := i) (by omega) (by omega)) h11)
    refine Go.iload_n dX1_hadNear_49 rfl ?_
    refine Go.iret dX1_hadNear_50 rfl rfl ?_
    have e9 : i = n9 := by omega
    subst e9
    exact ⟨_, rfl, rfl, rfl⟩
  | succ n ih =>
    intro i  hin
    have hi : i < n9 := by omega
    have hn := hB.1
    have hed := hB.2.1
    have hk6 := (hB.2.2.2.2 i (by omega)).1
    refine Go.iload dX1_hadNear_5 rfl ?_
    refine Go.aload_n dX1_hadNear_7 rfl ?_
    refine Go.getI dX1_hadNear_8 flX1_33 (shp hG rfl) rfl ?_
    refine Go.eqI (y := nI n9) (hB.2.2.1) ?_
    refine Go.icmp_ge 49 dX1_hadNear_11 rfl (fun h11 => absurd h11 (nI_ge (a := i) (b := n9) (by omega) (by omega))) (fun _ => ?_)
    refine Go.aload_n dX1_hadNear_14 rfl ?_
    refine Go.getR dX1_hadNear_15 flX1_24 (shp hG rfl) rfl ?_
    refine Go.iload dX1_hadNear_18 rfl ?_
    refine Go.iald dX1_hadNear_20 (shp hG rfl) (vin (by omega) (by decide)) ?_
    refine Go.eqI (y := nI (K i)) (by rw [ncl (by omega)]; exact (hB.2.2.2.2 i (by omega)).2.2.1) ?_
    refine Go.iconst (v := 2) dX1_hadNear_21 (by decide) ?_
    refine Go.icmp_eq 43 dX1_hadNear_22 rfl (fun h22 => ?_) (fun h22 => ?_)
    · have n22 : (K i) = 2 := (nI_inj (a := (K i)) (b := 2) (by omega) (by omega)).mp h22
      refine Go.iinc (v := nI (i + 1)) (ls' := [some (.ref 1), some (.int (nI x)), some (.int m), some (.int (nI (cntN (nearP K X x m) i))), some (.int (nI (i + 1)))]) dX1_hadNear_43 rfl (nI_1 _) rfl rfl ?_
      refine Go.goto 5 dX1_hadNear_46 rfl ?_
      rw [cnt_f (p := nearP K X x m) (i := i) (by simp [nearP, n22])]
      exact ih (i + 1) (by omega)
    · have n22 : ¬ (K i) = 2 := fun q => h22 ((nI_inj (a := (K i)) (b := 2) (by omega) (by omega)).mpr q)
      refine Go.aload_n dX1_hadNear_25 rfl ?_
      refine Go.getR dX1_hadNear_26 flX1_27 (shp hG rfl) rfl ?_
      refine Go.iload dX1_hadNear_29 rfl ?_
      refine Go.iald dX1_hadNear_31 (shp hG rfl) (vin (by omega) (by decide)) ?_
      refine Go.eqI (y := nI (X i)) (by rw [ncl (by omega)]; exact (hB.2.2.2.2 i (by omega)).2.2.2) ?_
      refine Go.iload_n dX1_hadNear_32 rfl ?_
      refine Go.callSI [] dX1_hadNear_33 lkX1_98 stX6_nearness cbX6_nearness (s_nearness (nI (X i)) (nI x)) rfl rfl (Nat.le_of_ble_eq_true rfl) (fun r1 M2 hr1 => ?_)
      obtain ⟨er1, emr1⟩ := hr1
      rw [emr1]
      clear emr1 M2
      subst er1
      refine Go.iload_n dX1_hadNear_36 rfl ?_
      refine Go.icmp_gt 43 dX1_hadNear_37 rfl (fun h37 => ?_) (fun h37 => ?_)
      · refine Go.iinc (v := nI (i + 1)) (ls' := [some (.ref 1), some (.int (nI x)), some (.int m), some (.int (nI (cntN (nearP K X x m) i))), some (.int (nI (i + 1)))]) dX1_hadNear_43 rfl (nI_1 _) rfl rfl ?_
        refine Go.goto 5 dX1_hadNear_46 rfl ?_
        rw [cnt_f (p := nearP K X x m) (i := i) (by simp [nearP, n22, i_lt_n h37])]
        exact ih (i + 1) (by omega)
      · refine Go.iinc (v := nI (cntN (nearP K X x m) i + 1)) (ls' := [some (.ref 1), some (.int (nI x)), some (.int m), some (.int (nI (cntN (nearP K X x m) i + 1))), some (.int (nI i))]) dX1_hadNear_40 rfl (nI_1 _) rfl rfl ?_
        refine Go.iinc (v := nI (i + 1)) (ls' := [some (.ref 1), some (.int (nI x)), some (.int m), some (.int (nI (cntN (nearP K X x m) i + 1))), some (.int (nI (i + 1)))]) dX1_hadNear_43 rfl (nI_1 _) rfl rfl ?_
        refine Go.goto 5 dX1_hadNear_46 rfl ?_
        rw [cnt_t (p := nearP K X x m) (i := i) (by simp [nearP, n22, i_nlt h37])]
        exact ih (i + 1) (by omega)
set_option maxRecDepth 20000 in
theorem s_hadNear {G : Gt} {d : Nat} {M : Mm} (hG : gS G = SHAPE) {n9 : Nat} {K X : Nat → Nat} {ed : Nat} (hB : Bk M 1 n9 K X ed) {x : Nat} {m : Int32} : ExI G (d + 2) mX1_hadNear [.ref 1, .int (nI x), .int m] M (fun r M' => r = nI (cntN (nearP K X x m) n9) ∧ M' = M) := by
  refine Ex.of (by decide) (Nat.le_of_ble_eq_true rfl) ?_
  show Go G (d + 2) mX1_hadNear 0 [some (.ref 1), some (.int (nI x)), some (.int m), none, none] [] M _
  refine Go.iconst (v := 0) dX1_hadNear_0 (by decide) ?_
  refine Go.istore_n (ls' := [some (.ref 1), some (.int (nI x)), some (.int m), some (.int 0), none]) dX1_hadNear_1 (Nat.le_of_ble_eq_true rfl) rfl rfl ?_
  refine Go.iconst (v := 0) dX1_hadNear_2 (by decide) ?_
  refine Go.istore (ls' := [some (.ref 1), some (.int (nI x)), some (.int m), some (.int 0), some (.int 0)]) dX1_hadNear_3 (Nat.le_of_ble_eq_true rfl) rfl rfl ?_
  exact l_hadNear hG hB n9 0 (by omega)
set_option maxRecDepth 20000 in
theorem l_firstBreach {G : Gt} {d : Nat} {M : Mm} (hG : gS G = SHAPE) {n9 : Nat} {K X : Nat → Nat} {ed : Nat} (hB : Bk M 1 n9 K X ed) : ∀ (n i : Nat), i + n = n9 → fstF (breachP K X ed) 0 n9 = fstF (breachP K X ed) i n → Go G (d + 5) mX1_firstBreach 2 [some (.ref 1), some (.int (nI i))] [] M (fun v M' => ∃ r, v = some (.int r) ∧ r = optI (-1) (fstF (breachP K X ed) 0 n9) ∧ M' = M) := by
  intro n
  induction n with
  | zero =>
    intro i  hin hf
    have hn := hB.1
    have hed := hB.2.1
    refine Go.iload_n dX1_firstBreach_2 rfl ?_
    refine Go.aload_n dX1_firstBreach_3 rfl ?_
    refine Go.getI dX1_firstBreach_4 flX1_33 (shp hG rfl) rfl ?_
    refine Go.eqI (y := nI n9) (hB.2.2.1) ?_
    refine Go.icmp_ge 42 dX1_firstBreach_7 rfl (fun _ => ?_) (fun h7 => absurd (nI_le (a := n9) (b := i) (by omega) (by omega)) h7)
    refine Go.iconst (v := -1) dX1_firstBreach_42 (by decide) ?_
    refine Go.iret dX1_firstBreach_43 rfl rfl ?_
    exact ⟨_, rfl, by rw [hf]; rfl, rfl⟩
  | succ n ih =>
    intro i  hin hf
    have hi : i < n9 := by omega
    have hn := hB.1
    have hed := hB.2.1
    have hk6 := (hB.2.2.2.2 i (by omega)).1
    refine Go.iload_n dX1_firstBreach_2 rfl ?_
    refine Go.aload_n dX1_firstBreach_3 rfl ?_
    refine Go.getI dX1_firstBreach_4 flX1_33 (shp hG rfl) rfl ?_
    refine Go.eqI (y := nI n9) (hB.2.2.1) ?_
    refine Go.icmp_ge 42 dX1_firstBreach_7 rfl (fun h7 => absurd h7 (nI_ge (a := i) (b := n9) (by omega) (by omega))) (fun _ => ?_)
    refine Go.aload_n dX1_firstBreach_10 rfl ?_
    refine Go.getR dX1_firstBreach_11 flX1_24 (shp hG rfl) rfl ?_
    refine Go.iload_n dX1_firstBreach_14 rfl ?_
    refine Go.iald dX1_firstBreach_15 (shp hG rfl) (vin (by omega) (by decide)) ?_
    refine Go.eqI (y := nI (K i)) (by rw [ncl (by omega)]; exact (hB.2.2.2.2 i (by omega)).2.2.1) ?_
    refine Go.iconst (v := 2) dX1_firstBreach_16 (by decide) ?_
    refine Go.icmp_eq 36 dX1_firstBreach_17 rfl (fun h17 => ?_) (fun h17 => ?_)
    · have n17 : (K i) = 2 := (nI_inj (a := (K i)) (b := 2) (by omega) (by omega)).mp h17
      refine Go.iinc (v := nI (i + 1)) (ls' := [some (.ref 1), some (.int (nI (i + 1)))]) dX1_firstBreach_36 rfl (nI_1 _) rfl rfl ?_
      refine Go.goto 2 dX1_firstBreach_39 rfl ?_
      exact ih (i + 1) (by omega) (by rw [hf, fstF, if_neg (by rw [show breachP K X ed i = false from by simp [breachP, n17]]; decide)])
    · have n17 : ¬ (K i) = 2 := fun q => h17 ((nI_inj (a := (K i)) (b := 2) (by omega) (by omega)).mpr q)
      refine Go.aload_n dX1_firstBreach_20 rfl ?_
      refine Go.aload_n dX1_firstBreach_21 rfl ?_
      refine Go.getR dX1_firstBreach_22 flX1_27 (shp hG rfl) rfl ?_
      refine Go.iload_n dX1_firstBreach_25 rfl ?_
      refine Go.iald dX1_firstBreach_26 (shp hG rfl) (vin (by omega) (by decide)) ?_
      refine Go.eqI (y := nI (X i)) (by rw [ncl (by omega)]; exact (hB.2.2.2.2 i (by omega)).2.2.2) ?_
      refine Go.iload_n dX1_firstBreach_27 rfl ?_
      refine Go.callVI [] dX1_firstBreach_28 lkX1_73 imX1_firstBarring seX1_firstBarring cbX1_firstBarring (s_firstBarring hG hB (x := X i) (a := i) (hB.2.2.2.2 i (by omega)).2.1 (by omega)) (shp hG rfl) rfl rfl rfl (Nat.le_of_ble_eq_true rfl) (fun r1 M2 hr1 => ?_)
      obtain ⟨er1, emr1⟩ := hr1
      rw [emr1]
      clear emr1 M2
      subst er1
      refine Go.if_lt 36 dX1_firstBreach_31 rfl (fun h31 => ?_) (fun h31 => ?_)
      · refine Go.iinc (v := nI (i + 1)) (ls' := [some (.ref 1), some (.int (nI (i + 1)))]) dX1_firstBreach_36 rfl (nI_1 _) rfl rfl ?_
        refine Go.goto 2 dX1_firstBreach_39 rfl ?_
        exact ih (i + 1) (by omega) (by rw [hf, fstF, if_neg (by rw [show breachP K X ed i = false from by have h8 := (optI_neg (fst_lt (p := barB K X ed (X i)) (n := i) (by omega))).1.mp h31; simp [breachP, h8]]; decide)])
      · refine Go.iload_n dX1_firstBreach_34 rfl ?_
        refine Go.iret dX1_firstBreach_35 rfl rfl ?_
        have h8 := (optI_neg (fst_lt (p := barB K X ed (X i)) (n := i) (by omega))).2.mp (i_nlt h31)
        have h7 : breachP K X ed i = true := by simp [breachP, n17, Option.isSome_iff_ne_none, h8]
        exact ⟨_, rfl, by rw [hf, fstF, if_pos h7]; rfl, rfl⟩
set_option maxRecDepth 20000 in
theorem s_firstBreach {G : Gt} {d : Nat} {M : Mm} (hG : gS G = SHAPE) {n9 : Nat} {K X : Nat → Nat} {ed : Nat} (hB : Bk M 1 n9 K X ed) : ExI G (d + 5) mX1_firstBreach [.ref 1] M (fun r M' => r = optI (-1) (fstF (breachP K X ed) 0 n9) ∧ M' = M) := by
  refine Ex.of (by decide) (Nat.le_of_ble_eq_true rfl) ?_
  show Go G (d + 5) mX1_firstBreach 0 [some (.ref 1), none] [] M _
  refine Go.iconst (v := 0) dX1_firstBreach_0 (by decide) ?_
  refine Go.istore_n (ls' := [some (.ref 1), some (.int 0)]) dX1_firstBreach_1 (Nat.le_of_ble_eq_true rfl) rfl rfl ?_
  exact l_firstBreach hG hB n9 0 (by omega) rfl
def addN (f : Nat → Int32) : Nat → Int32
  | 0 => 0
  | n + 1 => addN f n + f n
set_option maxRecDepth 20000 in
theorem l_allStores {G : Gt} {d : Nat} {M : Mm} (hG : gS G = SHAPE) : ∀ (n i : Nat), i + n = 8 → Go G (d) mX1_allStores 4 [some (.ref 1), some (.int (addN (M.1 2) i)), some (.int (nI i))] [] M (fun v M' => ∃ r, v = some (.int r) ∧ r = addN (M.1 2) 8 ∧ M' = M) := by
  intro n
  induction n with
  | zero =>
    intro i  hin
    refine Go.iload_n dX1_allStores_4 rfl ?_
    refine Go.bipush (v := 8) dX1_allStores_5 (by decide) ?_
    refine Go.icmp_ge 25 dX1_allStores_7 rfl (fun _ => ?_) (fun h7 => absurd (nI_le (a := 8) (b := i) (by omega) (by omega)) h7)
    refine Go.iload_n dX1_allStores_25 rfl ?_
    refine Go.iret dX1_allStores_26 rfl rfl ?_
    have e9 : i = 8 := by omega
    subst e9
    exact ⟨_, rfl, rfl, rfl⟩
  | succ n ih =>
    intro i  hin
    have hi : i < 8 := by omega
    refine Go.iload_n dX1_allStores_4 rfl ?_
    refine Go.bipush (v := 8) dX1_allStores_5 (by decide) ?_
    refine Go.icmp_ge 25 dX1_allStores_7 rfl (fun h7 => absurd h7 (nI_ge (a := i) (b := 8) (by omega) (by omega))) (fun _ => ?_)
    refine Go.iload_n dX1_allStores_10 rfl ?_
    refine Go.aload_n dX1_allStores_11 rfl ?_
    refine Go.getR dX1_allStores_12 flX1_9 (shp hG rfl) rfl ?_
    refine Go.iload_n dX1_allStores_15 rfl ?_
    refine Go.iald dX1_allStores_16 (shp hG rfl) (vin (by omega) (by decide)) ?_
    refine Go.iadd dX1_allStores_17 ?_
    refine Go.nmI (fun x1 ex1 => ?_)
    refine Go.istore_n (ls' := [some (.ref 1), some (.int x1), some (.int (nI i))]) dX1_allStores_18 (Nat.le_of_ble_eq_true rfl) rfl rfl ?_
    refine Go.iinc (v := nI (i + 1)) (ls' := [some (.ref 1), some (.int x1), some (.int (nI (i + 1)))]) dX1_allStores_19 rfl (nI_1 _) rfl rfl ?_
    refine Go.goto 4 dX1_allStores_22 rfl ?_
    rw [show x1 = addN (M.1 2) (i + 1) from by rw [ex1, ncl (by omega)]; rfl]
    exact ih (i + 1) (by omega)
set_option maxRecDepth 20000 in
theorem s_allStores {G : Gt} {d : Nat} {M : Mm} (hG : gS G = SHAPE) : ExI G (d) mX1_allStores [.ref 1] M (fun r M' => r = addN (M.1 2) 8 ∧ M' = M) := by
  refine Ex.of (by decide) (Nat.le_of_ble_eq_true rfl) ?_
  show Go G (d) mX1_allStores 0 [some (.ref 1), none, none] [] M _
  refine Go.iconst (v := 0) dX1_allStores_0 (by decide) ?_
  refine Go.istore_n (ls' := [some (.ref 1), some (.int 0), none]) dX1_allStores_1 (Nat.le_of_ble_eq_true rfl) rfl rfl ?_
  refine Go.iconst (v := 0) dX1_allStores_2 (by decide) ?_
  refine Go.istore_n (ls' := [some (.ref 1), some (.int 0), some (.int 0)]) dX1_allStores_3 (Nat.le_of_ble_eq_true rfl) rfl rfl ?_
  exact l_allStores hG 8 0 (by omega)
set_option maxRecDepth 20000 in
theorem l_liking {G : Gt} {d : Nat} {M : Mm} (hG : gS G = SHAPE) {x : Nat} (hx5 : x < 5120) : ∀ (n i : Nat), i + n = 8 → Go G (d + 1) mX1_liking 22 [some (.ref 1), some (.int (nI x)), some (.int (likF (M.1 3) ((M.1 4) (x % 20 / 4) + (M.1 5) (x % 4)) (x / 20) i)), some (.int (nI i))] [] M (fun v M' => ∃ r, v = some (.int r) ∧ r = likD (M.1 3) (M.1 4) (M.1 5) x ∧ M' = M) := by
  intro n
  induction n with
  | zero =>
    intro i  hin
    refine Go.iload_n dX1_liking_22 rfl ?_
    refine Go.bipush (v := 8) dX1_liking_23 (by decide) ?_
    refine Go.icmp_ge 54 dX1_liking_25 rfl (fun _ => ?_) (fun h25 => absurd (nI_le (a := 8) (b := i) (by omega) (by omega)) h25)
    refine Go.iload_n dX1_liking_54 rfl ?_
    refine Go.iret dX1_liking_55 rfl rfl ?_
    have e9 : i = 8 := by omega
    subst e9
    exact ⟨_, rfl, rfl, rfl⟩
  | succ n ih =>
    intro i  hin
    have hi : i < 8 := by omega
    refine Go.iload_n dX1_liking_22 rfl ?_
    refine Go.bipush (v := 8) dX1_liking_23 (by decide) ?_
    refine Go.icmp_ge 54 dX1_liking_25 rfl (fun h25 => absurd h25 (nI_ge (a := i) (b := 8) (by omega) (by omega))) (fun _ => ?_)
    refine Go.iload_n dX1_liking_28 rfl ?_
    refine Go.callSI [] dX1_liking_29 lkX1_66 stX6_setOf cbX6_setOf (s_setOf (nI x)) rfl rfl (Nat.le_of_ble_eq_true rfl) (fun r1 M2 hr1 => ?_)
    obtain ⟨er1, emr1⟩ := hr1
    rw [emr1]
    clear emr1 M2
    subst er1
    refine Go.iload_n dX1_liking_32 rfl ?_
    refine Go.callSI [] dX1_liking_33 lkX1_55 stX6_hasBit cbX6_hasBit (s_hasBit (iset (nI x)) (nI i)) rfl rfl (Nat.le_of_ble_eq_true rfl) (fun r3 M4 hr3 => ?_)
    obtain ⟨er3, emr3⟩ := hr3
    rw [emr3]
    clear emr3 M4
    subst er3
    refine Go.eqI (y := bi ((x / 20).testBit i)) (bit_set hx5 (by omega)) ?_
    refine Go.if_eq 48 dX1_liking_36 rfl (fun h36 => ?_) (fun h36 => ?_)
    · refine Go.iinc (v := nI (i + 1)) (ls' := [some (.ref 1), some (.int (nI x)), some (.int (likF (M.1 3) ((M.1 4) (x % 20 / 4) + (M.1 5) (x % 4)) (x / 20) i)), some (.int (nI (i + 1)))]) dX1_liking_48 rfl (nI_1 _) rfl rfl ?_
      refine Go.goto 22 dX1_liking_51 rfl ?_
      rw [show likF (M.1 3) ((M.1 4) (x % 20 / 4) + (M.1 5) (x % 4)) (x / 20) i = likF (M.1 3) ((M.1 4) (x % 20 / 4) + (M.1 5) (x % 4)) (x / 20) (i + 1) from by rw [likF, if_neg (by rw [bi_0.mp h36]; decide), Int32.add_zero]]
      exact ih (i + 1) (by omega)
    · refine Go.iload_n dX1_liking_39 rfl ?_
      refine Go.aload_n dX1_liking_40 rfl ?_
      refine Go.getR dX1_liking_41 flX1_15 (shp hG rfl) rfl ?_
      refine Go.iload_n dX1_liking_44 rfl ?_
      refine Go.iald dX1_liking_45 (shp hG rfl) (vin (by omega) (by decide)) ?_
      refine Go.iadd dX1_liking_46 ?_
      refine Go.nmI (fun x5 ex5 => ?_)
      refine Go.istore_n (ls' := [some (.ref 1), some (.int (nI x)), some (.int x5), some (.int (nI i))]) dX1_liking_47 (Nat.le_of_ble_eq_true rfl) rfl rfl ?_
      refine Go.iinc (v := nI (i + 1)) (ls' := [some (.ref 1), some (.int (nI x)), some (.int x5), some (.int (nI (i + 1)))]) dX1_liking_48 rfl (nI_1 _) rfl rfl ?_
      refine Go.goto 22 dX1_liking_51 rfl ?_
      rw [show x5 = likF (M.1 3) ((M.1 4) (x % 20 / 4) + (M.1 5) (x % 4)) (x / 20) (i + 1) from by rw [ex5, ncl (by omega), likF, if_pos (bi_n0.mp h36)]]
      exact ih (i + 1) (by omega)
set_option maxRecDepth 20000 in
theorem s_liking {G : Gt} {d : Nat} {M : Mm} (hG : gS G = SHAPE) {x : Nat} (hx5 : x < 5120) : ExI G (d + 1) mX1_liking [.ref 1, .int (nI x)] M (fun r M' => r = likD (M.1 3) (M.1 4) (M.1 5) x ∧ M' = M) := by
  refine Ex.of (by decide) (Nat.le_of_ble_eq_true rfl) ?_
  show Go G (d + 1) mX1_liking 0 [some (.ref 1), some (.int (nI x)), none, none] [] M _
  refine Go.aload_n dX1_liking_0 rfl ?_
  refine Go.getR dX1_liking_1 flX1_18 (shp hG rfl) rfl ?_
  refine Go.iload_n dX1_liking_4 rfl ?_
  refine Go.callSI [.ref 4] dX1_liking_5 lkX1_59 stX6_wayOf cbX6_wayOf (s_wayOf (nI x)) rfl rfl (Nat.le_of_ble_eq_true rfl) (fun r1 M2 hr1 => ?_)
  obtain ⟨er1, emr1⟩ := hr1
  rw [emr1]
  clear emr1 M2
  subst er1
  refine Go.eqI (y := nI (x % 20 / 4)) (iway_nI (by omega)) ?_
  refine Go.iald dX1_liking_8 (shp hG rfl) (vin (by omega) (by decide)) ?_
  refine Go.aload_n dX1_liking_9 rfl ?_
  refine Go.getR dX1_liking_10 flX1_21 (shp hG rfl) rfl ?_
  refine Go.iload_n dX1_liking_13 rfl ?_
  refine Go.callSI [.ref 5, .int (M.1 4 (Int32.toNatClampNeg (nI (x % 20 / 4))))] dX1_liking_14 lkX1_63 stX6_sauceOf cbX6_sauceOf (s_sauceOf (nI x)) rfl rfl (Nat.le_of_ble_eq_true rfl) (fun r3 M4 hr3 => ?_)
  obtain ⟨er3, emr3⟩ := hr3
  rw [emr3]
  clear emr3 M4
  subst er3
  refine Go.eqI (y := nI (x % 4)) (isau_nI (by omega)) ?_
  refine Go.iald dX1_liking_17 (shp hG rfl) (vin (by omega) (by decide)) ?_
  refine Go.iadd dX1_liking_18 ?_
  refine Go.nmI (fun x5 ex5 => ?_)
  refine Go.istore_n (ls' := [some (.ref 1), some (.int (nI x)), some (.int x5), none]) dX1_liking_19 (Nat.le_of_ble_eq_true rfl) rfl rfl ?_
  refine Go.iconst (v := 0) dX1_liking_20 (by decide) ?_
  refine Go.istore_n (ls' := [some (.ref 1), some (.int (nI x)), some (.int x5), some (.int 0)]) dX1_liking_21 (Nat.le_of_ble_eq_true rfl) rfl rfl ?_
  rw [show x5 = likF (M.1 3) ((M.1 4) (x % 20 / 4) + (M.1 5) (x % 4)) (x / 20) 0 from by rw [ex5, ncl (by omega), ncl (by omega)]; rfl]
  exact l_liking hG hx5 8 0 (by omega)
set_option maxRecDepth 20000 in
theorem l_takeFrom {G : Gt} {d : Nat} {M : Mm} {k x : Nat} (hk : (gS G)[k]? = some (.inl (0, 8, []))) (hx5 : x < 5120) : ∀ (n i : Nat), i + n = 8 → Go G (d + 1) mX6_takeFrom 2 [some (.ref k), some (.int (nI x)), some (.int (nI i))] [] (tkM M k (x / 20) i) (fun v M' => v = none ∧ M' = tkM M k (x / 20) 8) := by
  intro n
  induction n with
  | zero =>
    intro i  hin
    refine Go.iload_n dX6_takeFrom_2 rfl ?_
    refine Go.aload_n dX6_takeFrom_3 rfl ?_
    refine Go.alenI (v := 8) dX6_takeFrom_4 hk (by decide) ?_
    refine Go.icmp_ge 32 dX6_takeFrom_5 rfl (fun _ => ?_) (fun h5 => absurd (nI_le (a := 8) (b := i) (by omega) (by omega)) h5)
    refine Go.vret dX6_takeFrom_32 rfl ?_
    have e9 : i = 8 := by omega
    subst e9
    exact ⟨rfl, rfl⟩
  | succ n ih =>
    intro i  hin
    have hi : i < 8 := by omega
    refine Go.iload_n dX6_takeFrom_2 rfl ?_
    refine Go.aload_n dX6_takeFrom_3 rfl ?_
    refine Go.alenI (v := 8) dX6_takeFrom_4 hk (by decide) ?_
    refine Go.icmp_ge 32 dX6_takeFrom_5 rfl (fun h5 => absurd h5 (nI_ge (a := i) (b := 8) (by omega) (by omega))) (fun _ => ?_)
    refine Go.iload_n dX6_takeFrom_8 rfl ?_
    refine Go.callSI [] dX6_takeFrom_9 lkX6_89 stX6_setOf cbX6_setOf (s_setOf (nI x)) rfl rfl (Nat.le_of_ble_eq_true rfl) (fun r1 M2 hr1 => ?_)
    obtain ⟨er1, emr1⟩ := hr1
    rw [emr1]
    clear emr1 M2
    subst er1
    refine Go.iload_n dX6_takeFrom_12 rfl ?_
    refine Go.callSI [] dX6_takeFrom_13 lkX6_319 stX6_hasBit cbX6_hasBit (s_hasBit (iset (nI x)) (nI i)) rfl rfl (Nat.le_of_ble_eq_true rfl) (fun r3 M4 hr3 => ?_)
    obtain ⟨er3, emr3⟩ := hr3
    rw [emr3]
    clear emr3 M4
    subst er3
    refine Go.eqI (y := bi ((x / 20).testBit i)) (bit_set hx5 (by omega)) ?_
    refine Go.if_eq 26 dX6_takeFrom_16 rfl (fun h16 => ?_) (fun h16 => ?_)
    · refine Go.iinc (v := nI (i + 1)) (ls' := [some (.ref k), some (.int (nI x)), some (.int (nI (i + 1)))]) dX6_takeFrom_26 rfl (nI_1 _) rfl rfl ?_
      refine Go.goto 2 dX6_takeFrom_29 rfl ?_
      rw [tkM_f (i := i) (bi_0.mp h16)]
      exact ih (i + 1) (by omega)
    · refine Go.aload_n dX6_takeFrom_19 rfl ?_
      refine Go.iload_n dX6_takeFrom_20 rfl ?_
      refine Go.dup2 dX6_takeFrom_21 rfl rfl ?_
      refine Go.iald dX6_takeFrom_22 hk (vin (by omega) (by decide)) ?_
      refine Go.iconst (v := 1) dX6_takeFrom_23 (by decide) ?_
      refine Go.isub dX6_takeFrom_24 ?_
      refine Go.iast dX6_takeFrom_25 hk (vin (by omega) (by decide)) ?_
      refine Go.nmM (fun N5 eN5 => ?_)
      refine Go.iinc (v := nI (i + 1)) (ls' := [some (.ref k), some (.int (nI x)), some (.int (nI (i + 1)))]) dX6_takeFrom_26 rfl (nI_1 _) rfl rfl ?_
      refine Go.goto 2 dX6_takeFrom_29 rfl ?_
      rw [show N5 = tkM M k (x / 20) (i + 1) from by rw [eN5, ncl (by omega)]; exact tkM_t (bi_n0.mp h16)]
      exact ih (i + 1) (by omega)
set_option maxRecDepth 20000 in
theorem s_takeFrom {G : Gt} {d : Nat} {M : Mm} {k x : Nat} (hk : (gS G)[k]? = some (.inl (0, 8, []))) (hx5 : x < 5120) : ExV G (d + 1) mX6_takeFrom [.ref k, .int (nI x)] M (fun M' => M' = tkM M k (x / 20) 8) := by
  refine Ex.of (by decide) (Nat.le_of_ble_eq_true rfl) ?_
  show Go G (d + 1) mX6_takeFrom 0 [some (.ref k), some (.int (nI x)), none] [] M _
  refine Go.iconst (v := 0) dX6_takeFrom_0 (by decide) ?_
  refine Go.istore_n (ls' := [some (.ref k), some (.int (nI x)), some (.int 0)]) dX6_takeFrom_1 (Nat.le_of_ble_eq_true rfl) rfl rfl ?_
  have h9 := l_takeFrom (d := d) (M := M) hk hx5 8 0 (by omega)
  rw [tkM_0] at h9
  exact h9
