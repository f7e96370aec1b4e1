theorem Go.eqI {G : Gt} {d : Nat} {mt : Mt} {pc : Nat} {ls : List (Option Value)} {st : List Value} {M : Mm} {post : Option Value → Mm → Prop} {z y : Int32} (h : z = y) (k : Go G d mt pc ls (.int y :: st) M post) : Go G d mt pc ls (.int z :: st) M post := by rw [h]; exact k
theorem i_lt (a b : Int32) : a < b ↔ a.toInt < b.toInt := Int32.lt_iff_toInt_lt
theorem i_le (a b : Int32) : a ≤ b ↔ a.toInt ≤ b.toInt := Int32.le_iff_toInt_le
theorem i_eq (a b : Int32) : a = b ↔ a.toInt = b.toInt := ⟨fun h => by rw [h], fun h => Int32.toInt_inj.mp h⟩
theorem i_nlt {a b : Int32} (h : ¬ a < b) : b ≤ a := by rw [i_lt] at h; rw [i_le]; omega
theorem i_nle {a b : Int32} (h : ¬ a ≤ b) : b < a := by rw [i_le] at h; rw [i_lt]; omega
theorem i_lt_n {a b : Int32} (h : a < b) : ¬ b ≤ a := by rw [i_lt] at h; rw [i_le]; omega
theorem i_le_n {a b : Int32} (h : a ≤ b) : ¬ b < a := by rw [i_le] at h; rw [i_lt]; omega
theorem Go.eqL {G : Gt} {d : Nat} {mt : Mt} {pc : Nat} {ls : List (Option Value)} {st : List Value} {M : Mm} {post : Option Value → Mm → Prop} {z y : Int64} (h : z = y) (k : Go G d mt pc ls (.long y :: st) M post) : Go G d mt pc ls (.long z :: st) M post := by rw [h]; exact k
-- ===== words for the numbers of dishes =====
def iset (a : Int32) : Int32 := a / 20
def iman (a : Int32) : Int32 := a - a / 20 * 20
def iway (a : Int32) : Int32 := (a - a / 20 * 20) / 4
def isau (a : Int32) : Int32 := a - a / 4 * 4
def inb (i n : Int32) : Bool := decide (0 ≤ i) && decide (i < n)
def bitI (a b : Int32) : Bool := !decide ((a >>> (b &&& 31)) &&& 1 = 0)
def pcI (x : Int32) : Int32 :=
  let a := x - ((x.toUInt32 >>> ((1 : Int32).toUInt32 &&& Int32.toUInt32 31)).toInt32 &&& 1431655765)
  let b := (a &&& 858993459) + ((a.toUInt32 >>> ((2 : Int32).toUInt32 &&& Int32.toUInt32 31)).toInt32 &&& 858993459)
  let c := (b + (b.toUInt32 >>> ((4 : Int32).toUInt32 &&& Int32.toUInt32 31)).toInt32) &&& 252645135
  let e := c + (c.toUInt32 >>> ((8 : Int32).toUInt32 &&& Int32.toUInt32 31)).toInt32
  (e + (e.toUInt32 >>> ((16 : Int32).toUInt32 &&& Int32.toUInt32 31)).toInt32) &&& 63
def isSetI (s : Int32) : Bool := decide (0 < s) && decide (s < 256) && decide (pcI s ≤ 3)
def isDishI (a : Int32) : Bool := decide (0 ≤ a) && isSetI (iset a)
def imb (k man ed : Int32) : Int32 :=
  if k = 2 then 0 else
  let h := decide (k = 0) || decide (k = 1)
  let w := decide (k = 3) || decide (k = 5) || (h && !decide (ed &&& 2 = 0))
  let s := decide (k = 3) || (h && !decide (ed &&& 1 = 0))
  let m := if w then (1048575 : Int32) &&& (15 <<< ((man - (man - man / 4 * 4)) &&& 31)) else 1048575
  if s then m &&& (69905 <<< ((man - man / 4 * 4) &&& 31)) else m
def partI (a b : Int32) : Bool := decide (a &&& b = a) || decide (a &&& b = b)
def partsI (k : Int32) : Bool := decide (k = 1) || decide (k = 4)
def bsetI (k a b : Int32) : Bool := if partsI k then partI a b else decide (a = b)
def bdishI (k own x ed : Int32) : Bool := bsetI k (iset own) (iset x) && bitI (imb k (iman own) ed) (iman x)
def nearI (a b : Int32) : Int32 := pcI (iset a ^^^ iset b) + (if iway a = iway b then 0 else 1) + (if isau a = isau b then 0 else 1)
def upK : Nat → Int32 → Int32 → Bool
  | 0, _, _ => false
  | n + 1, k, x => if inb k 6 then (if k = x then true else upK n (aboveF k.toNatClampNeg) x) else false
set_option maxRecDepth 20000 in
theorem s_setOf {G : Gt} {d : Nat} {M : Mm} (a : Int32) : ExI G (d) mX6_setOf [.int a] M (fun r M' => r = iset a ∧ M' = M) := by
  refine Ex.of (by decide) (Nat.le_of_ble_eq_true rfl) ?_
  show Go G (d) mX6_setOf 0 [some (.int a)] [] M _
  refine Go.iload_n dX6_setOf_0 rfl ?_
  refine Go.bipush (v := 20) dX6_setOf_1 (by decide) ?_
  refine Go.idiv dX6_setOf_3 (by decide) ?_
  refine Go.iret dX6_setOf_4 rfl rfl ?_
  exact ⟨_, rfl, rfl, rfl⟩
set_option maxRecDepth 20000 in
theorem s_mannerOf {G : Gt} {d : Nat} {M : Mm} (a : Int32) : ExI G (d) mX6_mannerOf [.int a] M (fun r M' => r = iman a ∧ M' = M) := by
  refine Ex.of (by decide) (Nat.le_of_ble_eq_true rfl) ?_
  show Go G (d) mX6_mannerOf 0 [some (.int a)] [] M _
  refine Go.iload_n dX6_mannerOf_0 rfl ?_
  refine Go.bipush (v := 20) dX6_mannerOf_1 (by decide) ?_
  refine Go.irem dX6_mannerOf_3 (by decide) ?_
  refine Go.iret dX6_mannerOf_4 rfl rfl ?_
  exact ⟨_, rfl, rfl, rfl⟩
set_option maxRecDepth 20000 in
theorem s_wayOf {G : Gt} {d : Nat} {M : Mm} (a : Int32) : ExI G (d) mX6_wayOf [.int a] M (fun r M' => r = iway a ∧ M' = M) := by
  refine Ex.of (by decide) (Nat.le_of_ble_eq_true rfl) ?_
  show Go G (d) mX6_wayOf 0 [some (.int a)] [] M _
  refine Go.iload_n dX6_wayOf_0 rfl ?_
  refine Go.bipush (v := 20) dX6_wayOf_1 (by decide) ?_
  refine Go.irem dX6_wayOf_3 (by decide) ?_
  refine Go.iconst (v := 4) dX6_wayOf_4 (by decide) ?_
  refine Go.idiv dX6_wayOf_5 (by decide) ?_
  refine Go.iret dX6_wayOf_6 rfl rfl ?_
  exact ⟨_, rfl, rfl, rfl⟩
set_option maxRecDepth 20000 in
theorem s_sauceOf {G : Gt} {d : Nat} {M : Mm} (a : Int32) : ExI G (d) mX6_sauceOf [.int a] M (fun r M' => r = isau a ∧ M' = M) := by
  refine Ex.of (by decide) (Nat.le_of_ble_eq_true rfl) ?_
  show Go G (d) mX6_sauceOf 0 [some (.int a)] [] M _
  refine Go.iload_n dX6_sauceOf_0 rfl ?_
  refine Go.iconst (v := 4) dX6_sauceOf_1 (by decide) ?_
  refine Go.irem dX6_sauceOf_2 (by decide) ?_
  refine Go.iret dX6_sauceOf_3 rfl rfl ?_
  exact ⟨_, rfl, rfl, rfl⟩
set_option maxRecDepth 20000 in
theorem s_dishNumber {G : Gt} {d : Nat} {M : Mm} (a b c : Int32) : ExI G (d) mX6_dishNumber [.int a, .int b, .int c] M (fun r M' => r = 20 * a + 4 * b + c ∧ M' = M) := by
  refine Ex.of (by decide) (Nat.le_of_ble_eq_true rfl) ?_
  show Go G (d) mX6_dishNumber 0 [some (.int a), some (.int b), some (.int c)] [] M _
  refine Go.bipush (v := 20) dX6_dishNumber_0 (by decide) ?_
  refine Go.iload_n dX6_dishNumber_2 rfl ?_
  refine Go.imul dX6_dishNumber_3 ?_
  refine Go.iconst (v := 4) dX6_dishNumber_4 (by decide) ?_
  refine Go.iload_n dX6_dishNumber_5 rfl ?_
  refine Go.imul dX6_dishNumber_6 ?_
  refine Go.iadd dX6_dishNumber_7 ?_
  refine Go.iload_n dX6_dishNumber_8 rfl ?_
  refine Go.iadd dX6_dishNumber_9 ?_
  refine Go.iret dX6_dishNumber_10 rfl rfl ?_
  exact ⟨_, rfl, rfl, rfl⟩
set_option maxRecDepth 20000 in
theorem s_hasBit {G : Gt} {d : Nat} {M : Mm} (a b : Int32) : ExI G (d) mX6_hasBit [.int a, .int b] M (fun r M' => r = bi (bitI a b) ∧ M' = M) := by
  refine Ex.of (by decide) (Nat.le_of_ble_eq_true rfl) ?_
  show Go G (d) mX6_hasBit 0 [some (.int a), some (.int b)] [] M _
  refine Go.iload_n dX6_hasBit_0 rfl ?_
  refine Go.iload_n dX6_hasBit_1 rfl ?_
  refine Go.ishr dX6_hasBit_2 ?_
  refine Go.iconst (v := 1) dX6_hasBit_3 (by decide) ?_
  refine Go.iand dX6_hasBit_4 ?_
  refine Go.if_eq 12 dX6_hasBit_5 rfl (fun h5 => ?_) (fun h5 => ?_)
  · refine Go.iconst (v := 0) dX6_hasBit_12 (by decide) ?_
    refine Go.iret dX6_hasBit_13 rfl (by decide) ?_
    exact ⟨_, rfl, by simp [bi, bitI, *], rfl⟩
  · refine Go.iconst (v := 1) dX6_hasBit_8 (by decide) ?_
    refine Go.goto 13 dX6_hasBit_9 rfl ?_
    refine Go.iret dX6_hasBit_13 rfl (by decide) ?_
    exact ⟨_, rfl, by simp [bi, bitI, *], rfl⟩
set_option maxRecDepth 20000 in
theorem s_isBelow {G : Gt} {d : Nat} {M : Mm} (a b : Int32) : ExI G (d) mX6_isBelow [.int a, .int b] M (fun r M' => r = bi (inb a b) ∧ M' = M) := by
  refine Ex.of (by decide) (Nat.le_of_ble_eq_true rfl) ?_
  show Go G (d) mX6_isBelow 0 [some (.int a), some (.int b)] [] M _
  refine Go.iload_n dX6_isBelow_0 rfl ?_
  refine Go.if_lt 13 dX6_isBelow_1 rfl (fun h1 => ?_) (fun h1 => ?_)
  · refine Go.iconst (v := 0) dX6_isBelow_13 (by decide) ?_
    refine Go.iret dX6_isBelow_14 rfl (by decide) ?_
    refine ⟨_, rfl, ?_, rfl⟩
    simp only [bi, inb, i_lt, i_le, Bool.and_eq_true, decide_eq_true_eq] at *
    split <;> first | rfl | omega
  · refine Go.iload_n dX6_isBelow_4 rfl ?_
    refine Go.iload_n dX6_isBelow_5 rfl ?_
    refine Go.icmp_ge 13 dX6_isBelow_6 rfl (fun h6 => ?_) (fun h6 => ?_)
    · refine Go.iconst (v := 0) dX6_isBelow_13 (by decide) ?_
      refine Go.iret dX6_isBelow_14 rfl (by decide) ?_
      refine ⟨_, rfl, ?_, rfl⟩
      simp only [bi, inb, i_lt, i_le, Bool.and_eq_true, decide_eq_true_eq] at *
      split <;> first | rfl | omega
    · refine Go.iconst (v := 1) dX6_isBelow_9 (by decide) ?_
      refine Go.goto 14 dX6_isBelow_10 rfl ?_
      refine Go.iret dX6_isBelow_14 rfl (by decide) ?_
      refine ⟨_, rfl, ?_, rfl⟩
      simp only [bi, inb, i_lt, i_le, Bool.and_eq_true, decide_eq_true_eq] at *
      split <;> first | rfl | omega
set_option maxRecDepth 20000 in
theorem s_bitCount {G : Gt} {d : Nat} {M : Mm} (a : Int32) : ExI G (d) mJ6_bitCount_0f7a4 [.int a] M (fun r M' => r = pcI a ∧ M' = M) := by
  refine Ex.of (by decide) (Nat.le_of_ble_eq_true rfl) ?_
  show Go G (d) mJ6_bitCount_0f7a4 0 [some (.int a)] [] M _
  refine Go.iload_n dJ6_bitCount_0f7a4_0 rfl ?_
  refine Go.iload_n dJ6_bitCount_0f7a4_1 rfl ?_
  refine Go.iconst (v := 1) dJ6_bitCount_0f7a4_2 (by decide) ?_
  refine Go.iushr dJ6_bitCount_0f7a4_3 ?_
  refine Go.ldcw dJ6_bitCount_0f7a4_4 kcJ6_265 ?_
  refine Go.iand dJ6_bitCount_0f7a4_7 ?_
  refine Go.isub dJ6_bitCount_0f7a4_8 ?_
  refine Go.nmI (fun x1 ex1 => ?_)
  refine Go.istore_n (ls' := [some (.int x1)]) dJ6_bitCount_0f7a4_9 (Nat.le_of_ble_eq_true rfl) rfl rfl ?_
  refine Go.iload_n dJ6_bitCount_0f7a4_10 rfl ?_
  refine Go.ldcw dJ6_bitCount_0f7a4_11 kcJ6_266 ?_
  refine Go.iand dJ6_bitCount_0f7a4_14 ?_
  refine Go.iload_n dJ6_bitCount_0f7a4_15 rfl ?_
  refine Go.iconst (v := 2) dJ6_bitCount_0f7a4_16 (by decide) ?_
  refine Go.iushr dJ6_bitCount_0f7a4_17 ?_
  refine Go.ldcw dJ6_bitCount_0f7a4_18 kcJ6_266 ?_
  refine Go.iand dJ6_bitCount_0f7a4_21 ?_
  refine Go.iadd dJ6_bitCount_0f7a4_22 ?_
  refine Go.nmI (fun x2 ex2 => ?_)
  refine Go.istore_n (ls' := [some (.int x2)]) dJ6_bitCount_0f7a4_23 (Nat.le_of_ble_eq_true rfl) rfl rfl ?_
  refine Go.iload_n dJ6_bitCount_0f7a4_24 rfl ?_
  refine Go.iload_n dJ6_bitCount_0f7a4_25 rfl ?_
  refine Go.iconst (v := 4) dJ6_bitCount_0f7a4_26 (by decide) ?_
  refine Go.iushr dJ6_bitCount_0f7a4_27 ?_
  refine Go.iadd dJ6_bitCount_0f7a4_28 ?_
  refine Go.ldcw dJ6_bitCount_0f7a4_29 kcJ6_267 ?_
  refine Go.iand dJ6_bitCount_0f7a4_32 ?_
  refine Go.nmI (fun x3 ex3 => ?_)
  refine Go.istore_n (ls' := [some (.int x3)]) dJ6_bitCount_0f7a4_33 (Nat.le_of_ble_eq_true rfl) rfl rfl ?_
  refine Go.iload_n dJ6_bitCount_0f7a4_34 rfl ?_
  refine Go.iload_n dJ6_bitCount_0f7a4_35 rfl ?_
  refine Go.bipush (v := 8) dJ6_bitCount_0f7a4_36 (by decide) ?_
  refine Go.iushr dJ6_bitCount_0f7a4_38 ?_
  refine Go.iadd dJ6_bitCount_0f7a4_39 ?_
  refine Go.nmI (fun x4 ex4 => ?_)
  refine Go.istore_n (ls' := [some (.int x4)]) dJ6_bitCount_0f7a4_40 (Nat.le_of_ble_eq_true rfl) rfl rfl ?_
  refine Go.iload_n dJ6_bitCount_0f7a4_41 rfl ?_
  refine Go.iload_n dJ6_bitCount_0f7a4_42 rfl ?_
  refine Go.bipush (v := 16) dJ6_bitCount_0f7a4_43 (by decide) ?_
  refine Go.iushr dJ6_bitCount_0f7a4_45 ?_
  refine Go.iadd dJ6_bitCount_0f7a4_46 ?_
  refine Go.nmI (fun x5 ex5 => ?_)
  refine Go.istore_n (ls' := [some (.int x5)]) dJ6_bitCount_0f7a4_47 (Nat.le_of_ble_eq_true rfl) rfl rfl ?_
  refine Go.iload_n dJ6_bitCount_0f7a4_48 rfl ?_
  refine Go.bipush (v := 63) dJ6_bitCount_0f7a4_49 (by decide) ?_
  refine Go.iand dJ6_bitCount_0f7a4_51 ?_
  refine Go.iret dJ6_bitCount_0f7a4_52 rfl rfl ?_
  exact ⟨_, rfl, by simp only [pcI, *], rfl⟩
set_option maxRecDepth 20000 in
theorem s_isSet {G : Gt} {d : Nat} {M : Mm} (a : Int32) : ExI G (d + 1) mX6_isSet [.int a] M (fun r M' => r = bi (isSetI a) ∧ M' = M) := by
  refine Ex.of (by decide) (Nat.le_of_ble_eq_true rfl) ?_
  show Go G (d + 1) mX6_isSet 0 [some (.int a)] [] M _
  refine Go.iload_n dX6_isSet_0 rfl ?_
  refine Go.if_le 23 dX6_isSet_1 rfl (fun h1 => ?_) (fun h1 => ?_)
  · refine Go.iconst (v := 0) dX6_isSet_23 (by decide) ?_
    refine Go.iret dX6_isSet_24 rfl (by decide) ?_
    refine ⟨_, rfl, ?_, rfl⟩
    simp [bi, isSetI, h1, i_le_n h1]
  · refine Go.iload_n dX6_isSet_4 rfl ?_
    refine Go.sipush (v := 256) dX6_isSet_5 (by decide) ?_
    refine Go.icmp_ge 23 dX6_isSet_8 rfl (fun h8 => ?_) (fun h8 => ?_)
    · refine Go.iconst (v := 0) dX6_isSet_23 (by decide) ?_
      refine Go.iret dX6_isSet_24 rfl (by decide) ?_
      refine ⟨_, rfl, ?_, rfl⟩
      simp [bi, isSetI, h1, i_nle h1, h8, i_le_n h8]
    · refine Go.iload_n dX6_isSet_11 rfl ?_
      refine Go.callSI [] dX6_isSet_12 lkX6_293 stJ6_bitCount_0f7a4 cbJ6_bitCount_0f7a4 (s_bitCount a) rfl rfl (Nat.le_of_ble_eq_true rfl) (fun r1 M2 hr1 => ?_)
      obtain ⟨er1, emr1⟩ := hr1
      rw [emr1]
      clear emr1 M2
      subst er1
      refine Go.iconst (v := 3) dX6_isSet_15 (by decide) ?_
      refine Go.icmp_gt 23 dX6_isSet_16 rfl (fun h16 => ?_) (fun h16 => ?_)
      · refine Go.iconst (v := 0) dX6_isSet_23 (by decide) ?_
        refine Go.iret dX6_isSet_24 rfl (by decide) ?_
        refine ⟨_, rfl, ?_, rfl⟩
        simp [bi, isSetI, h1, i_nle h1, h8, i_nle h8, h16, i_lt_n h16]
      · refine Go.iconst (v := 1) dX6_isSet_19 (by decide) ?_
        refine Go.goto 24 dX6_isSet_20 rfl ?_
        refine Go.iret dX6_isSet_24 rfl (by decide) ?_
        refine ⟨_, rfl, ?_, rfl⟩
        simp [bi, isSetI, h1, i_nle h1, h8, i_nle h8, h16, i_nlt h16]
set_option maxRecDepth 20000 in
theorem s_isDish {G : Gt} {d : Nat} {M : Mm} (a : Int32) : ExI G (d + 2) mX6_isDish [.int a] M (fun r M' => r = bi (isDishI a) ∧ M' = M) := by
  refine Ex.of (by decide) (Nat.le_of_ble_eq_true rfl) ?_
  show Go G (d + 2) mX6_isDish 0 [some (.int a)] [] M _
  refine Go.iload_n dX6_isDish_0 rfl ?_
  refine Go.if_lt 18 dX6_isDish_1 rfl (fun h1 => ?_) (fun h1 => ?_)
  · refine Go.iconst (v := 0) dX6_isDish_18 (by decide) ?_
    refine Go.iret dX6_isDish_19 rfl (by decide) ?_
    refine ⟨_, rfl, ?_, rfl⟩
    simp [bi, isDishI, h1, i_lt_n h1]
  · refine Go.iload_n dX6_isDish_4 rfl ?_
    refine Go.callSI [] dX6_isDish_5 lkX6_89 stX6_setOf cbX6_setOf (s_setOf a) rfl rfl (Nat.le_of_ble_eq_true rfl) (fun r1 M2 hr1 => ?_)
    obtain ⟨er1, emr1⟩ := hr1
    rw [emr1]
    clear emr1 M2
    subst er1
    refine Go.callSI [] dX6_isDish_8 lkX6_78 stX6_isSet cbX6_isSet (s_isSet (iset a)) rfl rfl (Nat.le_of_ble_eq_true rfl) (fun r3 M4 hr3 => ?_)
    obtain ⟨er3, emr3⟩ := hr3
    rw [emr3]
    clear emr3 M4
    subst er3
    refine Go.if_eq 18 dX6_isDish_11 rfl (fun h11 => ?_) (fun h11 => ?_)
    · refine Go.iconst (v := 0) dX6_isDish_18 (by decide) ?_
      refine Go.iret dX6_isDish_19 rfl (by decide) ?_
      refine ⟨_, rfl, ?_, rfl⟩
      simp [bi, isDishI, h1, i_nlt h1, bi_0.mp h11]
    · refine Go.iconst (v := 1) dX6_isDish_14 (by decide) ?_
      refine Go.goto 19 dX6_isDish_15 rfl ?_
      refine Go.iret dX6_isDish_19 rfl (by decide) ?_
      refine ⟨_, rfl, ?_, rfl⟩
      simp [bi, isDishI, h1, i_nlt h1, bi_n0.mp h11]
set_option maxRecDepth 20000 in
theorem s_barsParts {G : Gt} {d : Nat} {M : Mm} (k : Int32) : ExI G (d) mX6_barsParts [.int k] M (fun r M' => r = bi (partsI k) ∧ M' = M) := by
  refine Ex.of (by decide) (Nat.le_of_ble_eq_true rfl) ?_
  show Go G (d) mX6_barsParts 0 [some (.int k)] [] M _
  refine Go.iload_n dX6_barsParts_0 rfl ?_
  refine Go.iconst (v := 1) dX6_barsParts_1 (by decide) ?_
  refine Go.icmp_eq 10 dX6_barsParts_2 rfl (fun h2 => ?_) (fun h2 => ?_)
  · refine Go.iconst (v := 1) dX6_barsParts_10 (by decide) ?_
    refine Go.goto 15 dX6_barsParts_11 rfl ?_
    refine Go.iret dX6_barsParts_15 rfl (by decide) ?_
    refine ⟨_, rfl, ?_, rfl⟩
    simp [bi, partsI, h2]
  · refine Go.iload_n dX6_barsParts_5 rfl ?_
    refine Go.iconst (v := 4) dX6_barsParts_6 (by decide) ?_
    refine Go.icmp_ne 14 dX6_barsParts_7 rfl (fun h7 => ?_) (fun h7 => ?_)
    · refine Go.iconst (v := 0) dX6_barsParts_14 (by decide) ?_
      refine Go.iret dX6_barsParts_15 rfl (by decide) ?_
      refine ⟨_, rfl, ?_, rfl⟩
      simp [bi, partsI, h2, h7]
    · refine Go.iconst (v := 1) dX6_barsParts_10 (by decide) ?_
      refine Go.goto 15 dX6_barsParts_11 rfl ?_
      refine Go.iret dX6_barsParts_15 rfl (by decide) ?_
      refine ⟨_, rfl, ?_, rfl⟩
      simp [bi, partsI, h2, h7]
set_option maxRecDepth 20000 in
theorem s_part {G : Gt} {d : Nat} {M : Mm} (a b : Int32) : ExI G (d) mX6_isPartEitherWay [.int a, .int b] M (fun r M' => r = bi (partI a b) ∧ M' = M) := by
  refine Ex.of (by decide) (Nat.le_of_ble_eq_true rfl) ?_
  show Go G (d) mX6_isPartEitherWay 0 [some (.int a), some (.int b), none] [] M _
  refine Go.iload_n dX6_isPartEitherWay_0 rfl ?_
  refine Go.iload_n dX6_isPartEitherWay_1 rfl ?_
  refine Go.iand dX6_isPartEitherWay_2 ?_
  refine Go.nmI (fun x1 ex1 => ?_)
  refine Go.istore_n (ls' := [some (.int a), some (.int b), some (.int x1)]) dX6_isPartEitherWay_3 (Nat.le_of_ble_eq_true rfl) rfl rfl ?_
  refine Go.iload_n dX6_isPartEitherWay_4 rfl ?_
  refine Go.iload_n dX6_isPartEitherWay_5 rfl ?_
  refine Go.icmp_eq 14 dX6_isPartEitherWay_6 rfl (fun h6 => ?_) (fun h6 => ?_)
  · refine Go.iconst (v := 1) dX6_isPartEitherWay_14 (by decide) ?_
    refine Go.goto 19 dX6_isPartEitherWay_15 rfl ?_
    refine Go.iret dX6_isPartEitherWay_19 rfl (by decide) ?_
    refine ⟨_, rfl, ?_, rfl⟩
    subst ex1
    simp [bi, partI, h6]
  · refine Go.iload_n dX6_isPartEitherWay_9 rfl ?_
    refine Go.iload_n dX6_isPartEitherWay_10 rfl ?_
    refine Go.icmp_ne 18 dX6_isPartEitherWay_11 rfl (fun h11 => ?_) (fun h11 => ?_)
    · refine Go.iconst (v := 0) dX6_isPartEitherWay_18 (by decide) ?_
      refine Go.iret dX6_isPartEitherWay_19 rfl (by decide) ?_
      refine ⟨_, rfl, ?_, rfl⟩
      subst ex1
      simp [bi, partI, h6, h11]
    · refine Go.iconst (v := 1) dX6_isPartEitherWay_14 (by decide) ?_
      refine Go.goto 19 dX6_isPartEitherWay_15 rfl ?_
      refine Go.iret dX6_isPartEitherWay_19 rfl (by decide) ?_
      refine ⟨_, rfl, ?_, rfl⟩
      subst ex1
      simp [bi, partI, h6, h11]
set_option maxRecDepth 20000 in
theorem s_barsSet {G : Gt} {d : Nat} {M : Mm} (k a b : Int32) : ExI G (d + 1) mX6_barsSet [.int k, .int a, .int b] M (fun r M' => r = bi (bsetI k a b) ∧ M' = M) := by
  refine Ex.of (by decide) (Nat.le_of_ble_eq_true rfl) ?_
  show Go G (d + 1) mX6_barsSet 0 [some (.int k), some (.int a), some (.int b)] [] M _
  refine Go.iload_n dX6_barsSet_0 rfl ?_
  refine Go.callSI [] dX6_barsSet_1 lkX6_303 stX6_barsParts cbX6_barsParts (s_barsParts k) rfl rfl (Nat.le_of_ble_eq_true rfl) (fun r1 M2 hr1 => ?_)
  obtain ⟨er1, emr1⟩ := hr1
  rw [emr1]
  clear emr1 M2
  subst er1
  refine Go.if_eq 15 dX6_barsSet_4 rfl (fun h4 => ?_) (fun h4 => ?_)
  · refine Go.iload_n dX6_barsSet_15 rfl ?_
    refine Go.iload_n dX6_barsSet_16 rfl ?_
    refine Go.icmp_ne 24 dX6_barsSet_17 rfl (fun h17 => ?_) (fun h17 => ?_)
    · refine Go.iconst (v := 0) dX6_barsSet_24 (by decide) ?_
      refine Go.iret dX6_barsSet_25 rfl (by decide) ?_
      refine ⟨_, rfl, ?_, rfl⟩
      simp [bi, bsetI, bi_0.mp h4, h17]
    · refine Go.iconst (v := 1) dX6_barsSet_20 (by decide) ?_
      refine Go.goto 25 dX6_barsSet_21 rfl ?_
      refine Go.iret dX6_barsSet_25 rfl (by decide) ?_
      refine ⟨_, rfl, ?_, rfl⟩
      simp [bi, bsetI, bi_0.mp h4, h17]
  · refine Go.iload_n dX6_barsSet_7 rfl ?_
    refine Go.iload_n dX6_barsSet_8 rfl ?_
    refine Go.callSI [] dX6_barsSet_9 lkX6_306 stX6_isPartEitherWay cbX6_isPartEitherWay (s_part a b) rfl rfl (Nat.le_of_ble_eq_true rfl) (fun r3 M4 hr3 => ?_)
    obtain ⟨er3, emr3⟩ := hr3
    rw [emr3]
    clear emr3 M4
    subst er3
    refine Go.goto 25 dX6_barsSet_12 rfl ?_
    refine Go.iret dX6_barsSet_25 rfl (bi_nar _) ?_
    refine ⟨_, rfl, ?_, rfl⟩
    simp [bi, bsetI, bi_n0.mp h4]
set_option maxRecDepth 20000 in
theorem s_mannersBarred {G : Gt} {d : Nat} {M : Mm} (k man ed : Int32) : ExI G d mX6_mannersBarred [.int k, .int man, .int ed] M (fun x M' => x = imb k man ed ∧ M' = M) := by
  refine Ex.of (by decide) (Nat.le_of_ble_eq_true rfl) ?_
  show Go G d mX6_mannersBarred 0 [some (.int k), some (.int man), some (.int ed), none, none, none, none] [] M _
  have j71 : ¬ k = 2 → ∀ h w s : Bool, h = (decide (k = 0) || decide (k = 1)) → w = (decide (k = 3) || decide (k = 5) || (h && !decide (ed &&& 2 = 0))) → s = (decide (k = 3) || (h && !decide (ed &&& 1 = 0))) → Go G d mX6_mannersBarred 71 [some (.int k), some (.int man), some (.int ed), some (.int (bi h)), some (.int (bi w)), some (.int (bi s)), none] [] M (fun v M' => ∃ x, v = some (.int x) ∧ x = imb k man ed ∧ M' = M) := by
    intro hk h w s eh ew es
    refine Go.ldcw dX6_mannersBarred_71 kcX6_301 ?_
    refine Go.istore (ls' := [some (.int k), some (.int man), some (.int ed), some (.int (bi h)), some (.int (bi w)), some (.int (bi s)), some (.int 1048575)]) dX6_mannersBarred_74 (Nat.le_of_ble_eq_true rfl) rfl rfl ?_
    refine Go.iload dX6_mannersBarred_76 rfl ?_
    refine Go.if_eq 94 dX6_mannersBarred_78 rfl (fun h78 => ?_) (fun h78 => ?_)
    · refine Go.iload dX6_mannersBarred_94 rfl ?_
      refine Go.if_eq 111 dX6_mannersBarred_96 rfl (fun h96 => ?_) (fun h96 => ?_)
      · refine Go.iload dX6_mannersBarred_111 rfl ?_
        refine Go.iret dX6_mannersBarred_113 rfl rfl ?_
        refine ⟨_, rfl, ?_, rfl⟩
        simp only [imb, if_neg hk, ← eh, ← ew, ← es]
        simp [bi_0.mp h78, bi_0.mp h96]
      · refine Go.iload dX6_mannersBarred_99 rfl ?_
        refine Go.ldcw dX6_mannersBarred_101 kcX6_302 ?_
        refine Go.iload_n dX6_mannersBarred_104 rfl ?_
        refine Go.iconst (v := 4) dX6_mannersBarred_105 (by decide) ?_
        refine Go.irem dX6_mannersBarred_106 (by decide) ?_
        refine Go.ishl dX6_mannersBarred_107 ?_
        refine Go.iand dX6_mannersBarred_108 ?_
        refine Go.nmI (fun x1 ex1 => ?_)
        refine Go.istore (ls' := [some (.int k), some (.int man), some (.int ed), some (.int (bi h)), some (.int (bi w)), some (.int (bi s)), some (.int x1)]) dX6_mannersBarred_109 (Nat.le_of_ble_eq_true rfl) rfl rfl ?_
        refine Go.iload dX6_mannersBarred_111 rfl ?_
        refine Go.iret dX6_mannersBarred_113 rfl rfl ?_
        refine ⟨_, rfl, ?_, rfl⟩
        subst ex1
        simp only [imb, if_neg hk, ← eh, ← ew, ← es]
        simp [bi_0.mp h78, bi_n0.mp h96]
    · refine Go.iload dX6_mannersBarred_81 rfl ?_
      refine Go.bipush (v := 15) dX6_mannersBarred_83 (by decide) ?_
      refine Go.iload_n dX6_mannersBarred_85 rfl ?_
      refine Go.iload_n dX6_mannersBarred_86 rfl ?_
      refine Go.iconst (v := 4) dX6_mannersBarred_87 (by decide) ?_
      refine Go.irem dX6_mannersBarred_88 (by decide) ?_
      refine Go.isub dX6_mannersBarred_89 ?_
      refine Go.ishl dX6_mannersBarred_90 ?_
      refine Go.iand dX6_mannersBarred_91 ?_
      refine Go.nmI (fun x2 ex2 => ?_)
      refine Go.istore (ls' := [some (.int k), some (.int man), some (.int ed), some (.int (bi h)), some (.int (bi w)), some (.int (bi s)), some (.int x2)]) dX6_mannersBarred_92 (Nat.le_of_ble_eq_true rfl) rfl rfl ?_
      refine Go.iload dX6_mannersBarred_94 rfl ?_
      refine Go.if_eq 111 dX6_mannersBarred_96 rfl (fun h96 => ?_) (fun h96 => ?_)
      · refine Go.iload dX6_mannersBarred_111 rfl ?_
        refine Go.iret dX6_mannersBarred_113 rfl rfl ?_
        refine ⟨_, rfl, ?_, rfl⟩
        subst ex2
        simp only [imb, if_neg hk, ← eh, ← ew, ← es]
        simp [bi_n0.mp h78, bi_0.mp h96]
      · refine Go.iload dX6_mannersBarred_99 rfl ?_
        refine Go.ldcw dX6_mannersBarred_101 kcX6_302 ?_
        refine Go.iload_n dX6_mannersBarred_104 rfl ?_
        refine Go.iconst (v := 4) dX6_mannersBarred_105 (by decide) ?_
        refine Go.irem dX6_mannersBarred_106 (by decide) ?_
        refine Go.ishl dX6_mannersBarred_107 ?_
        refine Go.iand dX6_mannersBarred_108 ?_
        refine Go.nmI (fun x3 ex3 => ?_)
        refine Go.istore (ls' := [some (.int k), some (.int man), some (.int ed), some (.int (bi h)), some (.int (bi w)), some (.int (bi s)), some (.int x3)]) dX6_mannersBarred_109 (Nat.le_of_ble_eq_true rfl) rfl rfl ?_
        refine Go.iload dX6_mannersBarred_111 rfl ?_
        refine Go.iret dX6_mannersBarred_113 rfl rfl ?_
        refine ⟨_, rfl, ?_, rfl⟩
        subst ex3
        subst ex2
        simp only [imb, if_neg hk, ← eh, ← ew, ← es]
        simp [bi_n0.mp h78, bi_n0.mp h96]
  have j69 : ¬ k = 2 → ∀ h w s : Bool, h = (decide (k = 0) || decide (k = 1)) → w = (decide (k = 3) || decide (k = 5) || (h && !decide (ed &&& 2 = 0))) → s = (decide (k = 3) || (h && !decide (ed &&& 1 = 0))) → Go G d mX6_mannersBarred 69 [some (.int k), some (.int man), some (.int ed), some (.int (bi h)), some (.int (bi w)), none, none] [.int (bi s)] M (fun v M' => ∃ x, v = some (.int x) ∧ x = imb k man ed ∧ M' = M) := by
    intro hk h w s eh ew es
    refine Go.istore (ls' := [some (.int k), some (.int man), some (.int ed), some (.int (bi h)), some (.int (bi w)), some (.int (bi s)), none]) dX6_mannersBarred_69 (Nat.le_of_ble_eq_true rfl) rfl rfl ?_
    exact j71 hk h w s eh ew es
  have j47 : ¬ k = 2 → ∀ h w : Bool, h = (decide (k = 0) || decide (k = 1)) → w = (decide (k = 3) || decide (k = 5) || (h && !decide (ed &&& 2 = 0))) → Go G d mX6_mannersBarred 47 [some (.int k), some (.int man), some (.int ed), some (.int (bi h)), none, none, none] [.int (bi w)] M (fun v M' => ∃ x, v = some (.int x) ∧ x = imb k man ed ∧ M' = M) := by
    intro hk h w eh ew
    refine Go.istore (ls' := [some (.int k), some (.int man), some (.int ed), some (.int (bi h)), some (.int (bi w)), none, none]) dX6_mannersBarred_47 (Nat.le_of_ble_eq_true rfl) rfl rfl ?_
    refine Go.iload_n dX6_mannersBarred_49 rfl ?_
    refine Go.iconst (v := 3) dX6_mannersBarred_50 (by decide) ?_
    refine Go.icmp_eq 64 dX6_mannersBarred_51 rfl (fun h51 => ?_) (fun h51 => ?_)
    · refine Go.iconst (v := 1) dX6_mannersBarred_64 (by decide) ?_
      refine Go.goto 69 dX6_mannersBarred_65 rfl ?_
      exact j69 hk h w true eh ew (by simp [h51])
    · refine Go.iload_n dX6_mannersBarred_54 rfl ?_
      refine Go.if_eq 68 dX6_mannersBarred_55 rfl (fun h55 => ?_) (fun h55 => ?_)
      · refine Go.iconst (v := 0) dX6_mannersBarred_68 (by decide) ?_
        exact j69 hk h w false eh ew (by simp [h51, bi_0.mp h55])
      · refine Go.iload_n dX6_mannersBarred_58 rfl ?_
        refine Go.iconst (v := 1) dX6_mannersBarred_59 (by decide) ?_
        refine Go.iand dX6_mannersBarred_60 ?_
        refine Go.if_eq 68 dX6_mannersBarred_61 rfl (fun h61 => ?_) (fun h61 => ?_)
        · refine Go.iconst (v := 0) dX6_mannersBarred_68 (by decide) ?_
          exact j69 hk h w false eh ew (by simp [h51, bi_n0.mp h55, h61])
        · refine Go.iconst (v := 1) dX6_mannersBarred_64 (by decide) ?_
          refine Go.goto 69 dX6_mannersBarred_65 rfl ?_
          exact j69 hk h w true eh ew (by simp [h51, bi_n0.mp h55, h61])
  have j21 : ¬ k = 2 → ∀ h : Bool, h = (decide (k = 0) || decide (k = 1)) → Go G d mX6_mannersBarred 21 [some (.int k), some (.int man), some (.int ed), none, none, none, none] [.int (bi h)] M (fun v M' => ∃ x, v = some (.int x) ∧ x = imb k man ed ∧ M' = M) := by
    intro hk h eh
    refine Go.istore_n (ls' := [some (.int k), some (.int man), some (.int ed), some (.int (bi h)), none, none, none]) dX6_mannersBarred_21 (Nat.le_of_ble_eq_true rfl) rfl rfl ?_
    refine Go.iload_n dX6_mannersBarred_22 rfl ?_
    refine Go.iconst (v := 3) dX6_mannersBarred_23 (by decide) ?_
    refine Go.icmp_eq 42 dX6_mannersBarred_24 rfl (fun h24 => ?_) (fun h24 => ?_)
    · refine Go.iconst (v := 1) dX6_mannersBarred_42 (by decide) ?_
      refine Go.goto 47 dX6_mannersBarred_43 rfl ?_
      exact j47 hk h true eh (by simp [h24])
    · refine Go.iload_n dX6_mannersBarred_27 rfl ?_
      refine Go.iconst (v := 5) dX6_mannersBarred_28 (by decide) ?_
      refine Go.icmp_eq 42 dX6_mannersBarred_29 rfl (fun h29 => ?_) (fun h29 => ?_)
      · refine Go.iconst (v := 1) dX6_mannersBarred_42 (by decide) ?_
        refine Go.goto 47 dX6_mannersBarred_43 rfl ?_
        exact j47 hk h true eh (by simp [h24, h29])
      · refine Go.iload_n dX6_mannersBarred_32 rfl ?_
        refine Go.if_eq 46 dX6_mannersBarred_33 rfl (fun h33 => ?_) (fun h33 => ?_)
        · refine Go.iconst (v := 0) dX6_mannersBarred_46 (by decide) ?_
          exact j47 hk h false eh (by simp [h24, h29, bi_0.mp h33])
        · refine Go.iload_n dX6_mannersBarred_36 rfl ?_
          refine Go.iconst (v := 2) dX6_mannersBarred_37 (by decide) ?_
          refine Go.iand dX6_mannersBarred_38 ?_
          refine Go.if_eq 46 dX6_mannersBarred_39 rfl (fun h39 => ?_) (fun h39 => ?_)
          · refine Go.iconst (v := 0) dX6_mannersBarred_46 (by decide) ?_
            exact j47 hk h false eh (by simp [h24, h29, bi_n0.mp h33, h39])
          · refine Go.iconst (v := 1) dX6_mannersBarred_42 (by decide) ?_
            refine Go.goto 47 dX6_mannersBarred_43 rfl ?_
            exact j47 hk h true eh (by simp [h24, h29, bi_n0.mp h33, h39])
  refine Go.iload_n dX6_mannersBarred_0 rfl ?_
  refine Go.iconst (v := 2) dX6_mannersBarred_1 (by decide) ?_
  refine Go.icmp_ne 7 dX6_mannersBarred_2 rfl (fun h2 => ?_) (fun h2 => ?_)
  · refine Go.iload_n dX6_mannersBarred_7 rfl ?_
    refine Go.if_eq 16 dX6_mannersBarred_8 rfl (fun h8 => ?_) (fun h8 => ?_)
    · refine Go.iconst (v := 1) dX6_mannersBarred_16 (by decide) ?_
      refine Go.goto 21 dX6_mannersBarred_17 rfl ?_
      exact j21 h2 true (by simp [h2, h8])
    · refine Go.iload_n dX6_mannersBarred_11 rfl ?_
      refine Go.iconst (v := 1) dX6_mannersBarred_12 (by decide) ?_
      refine Go.icmp_ne 20 dX6_mannersBarred_13 rfl (fun h13 => ?_) (fun h13 => ?_)
      · refine Go.iconst (v := 0) dX6_mannersBarred_20 (by decide) ?_
        exact j21 h2 false (by simp [h2, h8, h13])
      · refine Go.iconst (v := 1) dX6_mannersBarred_16 (by decide) ?_
        refine Go.goto 21 dX6_mannersBarred_17 rfl ?_
        exact j21 h2 true (by simp [h2, h8, h13])
  · refine Go.iconst (v := 0) dX6_mannersBarred_5 (by decide) ?_
    refine Go.iret dX6_mannersBarred_6 rfl rfl ?_
    exact ⟨_, rfl, by simp [imb, h2], rfl⟩
set_option maxRecDepth 20000 in
theorem s_barsDish {G : Gt} {d : Nat} {M : Mm} (k own x ed : Int32) : ExI G (d + 2) mX6_barsDish [.int k, .int own, .int x, .int ed] M (fun r M' => r = bi (bdishI k own x ed) ∧ M' = M) := by
  refine Ex.of (by decide) (Nat.le_of_ble_eq_true rfl) ?_
  show Go G (d + 2) mX6_barsDish 0 [some (.int k), some (.int own), some (.int x), some (.int ed)] [] M _
  refine Go.iload_n dX6_barsDish_0 rfl ?_
  refine Go.iload_n dX6_barsDish_1 rfl ?_
  refine Go.callSI [.int k] dX6_barsDish_2 lkX6_89 stX6_setOf cbX6_setOf (s_setOf own) rfl rfl (Nat.le_of_ble_eq_true rfl) (fun r1 M2 hr1 => ?_)
  obtain ⟨er1, emr1⟩ := hr1
  rw [emr1]
  clear emr1 M2
  subst er1
  refine Go.iload_n dX6_barsDish_5 rfl ?_
  refine Go.callSI [.int (iset own), .int k] dX6_barsDish_6 lkX6_89 stX6_setOf cbX6_setOf (s_setOf x) rfl rfl (Nat.le_of_ble_eq_true rfl) (fun r3 M4 hr3 => ?_)
  obtain ⟨er3, emr3⟩ := hr3
  rw [emr3]
  clear emr3 M4
  subst er3
  refine Go.callSI [] dX6_barsDish_9 lkX6_309 stX6_barsSet cbX6_barsSet (s_barsSet k (iset own) (iset x)) rfl rfl (Nat.le_of_ble_eq_true rfl) (fun r5 M6 hr5 => ?_)
  obtain ⟨er5, emr5⟩ := hr5
  rw [emr5]
  clear emr5 M6
  subst er5
  refine Go.if_eq 38 dX6_barsDish_12 rfl (fun h12 => ?_) (fun h12 => ?_)
  · refine Go.iconst (v := 0) dX6_barsDish_38 (by decide) ?_
    refine Go.iret dX6_barsDish_39 rfl (by decide) ?_
    refine ⟨_, rfl, ?_, rfl⟩
    simp [bi, bdishI, bi_0.mp h12]
  · refine Go.iload_n dX6_barsDish_15 rfl ?_
    refine Go.iload_n dX6_barsDish_16 rfl ?_
    refine Go.callSI [.int k] dX6_barsDish_17 lkX6_313 stX6_mannerOf cbX6_mannerOf (s_mannerOf own) rfl rfl (Nat.le_of_ble_eq_true rfl) (fun r7 M8 hr7 => ?_)
    obtain ⟨er7, emr7⟩ := hr7
    rw [emr7]
    clear emr7 M8
    subst er7
    refine Go.iload_n dX6_barsDish_20 rfl ?_
    refine Go.callSI [] dX6_barsDish_21 lkX6_316 stX6_mannersBarred cbX6_mannersBarred (s_mannersBarred k (iman own) ed) rfl rfl (Nat.le_of_ble_eq_true rfl) (fun r9 M10 hr9 => ?_)
    obtain ⟨er9, emr9⟩ := hr9
    rw [emr9]
    clear emr9 M10
    subst er9
    refine Go.iload_n dX6_barsDish_24 rfl ?_
    refine Go.callSI [.int (imb k (iman own) ed)] dX6_barsDish_25 lkX6_313 stX6_mannerOf cbX6_mannerOf (s_mannerOf x) rfl rfl (Nat.le_of_ble_eq_true rfl) (fun r11 M12 hr11 => ?_)
    obtain ⟨er11, emr11⟩ := hr11
    rw [emr11]
    clear emr11 M12
    subst er11
    refine Go.callSI [] dX6_barsDish_28 lkX6_319 stX6_hasBit cbX6_hasBit (s_hasBit (imb k (iman own) ed) (iman x)) rfl rfl (Nat.le_of_ble_eq_true rfl) (fun r13 M14 hr13 => ?_)
    obtain ⟨er13, emr13⟩ := hr13
    rw [emr13]
    clear emr13 M14
    subst er13
    refine Go.if_eq 38 dX6_barsDish_31 rfl (fun h31 => ?_) (fun h31 => ?_)
    · refine Go.iconst (v := 0) dX6_barsDish_38 (by decide) ?_
      refine Go.iret dX6_barsDish_39 rfl (by decide) ?_
      refine ⟨_, rfl, ?_, rfl⟩
      simp [bi, bdishI, bi_n0.mp h12, bi_0.mp h31]
    · refine Go.iconst (v := 1) dX6_barsDish_34 (by decide) ?_
      refine Go.goto 39 dX6_barsDish_35 rfl ?_
      refine Go.iret dX6_barsDish_39 rfl (by decide) ?_
      refine ⟨_, rfl, ?_, rfl⟩
      simp [bi, bdishI, bi_n0.mp h12, bi_n0.mp h31]
set_option maxRecDepth 20000 in
theorem s_nearness {G : Gt} {d : Nat} {M : Mm} (a b : Int32) : ExI G (d + 1) mX6_nearness [.int a, .int b] M (fun r M' => r = nearI a b ∧ M' = M) := by
  refine Ex.of (by decide) (Nat.le_of_ble_eq_true rfl) ?_
  show Go G (d + 1) mX6_nearness 0 [some (.int a), some (.int b)] [] M _
  refine Go.iload_n dX6_nearness_0 rfl ?_
  refine Go.callSI [] dX6_nearness_1 lkX6_89 stX6_setOf cbX6_setOf (s_setOf a) rfl rfl (Nat.le_of_ble_eq_true rfl) (fun r1 M2 hr1 => ?_)
  obtain ⟨er1, emr1⟩ := hr1
  rw [emr1]
  clear emr1 M2
  subst er1
  refine Go.iload_n dX6_nearness_4 rfl ?_
  refine Go.callSI [.int (iset a)] dX6_nearness_5 lkX6_89 stX6_setOf cbX6_setOf (s_setOf b) rfl rfl (Nat.le_of_ble_eq_true rfl) (fun r3 M4 hr3 => ?_)
  obtain ⟨er3, emr3⟩ := hr3
  rw [emr3]
  clear emr3 M4
  subst er3
  refine Go.ixor dX6_nearness_8 ?_
  refine Go.callSI [] dX6_nearness_9 lkX6_293 stJ6_bitCount_0f7a4 cbJ6_bitCount_0f7a4 (s_bitCount ((iset a) ^^^ (iset b))) rfl rfl (Nat.le_of_ble_eq_true rfl) (fun r5 M6 hr5 => ?_)
  obtain ⟨er5, emr5⟩ := hr5
  rw [emr5]
  clear emr5 M6
  subst er5
  refine Go.iload_n dX6_nearness_12 rfl ?_
  refine Go.callSI [.int (pcI ((iset a) ^^^ (iset b)))] dX6_nearness_13 lkX6_92 stX6_wayOf cbX6_wayOf (s_wayOf a) rfl rfl (Nat.le_of_ble_eq_true rfl) (fun r7 M8 hr7 => ?_)
  obtain ⟨er7, emr7⟩ := hr7
  rw [emr7]
  clear emr7 M8
  subst er7
  refine Go.iload_n dX6_nearness_16 rfl ?_
  refine Go.callSI [.int (iway a), .int (pcI ((iset a) ^^^ (iset b)))] dX6_nearness_17 lkX6_92 stX6_wayOf cbX6_wayOf (s_wayOf b) rfl rfl (Nat.le_of_ble_eq_true rfl) (fun r9 M10 hr9 => ?_)
  obtain ⟨er9, emr9⟩ := hr9
  rw [emr9]
  clear emr9 M10
  subst er9
  refine Go.icmp_ne 27 dX6_nearness_20 rfl (fun h20 => ?_) (fun h20 => ?_)
  · refine Go.iconst (v := 1) dX6_nearness_27 (by decide) ?_
    refine Go.iadd dX6_nearness_28 ?_
    refine Go.iload_n dX6_nearness_29 rfl ?_
    refine Go.callSI [.int ((pcI ((iset a) ^^^ (iset b))) + 1)] dX6_nearness_30 lkX6_95 stX6_sauceOf cbX6_sauceOf (s_sauceOf a) rfl rfl (Nat.le_of_ble_eq_true rfl) (fun r11 M12 hr11 => ?_)
    obtain ⟨er11, emr11⟩ := hr11
    rw [emr11]
    clear emr11 M12
    subst er11
    refine Go.iload_n dX6_nearness_33 rfl ?_
    refine Go.callSI [.int (isau a), .int ((pcI ((iset a) ^^^ (iset b))) + 1)] dX6_nearness_34 lkX6_95 stX6_sauceOf cbX6_sauceOf (s_sauceOf b) rfl rfl (Nat.le_of_ble_eq_true rfl) (fun r13 M14 hr13 => ?_)
    obtain ⟨er13, emr13⟩ := hr13
    rw [emr13]
    clear emr13 M14
    subst er13
    refine Go.icmp_ne 44 dX6_nearness_37 rfl (fun h37 => ?_) (fun h37 => ?_)
    · refine Go.iconst (v := 1) dX6_nearness_44 (by decide) ?_
      refine Go.iadd dX6_nearness_45 ?_
      refine Go.iret dX6_nearness_46 rfl rfl ?_
      refine ⟨_, rfl, ?_, rfl⟩
      simp [nearI, h20, h37]
    · refine Go.iconst (v := 0) dX6_nearness_40 (by decide) ?_
      refine Go.goto 45 dX6_nearness_41 rfl ?_
      refine Go.iadd dX6_nearness_45 ?_
      refine Go.iret dX6_nearness_46 rfl rfl ?_
      refine ⟨_, rfl, ?_, rfl⟩
      simp [nearI, h20, h37]
  · refine Go.iconst (v := 0) dX6_nearness_23 (by decide) ?_
    refine Go.goto 28 dX6_nearness_24 rfl ?_
    refine Go.iadd dX6_nearness_28 ?_
    refine Go.iload_n dX6_nearness_29 rfl ?_
    refine Go.callSI [.int ((pcI ((iset a) ^^^ (iset b))) + 0)] dX6_nearness_30 lkX6_95 stX6_sauceOf cbX6_sauceOf (s_sauceOf a) rfl rfl (Nat.le_of_ble_eq_true rfl) (fun r15 M16 hr15 => ?_)
    obtain ⟨er15, emr15⟩ := hr15
    rw [emr15]
    clear emr15 M16
    subst er15
    refine Go.iload_n dX6_nearness_33 rfl ?_
    refine Go.callSI [.int (isau a), .int ((pcI ((iset a) ^^^ (iset b))) + 0)] dX6_nearness_34 lkX6_95 stX6_sauceOf cbX6_sauceOf (s_sauceOf b) rfl rfl (Nat.le_of_ble_eq_true rfl) (fun r17 M18 hr17 => ?_)
    obtain ⟨er17, emr17⟩ := hr17
    rw [emr17]
    clear emr17 M18
    subst er17
    refine Go.icmp_ne 44 dX6_nearness_37 rfl (fun h37 => ?_) (fun h37 => ?_)
    · refine Go.iconst (v := 1) dX6_nearness_44 (by decide) ?_
      refine Go.iadd dX6_nearness_45 ?_
      refine Go.iret dX6_nearness_46 rfl rfl ?_
      refine ⟨_, rfl, ?_, rfl⟩
      simp [nearI, h20, h37]
    · refine Go.iconst (v := 0) dX6_nearness_40 (by decide) ?_
      refine Go.goto 45 dX6_nearness_41 rfl ?_
      refine Go.iadd dX6_nearness_45 ?_
      refine Go.iret dX6_nearness_46 rfl rfl ?_
      refine ⟨_, rfl, ?_, rfl⟩
      simp [nearI, h20, h37]
