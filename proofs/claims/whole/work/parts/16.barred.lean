theorem maskN_or (p q : Nat → Bool) (n : Nat) : maskN p n ||| maskN q n = maskN (fun i => p i || q i) n := by
  apply Nat.eq_of_testBit_eq
  intro i
  rw [Nat.testBit_or, maskN_bit, maskN_bit, maskN_bit]
  cases decide (i < n) <;> simp
theorem maskN_and (p q : Nat → Bool) (n : Nat) : maskN p n &&& maskN q n = maskN (fun i => p i && q i) n := by
  apply Nat.eq_of_testBit_eq
  intro i
  rw [Nat.testBit_and, maskN_bit, maskN_bit, maskN_bit]
  cases decide (i < n) <;> simp
theorem maskN_congr {p q : Nat → Bool} : ∀ n, (∀ i, i < n → p i = q i) → maskN p n = maskN q n
  | 0, _ => rfl
  | n + 1, h => by rw [maskN, maskN, maskN_congr n (fun i hi => h i (by omega)), h n (by omega)]
def onM (c : Nat → Nat) (s : Nat) : Nat := maskN (fun m => decide (1 ≤ c (20 * s + m))) 20
def agM (c : Nat → Nat) (s : Nat) : Nat := maskN (fun m => decide (2 ≤ c (20 * s + m))) 20
/-- the rows of barred dishes say how often each is barred: never, once, more -/
def OnceIs (M : Mm) (c : Nat → Nat) : Prop := ∀ s, s < 256 → M.1 28 s = nI (onM c s) ∧ M.1 29 s = nI (agM c s)
theorem OnceIs.same {M M' : Mm} {c : Nat → Nat} (h : OnceIs M c) (h1 : M'.1 28 = M.1 28) (h2 : M'.1 29 = M.1 29) : OnceIs M' c := fun s hs => by rw [h1, h2]; exact h s hs
theorem OnceIs.congr {M : Mm} {c c' : Nat → Nat} (h : OnceIs M c) (e : ∀ s m, s < 256 → m < 20 → c' (20 * s + m) = c (20 * s + m)) : OnceIs M c' := fun s hs => by
  have e1 : onM c' s = onM c s := maskN_congr 20 (fun m hm => by rw [e s m hs hm])
  have e2 : agM c' s = agM c s := maskN_congr 20 (fun m hm => by rw [e s m hs hm])
  rw [e1, e2]
  exact h s hs
def binM (M : Mm) (s : Nat) (w : Int32) : Mm := upi (upi M 29 s (M.1 29 s ||| (M.1 28 s &&& w))) 28 s (M.1 28 s ||| w)
theorem binM_once {M : Mm} {c : Nat → Nat} {s : Nat} {q : Nat → Bool} (h : OnceIs M c) (hs : s < 256) : OnceIs (binM M s (nI (maskN q 20))) (fun y => c y + (if decide (y / 20 = s) && q (y % 20) then 1 else 0)) := by
  intro s' hs'
  have r28 : (binM M s (nI (maskN q 20))).1 28 s' = if s' = s then M.1 28 s ||| nI (maskN q 20) else M.1 28 s' := by
    simp [binM, upi, seti, upd]
  have r29 : (binM M s (nI (maskN q 20))).1 29 s' = if s' = s then M.1 29 s ||| (M.1 28 s &&& nI (maskN q 20)) else M.1 29 s' := by
    simp [binM, upi, seti, upd]
  rw [r28, r29]
  by_cases e : s' = s
  · subst e
    rw [if_pos rfl, if_pos rfl, (h s' hs).1, (h s' hs).2]
    unfold onM agM
    rw [fa_and, fa_or, fa_or, maskN_and, maskN_or, maskN_or]
    refine ⟨congrArg nI (maskN_congr 20 (fun m hm => ?_)), congrArg nI (maskN_congr 20 (fun m hm => ?_))⟩
    · have a1 : (20 * s' + m) / 20 = s' := by omega
      have a2 : (20 * s' + m) % 20 = m := by omega
      simp only [a1, a2]
      cases q m <;> simp
    · have a1 : (20 * s' + m) / 20 = s' := by omega
      have a2 : (20 * s' + m) % 20 = m := by omega
      simp only [a1, a2]
      cases q m <;> simp
      omega
  · rw [if_neg e, if_neg e, (h s' hs').1, (h s' hs').2]
    refine ⟨congrArg nI (maskN_congr 20 (fun m hm => ?_)), congrArg nI (maskN_congr 20 (fun m hm => ?_))⟩ <;>
    · have a1 : ¬ (20 * s' + m) / 20 = s := by omega
      simp [a1]
theorem binM_same (M : Mm) (s : Nat) (w : Int32) : Same [28, 29] M (binM M s w) := (Same.upi M 29 s _ (by decide)).trans (Same.upi _ 28 s _ (by decide))
def addC (c : Nat → Nat) (k x ed : Nat) : Nat → Nat := fun y => c y + (if okD y && barsN k x y ed then 1 else 0)
def addI (c : Nat → Nat) (k x ed i : Nat) : Nat → Nat := fun y => c y + (if (setsN.take i).contains (y / 20) && barsN k x y ed then 1 else 0)
def cB (n : Nat) (K X : Nat → Nat) (ed : Nat) : Nat → Nat := fun y => if okD y then cntN (barB K X ed y) n else 0
theorem cB_0 (K X : Nat → Nat) (ed y : Nat) : cB 0 K X ed y = 0 := by simp [cB, cntN, sumN]
theorem cB_succ (n : Nat) (K X : Nat → Nat) (ed y : Nat) : cB (n + 1) K X ed y = addC (cB n K X ed) (K n) (X n) ed y := by
  unfold cB addC
  cases h : okD y with
  | false => simp [h]
  | true =>
    simp only [h, if_true, Bool.true_and, cntN, sumN]
    rfl
theorem take_mem (i : Nat) (hi : i < 92) (s : Nat) (_ : s < 256) : (setsN.take (i + 1)).contains s = ((setsN.take i).contains s || decide (s = sN i)) := by
  have hl : i < setsN.length := hi
  have h : setsN[i]? = some (sN i) := by
    rw [sN, List.getD_eq_getElem?_getD, List.getElem?_eq_getElem hl]
    rfl
  rw [List.take_succ, h]
  generalize sN i = z
  rw [Bool.eq_iff_iff]
  simp
theorem take_new : ∀ i, i < 92 → (setsN.take i).contains (sN i) = false := by decide +kernel
set_option maxRecDepth 20000 in
theorem s_barIn {G : Gt} {d : Nat} {M : Mm} (hG : gS G = SHAPE) {s : Nat} {w : Int32} (hs : s < 256) : ExV G (d) mX0_barIn [.ref 27, .int (nI s), .int w] M (fun M' => M' = binM M s w) := by
  refine Ex.of (by decide) (Nat.le_of_ble_eq_true rfl) ?_
  show Go G (d) mX0_barIn 0 [some (.ref 27), some (.int (nI s)), some (.int w)] [] M _
  refine Go.aload_n dX0_barIn_0 rfl ?_
  refine Go.getR dX0_barIn_1 flX0_15 (shp hG rfl) rfl ?_
  refine Go.iload_n dX0_barIn_4 rfl ?_
  refine Go.dup2 dX0_barIn_5 rfl rfl ?_
  refine Go.iald dX0_barIn_6 (shp hG rfl) (vin (by omega) (by decide)) ?_
  refine Go.aload_n dX0_barIn_7 rfl ?_
  refine Go.getR dX0_barIn_8 flX0_9 (shp hG rfl) rfl ?_
  refine Go.iload_n dX0_barIn_11 rfl ?_
  refine Go.iald dX0_barIn_12 (shp hG rfl) (vin (by omega) (by decide)) ?_
  refine Go.iload_n dX0_barIn_13 rfl ?_
  refine Go.iand dX0_barIn_14 ?_
  refine Go.ior dX0_barIn_15 ?_
  refine Go.iast dX0_barIn_16 (shp hG rfl) (vin (by omega) (by decide)) ?_
  refine Go.nmM (fun N1 eN1 => ?_)
  refine Go.aload_n dX0_barIn_17 rfl ?_
  refine Go.getR dX0_barIn_18 flX0_9 (shp hG rfl) rfl ?_
  refine Go.iload_n dX0_barIn_21 rfl ?_
  refine Go.dup2 dX0_barIn_22 rfl rfl ?_
  refine Go.iald dX0_barIn_23 (shp hG rfl) (vin (by omega) (by decide)) ?_
  refine Go.iload_n dX0_barIn_24 rfl ?_
  refine Go.ior dX0_barIn_25 ?_
  refine Go.iast dX0_barIn_26 (shp hG rfl) (vin (by omega) (by decide)) ?_
  refine Go.nmM (fun N2 eN2 => ?_)
  refine Go.vret dX0_barIn_27 rfl ?_
  refine ⟨rfl, ?_⟩
  subst eN2
  subst eN1
  simp only [binM, ncl (show s < 2 ^ 31 by omega)]
  simp [upi, seti]
theorem OnceIs.bar1 {M : Mm} {c : Nat → Nat} {k x ed : Nat} (h : OnceIs M c) (hx : okD x = true) (hk : ¬ (k = 1 ∨ k = 4)) : OnceIs (binM M (x / 20) (nI (mbN k (x % 20) ed))) (addC c k x ed) := by
  have hs := okS_lt hx
  refine (binM_once (q := fun m' => askN k (x % 20) m' ed) h hs.1).congr (fun s m h1 h2 => ?_)
  have a1 : (20 * s + m) / 20 = s := by omega
  have a2 : (20 * s + m) % 20 = m := by omega
  unfold addC barsN psetN okD
  rw [a1, a2, if_neg hk]
  by_cases e : s = x / 20
  · subst e
    have : okS (x / 20) = true := hx
    simp [this]
  · have e2 : ¬ x / 20 = s := fun q => e q.symm
    simp [e, e2]
theorem addI_t {N : Mm} {c : Nat → Nat} {k x ed i : Nat} (h : OnceIs N (addI c k x ed i)) (hi : i < 92) (hk : k = 1 ∨ k = 4) (hp : partN (x / 20) (sN i) = true) : OnceIs (binM N (sN i) (nI (mbN k (x % 20) ed))) (addI c k x ed (i + 1)) := by
  have hs := okS_lt (setsN_ok i hi)
  refine (binM_once (q := fun m' => askN k (x % 20) m' ed) h hs.1).congr (fun s m h1 h2 => ?_)
  have a1 : (20 * s + m) / 20 = s := by omega
  have a2 : (20 * s + m) % 20 = m := by omega
  unfold addI barsN psetN
  rw [a1, a2, if_pos hk, take_mem i hi s h1]
  by_cases e : s = sN i
  · subst e
    rw [take_new i hi, hp]
    simp
  · rw [decide_eq_false e]
    simp only [Bool.or_false, Bool.false_and]
    simp
theorem addI_f {N : Mm} {c : Nat → Nat} {k x ed i : Nat} (h : OnceIs N (addI c k x ed i)) (hi : i < 92) (hk : k = 1 ∨ k = 4) (hp : partN (x / 20) (sN i) = false) : OnceIs N (addI c k x ed (i + 1)) := by
  refine h.congr (fun s m h1 h2 => ?_)
  have a1 : (20 * s + m) / 20 = s := by omega
  have a2 : (20 * s + m) % 20 = m := by omega
  unfold addI barsN psetN
  rw [a1, a2, if_pos hk, take_mem i hi s h1]
  by_cases e : s = sN i
  · subst e
    rw [take_new i hi, hp]
    simp
  · rw [decide_eq_false e]
    simp only [Bool.or_false]
theorem addI_0 (c : Nat → Nat) (k x ed : Nat) : addI c k x ed 0 = c := by funext y; simp [addI]
theorem addI_92 (c : Nat → Nat) (k x ed : Nat) : addI c k x ed 92 = addC c k x ed := by
  have : setsN.take 92 = setsN := by decide
  funext y
  simp only [addI, addC, this]
  rfl
set_option maxRecDepth 20000 in
theorem l_bar {G : Gt} {d : Nat} {M : Mm} (hG : gS G = SHAPE) {c : Nat → Nat} {k x ed : Nat} (hk : k < 6) (hx : okD x = true) (he : ed < 4) (hkp : k = 1 ∨ k = 4) : ∀ (n i : Nat) (N : Mm), i + n = 92 → OnceIs N (addI c k x ed i) → Same [28, 29] M N → Go G (d + 1) mX0_bar 36 [some (.ref 27), some (.int (nI k)), some (.int (nI x)), some (.int (nI ed)), some (.int (nI (mbN k (x % 20) ed))), some (.int (nI (x / 20))), some (.int (nI i))] [] N (fun v M' => v = none ∧ OnceIs M' (addC c k x ed) ∧ Same [28, 29] M M') := by
  intro n
  induction n with
  | zero =>
    intro i N hin hO hS
    have hx5 := okD_lt hx
    refine Go.iload dX0_bar_36 rfl ?_
    refine Go.getSets dX0_bar_38 (Or.inr fnX0_59) ?_
    refine Go.setsLen dX0_bar_41 ?_
    refine Go.icmp_ge 77 dX0_bar_42 rfl (fun _ => ?_) (fun h42 => absurd (nI_le (a := 92) (b := i) (by omega) (by omega)) h42)
    refine Go.vret dX0_bar_77 rfl ?_
    have e9 : i = 92 := by omega
    subst e9
    exact ⟨rfl, by rw [← addI_92]; exact hO, hS⟩
  | succ n ih =>
    intro i N hin hO hS
    have hi : i < 92 := by omega
    have hx5 := okD_lt hx
    have hsi := okS_lt (setsN_ok i hi)
    refine Go.iload dX0_bar_36 rfl ?_
    refine Go.getSets dX0_bar_38 (Or.inr fnX0_59) ?_
    refine Go.setsLen dX0_bar_41 ?_
    refine Go.icmp_ge 77 dX0_bar_42 rfl (fun h42 => absurd h42 (nI_ge (a := i) (b := 92) (by omega) (by omega))) (fun _ => ?_)
    refine Go.iload dX0_bar_45 rfl ?_
    refine Go.getSets dX0_bar_47 (Or.inr fnX0_59) ?_
    refine Go.iload dX0_bar_50 rfl ?_
    refine Go.sets dX0_bar_52 (vin (by omega) (by decide)) ?_
    refine Go.eqI (y := nI (sN i)) (by rw [ncl (by omega)]; exact setsF_nI i (by omega)) ?_
    refine Go.callSI [] dX0_bar_53 lkX0_62 stX6_isPartEitherWay cbX6_isPartEitherWay (s_part (nI (x / 20)) (nI (sN i))) rfl rfl (Nat.le_of_ble_eq_true rfl) (fun r1 M2 hr1 => ?_)
    obtain ⟨er1, emr1⟩ := hr1
    rw [emr1]
    clear emr1 M2
    subst er1
    refine Go.eqI (y := bi (partN (x / 20) (sN i))) (by rw [partI_nI (by omega) (by omega)]) ?_
    refine Go.if_eq 71 dX0_bar_56 rfl (fun h56 => ?_) (fun h56 => ?_)
    · refine Go.iinc (v := nI (i + 1)) (ls' := [some (.ref 27), some (.int (nI k)), some (.int (nI x)), some (.int (nI ed)), some (.int (nI (mbN k (x % 20) ed))), some (.int (nI (x / 20))), some (.int (nI (i + 1)))]) dX0_bar_71 rfl (nI_1 _) rfl rfl ?_
      refine Go.goto 36 dX0_bar_74 rfl ?_
      exact ih (i + 1) N (by omega) (addI_f hO hi hkp (bi_0.mp h56)) hS
    · refine Go.aload_n dX0_bar_59 rfl ?_
      refine Go.getSets dX0_bar_60 (Or.inr fnX0_59) ?_
      refine Go.iload dX0_bar_63 rfl ?_
      refine Go.sets dX0_bar_65 (vin (by omega) (by decide)) ?_
      refine Go.eqI (y := nI (sN i)) (by rw [ncl (by omega)]; exact setsF_nI i (by omega)) ?_
      refine Go.iload dX0_bar_66 rfl ?_
      refine Go.callVV [] dX0_bar_68 lkX0_55 imX0_barIn seX0_barIn cbX0_barIn (s_barIn hG (s := sN i) (w := nI (mbN k (x % 20) ed)) (by omega)) (shp hG rfl) rfl rfl rfl (Nat.le_of_ble_eq_true rfl) (fun M4 hr3 => ?_)
      refine Go.iinc (v := nI (i + 1)) (ls' := [some (.ref 27), some (.int (nI k)), some (.int (nI x)), some (.int (nI ed)), some (.int (nI (mbN k (x % 20) ed))), some (.int (nI (x / 20))), some (.int (nI (i + 1)))]) dX0_bar_71 rfl (nI_1 _) rfl rfl ?_
      refine Go.goto 36 dX0_bar_74 rfl ?_
      exact ih (i + 1) M4 (by omega) (by rw [hr3]; exact addI_t hO hi hkp (bi_n0.mp h56)) (by rw [hr3]; exact hS.trans (binM_same _ _ _))
set_option maxRecDepth 20000 in
theorem s_bar {G : Gt} {d : Nat} {M : Mm} (hG : gS G = SHAPE) {c : Nat → Nat} {k x ed : Nat} (hk : k < 6) (hx : okD x = true) (he : ed < 4) (hO : OnceIs M c) : ExV G (d + 1) mX0_bar [.ref 27, .int (nI k), .int (nI x), .int (nI ed)] M (fun M' => OnceIs M' (addC c k x ed) ∧ Same [28, 29] M M') := by
  have hx5 := okD_lt hx
  refine Ex.of (by decide) (Nat.le_of_ble_eq_true rfl) ?_
  show Go G (d + 1) mX0_bar 0 [some (.ref 27), some (.int (nI k)), some (.int (nI x)), some (.int (nI ed)), none, none, none] [] M _
  refine Go.iload_n dX0_bar_0 rfl ?_
  refine Go.iload_n dX0_bar_1 rfl ?_
  refine Go.callSI [.int (nI k)] dX0_bar_2 lkX0_40 stX6_mannerOf cbX6_mannerOf (s_mannerOf (nI x)) rfl rfl (Nat.le_of_ble_eq_true rfl) (fun r1 M2 hr1 => ?_)
  obtain ⟨er1, emr1⟩ := hr1
  rw [emr1]
  clear emr1 M2
  subst er1
  refine Go.eqI (y := nI (x % 20)) (iman_nI (by omega)) ?_
  refine Go.iload_n dX0_bar_5 rfl ?_
  refine Go.callSI [] dX0_bar_6 lkX0_44 stX6_mannersBarred cbX6_mannersBarred (s_mannersBarred (nI k) (nI (x % 20)) (nI ed)) rfl rfl (Nat.le_of_ble_eq_true rfl) (fun r3 M4 hr3 => ?_)
  obtain ⟨er3, emr3⟩ := hr3
  rw [emr3]
  clear emr3 M4
  subst er3
  refine Go.eqI (y := nI (mbN k (x % 20) ed)) (imb_nI k hk _ (by omega) ed he) ?_
  refine Go.istore (ls' := [some (.ref 27), some (.int (nI k)), some (.int (nI x)), some (.int (nI ed)), some (.int (nI (mbN k (x % 20) ed))), none, none]) dX0_bar_9 (Nat.le_of_ble_eq_true rfl) rfl rfl ?_
  refine Go.iload_n dX0_bar_11 rfl ?_
  refine Go.callSI [] dX0_bar_12 lkX0_48 stX6_setOf cbX6_setOf (s_setOf (nI x)) rfl rfl (Nat.le_of_ble_eq_true rfl) (fun r5 M6 hr5 => ?_)
  obtain ⟨er5, emr5⟩ := hr5
  rw [emr5]
  clear emr5 M6
  subst er5
  refine Go.eqI (y := nI (x / 20)) (iset_nI (by omega)) ?_
  refine Go.istore (ls' := [some (.ref 27), some (.int (nI k)), some (.int (nI x)), some (.int (nI ed)), some (.int (nI (mbN k (x % 20) ed))), some (.int (nI (x / 20))), none]) dX0_bar_15 (Nat.le_of_ble_eq_true rfl) rfl rfl ?_
  refine Go.iload_n dX0_bar_17 rfl ?_
  refine Go.callSI [] dX0_bar_18 lkX0_51 stX6_barsParts cbX6_barsParts (s_barsParts (nI k)) rfl rfl (Nat.le_of_ble_eq_true rfl) (fun r7 M8 hr7 => ?_)
  obtain ⟨er7, emr7⟩ := hr7
  rw [emr7]
  clear emr7 M8
  subst er7
  refine Go.eqI (y := bi (decide (k = 1 ∨ k = 4))) (by rw [partsI_nI k hk]) ?_
  refine Go.if_ne 33 dX0_bar_21 rfl (fun h21 => ?_) (fun h21 => ?_)
  · refine Go.iconst (v := 0) dX0_bar_33 (by decide) ?_
    refine Go.istore (ls' := [some (.ref 27), some (.int (nI k)), some (.int (nI x)), some (.int (nI ed)), some (.int (nI (mbN k (x % 20) ed))), some (.int (nI (x / 20))), some (.int 0)]) dX0_bar_34 (Nat.le_of_ble_eq_true rfl) rfl rfl ?_
    exact l_bar hG hk hx he (by simpa using bi_n0.mp h21) 92 0 M (by omega) (by rw [addI_0]; exact hO) (Same.refl _ _)
  · refine Go.aload_n dX0_bar_24 rfl ?_
    refine Go.iload dX0_bar_25 rfl ?_
    refine Go.iload dX0_bar_27 rfl ?_
    refine Go.callVV [] dX0_bar_29 lkX0_55 imX0_barIn seX0_barIn cbX0_barIn (s_barIn hG (s := x / 20) (w := nI (mbN k (x % 20) ed)) (by omega)) (shp hG rfl) rfl rfl rfl (Nat.le_of_ble_eq_true rfl) (fun M10 hr9 => ?_)
    refine Go.vret dX0_bar_32 rfl ?_
    refine ⟨rfl, ?_⟩
    rw [hr9]
    exact ⟨hO.bar1 hx (by simpa using bi_0.mp h21), binM_same _ _ _⟩
def filF (f : Nat → Int32) (v : Int32) (n : Nat) : Nat → Int32 := fun j => if j < n then v else f j
theorem filF_step (M : Mm) (k i : Nat) (v : Int32) : upi (seti M k (filF (M.1 k) v i)) k i v = seti M k (filF (M.1 k) v (i + 1)) := by
  unfold upi seti
  simp only [if_true]
  congr 1
  funext a
  by_cases ha : a = k
  · rw [if_pos ha, if_pos ha]
    funext t
    unfold upd filF
    by_cases ht : t = i
    · subst ht; simp
    · have h9 : t < i + 1 ↔ t < i := by omega
      simp only [if_neg ht, h9]
  · rw [if_neg ha, if_neg ha, if_neg ha]
theorem filF_0 (M : Mm) (k : Nat) (v : Int32) : seti M k (filF (M.1 k) v 0) = M := by
  have : filF (M.1 k) v 0 = M.1 k := by funext j; simp [filF]
  rw [this, seti_self]
set_option maxRecDepth 20000 in
theorem l_fill {G : Gt} {d : Nat} {M : Mm} {k L : Nat} {v : Int32} (hk : (gS G)[k]? = some (.inl (0, L, []))) (hL : L < 10000) : ∀ (n i : Nat), i + n = L → Go G (d) mJ7_fill_53178 5 [some (.ref k), some (.int v), some (.int (nI i)), some (.int (nI L))] [] (seti M k (filF (M.1 k) v i)) (fun w M' => w = none ∧ M' = seti M k (filF (M.1 k) v L)) := by
  intro n
  induction n with
  | zero =>
    intro i  hin
    refine Go.iload_n dJ7_fill_53178_5 rfl ?_
    refine Go.iload_n dJ7_fill_53178_6 rfl ?_
    refine Go.icmp_ge 20 dJ7_fill_53178_7 rfl (fun _ => ?_) (fun h7 => absurd (nI_le (a := L) (b := i) (by omega) (by omega)) h7)
    refine Go.vret dJ7_fill_53178_20 rfl ?_
    have e9 : i = L := by omega
    subst e9
    exact ⟨rfl, rfl⟩
  | succ n ih =>
    intro i  hin
    have hi : i < L := by omega
    refine Go.iload_n dJ7_fill_53178_5 rfl ?_
    refine Go.iload_n dJ7_fill_53178_6 rfl ?_
    refine Go.icmp_ge 20 dJ7_fill_53178_7 rfl (fun h7 => absurd h7 (nI_ge (a := i) (b := L) (by omega) (by omega))) (fun _ => ?_)
    refine Go.aload_n dJ7_fill_53178_10 rfl ?_
    refine Go.iload_n dJ7_fill_53178_11 rfl ?_
    refine Go.iload_n dJ7_fill_53178_12 rfl ?_
    refine Go.iast dJ7_fill_53178_13 hk (vin hi (by omega)) ?_
    refine Go.nmM (fun N1 eN1 => ?_)
    refine Go.iinc (v := nI (i + 1)) (ls' := [some (.ref k), some (.int v), some (.int (nI (i + 1))), some (.int (nI L))]) dJ7_fill_53178_14 rfl (nI_1 _) rfl rfl ?_
    refine Go.goto 5 dJ7_fill_53178_17 rfl ?_
    rw [show N1 = seti M k (filF (M.1 k) v (i + 1)) from by rw [eN1, ncl (by omega)]; exact filF_step M k i v]
    exact ih (i + 1) (by omega)
set_option maxRecDepth 20000 in
theorem s_fill {G : Gt} {d : Nat} {M : Mm} {k L : Nat} {v : Int32} (hk : (gS G)[k]? = some (.inl (0, L, []))) (hL : L < 10000) : ExV G (d) mJ7_fill_53178 [.ref k, .int v] M (fun M' => M' = seti M k (filF (M.1 k) v L)) := by
  refine Ex.of (by decide) (Nat.le_of_ble_eq_true rfl) ?_
  show Go G (d) mJ7_fill_53178 0 [some (.ref k), some (.int v), none, none] [] M _
  refine Go.iconst (v := 0) dJ7_fill_53178_0 (by decide) ?_
  refine Go.istore_n (ls' := [some (.ref k), some (.int v), some (.int 0), none]) dJ7_fill_53178_1 (Nat.le_of_ble_eq_true rfl) rfl rfl ?_
  refine Go.aload_n dJ7_fill_53178_2 rfl ?_
  refine Go.alenI (v := nI L) dJ7_fill_53178_3 hk rfl ?_
  refine Go.istore_n (ls' := [some (.ref k), some (.int v), some (.int 0), some (.int (nI L))]) dJ7_fill_53178_4 (Nat.le_of_ble_eq_true rfl) rfl rfl ?_
  have h9 := l_fill (d := d) (M := M) (v := v) hk hL L 0 (by omega)
  rw [filF_0] at h9
  exact h9
theorem Bk.same {M M' : Mm} {b n : Nat} {K X : Nat → Nat} {ed : Nat} (h : Bk M b n K X ed) (h1 : M'.1 b = M.1 b) (h2 : M'.1 (b + 5) = M.1 (b + 5)) (h3 : M'.1 (b + 6) = M.1 (b + 6)) : Bk M' b n K X ed := by
  obtain ⟨a, b1, c, e, f⟩ := h
  exact ⟨a, b1, by rw [h1]; exact c, by rw [h1]; exact e, fun q hq => by rw [h2, h3]; exact f q hq⟩
theorem Bk.sm {M M' : Mm} {n : Nat} {K X : Nat → Nat} {ed : Nat} {S : List Nat} (h : Bk M 1 n K X ed) (hs : Same S M M') (h0 : 1 ∉ S ∧ 6 ∉ S ∧ 7 ∉ S) : Bk M' 1 n K X ed := h.same (hs.1 1 h0.1) (hs.1 6 h0.2.1) (hs.1 7 h0.2.2)
set_option maxRecDepth 20000 in
theorem l_barAll {G : Gt} {d : Nat} {M : Mm} (hG : gS G = SHAPE) {n9 : Nat} {K X : Nat → Nat} {ed ee : Nat} (hB0 : Bk M 1 n9 K X ed) (he : ee < 4) : ∀ (n i : Nat) (N : Mm), i + n = n9 → OnceIs N (cB i K X ee) → Same [28, 29] M N → Go G (d + 2) mX0_barAll 18 [some (.ref 27), some (.ref 1), some (.int (nI ee)), some (.int (nI i))] [] N (fun v M' => v = none ∧ OnceIs M' (cB n9 K X ee) ∧ Same [28, 29] M M') := by
  intro n
  induction n with
  | zero =>
    intro i N hin hO hS
    have hB := hB0.sm hS (by decide)
    have hn := hB.1
    refine Go.iload_n dX0_barAll_18 rfl ?_
    refine Go.aload_n dX0_barAll_19 rfl ?_
    refine Go.getI dX0_barAll_20 flX0_24 (shp hG rfl) rfl ?_
    refine Go.eqI (y := nI n9) (hB.2.2.1) ?_
    refine Go.icmp_ge 49 dX0_barAll_23 rfl (fun _ => ?_) (fun h23 => absurd (nI_le (a := n9) (b := i) (by omega) (by omega)) h23)
    refine Go.vret dX0_barAll_49 rfl ?_
    have e9 : i = n9 := by omega
    subst e9
    exact ⟨rfl, hO, hS⟩
  | succ n ih =>
    intro i N hin hO hS
    have hi : i < n9 := by omega
    have hB := hB0.sm hS (by decide)
    have hn := hB.1
    refine Go.iload_n dX0_barAll_18 rfl ?_
    refine Go.aload_n dX0_barAll_19 rfl ?_
    refine Go.getI dX0_barAll_20 flX0_24 (shp hG rfl) rfl ?_
    refine Go.eqI (y := nI n9) (hB.2.2.1) ?_
    refine Go.icmp_ge 49 dX0_barAll_23 rfl (fun h23 => absurd h23 (nI_ge (a := i) (b := n9) (by omega) (by omega))) (fun _ => ?_)
    refine Go.aload_n dX0_barAll_26 rfl ?_
    refine Go.aload_n dX0_barAll_27 rfl ?_
    refine Go.getR dX0_barAll_28 flX0_30 (shp hG rfl) rfl ?_
    refine Go.iload_n dX0_barAll_31 rfl ?_
    refine Go.iald dX0_barAll_32 (shp hG rfl) (vin (by omega) (by decide)) ?_
    refine Go.eqI (y := nI (K i)) (by rw [ncl (by omega)]; exact (hB.2.2.2.2 i (by omega)).2.2.1) ?_
    refine Go.aload_n dX0_barAll_33 rfl ?_
    refine Go.getR dX0_barAll_34 flX0_33 (shp hG rfl) rfl ?_
    refine Go.iload_n dX0_barAll_37 rfl ?_
    refine Go.iald dX0_barAll_38 (shp hG rfl) (vin (by omega) (by decide)) ?_
    refine Go.eqI (y := nI (X i)) (by rw [ncl (by omega)]; exact (hB.2.2.2.2 i (by omega)).2.2.2) ?_
    refine Go.iload_n dX0_barAll_39 rfl ?_
    refine Go.callVV [] dX0_barAll_40 lkX0_36 imX0_bar seX0_bar cbX0_bar (s_bar hG (k := K i) (x := X i) (ed := ee) (hB.2.2.2.2 i (by omega)).1 (hB.2.2.2.2 i (by omega)).2.1 he hO) (shp hG rfl) rfl rfl rfl (Nat.le_of_ble_eq_true rfl) (fun M2 hr1 => ?_)
    refine Go.iinc (v := nI (i + 1)) (ls' := [some (.ref 27), some (.ref 1), some (.int (nI ee)), some (.int (nI (i + 1)))]) dX0_barAll_43 rfl (nI_1 _) rfl rfl ?_
    refine Go.goto 18 dX0_barAll_46 rfl ?_
    exact ih (i + 1) M2 (by omega) (hr1.1.congr (fun s m _ _ => cB_succ i K X ee _)) (hS.trans hr1.2)
theorem fil_once (M : Mm) (K X : Nat → Nat) (ee : Nat) : OnceIs (seti (seti M 28 (filF (M.1 28) 0 256)) 29 (filF ((seti M 28 (filF (M.1 28) 0 256)).1 29) 0 256)) (cB 0 K X ee) := by
  intro s hs
  have e1 : onM (cB 0 K X ee) s = 0 := by
    have : onM (cB 0 K X ee) s = maskN (fun _ => false) 20 := maskN_congr 20 (fun m _ => by simp [cB_0])
    rw [this]; decide
  have e2 : agM (cB 0 K X ee) s = 0 := by
    have : agM (cB 0 K X ee) s = maskN (fun _ => false) 20 := maskN_congr 20 (fun m _ => by simp [cB_0])
    rw [this]; decide
  rw [e1, e2]
  simp [seti, filF, hs]
  rfl
set_option maxRecDepth 20000 in
theorem s_barAll {G : Gt} {d : Nat} {M : Mm} (hG : gS G = SHAPE) {n9 : Nat} {K X : Nat → Nat} {ed ee : Nat} (hB0 : Bk M 1 n9 K X ed) (he : ee < 4) : ExV G (d + 2) mX0_barAll [.ref 27, .ref 1, .int (nI ee)] M (fun M' => OnceIs M' (cB n9 K X ee) ∧ Same [28, 29] M M') := by
  refine Ex.of (by decide) (Nat.le_of_ble_eq_true rfl) ?_
  show Go G (d + 2) mX0_barAll 0 [some (.ref 27), some (.ref 1), some (.int (nI ee)), none] [] M _
  refine Go.aload_n dX0_barAll_0 rfl ?_
  refine Go.getR dX0_barAll_1 flX0_9 (shp hG rfl) rfl ?_
  refine Go.iconst (v := 0) dX0_barAll_4 (by decide) ?_
  refine Go.callSV [] dX0_barAll_5 lkX0_18 stJ7_fill_53178 cbJ7_fill_53178 (s_fill (L := 256) (v := 0) (shp hG rfl) (by decide)) rfl rfl (Nat.le_of_ble_eq_true rfl) (fun M2 hr1 => ?_)
  refine Go.aload_n dX0_barAll_8 rfl ?_
  refine Go.getR dX0_barAll_9 flX0_15 (shp hG rfl) rfl ?_
  refine Go.iconst (v := 0) dX0_barAll_12 (by decide) ?_
  refine Go.callSV [] dX0_barAll_13 lkX0_18 stJ7_fill_53178 cbJ7_fill_53178 (s_fill (L := 256) (v := 0) (shp hG rfl) (by decide)) rfl rfl (Nat.le_of_ble_eq_true rfl) (fun M4 hr3 => ?_)
  refine Go.iconst (v := 0) dX0_barAll_16 (by decide) ?_
  refine Go.istore_n (ls' := [some (.ref 27), some (.ref 1), some (.int (nI ee)), some (.int 0)]) dX0_barAll_17 (Nat.le_of_ble_eq_true rfl) rfl rfl ?_
  exact l_barAll hG hB0 he n9 0 _ (by omega) (by rw [hr3, hr1]; exact fil_once M K X ee) (by rw [hr3, hr1]; exact (Same.seti M 28 _ (by decide)).trans (Same.seti _ 29 _ (by decide)))
