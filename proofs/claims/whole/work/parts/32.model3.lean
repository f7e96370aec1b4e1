/-- the reference's book -/
def BkM (M : Mm) (n : Nat) (K X : Nat → Nat) (ed : Nat) : Prop :=
  n ≤ 90 ∧ ed < 4 ∧ M.1 49 4 = nI n ∧ M.1 52 0 = nI (ed % 2) ∧ M.1 52 1 = nI (ed / 2) ∧ ∀ e, e < n → K e < 6 ∧ okD (X e) = true ∧ M.1 53 e = nI (K e) ∧ M.1 54 e = nI (X e)
theorem BkM.same {M M' : Mm} {n : Nat} {K X : Nat → Nat} {ed : Nat} (h : BkM M n K X ed) (h1 : M'.1 49 4 = M.1 49 4) (h2 : M'.1 52 = M.1 52) (h3 : M'.1 53 = M.1 53) (h4 : M'.1 54 = M.1 54) : BkM M' n K X ed := by
  obtain ⟨a, b1, c, e1, e2, f⟩ := h
  exact ⟨a, b1, by rw [h1]; exact c, by rw [h2]; exact e1, by rw [h2]; exact e2, fun q hq => by rw [h3, h4]; exact f q hq⟩
theorem MdS.same {M M' : Mm} (h : MdS M) (h1 : M'.1 57 = M.1 57) (h2 : M'.1 58 = M.1 58) : MdS M' := ⟨fun k hk => by rw [h1]; exact h.1 k hk, fun s hs => by rw [h2]; exact h.2 s hs⟩
set_option maxRecDepth 20000 in
theorem m_barsIt {G : Gt} {d : Nat} {M : Mm} (hG : gS G = SHAPE) {n : Nat} {K X : Nat → Nat} {ed : Nat} (hB : BkM M n K X ed) {e x : Nat} (he : e < n) (hx : okD x = true) : ExI G (d + 1) mX7_barsIt [.ref 49, .int (nI e), .int (nI x)] M (fun r M' => r = bi (barB K X ed x e) ∧ M' = M) := by
  refine Ex.of (by decide) (Nat.le_of_ble_eq_true rfl) ?_
  have hn := hB.1
  have hed := hB.2.1
  have hx5 := okD_lt hx
  have hk6 := (hB.2.2.2.2.2 e he).1
  have hX5 := okD_lt (hB.2.2.2.2.2 e he).2.1
  have hand : ((X e) / 20 &&& x / 20) ≤ (X e) / 20 := Nat.and_le_left
  have hm1 : (X e) % 20 % 4 = (X e) % 4 := by omega
  have hm2 : x % 20 % 4 = x % 4 := by omega
  show Go G (d + 1) mX7_barsIt 0 [some (.ref 49), some (.int (nI e)), some (.int (nI x)), none, none, none, none, none, none] [] M _
  have j135 : ∀ (sB : Bool) (pB : Bool) (wB : Bool) (aB : Bool) (kB : Bool), sB = decide ((X e) / 20 = x / 20) → pB = partN ((X e) / 20) (x / 20) → wB = decide ((X e) % 20 / 4 = x % 20 / 4) → aB = decide ((X e) % 4 = x % 4) → kB = ((wB || decide (ed / 2 = 0)) && (aB || decide (ed % 2 = 0))) → Go G (d + 1) mX7_barsIt 135 [some (.ref 49), some (.int (nI e)), some (.int (nI x)), some (.int (nI (X e))), some (.int (bi sB)), some (.int (bi pB)), some (.int (bi wB)), some (.int (bi aB)), some (.int (bi kB))] [] M (fun v M' => ∃ r, v = some (.int r) ∧ r = bi (barB K X ed x e) ∧ M' = M) := by
    intro sB pB wB aB kB hsB hpB hwB haB hkB
    refine Go.aload_n dX7_barsIt_135 rfl ?_
    refine Go.getR dX7_barsIt_136 flX7_19 (shp hG rfl) rfl ?_
    refine Go.iload_n dX7_barsIt_139 rfl ?_
    refine Go.iald dX7_barsIt_140 (shp hG rfl) (vin (by omega) (by decide)) ?_
    refine Go.eqI (y := nI (K e)) (by rw [ncl (by omega)]; exact (hB.2.2.2.2.2 e he).2.2.1) ?_
    obtain sw141 | sw141 | sw141 | sw141 | sw141 | sw141 : K e = 0 ∨ K e = 1 ∨ K e = 2 ∨ K e = 3 ∨ K e = 4 ∨ K e = 5 := by omega
    · rw [sw141]
      refine Go.tableOut 234 dX7_barsIt_141 (by decide) rfl ?_
      refine Go.iload dX7_barsIt_234 rfl ?_
      refine Go.if_eq 248 dX7_barsIt_236 rfl (fun h236 => ?_) (fun h236 => ?_)
      · refine Go.iconst (v := 0) dX7_barsIt_248 (by decide) ?_
        refine Go.iret dX7_barsIt_249 rfl (by decide) ?_
        refine ⟨_, rfl, ?_, rfl⟩
        have hb9 : barB K X ed x e = (sB && kB) := by
          simp only [barB, barsN, psetN, askN, sw141, hm1, hm2, hkB, hsB, hpB, hwB, haB]
          try simp [Bool.or_comm]
        rw [hb9]
        simp [bi, bi_0.mp h236]
      · refine Go.iload dX7_barsIt_239 rfl ?_
        refine Go.if_eq 248 dX7_barsIt_241 rfl (fun h241 => ?_) (fun h241 => ?_)
        · refine Go.iconst (v := 0) dX7_barsIt_248 (by decide) ?_
          refine Go.iret dX7_barsIt_249 rfl (by decide) ?_
          refine ⟨_, rfl, ?_, rfl⟩
          have hb9 : barB K X ed x e = (sB && kB) := by
            simp only [barB, barsN, psetN, askN, sw141, hm1, hm2, hkB, hsB, hpB, hwB, haB]
            try simp [Bool.or_comm]
          rw [hb9]
          simp [bi, bi_n0.mp h236, bi_0.mp h241]
        · refine Go.iconst (v := 1) dX7_barsIt_244 (by decide) ?_
          refine Go.goto 249 dX7_barsIt_245 rfl ?_
          refine Go.iret dX7_barsIt_249 rfl (by decide) ?_
          refine ⟨_, rfl, ?_, rfl⟩
          have hb9 : barB K X ed x e = (sB && kB) := by
            simp only [barB, barsN, psetN, askN, sw141, hm1, hm2, hkB, hsB, hpB, hwB, haB]
            try simp [Bool.or_comm]
          rw [hb9]
          simp [bi, bi_n0.mp h236, bi_n0.mp h241]
    · rw [sw141]
      refine Go.tableIn 176 dX7_barsIt_141 (by decide) (by decide) rfl rfl ?_
      refine Go.iload dX7_barsIt_176 rfl ?_
      refine Go.if_eq 190 dX7_barsIt_178 rfl (fun h178 => ?_) (fun h178 => ?_)
      · refine Go.iconst (v := 0) dX7_barsIt_190 (by decide) ?_
        refine Go.iret dX7_barsIt_191 rfl (by decide) ?_
        refine ⟨_, rfl, ?_, rfl⟩
        have hb9 : barB K X ed x e = (pB && kB) := by
          simp only [barB, barsN, psetN, askN, sw141, hm1, hm2, hkB, hsB, hpB, hwB, haB]
          try simp [Bool.or_comm]
        rw [hb9]
        simp [bi, bi_0.mp h178]
      · refine Go.iload dX7_barsIt_181 rfl ?_
        refine Go.if_eq 190 dX7_barsIt_183 rfl (fun h183 => ?_) (fun h183 => ?_)
        · refine Go.iconst (v := 0) dX7_barsIt_190 (by decide) ?_
          refine Go.iret dX7_barsIt_191 rfl (by decide) ?_
          refine ⟨_, rfl, ?_, rfl⟩
          have hb9 : barB K X ed x e = (pB && kB) := by
            simp only [barB, barsN, psetN, askN, sw141, hm1, hm2, hkB, hsB, hpB, hwB, haB]
            try simp [Bool.or_comm]
          rw [hb9]
          simp [bi, bi_n0.mp h178, bi_0.mp h183]
        · refine Go.iconst (v := 1) dX7_barsIt_186 (by decide) ?_
          refine Go.goto 191 dX7_barsIt_187 rfl ?_
          refine Go.iret dX7_barsIt_191 rfl (by decide) ?_
          refine ⟨_, rfl, ?_, rfl⟩
          have hb9 : barB K X ed x e = (pB && kB) := by
            simp only [barB, barsN, psetN, askN, sw141, hm1, hm2, hkB, hsB, hpB, hwB, haB]
            try simp [Bool.or_comm]
          rw [hb9]
          simp [bi, bi_n0.mp h178, bi_n0.mp h183]
    · rw [sw141]
      refine Go.tableIn 192 dX7_barsIt_141 (by decide) (by decide) rfl rfl ?_
      refine Go.iconst (v := 0) dX7_barsIt_192 (by decide) ?_
      refine Go.iret dX7_barsIt_193 rfl (by decide) ?_
      refine ⟨_, rfl, ?_, rfl⟩
      have hb9 : barB K X ed x e = (false) := by
        simp only [barB, barsN, psetN, askN, sw141, hm1, hm2, hkB, hsB, hpB, hwB, haB]
        try simp [Bool.or_comm]
      rw [hb9]
      simp [bi]
    · rw [sw141]
      refine Go.tableIn 194 dX7_barsIt_141 (by decide) (by decide) rfl rfl ?_
      refine Go.iload dX7_barsIt_194 rfl ?_
      refine Go.if_eq 213 dX7_barsIt_196 rfl (fun h196 => ?_) (fun h196 => ?_)
      · refine Go.iconst (v := 0) dX7_barsIt_213 (by decide) ?_
        refine Go.iret dX7_barsIt_214 rfl (by decide) ?_
        refine ⟨_, rfl, ?_, rfl⟩
        have hb9 : barB K X ed x e = (sB && (wB && aB)) := by
          simp only [barB, barsN, psetN, askN, sw141, hm1, hm2, hkB, hsB, hpB, hwB, haB]
          try simp [Bool.or_comm]
        rw [hb9]
        simp [bi, bi_0.mp h196]
      · refine Go.iload dX7_barsIt_199 rfl ?_
        refine Go.if_eq 213 dX7_barsIt_201 rfl (fun h201 => ?_) (fun h201 => ?_)
        · refine Go.iconst (v := 0) dX7_barsIt_213 (by decide) ?_
          refine Go.iret dX7_barsIt_214 rfl (by decide) ?_
          refine ⟨_, rfl, ?_, rfl⟩
          have hb9 : barB K X ed x e = (sB && (wB && aB)) := by
            simp only [barB, barsN, psetN, askN, sw141, hm1, hm2, hkB, hsB, hpB, hwB, haB]
            try simp [Bool.or_comm]
          rw [hb9]
          simp [bi, bi_n0.mp h196, bi_0.mp h201]
        · refine Go.iload dX7_barsIt_204 rfl ?_
          refine Go.if_eq 213 dX7_barsIt_206 rfl (fun h206 => ?_) (fun h206 => ?_)
          · refine Go.iconst (v := 0) dX7_barsIt_213 (by decide) ?_
            refine Go.iret dX7_barsIt_214 rfl (by decide) ?_
            refine ⟨_, rfl, ?_, rfl⟩
            have hb9 : barB K X ed x e = (sB && (wB && aB)) := by
              simp only [barB, barsN, psetN, askN, sw141, hm1, hm2, hkB, hsB, hpB, hwB, haB]
              try simp [Bool.or_comm]
            rw [hb9]
            simp [bi, bi_n0.mp h196, bi_n0.mp h201, bi_0.mp h206]
          · refine Go.iconst (v := 1) dX7_barsIt_209 (by decide) ?_
            refine Go.goto 214 dX7_barsIt_210 rfl ?_
            refine Go.iret dX7_barsIt_214 rfl (by decide) ?_
            refine ⟨_, rfl, ?_, rfl⟩
            have hb9 : barB K X ed x e = (sB && (wB && aB)) := by
              simp only [barB, barsN, psetN, askN, sw141, hm1, hm2, hkB, hsB, hpB, hwB, haB]
              try simp [Bool.or_comm]
            rw [hb9]
            simp [bi, bi_n0.mp h196, bi_n0.mp h201, bi_n0.mp h206]
    · rw [sw141]
      refine Go.tableIn 215 dX7_barsIt_141 (by decide) (by decide) rfl rfl ?_
      refine Go.iload dX7_barsIt_215 rfl ?_
      refine Go.iret dX7_barsIt_217 rfl (bi_nar _) ?_
      refine ⟨_, rfl, ?_, rfl⟩
      have hb9 : barB K X ed x e = (pB) := by
        simp only [barB, barsN, psetN, askN, sw141, hm1, hm2, hkB, hsB, hpB, hwB, haB]
        try simp [Bool.or_comm]
      rw [hb9]
    · rw [sw141]
      refine Go.tableIn 218 dX7_barsIt_141 (by decide) (by decide) rfl rfl ?_
      refine Go.iload dX7_barsIt_218 rfl ?_
      refine Go.if_eq 232 dX7_barsIt_220 rfl (fun h220 => ?_) (fun h220 => ?_)
      · refine Go.iconst (v := 0) dX7_barsIt_232 (by decide) ?_
        refine Go.iret dX7_barsIt_233 rfl (by decide) ?_
        refine ⟨_, rfl, ?_, rfl⟩
        have hb9 : barB K X ed x e = (sB && wB) := by
          simp only [barB, barsN, psetN, askN, sw141, hm1, hm2, hkB, hsB, hpB, hwB, haB]
          try simp [Bool.or_comm]
        rw [hb9]
        simp [bi, bi_0.mp h220]
      · refine Go.iload dX7_barsIt_223 rfl ?_
        refine Go.if_eq 232 dX7_barsIt_225 rfl (fun h225 => ?_) (fun h225 => ?_)
        · refine Go.iconst (v := 0) dX7_barsIt_232 (by decide) ?_
          refine Go.iret dX7_barsIt_233 rfl (by decide) ?_
          refine ⟨_, rfl, ?_, rfl⟩
          have hb9 : barB K X ed x e = (sB && wB) := by
            simp only [barB, barsN, psetN, askN, sw141, hm1, hm2, hkB, hsB, hpB, hwB, haB]
            try simp [Bool.or_comm]
          rw [hb9]
          simp [bi, bi_n0.mp h220, bi_0.mp h225]
        · refine Go.iconst (v := 1) dX7_barsIt_228 (by decide) ?_
          refine Go.goto 233 dX7_barsIt_229 rfl ?_
          refine Go.iret dX7_barsIt_233 rfl (by decide) ?_
          refine ⟨_, rfl, ?_, rfl⟩
          have hb9 : barB K X ed x e = (sB && wB) := by
            simp only [barB, barsN, psetN, askN, sw141, hm1, hm2, hkB, hsB, hpB, hwB, haB]
            try simp [Bool.or_comm]
          rw [hb9]
          simp [bi, bi_n0.mp h220, bi_n0.mp h225]
  have j133 : ∀ (sB : Bool) (pB : Bool) (wB : Bool) (aB : Bool) (kB : Bool), sB = decide ((X e) / 20 = x / 20) → pB = partN ((X e) / 20) (x / 20) → wB = decide ((X e) % 20 / 4 = x % 20 / 4) → aB = decide ((X e) % 4 = x % 4) → kB = ((wB || decide (ed / 2 = 0)) && (aB || decide (ed % 2 = 0))) → Go G (d + 1) mX7_barsIt 133 [some (.ref 49), some (.int (nI e)), some (.int (nI x)), some (.int (nI (X e))), some (.int (bi sB)), some (.int (bi pB)), some (.int (bi wB)), some (.int (bi aB)), none] [.int (bi kB)] M (fun v M' => ∃ r, v = some (.int r) ∧ r = bi (barB K X ed x e) ∧ M' = M) := by
    intro sB pB wB aB kB hsB hpB hwB haB hkB
    refine Go.istore (ls' := [some (.ref 49), some (.int (nI e)), some (.int (nI x)), some (.int (nI (X e))), some (.int (bi sB)), some (.int (bi pB)), some (.int (bi wB)), some (.int (bi aB)), some (.int (bi kB))]) dX7_barsIt_133 (Nat.le_of_ble_eq_true rfl) rfl rfl ?_
    exact j135 sB pB wB aB kB hsB hpB hwB haB hkB
  have j98 : ∀ (sB : Bool) (pB : Bool) (wB : Bool) (aB : Bool), sB = decide ((X e) / 20 = x / 20) → pB = partN ((X e) / 20) (x / 20) → wB = decide ((X e) % 20 / 4 = x % 20 / 4) → aB = decide ((X e) % 4 = x % 4) → Go G (d + 1) mX7_barsIt 98 [some (.ref 49), some (.int (nI e)), some (.int (nI x)), some (.int (nI (X e))), some (.int (bi sB)), some (.int (bi pB)), some (.int (bi wB)), none, none] [.int (bi aB)] M (fun v M' => ∃ r, v = some (.int r) ∧ r = bi (barB K X ed x e) ∧ M' = M) := by
    intro sB pB wB aB hsB hpB hwB haB
    refine Go.istore (ls' := [some (.ref 49), some (.int (nI e)), some (.int (nI x)), some (.int (nI (X e))), some (.int (bi sB)), some (.int (bi pB)), some (.int (bi wB)), some (.int (bi aB)), none]) dX7_barsIt_98 (Nat.le_of_ble_eq_true rfl) rfl rfl ?_
    refine Go.iload dX7_barsIt_100 rfl ?_
    refine Go.if_ne 114 dX7_barsIt_102 rfl (fun h102 => ?_) (fun h102 => ?_)
    · refine Go.iload dX7_barsIt_114 rfl ?_
      refine Go.if_ne 128 dX7_barsIt_116 rfl (fun h116 => ?_) (fun h116 => ?_)
      · refine Go.iconst (v := 1) dX7_barsIt_128 (by decide) ?_
        refine Go.goto 133 dX7_barsIt_129 rfl ?_
        exact j133 sB pB wB aB true hsB hpB hwB haB (by simp [bi_n0.mp h102, bi_n0.mp h116])
      · refine Go.aload_n dX7_barsIt_119 rfl ?_
        refine Go.getR dX7_barsIt_120 flX7_16 (shp hG rfl) rfl ?_
        refine Go.iconst (v := 0) dX7_barsIt_123 (by decide) ?_
        refine Go.iald dX7_barsIt_124 (shp hG rfl) (vin (i := 0) (by decide) (by decide)) ?_
        refine Go.eqI (y := nI (ed % 2)) (hB.2.2.2.1) ?_
        refine Go.if_ne 132 dX7_barsIt_125 rfl (fun h125 => ?_) (fun h125 => ?_)
        · have n125 : ¬ (ed % 2) = 0 := fun q => h125 ((nI_inj (a := (ed % 2)) (b := 0) (by omega) (by omega)).mpr q)
          refine Go.iconst (v := 0) dX7_barsIt_132 (by decide) ?_
          exact j133 sB pB wB aB false hsB hpB hwB haB (by simp [bi_n0.mp h102, bi_0.mp h116, n125])
        · have n125 : (ed % 2) = 0 := (nI_inj (a := (ed % 2)) (b := 0) (by omega) (by omega)).mp h125
          refine Go.iconst (v := 1) dX7_barsIt_128 (by decide) ?_
          refine Go.goto 133 dX7_barsIt_129 rfl ?_
          exact j133 sB pB wB aB true hsB hpB hwB haB (by simp [bi_n0.mp h102, bi_0.mp h116, n125])
    · refine Go.aload_n dX7_barsIt_105 rfl ?_
      refine Go.getR dX7_barsIt_106 flX7_16 (shp hG rfl) rfl ?_
      refine Go.iconst (v := 1) dX7_barsIt_109 (by decide) ?_
      refine Go.iald dX7_barsIt_110 (shp hG rfl) (vin (i := 1) (by decide) (by decide)) ?_
      refine Go.eqI (y := nI (ed / 2)) (hB.2.2.2.2.1) ?_
      refine Go.if_ne 132 dX7_barsIt_111 rfl (fun h111 => ?_) (fun h111 => ?_)
      · have n111 : ¬ (ed / 2) = 0 := fun q => h111 ((nI_inj (a := (ed / 2)) (b := 0) (by omega) (by omega)).mpr q)
        refine Go.iconst (v := 0) dX7_barsIt_132 (by decide) ?_
        exact j133 sB pB wB aB false hsB hpB hwB haB (by simp [bi_0.mp h102, n111])
      · have n111 : (ed / 2) = 0 := (nI_inj (a := (ed / 2)) (b := 0) (by omega) (by omega)).mp h111
        refine Go.iload dX7_barsIt_114 rfl ?_
        refine Go.if_ne 128 dX7_barsIt_116 rfl (fun h116 => ?_) (fun h116 => ?_)
        · refine Go.iconst (v := 1) dX7_barsIt_128 (by decide) ?_
          refine Go.goto 133 dX7_barsIt_129 rfl ?_
          exact j133 sB pB wB aB true hsB hpB hwB haB (by simp [bi_0.mp h102, bi_n0.mp h116, n111])
        · refine Go.aload_n dX7_barsIt_119 rfl ?_
          refine Go.getR dX7_barsIt_120 flX7_16 (shp hG rfl) rfl ?_
          refine Go.iconst (v := 0) dX7_barsIt_123 (by decide) ?_
          refine Go.iald dX7_barsIt_124 (shp hG rfl) (vin (i := 0) (by decide) (by decide)) ?_
          refine Go.eqI (y := nI (ed % 2)) (hB.2.2.2.1) ?_
          refine Go.if_ne 132 dX7_barsIt_125 rfl (fun h125 => ?_) (fun h125 => ?_)
          · have n125 : ¬ (ed % 2) = 0 := fun q => h125 ((nI_inj (a := (ed % 2)) (b := 0) (by omega) (by omega)).mpr q)
            refine Go.iconst (v := 0) dX7_barsIt_132 (by decide) ?_
            exact j133 sB pB wB aB false hsB hpB hwB haB (by simp [bi_0.mp h102, bi_0.mp h116, n111, n125])
          · have n125 : (ed % 2) = 0 := (nI_inj (a := (ed % 2)) (b := 0) (by omega) (by omega)).mp h125
            refine Go.iconst (v := 1) dX7_barsIt_128 (by decide) ?_
            refine Go.goto 133 dX7_barsIt_129 rfl ?_
            exact j133 sB pB wB aB true hsB hpB hwB haB (by simp [bi_0.mp h102, bi_0.mp h116, n111, n125])
  have j80 : ∀ (sB : Bool) (pB : Bool) (wB : Bool), sB = decide ((X e) / 20 = x / 20) → pB = partN ((X e) / 20) (x / 20) → wB = decide ((X e) % 20 / 4 = x % 20 / 4) → Go G (d + 1) mX7_barsIt 80 [some (.ref 49), some (.int (nI e)), some (.int (nI x)), some (.int (nI (X e))), some (.int (bi sB)), some (.int (bi pB)), none, none, none] [.int (bi wB)] M (fun v M' => ∃ r, v = some (.int r) ∧ r = bi (barB K X ed x e) ∧ M' = M) := by
    intro sB pB wB hsB hpB hwB
    refine Go.istore (ls' := [some (.ref 49), some (.int (nI e)), some (.int (nI x)), some (.int (nI (X e))), some (.int (bi sB)), some (.int (bi pB)), some (.int (bi wB)), none, none]) dX7_barsIt_80 (Nat.le_of_ble_eq_true rfl) rfl rfl ?_
    refine Go.iload_n dX7_barsIt_82 rfl ?_
    refine Go.callSI [] dX7_barsIt_83 lkX7_117 stX7_sauceOf cbX7_sauceOf (m_sauceOf (nI (X e))) rfl rfl (Nat.le_of_ble_eq_true rfl) (fun r1 M2 hr1 => ?_)
    obtain ⟨er1, emr1⟩ := hr1
    rw [emr1]
    clear emr1 M2
    subst er1
    refine Go.eqI (y := nI ((X e) % 4)) (isau_nI (by omega)) ?_
    refine Go.iload_n dX7_barsIt_86 rfl ?_
    refine Go.callSI [.int (nI ((X e) % 4))] dX7_barsIt_87 lkX7_117 stX7_sauceOf cbX7_sauceOf (m_sauceOf (nI x)) rfl rfl (Nat.le_of_ble_eq_true rfl) (fun r3 M4 hr3 => ?_)
    obtain ⟨er3, emr3⟩ := hr3
    rw [emr3]
    clear emr3 M4
    subst er3
    refine Go.eqI (y := nI (x % 4)) (isau_nI (by omega)) ?_
    refine Go.icmp_ne 97 dX7_barsIt_90 rfl (fun h90 => ?_) (fun h90 => ?_)
    · have n90 : ¬ ((X e) % 4) = (x % 4) := fun q => h90 ((nI_inj (a := ((X e) % 4)) (b := (x % 4)) (by omega) (by omega)).mpr q)
      refine Go.iconst (v := 0) dX7_barsIt_97 (by decide) ?_
      exact j98 sB pB wB false hsB hpB hwB (by simp [n90])
    · have n90 : ((X e) % 4) = (x % 4) := (nI_inj (a := ((X e) % 4)) (b := (x % 4)) (by omega) (by omega)).mp h90
      refine Go.iconst (v := 1) dX7_barsIt_93 (by decide) ?_
      refine Go.goto 98 dX7_barsIt_94 rfl ?_
      exact j98 sB pB wB true hsB hpB hwB (by simp [n90])
  have j62 : ∀ (sB : Bool) (pB : Bool), sB = decide ((X e) / 20 = x / 20) → pB = partN ((X e) / 20) (x / 20) → Go G (d + 1) mX7_barsIt 62 [some (.ref 49), some (.int (nI e)), some (.int (nI x)), some (.int (nI (X e))), some (.int (bi sB)), none, none, none, none] [.int (bi pB)] M (fun v M' => ∃ r, v = some (.int r) ∧ r = bi (barB K X ed x e) ∧ M' = M) := by
    intro sB pB hsB hpB
    refine Go.istore (ls' := [some (.ref 49), some (.int (nI e)), some (.int (nI x)), some (.int (nI (X e))), some (.int (bi sB)), some (.int (bi pB)), none, none, none]) dX7_barsIt_62 (Nat.le_of_ble_eq_true rfl) rfl rfl ?_
    refine Go.iload_n dX7_barsIt_64 rfl ?_
    refine Go.callSI [] dX7_barsIt_65 lkX7_114 stX7_wayOf cbX7_wayOf (m_wayOf (nI (X e))) rfl rfl (Nat.le_of_ble_eq_true rfl) (fun r1 M2 hr1 => ?_)
    obtain ⟨er1, emr1⟩ := hr1
    rw [emr1]
    clear emr1 M2
    subst er1
    refine Go.eqI (y := nI ((X e) % 20 / 4)) (iway_nI (by omega)) ?_
    refine Go.iload_n dX7_barsIt_68 rfl ?_
    refine Go.callSI [.int (nI ((X e) % 20 / 4))] dX7_barsIt_69 lkX7_114 stX7_wayOf cbX7_wayOf (m_wayOf (nI x)) rfl rfl (Nat.le_of_ble_eq_true rfl) (fun r3 M4 hr3 => ?_)
    obtain ⟨er3, emr3⟩ := hr3
    rw [emr3]
    clear emr3 M4
    subst er3
    refine Go.eqI (y := nI (x % 20 / 4)) (iway_nI (by omega)) ?_
    refine Go.icmp_ne 79 dX7_barsIt_72 rfl (fun h72 => ?_) (fun h72 => ?_)
    · have n72 : ¬ ((X e) % 20 / 4) = (x % 20 / 4) := fun q => h72 ((nI_inj (a := ((X e) % 20 / 4)) (b := (x % 20 / 4)) (by omega) (by omega)).mpr q)
      refine Go.iconst (v := 0) dX7_barsIt_79 (by decide) ?_
      exact j80 sB pB false hsB hpB (by simp [n72])
    · have n72 : ((X e) % 20 / 4) = (x % 20 / 4) := (nI_inj (a := ((X e) % 20 / 4)) (b := (x % 20 / 4)) (by omega) (by omega)).mp h72
      refine Go.iconst (v := 1) dX7_barsIt_75 (by decide) ?_
      refine Go.goto 80 dX7_barsIt_76 rfl ?_
      exact j80 sB pB true hsB hpB (by simp [n72])
  have j23 : ∀ (sB : Bool), sB = decide ((X e) / 20 = x / 20) → Go G (d + 1) mX7_barsIt 23 [some (.ref 49), some (.int (nI e)), some (.int (nI x)), some (.int (nI (X e))), none, none, none, none, none] [.int (bi sB)] M (fun v M' => ∃ r, v = some (.int r) ∧ r = bi (barB K X ed x e) ∧ M' = M) := by
    intro sB hsB
    refine Go.istore (ls' := [some (.ref 49), some (.int (nI e)), some (.int (nI x)), some (.int (nI (X e))), some (.int (bi sB)), none, none, none, none]) dX7_barsIt_23 (Nat.le_of_ble_eq_true rfl) rfl rfl ?_
    refine Go.iload_n dX7_barsIt_25 rfl ?_
    refine Go.callSI [] dX7_barsIt_26 lkX7_90 stX7_setOf cbX7_setOf (m_setOf (nI (X e))) rfl rfl (Nat.le_of_ble_eq_true rfl) (fun r1 M2 hr1 => ?_)
    obtain ⟨er1, emr1⟩ := hr1
    rw [emr1]
    clear emr1 M2
    subst er1
    refine Go.eqI (y := nI ((X e) / 20)) (iset_nI (by omega)) ?_
    refine Go.iload_n dX7_barsIt_29 rfl ?_
    refine Go.callSI [.int (nI ((X e) / 20))] dX7_barsIt_30 lkX7_90 stX7_setOf cbX7_setOf (m_setOf (nI x)) rfl rfl (Nat.le_of_ble_eq_true rfl) (fun r3 M4 hr3 => ?_)
    obtain ⟨er3, emr3⟩ := hr3
    rw [emr3]
    clear emr3 M4
    subst er3
    refine Go.eqI (y := nI (x / 20)) (iset_nI (by omega)) ?_
    refine Go.iand dX7_barsIt_33 ?_
    refine Go.eqI (y := nI ((X e) / 20 &&& x / 20)) (fa_and _ _) ?_
    refine Go.iload_n dX7_barsIt_34 rfl ?_
    refine Go.callSI [.int (nI ((X e) / 20 &&& x / 20))] dX7_barsIt_35 lkX7_90 stX7_setOf cbX7_setOf (m_setOf (nI (X e))) rfl rfl (Nat.le_of_ble_eq_true rfl) (fun r5 M6 hr5 => ?_)
    obtain ⟨er5, emr5⟩ := hr5
    rw [emr5]
    clear emr5 M6
    subst er5
    refine Go.eqI (y := nI ((X e) / 20)) (iset_nI (by omega)) ?_
    refine Go.icmp_eq 57 dX7_barsIt_38 rfl (fun h38 => ?_) (fun h38 => ?_)
    · have n38 : ((X e) / 20 &&& x / 20) = ((X e) / 20) := (nI_inj (a := ((X e) / 20 &&& x / 20)) (b := ((X e) / 20)) (by omega) (by omega)).mp h38
      refine Go.iconst (v := 1) dX7_barsIt_57 (by decide) ?_
      refine Go.goto 62 dX7_barsIt_58 rfl ?_
      exact j62 sB true hsB (by simp [partN, n38])
    · have n38 : ¬ ((X e) / 20 &&& x / 20) = ((X e) / 20) := fun q => h38 ((nI_inj (a := ((X e) / 20 &&& x / 20)) (b := ((X e) / 20)) (by omega) (by omega)).mpr q)
      refine Go.iload_n dX7_barsIt_41 rfl ?_
      refine Go.callSI [] dX7_barsIt_42 lkX7_90 stX7_setOf cbX7_setOf (m_setOf (nI (X e))) rfl rfl (Nat.le_of_ble_eq_true rfl) (fun r7 M8 hr7 => ?_)
      obtain ⟨er7, emr7⟩ := hr7
      rw [emr7]
      clear emr7 M8
      subst er7
      refine Go.eqI (y := nI ((X e) / 20)) (iset_nI (by omega)) ?_
      refine Go.iload_n dX7_barsIt_45 rfl ?_
      refine Go.callSI [.int (nI ((X e) / 20))] dX7_barsIt_46 lkX7_90 stX7_setOf cbX7_setOf (m_setOf (nI x)) rfl rfl (Nat.le_of_ble_eq_true rfl) (fun r9 M10 hr9 => ?_)
      obtain ⟨er9, emr9⟩ := hr9
      rw [emr9]
      clear emr9 M10
      subst er9
      refine Go.eqI (y := nI (x / 20)) (iset_nI (by omega)) ?_
      refine Go.iand dX7_barsIt_49 ?_
      refine Go.eqI (y := nI ((X e) / 20 &&& x / 20)) (fa_and _ _) ?_
      refine Go.iload_n dX7_barsIt_50 rfl ?_
      refine Go.callSI [.int (nI ((X e) / 20 &&& x / 20))] dX7_barsIt_51 lkX7_90 stX7_setOf cbX7_setOf (m_setOf (nI x)) rfl rfl (Nat.le_of_ble_eq_true rfl) (fun r11 M12 hr11 => ?_)
      obtain ⟨er11, emr11⟩ := hr11
      rw [emr11]
      clear emr11 M12
      subst er11
      refine Go.eqI (y := nI (x / 20)) (iset_nI (by omega)) ?_
      refine Go.icmp_ne 61 dX7_barsIt_54 rfl (fun h54 => ?_) (fun h54 => ?_)
      · have n54 : ¬ ((X e) / 20 &&& x / 20) = (x / 20) := fun q => h54 ((nI_inj (a := ((X e) / 20 &&& x / 20)) (b := (x / 20)) (by omega) (by omega)).mpr q)
        refine Go.iconst (v := 0) dX7_barsIt_61 (by decide) ?_
        exact j62 sB false hsB (by simp [partN, n38, n54])
      · have n54 : ((X e) / 20 &&& x / 20) = (x / 20) := (nI_inj (a := ((X e) / 20 &&& x / 20)) (b := (x / 20)) (by omega) (by omega)).mp h54
        refine Go.iconst (v := 1) dX7_barsIt_57 (by decide) ?_
        refine Go.goto 62 dX7_barsIt_58 rfl ?_
        exact j62 sB true hsB (by simp [partN, n38, n54])
  refine Go.aload_n dX7_barsIt_0 rfl ?_
  refine Go.getR dX7_barsIt_1 flX7_22 (shp hG rfl) rfl ?_
  refine Go.iload_n dX7_barsIt_4 rfl ?_
  refine Go.iald dX7_barsIt_5 (shp hG rfl) (vin (by omega) (by decide)) ?_
  refine Go.eqI (y := nI (X e)) (by rw [ncl (by omega)]; exact (hB.2.2.2.2.2 e he).2.2.2) ?_
  refine Go.istore_n (ls' := [some (.ref 49), some (.int (nI e)), some (.int (nI x)), some (.int (nI (X e))), none, none, none, none, none]) dX7_barsIt_6 (Nat.le_of_ble_eq_true rfl) rfl rfl ?_
  refine Go.iload_n dX7_barsIt_7 rfl ?_
  refine Go.callSI [] dX7_barsIt_8 lkX7_90 stX7_setOf cbX7_setOf (m_setOf (nI (X e))) rfl rfl (Nat.le_of_ble_eq_true rfl) (fun r1 M2 hr1 => ?_)
  obtain ⟨er1, emr1⟩ := hr1
  rw [emr1]
  clear emr1 M2
  subst er1
  refine Go.eqI (y := nI ((X e) / 20)) (iset_nI (by omega)) ?_
  refine Go.iload_n dX7_barsIt_11 rfl ?_
  refine Go.callSI [.int (nI ((X e) / 20))] dX7_barsIt_12 lkX7_90 stX7_setOf cbX7_setOf (m_setOf (nI x)) rfl rfl (Nat.le_of_ble_eq_true rfl) (fun r3 M4 hr3 => ?_)
  obtain ⟨er3, emr3⟩ := hr3
  rw [emr3]
  clear emr3 M4
  subst er3
  refine Go.eqI (y := nI (x / 20)) (iset_nI (by omega)) ?_
  refine Go.icmp_ne 22 dX7_barsIt_15 rfl (fun h15 => ?_) (fun h15 => ?_)
  · have n15 : ¬ ((X e) / 20) = (x / 20) := fun q => h15 ((nI_inj (a := ((X e) / 20)) (b := (x / 20)) (by omega) (by omega)).mpr q)
    refine Go.iconst (v := 0) dX7_barsIt_22 (by decide) ?_
    exact j23 false (by simp [n15])
  · have n15 : ((X e) / 20) = (x / 20) := (nI_inj (a := ((X e) / 20)) (b := (x / 20)) (by omega) (by omega)).mp h15
    refine Go.iconst (v := 1) dX7_barsIt_18 (by decide) ?_
    refine Go.goto 23 dX7_barsIt_19 rfl ?_
    exact j23 true (by simp [n15])
