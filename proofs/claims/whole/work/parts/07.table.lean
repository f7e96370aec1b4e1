/-! methods, their calls, field links, constants: by program out of the tables -/
abbrev mX6_init : Mt := (yX6_init, cX6_init, 2, none)
theorem cbX6_init : CB mX6_init 0 := ⟨in_all (List.mem_append_right _ (List.mem_of_getElem? (i := 1) (by decide +kernel))) (by decide +kernel), in_all (List.mem_append_right _ (List.mem_of_getElem? (i := 21) (by decide +kernel))) (by decide +kernel), by decide +kernel, by decide⟩
theorem imX6_init : Cond.instanceMethod mX6_init.1 ∈ WSall := in_all (List.mem_append_right _ (List.mem_of_getElem? (i := 20) (by decide +kernel))) (by decide +kernel)
abbrev mX1_init : Mt := (yX1_init, cX1_init, 1, none)
theorem cbX1_init : CB mX1_init 0 := ⟨in_all (List.mem_append_right _ (List.mem_of_getElem? (i := 2) (by decide +kernel))) (by decide +kernel), in_all (List.mem_append_right _ (List.mem_of_getElem? (i := 29) (by decide +kernel))) (by decide +kernel), by decide +kernel, by decide⟩
theorem imX1_init : Cond.instanceMethod mX1_init.1 ∈ WSall := in_all (List.mem_append_right _ (List.mem_of_getElem? (i := 28) (by decide +kernel))) (by decide +kernel)
abbrev mJ7_fill_53178 : Mt := (yJ7_fill_53178, cJ7_fill_53178, 4, none)
theorem cbJ7_fill_53178 : CB mJ7_fill_53178 2 := ⟨in_all (List.mem_append_right _ (List.mem_of_getElem? (i := 3) (by decide +kernel))) (by decide +kernel), in_all (List.mem_append_right _ (List.mem_of_getElem? (i := 33) (by decide +kernel))) (by decide +kernel), by decide +kernel, by decide⟩
theorem stJ7_fill_53178 : Cond.static mJ7_fill_53178.1 ∈ WSall := in_all (List.mem_append_right _ (List.mem_of_getElem? (i := 32) (by decide +kernel))) (by decide +kernel)
abbrev mX2_init : Mt := (yX2_init, cX2_init, 1, none)
theorem cbX2_init : CB mX2_init 0 := ⟨in_all (List.mem_append_right _ (List.mem_of_getElem? (i := 4) (by decide +kernel))) (by decide +kernel), in_all (List.mem_append_right _ (List.mem_of_getElem? (i := 87) (by decide +kernel))) (by decide +kernel), by decide +kernel, by decide⟩
theorem imX2_init : Cond.instanceMethod mX2_init.1 ∈ WSall := in_all (List.mem_append_right _ (List.mem_of_getElem? (i := 86) (by decide +kernel))) (by decide +kernel)
abbrev mX0_init : Mt := (yX0_init, cX0_init, 1, none)
theorem cbX0_init : CB mX0_init 0 := ⟨in_all (List.mem_append_right _ (List.mem_of_getElem? (i := 5) (by decide +kernel))) (by decide +kernel), in_all (List.mem_append_right _ (List.mem_of_getElem? (i := 93) (by decide +kernel))) (by decide +kernel), by decide +kernel, by decide⟩
theorem imX0_init : Cond.instanceMethod mX0_init.1 ∈ WSall := in_all (List.mem_append_right _ (List.mem_of_getElem? (i := 92) (by decide +kernel))) (by decide +kernel)
abbrev mX3_init : Mt := (yX3_init, cX3_init, 1, none)
theorem cbX3_init : CB mX3_init 0 := ⟨in_all (List.mem_append_right _ (List.mem_of_getElem? (i := 6) (by decide +kernel))) (by decide +kernel), in_all (List.mem_append_right _ (List.mem_of_getElem? (i := 134) (by decide +kernel))) (by decide +kernel), by decide +kernel, by decide⟩
theorem imX3_init : Cond.instanceMethod mX3_init.1 ∈ WSall := in_all (List.mem_append_right _ (List.mem_of_getElem? (i := 133) (by decide +kernel))) (by decide +kernel)
abbrev mX5_init : Mt := (yX5_init, cX5_init, 1, none)
theorem cbX5_init : CB mX5_init 0 := ⟨in_all (List.mem_append_right _ (List.mem_of_getElem? (i := 7) (by decide +kernel))) (by decide +kernel), in_all (List.mem_append_right _ (List.mem_of_getElem? (i := 148) (by decide +kernel))) (by decide +kernel), by decide +kernel, by decide⟩
theorem imX5_init : Cond.instanceMethod mX5_init.1 ∈ WSall := in_all (List.mem_append_right _ (List.mem_of_getElem? (i := 147) (by decide +kernel))) (by decide +kernel)
abbrev mX4_init : Mt := (yX4_init, cX4_init, 1, none)
theorem cbX4_init : CB mX4_init 0 := ⟨in_all (List.mem_append_right _ (List.mem_of_getElem? (i := 8) (by decide +kernel))) (by decide +kernel), in_all (List.mem_append_right _ (List.mem_of_getElem? (i := 175) (by decide +kernel))) (by decide +kernel), by decide +kernel, by decide⟩
theorem imX4_init : Cond.instanceMethod mX4_init.1 ∈ WSall := in_all (List.mem_append_right _ (List.mem_of_getElem? (i := 174) (by decide +kernel))) (by decide +kernel)
abbrev mX6_store : Mt := (yX6_store, cX6_store, 4, (some .int))
theorem cbX6_store : CB mX6_store 2 := ⟨in_all (List.mem_append_right _ (List.mem_of_getElem? (i := 1) (by decide +kernel))) (by decide +kernel), in_all (List.mem_append_right _ (List.mem_of_getElem? (i := 222) (by decide +kernel))) (by decide +kernel), by decide +kernel, by decide⟩
theorem imX6_store : Cond.instanceMethod mX6_store.1 ∈ WSall := in_all (List.mem_append_right _ (List.mem_of_getElem? (i := 220) (by decide +kernel))) (by decide +kernel)
theorem seX6_store : Cond.selects mX6_store.1.cls mX6_store.1 mX6_store.1 ∈ WSall := in_all (List.mem_append_right _ (List.mem_of_getElem? (i := 221) (by decide +kernel))) (by decide +kernel)
abbrev mX6_isBelow : Mt := (yX6_isBelow, cX6_isBelow, 2, (some .boolean))
theorem cbX6_isBelow : CB mX6_isBelow 2 := ⟨in_all (List.mem_append_right _ (List.mem_of_getElem? (i := 1) (by decide +kernel))) (by decide +kernel), in_all (List.mem_append_right _ (List.mem_of_getElem? (i := 225) (by decide +kernel))) (by decide +kernel), by decide +kernel, by decide⟩
theorem stX6_isBelow : Cond.static mX6_isBelow.1 ∈ WSall := in_all (List.mem_append_right _ (List.mem_of_getElem? (i := 224) (by decide +kernel))) (by decide +kernel)
abbrev mX6_finding : Mt := (yX6_finding, cX6_finding, 3, (some .int))
theorem cbX6_finding : CB mX6_finding 1 := ⟨in_all (List.mem_append_right _ (List.mem_of_getElem? (i := 1) (by decide +kernel))) (by decide +kernel), in_all (List.mem_append_right _ (List.mem_of_getElem? (i := 230) (by decide +kernel))) (by decide +kernel), by decide +kernel, by decide⟩
theorem imX6_finding : Cond.instanceMethod mX6_finding.1 ∈ WSall := in_all (List.mem_append_right _ (List.mem_of_getElem? (i := 229) (by decide +kernel))) (by decide +kernel)
theorem seX6_finding : Cond.selects mX6_finding.1.cls mX6_finding.1 mX6_finding.1 ∈ WSall := in_all (List.mem_append_left _ (List.mem_of_getElem? (i := 0) (by decide +kernel))) (by decide +kernel)
abbrev mX6_storeOf : Mt := (yX6_storeOf, cX6_storeOf, 2, (some .int))
theorem cbX6_storeOf : CB mX6_storeOf 1 := ⟨in_all (List.mem_append_right _ (List.mem_of_getElem? (i := 1) (by decide +kernel))) (by decide +kernel), in_all (List.mem_append_right _ (List.mem_of_getElem? (i := 234) (by decide +kernel))) (by decide +kernel), by decide +kernel, by decide⟩
theorem imX6_storeOf : Cond.instanceMethod mX6_storeOf.1 ∈ WSall := in_all (List.mem_append_right _ (List.mem_of_getElem? (i := 232) (by decide +kernel))) (by decide +kernel)
theorem seX6_storeOf : Cond.selects mX6_storeOf.1.cls mX6_storeOf.1 mX6_storeOf.1 ∈ WSall := in_all (List.mem_append_right _ (List.mem_of_getElem? (i := 233) (by decide +kernel))) (by decide +kernel)
abbrev mX6_like : Mt := (yX6_like, cX6_like, 6, (some .int))
theorem cbX6_like : CB mX6_like 3 := ⟨in_all (List.mem_append_right _ (List.mem_of_getElem? (i := 1) (by decide +kernel))) (by decide +kernel), in_all (List.mem_append_right _ (List.mem_of_getElem? (i := 238) (by decide +kernel))) (by decide +kernel), by decide +kernel, by decide⟩
theorem imX6_like : Cond.instanceMethod mX6_like.1 ∈ WSall := in_all (List.mem_append_right _ (List.mem_of_getElem? (i := 236) (by decide +kernel))) (by decide +kernel)
theorem seX6_like : Cond.selects mX6_like.1.cls mX6_like.1 mX6_like.1 ∈ WSall := in_all (List.mem_append_right _ (List.mem_of_getElem? (i := 237) (by decide +kernel))) (by decide +kernel)
abbrev mX1_likedOf : Mt := (yX1_likedOf, cX1_likedOf, 2, (some (.array .int)))
theorem cbX1_likedOf : CB mX1_likedOf 1 := ⟨in_all (List.mem_append_right _ (List.mem_of_getElem? (i := 2) (by decide +kernel))) (by decide +kernel), in_all (List.mem_append_right _ (List.mem_of_getElem? (i := 242) (by decide +kernel))) (by decide +kernel), by decide +kernel, by decide⟩
theorem imX1_likedOf : Cond.instanceMethod mX1_likedOf.1 ∈ WSall := in_all (List.mem_append_right _ (List.mem_of_getElem? (i := 240) (by decide +kernel))) (by decide +kernel)
theorem seX1_likedOf : Cond.selects mX1_likedOf.1.cls mX1_likedOf.1 mX1_likedOf.1 ∈ WSall := in_all (List.mem_append_right _ (List.mem_of_getElem? (i := 241) (by decide +kernel))) (by decide +kernel)
abbrev mX6_edict : Mt := (yX6_edict, cX6_edict, 3, (some .int))
theorem cbX6_edict : CB mX6_edict 2 := ⟨in_all (List.mem_append_right _ (List.mem_of_getElem? (i := 1) (by decide +kernel))) (by decide +kernel), in_all (List.mem_append_right _ (List.mem_of_getElem? (i := 246) (by decide +kernel))) (by decide +kernel), by decide +kernel, by decide⟩
theorem imX6_edict : Cond.instanceMethod mX6_edict.1 ∈ WSall := in_all (List.mem_append_right _ (List.mem_of_getElem? (i := 244) (by decide +kernel))) (by decide +kernel)
theorem seX6_edict : Cond.selects mX6_edict.1.cls mX6_edict.1 mX6_edict.1 ∈ WSall := in_all (List.mem_append_right _ (List.mem_of_getElem? (i := 245) (by decide +kernel))) (by decide +kernel)
abbrev mX1_decree : Mt := (yX1_decree, cX1_decree, 4, (some .boolean))
theorem cbX1_decree : CB mX1_decree 2 := ⟨in_all (List.mem_append_right _ (List.mem_of_getElem? (i := 2) (by decide +kernel))) (by decide +kernel), in_all (List.mem_append_right _ (List.mem_of_getElem? (i := 250) (by decide +kernel))) (by decide +kernel), by decide +kernel, by decide⟩
theorem imX1_decree : Cond.instanceMethod mX1_decree.1 ∈ WSall := in_all (List.mem_append_right _ (List.mem_of_getElem? (i := 248) (by decide +kernel))) (by decide +kernel)
theorem seX1_decree : Cond.selects mX1_decree.1.cls mX1_decree.1 mX1_decree.1 ∈ WSall := in_all (List.mem_append_right _ (List.mem_of_getElem? (i := 249) (by decide +kernel))) (by decide +kernel)
abbrev mX6_hasBit : Mt := (yX6_hasBit, cX6_hasBit, 2, (some .boolean))
theorem cbX6_hasBit : CB mX6_hasBit 2 := ⟨in_all (List.mem_append_right _ (List.mem_of_getElem? (i := 1) (by decide +kernel))) (by decide +kernel), in_all (List.mem_append_right _ (List.mem_of_getElem? (i := 253) (by decide +kernel))) (by decide +kernel), by decide +kernel, by decide⟩
theorem stX6_hasBit : Cond.static mX6_hasBit.1 ∈ WSall := in_all (List.mem_append_right _ (List.mem_of_getElem? (i := 252) (by decide +kernel))) (by decide +kernel)
abbrev mX6_dish : Mt := (yX6_dish, cX6_dish, 4, (some .int))
theorem cbX6_dish : CB mX6_dish 3 := ⟨in_all (List.mem_append_right _ (List.mem_of_getElem? (i := 1) (by decide +kernel))) (by decide +kernel), in_all (List.mem_append_right _ (List.mem_of_getElem? (i := 257) (by decide +kernel))) (by decide +kernel), by decide +kernel, by decide⟩
theorem imX6_dish : Cond.instanceMethod mX6_dish.1 ∈ WSall := in_all (List.mem_append_right _ (List.mem_of_getElem? (i := 255) (by decide +kernel))) (by decide +kernel)
theorem seX6_dish : Cond.selects mX6_dish.1.cls mX6_dish.1 mX6_dish.1 ∈ WSall := in_all (List.mem_append_right _ (List.mem_of_getElem? (i := 256) (by decide +kernel))) (by decide +kernel)
abbrev mX6_isSet : Mt := (yX6_isSet, cX6_isSet, 1, (some .boolean))
theorem cbX6_isSet : CB mX6_isSet 1 := ⟨in_all (List.mem_append_right _ (List.mem_of_getElem? (i := 1) (by decide +kernel))) (by decide +kernel), in_all (List.mem_append_right _ (List.mem_of_getElem? (i := 260) (by decide +kernel))) (by decide +kernel), by decide +kernel, by decide⟩
theorem stX6_isSet : Cond.static mX6_isSet.1 ∈ WSall := in_all (List.mem_append_right _ (List.mem_of_getElem? (i := 259) (by decide +kernel))) (by decide +kernel)
abbrev mJ6_bitCount_0f7a4 : Mt := (yJ6_bitCount_0f7a4, cJ6_bitCount_0f7a4, 1, (some .int))
theorem cbJ6_bitCount_0f7a4 : CB mJ6_bitCount_0f7a4 1 := ⟨in_all (List.mem_append_right _ (List.mem_of_getElem? (i := 10) (by decide +kernel))) (by decide +kernel), in_all (List.mem_append_right _ (List.mem_of_getElem? (i := 263) (by decide +kernel))) (by decide +kernel), by decide +kernel, by decide⟩
theorem stJ6_bitCount_0f7a4 : Cond.static mJ6_bitCount_0f7a4.1 ∈ WSall := in_all (List.mem_append_right _ (List.mem_of_getElem? (i := 262) (by decide +kernel))) (by decide +kernel)
abbrev mX6_dishNumber : Mt := (yX6_dishNumber, cX6_dishNumber, 3, (some .int))
theorem cbX6_dishNumber : CB mX6_dishNumber 3 := ⟨in_all (List.mem_append_right _ (List.mem_of_getElem? (i := 1) (by decide +kernel))) (by decide +kernel), in_all (List.mem_append_right _ (List.mem_of_getElem? (i := 269) (by decide +kernel))) (by decide +kernel), by decide +kernel, by decide⟩
theorem stX6_dishNumber : Cond.static mX6_dishNumber.1 ∈ WSall := in_all (List.mem_append_right _ (List.mem_of_getElem? (i := 268) (by decide +kernel))) (by decide +kernel)
abbrev mX6_of : Mt := (yX6_of, cX6_of, 3, (some .int))
theorem cbX6_of : CB mX6_of 2 := ⟨in_all (List.mem_append_right _ (List.mem_of_getElem? (i := 1) (by decide +kernel))) (by decide +kernel), in_all (List.mem_append_right _ (List.mem_of_getElem? (i := 273) (by decide +kernel))) (by decide +kernel), by decide +kernel, by decide⟩
theorem imX6_of : Cond.instanceMethod mX6_of.1 ∈ WSall := in_all (List.mem_append_right _ (List.mem_of_getElem? (i := 271) (by decide +kernel))) (by decide +kernel)
theorem seX6_of : Cond.selects mX6_of.1.cls mX6_of.1 mX6_of.1 ∈ WSall := in_all (List.mem_append_right _ (List.mem_of_getElem? (i := 272) (by decide +kernel))) (by decide +kernel)
abbrev mX6_isDish : Mt := (yX6_isDish, cX6_isDish, 1, (some .boolean))
theorem cbX6_isDish : CB mX6_isDish 1 := ⟨in_all (List.mem_append_right _ (List.mem_of_getElem? (i := 1) (by decide +kernel))) (by decide +kernel), in_all (List.mem_append_right _ (List.mem_of_getElem? (i := 276) (by decide +kernel))) (by decide +kernel), by decide +kernel, by decide⟩
theorem stX6_isDish : Cond.static mX6_isDish.1 ∈ WSall := in_all (List.mem_append_right _ (List.mem_of_getElem? (i := 275) (by decide +kernel))) (by decide +kernel)
abbrev mX6_setOf : Mt := (yX6_setOf, cX6_setOf, 1, (some .int))
theorem cbX6_setOf : CB mX6_setOf 1 := ⟨in_all (List.mem_append_right _ (List.mem_of_getElem? (i := 1) (by decide +kernel))) (by decide +kernel), in_all (List.mem_append_right _ (List.mem_of_getElem? (i := 279) (by decide +kernel))) (by decide +kernel), by decide +kernel, by decide⟩
theorem stX6_setOf : Cond.static mX6_setOf.1 ∈ WSall := in_all (List.mem_append_right _ (List.mem_of_getElem? (i := 278) (by decide +kernel))) (by decide +kernel)
abbrev mX6_wayOf : Mt := (yX6_wayOf, cX6_wayOf, 1, (some .int))
theorem cbX6_wayOf : CB mX6_wayOf 1 := ⟨in_all (List.mem_append_right _ (List.mem_of_getElem? (i := 1) (by decide +kernel))) (by decide +kernel), in_all (List.mem_append_right _ (List.mem_of_getElem? (i := 282) (by decide +kernel))) (by decide +kernel), by decide +kernel, by decide⟩
theorem stX6_wayOf : Cond.static mX6_wayOf.1 ∈ WSall := in_all (List.mem_append_right _ (List.mem_of_getElem? (i := 281) (by decide +kernel))) (by decide +kernel)
abbrev mX6_sauceOf : Mt := (yX6_sauceOf, cX6_sauceOf, 1, (some .int))
theorem cbX6_sauceOf : CB mX6_sauceOf 1 := ⟨in_all (List.mem_append_right _ (List.mem_of_getElem? (i := 1) (by decide +kernel))) (by decide +kernel), in_all (List.mem_append_right _ (List.mem_of_getElem? (i := 285) (by decide +kernel))) (by decide +kernel), by decide +kernel, by decide⟩
theorem stX6_sauceOf : Cond.static mX6_sauceOf.1 ∈ WSall := in_all (List.mem_append_right _ (List.mem_of_getElem? (i := 284) (by decide +kernel))) (by decide +kernel)
abbrev mX1_liking : Mt := (yX1_liking, cX1_liking, 4, (some .int))
theorem cbX1_liking : CB mX1_liking 1 := ⟨in_all (List.mem_append_right _ (List.mem_of_getElem? (i := 2) (by decide +kernel))) (by decide +kernel), in_all (List.mem_append_right _ (List.mem_of_getElem? (i := 289) (by decide +kernel))) (by decide +kernel), by decide +kernel, by decide⟩
theorem imX1_liking : Cond.instanceMethod mX1_liking.1 ∈ WSall := in_all (List.mem_append_right _ (List.mem_of_getElem? (i := 287) (by decide +kernel))) (by decide +kernel)
theorem seX1_liking : Cond.selects mX1_liking.1.cls mX1_liking.1 mX1_liking.1 ∈ WSall := in_all (List.mem_append_right _ (List.mem_of_getElem? (i := 288) (by decide +kernel))) (by decide +kernel)
abbrev mX1_canBe : Mt := (yX1_canBe, cX1_canBe, 2, (some .boolean))
theorem cbX1_canBe : CB mX1_canBe 1 := ⟨in_all (List.mem_append_right _ (List.mem_of_getElem? (i := 2) (by decide +kernel))) (by decide +kernel), in_all (List.mem_append_right _ (List.mem_of_getElem? (i := 296) (by decide +kernel))) (by decide +kernel), by decide +kernel, by decide⟩
theorem imX1_canBe : Cond.instanceMethod mX1_canBe.1 ∈ WSall := in_all (List.mem_append_right _ (List.mem_of_getElem? (i := 294) (by decide +kernel))) (by decide +kernel)
theorem seX1_canBe : Cond.selects mX1_canBe.1.cls mX1_canBe.1 mX1_canBe.1 ∈ WSall := in_all (List.mem_append_right _ (List.mem_of_getElem? (i := 295) (by decide +kernel))) (by decide +kernel)
abbrev mX6_inStore : Mt := (yX6_inStore, cX6_inStore, 3, (some .int))
theorem cbX6_inStore : CB mX6_inStore 1 := ⟨in_all (List.mem_append_right _ (List.mem_of_getElem? (i := 1) (by decide +kernel))) (by decide +kernel), in_all (List.mem_append_right _ (List.mem_of_getElem? (i := 299) (by decide +kernel))) (by decide +kernel), by decide +kernel, by decide⟩
theorem stX6_inStore : Cond.static mX6_inStore.1 ∈ WSall := in_all (List.mem_append_right _ (List.mem_of_getElem? (i := 298) (by decide +kernel))) (by decide +kernel)
abbrev mX1_isNew : Mt := (yX1_isNew, cX1_isNew, 2, (some .boolean))
theorem cbX1_isNew : CB mX1_isNew 1 := ⟨in_all (List.mem_append_right _ (List.mem_of_getElem? (i := 2) (by decide +kernel))) (by decide +kernel), in_all (List.mem_append_right _ (List.mem_of_getElem? (i := 303) (by decide +kernel))) (by decide +kernel), by decide +kernel, by decide⟩
theorem imX1_isNew : Cond.instanceMethod mX1_isNew.1 ∈ WSall := in_all (List.mem_append_right _ (List.mem_of_getElem? (i := 301) (by decide +kernel))) (by decide +kernel)
theorem seX1_isNew : Cond.selects mX1_isNew.1.cls mX1_isNew.1 mX1_isNew.1 ∈ WSall := in_all (List.mem_append_right _ (List.mem_of_getElem? (i := 302) (by decide +kernel))) (by decide +kernel)
abbrev mX1_firstBarring : Mt := (yX1_firstBarring, cX1_firstBarring, 4, (some .int))
theorem cbX1_firstBarring : CB mX1_firstBarring 2 := ⟨in_all (List.mem_append_right _ (List.mem_of_getElem? (i := 2) (by decide +kernel))) (by decide +kernel), in_all (List.mem_append_right _ (List.mem_of_getElem? (i := 307) (by decide +kernel))) (by decide +kernel), by decide +kernel, by decide⟩
theorem imX1_firstBarring : Cond.instanceMethod mX1_firstBarring.1 ∈ WSall := in_all (List.mem_append_right _ (List.mem_of_getElem? (i := 305) (by decide +kernel))) (by decide +kernel)
theorem seX1_firstBarring : Cond.selects mX1_firstBarring.1.cls mX1_firstBarring.1 mX1_firstBarring.1 ∈ WSall := in_all (List.mem_append_right _ (List.mem_of_getElem? (i := 306) (by decide +kernel))) (by decide +kernel)
abbrev mX1_isBarredBy : Mt := (yX1_isBarredBy, cX1_isBarredBy, 3, (some .boolean))
theorem cbX1_isBarredBy : CB mX1_isBarredBy 2 := ⟨in_all (List.mem_append_right _ (List.mem_of_getElem? (i := 2) (by decide +kernel))) (by decide +kernel), in_all (List.mem_append_right _ (List.mem_of_getElem? (i := 311) (by decide +kernel))) (by decide +kernel), by decide +kernel, by decide⟩
theorem imX1_isBarredBy : Cond.instanceMethod mX1_isBarredBy.1 ∈ WSall := in_all (List.mem_append_right _ (List.mem_of_getElem? (i := 309) (by decide +kernel))) (by decide +kernel)
theorem seX1_isBarredBy : Cond.selects mX1_isBarredBy.1.cls mX1_isBarredBy.1 mX1_isBarredBy.1 ∈ WSall := in_all (List.mem_append_right _ (List.mem_of_getElem? (i := 310) (by decide +kernel))) (by decide +kernel)
abbrev mX6_barsDish : Mt := (yX6_barsDish, cX6_barsDish, 4, (some .boolean))
theorem cbX6_barsDish : CB mX6_barsDish 4 := ⟨in_all (List.mem_append_right _ (List.mem_of_getElem? (i := 1) (by decide +kernel))) (by decide +kernel), in_all (List.mem_append_right _ (List.mem_of_getElem? (i := 314) (by decide +kernel))) (by decide +kernel), by decide +kernel, by decide⟩
theorem stX6_barsDish : Cond.static mX6_barsDish.1 ∈ WSall := in_all (List.mem_append_right _ (List.mem_of_getElem? (i := 313) (by decide +kernel))) (by decide +kernel)
abbrev mX6_barsSet : Mt := (yX6_barsSet, cX6_barsSet, 3, (some .boolean))
theorem cbX6_barsSet : CB mX6_barsSet 3 := ⟨in_all (List.mem_append_right _ (List.mem_of_getElem? (i := 1) (by decide +kernel))) (by decide +kernel), in_all (List.mem_append_right _ (List.mem_of_getElem? (i := 317) (by decide +kernel))) (by decide +kernel), by decide +kernel, by decide⟩
theorem stX6_barsSet : Cond.static mX6_barsSet.1 ∈ WSall := in_all (List.mem_append_right _ (List.mem_of_getElem? (i := 316) (by decide +kernel))) (by decide +kernel)
abbrev mX6_barsParts : Mt := (yX6_barsParts, cX6_barsParts, 1, (some .boolean))
theorem cbX6_barsParts : CB mX6_barsParts 1 := ⟨in_all (List.mem_append_right _ (List.mem_of_getElem? (i := 1) (by decide +kernel))) (by decide +kernel), in_all (List.mem_append_right _ (List.mem_of_getElem? (i := 320) (by decide +kernel))) (by decide +kernel), by decide +kernel, by decide⟩
theorem stX6_barsParts : Cond.static mX6_barsParts.1 ∈ WSall := in_all (List.mem_append_right _ (List.mem_of_getElem? (i := 319) (by decide +kernel))) (by decide +kernel)
abbrev mX6_isPartEitherWay : Mt := (yX6_isPartEitherWay, cX6_isPartEitherWay, 3, (some .boolean))
theorem cbX6_isPartEitherWay : CB mX6_isPartEitherWay 2 := ⟨in_all (List.mem_append_right _ (List.mem_of_getElem? (i := 1) (by decide +kernel))) (by decide +kernel), in_all (List.mem_append_right _ (List.mem_of_getElem? (i := 323) (by decide +kernel))) (by decide +kernel), by decide +kernel, by decide⟩
theorem stX6_isPartEitherWay : Cond.static mX6_isPartEitherWay.1 ∈ WSall := in_all (List.mem_append_right _ (List.mem_of_getElem? (i := 322) (by decide +kernel))) (by decide +kernel)
abbrev mX6_mannerOf : Mt := (yX6_mannerOf, cX6_mannerOf, 1, (some .int))
theorem cbX6_mannerOf : CB mX6_mannerOf 1 := ⟨in_all (List.mem_append_right _ (List.mem_of_getElem? (i := 1) (by decide +kernel))) (by decide +kernel), in_all (List.mem_append_right _ (List.mem_of_getElem? (i := 326) (by decide +kernel))) (by decide +kernel), by decide +kernel, by decide⟩
theorem stX6_mannerOf : Cond.static mX6_mannerOf.1 ∈ WSall := in_all (List.mem_append_right _ (List.mem_of_getElem? (i := 325) (by decide +kernel))) (by decide +kernel)
abbrev mX6_mannersBarred : Mt := (yX6_mannersBarred, cX6_mannersBarred, 7, (some .int))
theorem cbX6_mannersBarred : CB mX6_mannersBarred 3 := ⟨in_all (List.mem_append_right _ (List.mem_of_getElem? (i := 1) (by decide +kernel))) (by decide +kernel), in_all (List.mem_append_right _ (List.mem_of_getElem? (i := 329) (by decide +kernel))) (by decide +kernel), by decide +kernel, by decide⟩
theorem stX6_mannersBarred : Cond.static mX6_mannersBarred.1 ∈ WSall := in_all (List.mem_append_right _ (List.mem_of_getElem? (i := 328) (by decide +kernel))) (by decide +kernel)
abbrev mX6_near : Mt := (yX6_near, cX6_near, 3, (some .int))
theorem cbX6_near : CB mX6_near 2 := ⟨in_all (List.mem_append_right _ (List.mem_of_getElem? (i := 1) (by decide +kernel))) (by decide +kernel), in_all (List.mem_append_right _ (List.mem_of_getElem? (i := 336) (by decide +kernel))) (by decide +kernel), by decide +kernel, by decide⟩
theorem imX6_near : Cond.instanceMethod mX6_near.1 ∈ WSall := in_all (List.mem_append_right _ (List.mem_of_getElem? (i := 334) (by decide +kernel))) (by decide +kernel)
theorem seX6_near : Cond.selects mX6_near.1.cls mX6_near.1 mX6_near.1 ∈ WSall := in_all (List.mem_append_right _ (List.mem_of_getElem? (i := 335) (by decide +kernel))) (by decide +kernel)
abbrev mX6_nearness : Mt := (yX6_nearness, cX6_nearness, 2, (some .int))
theorem cbX6_nearness : CB mX6_nearness 2 := ⟨in_all (List.mem_append_right _ (List.mem_of_getElem? (i := 1) (by decide +kernel))) (by decide +kernel), in_all (List.mem_append_right _ (List.mem_of_getElem? (i := 339) (by decide +kernel))) (by decide +kernel), by decide +kernel, by decide⟩
theorem stX6_nearness : Cond.static mX6_nearness.1 ∈ WSall := in_all (List.mem_append_right _ (List.mem_of_getElem? (i := 338) (by decide +kernel))) (by decide +kernel)
abbrev mX6_nearHad : Mt := (yX6_nearHad, cX6_nearHad, 3, (some .int))
theorem cbX6_nearHad : CB mX6_nearHad 2 := ⟨in_all (List.mem_append_right _ (List.mem_of_getElem? (i := 1) (by decide +kernel))) (by decide +kernel), in_all (List.mem_append_right _ (List.mem_of_getElem? (i := 343) (by decide +kernel))) (by decide +kernel), by decide +kernel, by decide⟩
theorem imX6_nearHad : Cond.instanceMethod mX6_nearHad.1 ∈ WSall := in_all (List.mem_append_right _ (List.mem_of_getElem? (i := 341) (by decide +kernel))) (by decide +kernel)
theorem seX6_nearHad : Cond.selects mX6_nearHad.1.cls mX6_nearHad.1 mX6_nearHad.1 ∈ WSall := in_all (List.mem_append_right _ (List.mem_of_getElem? (i := 342) (by decide +kernel))) (by decide +kernel)
abbrev mX1_hadNear : Mt := (yX1_hadNear, cX1_hadNear, 5, (some .int))
theorem cbX1_hadNear : CB mX1_hadNear 2 := ⟨in_all (List.mem_append_right _ (List.mem_of_getElem? (i := 2) (by decide +kernel))) (by decide +kernel), in_all (List.mem_append_right _ (List.mem_of_getElem? (i := 347) (by decide +kernel))) (by decide +kernel), by decide +kernel, by decide⟩
theorem imX1_hadNear : Cond.instanceMethod mX1_hadNear.1 ∈ WSall := in_all (List.mem_append_right _ (List.mem_of_getElem? (i := 345) (by decide +kernel))) (by decide +kernel)
theorem seX1_hadNear : Cond.selects mX1_hadNear.1.cls mX1_hadNear.1 mX1_hadNear.1 ∈ WSall := in_all (List.mem_append_right _ (List.mem_of_getElem? (i := 346) (by decide +kernel))) (by decide +kernel)
abbrev mX6_many : Mt := (yX6_many, cX6_many, 2, (some .int))
theorem cbX6_many : CB mX6_many 1 := ⟨in_all (List.mem_append_right _ (List.mem_of_getElem? (i := 1) (by decide +kernel))) (by decide +kernel), in_all (List.mem_append_right _ (List.mem_of_getElem? (i := 352) (by decide +kernel))) (by decide +kernel), by decide +kernel, by decide⟩
theorem imX6_many : Cond.instanceMethod mX6_many.1 ∈ WSall := in_all (List.mem_append_right _ (List.mem_of_getElem? (i := 350) (by decide +kernel))) (by decide +kernel)
theorem seX6_many : Cond.selects mX6_many.1.cls mX6_many.1 mX6_many.1 ∈ WSall := in_all (List.mem_append_right _ (List.mem_of_getElem? (i := 351) (by decide +kernel))) (by decide +kernel)
abbrev mX2_begin : Mt := (yX2_begin, cX2_begin, 2, none)
theorem cbX2_begin : CB mX2_begin 1 := ⟨in_all (List.mem_append_right _ (List.mem_of_getElem? (i := 4) (by decide +kernel))) (by decide +kernel), in_all (List.mem_append_right _ (List.mem_of_getElem? (i := 356) (by decide +kernel))) (by decide +kernel), by decide +kernel, by decide⟩
theorem imX2_begin : Cond.instanceMethod mX2_begin.1 ∈ WSall := in_all (List.mem_append_right _ (List.mem_of_getElem? (i := 354) (by decide +kernel))) (by decide +kernel)
theorem seX2_begin : Cond.selects mX2_begin.1.cls mX2_begin.1 mX2_begin.1 ∈ WSall := in_all (List.mem_append_right _ (List.mem_of_getElem? (i := 355) (by decide +kernel))) (by decide +kernel)
abbrev mX0_barAll : Mt := (yX0_barAll, cX0_barAll, 4, none)
theorem cbX0_barAll : CB mX0_barAll 2 := ⟨in_all (List.mem_append_right _ (List.mem_of_getElem? (i := 5) (by decide +kernel))) (by decide +kernel), in_all (List.mem_append_right _ (List.mem_of_getElem? (i := 363) (by decide +kernel))) (by decide +kernel), by decide +kernel, by decide⟩
theorem imX0_barAll : Cond.instanceMethod mX0_barAll.1 ∈ WSall := in_all (List.mem_append_right _ (List.mem_of_getElem? (i := 361) (by decide +kernel))) (by decide +kernel)
theorem seX0_barAll : Cond.selects mX0_barAll.1.cls mX0_barAll.1 mX0_barAll.1 ∈ WSall := in_all (List.mem_append_right _ (List.mem_of_getElem? (i := 362) (by decide +kernel))) (by decide +kernel)
abbrev mX0_bar : Mt := (yX0_bar, cX0_bar, 7, none)
theorem cbX0_bar : CB mX0_bar 3 := ⟨in_all (List.mem_append_right _ (List.mem_of_getElem? (i := 5) (by decide +kernel))) (by decide +kernel), in_all (List.mem_append_right _ (List.mem_of_getElem? (i := 368) (by decide +kernel))) (by decide +kernel), by decide +kernel, by decide⟩
theorem imX0_bar : Cond.instanceMethod mX0_bar.1 ∈ WSall := in_all (List.mem_append_right _ (List.mem_of_getElem? (i := 366) (by decide +kernel))) (by decide +kernel)
theorem seX0_bar : Cond.selects mX0_bar.1.cls mX0_bar.1 mX0_bar.1 ∈ WSall := in_all (List.mem_append_right _ (List.mem_of_getElem? (i := 367) (by decide +kernel))) (by decide +kernel)
abbrev mX0_barIn : Mt := (yX0_barIn, cX0_barIn, 3, none)
theorem cbX0_barIn : CB mX0_barIn 2 := ⟨in_all (List.mem_append_right _ (List.mem_of_getElem? (i := 5) (by decide +kernel))) (by decide +kernel), in_all (List.mem_append_right _ (List.mem_of_getElem? (i := 376) (by decide +kernel))) (by decide +kernel), by decide +kernel, by decide⟩
theorem imX0_barIn : Cond.instanceMethod mX0_barIn.1 ∈ WSall := in_all (List.mem_append_right _ (List.mem_of_getElem? (i := 375) (by decide +kernel))) (by decide +kernel)
theorem seX0_barIn : Cond.selects mX0_barIn.1.cls mX0_barIn.1 mX0_barIn.1 ∈ WSall := in_all (List.mem_append_left _ (List.mem_of_getElem? (i := 1) (by decide +kernel))) (by decide +kernel)
abbrev mX2_weighSets : Mt := (yX2_weighSets, cX2_weighSets, 5, none)
theorem cbX2_weighSets : CB mX2_weighSets 1 := ⟨in_all (List.mem_append_right _ (List.mem_of_getElem? (i := 4) (by decide +kernel))) (by decide +kernel), in_all (List.mem_append_right _ (List.mem_of_getElem? (i := 383) (by decide +kernel))) (by decide +kernel), by decide +kernel, by decide⟩
theorem imX2_weighSets : Cond.instanceMethod mX2_weighSets.1 ∈ WSall := in_all (List.mem_append_right _ (List.mem_of_getElem? (i := 382) (by decide +kernel))) (by decide +kernel)
theorem seX2_weighSets : Cond.selects mX2_weighSets.1.cls mX2_weighSets.1 mX2_weighSets.1 ∈ WSall := in_all (List.mem_append_left _ (List.mem_of_getElem? (i := 2) (by decide +kernel))) (by decide +kernel)
abbrev mX2_weighManners : Mt := (yX2_weighManners, cX2_weighManners, 3, none)
theorem cbX2_weighManners : CB mX2_weighManners 1 := ⟨in_all (List.mem_append_right _ (List.mem_of_getElem? (i := 4) (by decide +kernel))) (by decide +kernel), in_all (List.mem_append_right _ (List.mem_of_getElem? (i := 389) (by decide +kernel))) (by decide +kernel), by decide +kernel, by decide⟩
theorem imX2_weighManners : Cond.instanceMethod mX2_weighManners.1 ∈ WSall := in_all (List.mem_append_right _ (List.mem_of_getElem? (i := 388) (by decide +kernel))) (by decide +kernel)
theorem seX2_weighManners : Cond.selects mX2_weighManners.1.cls mX2_weighManners.1 mX2_weighManners.1 ∈ WSall := in_all (List.mem_append_left _ (List.mem_of_getElem? (i := 3) (by decide +kernel))) (by decide +kernel)
abbrev mX2_rankManners : Mt := (yX2_rankManners, cX2_rankManners, 3, none)
theorem cbX2_rankManners : CB mX2_rankManners 0 := ⟨in_all (List.mem_append_right _ (List.mem_of_getElem? (i := 4) (by decide +kernel))) (by decide +kernel), in_all (List.mem_append_right _ (List.mem_of_getElem? (i := 395) (by decide +kernel))) (by decide +kernel), by decide +kernel, by decide⟩
theorem imX2_rankManners : Cond.instanceMethod mX2_rankManners.1 ∈ WSall := in_all (List.mem_append_right _ (List.mem_of_getElem? (i := 394) (by decide +kernel))) (by decide +kernel)
theorem seX2_rankManners : Cond.selects mX2_rankManners.1.cls mX2_rankManners.1 mX2_rankManners.1 ∈ WSall := in_all (List.mem_append_left _ (List.mem_of_getElem? (i := 4) (by decide +kernel))) (by decide +kernel)
abbrev mX2_possible : Mt := (yX2_possible, cX2_possible, 4, (some .int))
theorem cbX2_possible : CB mX2_possible 0 := ⟨in_all (List.mem_append_right _ (List.mem_of_getElem? (i := 4) (by decide +kernel))) (by decide +kernel), in_all (List.mem_append_right _ (List.mem_of_getElem? (i := 399) (by decide +kernel))) (by decide +kernel), by decide +kernel, by decide⟩
theorem imX2_possible : Cond.instanceMethod mX2_possible.1 ∈ WSall := in_all (List.mem_append_right _ (List.mem_of_getElem? (i := 397) (by decide +kernel))) (by decide +kernel)
theorem seX2_possible : Cond.selects mX2_possible.1.cls mX2_possible.1 mX2_possible.1 ∈ WSall := in_all (List.mem_append_right _ (List.mem_of_getElem? (i := 398) (by decide +kernel))) (by decide +kernel)
abbrev mX0_unbarred : Mt := (yX0_unbarred, cX0_unbarred, 1, (some .int))
theorem cbX0_unbarred : CB mX0_unbarred 0 := ⟨in_all (List.mem_append_right _ (List.mem_of_getElem? (i := 5) (by decide +kernel))) (by decide +kernel), in_all (List.mem_append_right _ (List.mem_of_getElem? (i := 404) (by decide +kernel))) (by decide +kernel), by decide +kernel, by decide⟩
theorem imX0_unbarred : Cond.instanceMethod mX0_unbarred.1 ∈ WSall := in_all (List.mem_append_right _ (List.mem_of_getElem? (i := 402) (by decide +kernel))) (by decide +kernel)
theorem seX0_unbarred : Cond.selects mX0_unbarred.1.cls mX0_unbarred.1 mX0_unbarred.1 ∈ WSall := in_all (List.mem_append_right _ (List.mem_of_getElem? (i := 403) (by decide +kernel))) (by decide +kernel)
abbrev mX6_countOf : Mt := (yX6_countOf, cX6_countOf, 3, (some .int))
theorem cbX6_countOf : CB mX6_countOf 1 := ⟨in_all (List.mem_append_right _ (List.mem_of_getElem? (i := 1) (by decide +kernel))) (by decide +kernel), in_all (List.mem_append_right _ (List.mem_of_getElem? (i := 407) (by decide +kernel))) (by decide +kernel), by decide +kernel, by decide⟩
theorem stX6_countOf : Cond.static mX6_countOf.1 ∈ WSall := in_all (List.mem_append_right _ (List.mem_of_getElem? (i := 406) (by decide +kernel))) (by decide +kernel)
abbrev mX2_servable : Mt := (yX2_servable, cX2_servable, 4, (some .int))
theorem cbX2_servable : CB mX2_servable 0 := ⟨in_all (List.mem_append_right _ (List.mem_of_getElem? (i := 4) (by decide +kernel))) (by decide +kernel), in_all (List.mem_append_right _ (List.mem_of_getElem? (i := 411) (by decide +kernel))) (by decide +kernel), by decide +kernel, by decide⟩
theorem imX2_servable : Cond.instanceMethod mX2_servable.1 ∈ WSall := in_all (List.mem_append_right _ (List.mem_of_getElem? (i := 409) (by decide +kernel))) (by decide +kernel)
theorem seX2_servable : Cond.selects mX2_servable.1.cls mX2_servable.1 mX2_servable.1 ∈ WSall := in_all (List.mem_append_right _ (List.mem_of_getElem? (i := 410) (by decide +kernel))) (by decide +kernel)
abbrev mX2_servableManners : Mt := (yX2_servableManners, cX2_servableManners, 3, (some .int))
theorem cbX2_servableManners : CB mX2_servableManners 2 := ⟨in_all (List.mem_append_right _ (List.mem_of_getElem? (i := 4) (by decide +kernel))) (by decide +kernel), in_all (List.mem_append_right _ (List.mem_of_getElem? (i := 415) (by decide +kernel))) (by decide +kernel), by decide +kernel, by decide⟩
theorem imX2_servableManners : Cond.instanceMethod mX2_servableManners.1 ∈ WSall := in_all (List.mem_append_right _ (List.mem_of_getElem? (i := 413) (by decide +kernel))) (by decide +kernel)
theorem seX2_servableManners : Cond.selects mX2_servableManners.1.cls mX2_servableManners.1 mX2_servableManners.1 ∈ WSall := in_all (List.mem_append_right _ (List.mem_of_getElem? (i := 414) (by decide +kernel))) (by decide +kernel)
abbrev mX6_next : Mt := (yX6_next, cX6_next, 2, (some .int))
theorem cbX6_next : CB mX6_next 1 := ⟨in_all (List.mem_append_right _ (List.mem_of_getElem? (i := 1) (by decide +kernel))) (by decide +kernel), in_all (List.mem_append_right _ (List.mem_of_getElem? (i := 420) (by decide +kernel))) (by decide +kernel), by decide +kernel, by decide⟩
theorem imX6_next : Cond.instanceMethod mX6_next.1 ∈ WSall := in_all (List.mem_append_right _ (List.mem_of_getElem? (i := 418) (by decide +kernel))) (by decide +kernel)
theorem seX6_next : Cond.selects mX6_next.1.cls mX6_next.1 mX6_next.1 ∈ WSall := in_all (List.mem_append_right _ (List.mem_of_getElem? (i := 419) (by decide +kernel))) (by decide +kernel)
abbrev mX2_firstFrom : Mt := (yX2_firstFrom, cX2_firstFrom, 7, (some .int))
theorem cbX2_firstFrom : CB mX2_firstFrom 1 := ⟨in_all (List.mem_append_right _ (List.mem_of_getElem? (i := 4) (by decide +kernel))) (by decide +kernel), in_all (List.mem_append_right _ (List.mem_of_getElem? (i := 424) (by decide +kernel))) (by decide +kernel), by decide +kernel, by decide⟩
theorem imX2_firstFrom : Cond.instanceMethod mX2_firstFrom.1 ∈ WSall := in_all (List.mem_append_right _ (List.mem_of_getElem? (i := 422) (by decide +kernel))) (by decide +kernel)
theorem seX2_firstFrom : Cond.selects mX2_firstFrom.1.cls mX2_firstFrom.1 mX2_firstFrom.1 ∈ WSall := in_all (List.mem_append_right _ (List.mem_of_getElem? (i := 423) (by decide +kernel))) (by decide +kernel)
abbrev mX6_orNone : Mt := (yX6_orNone, cX6_orNone, 2, (some .int))
theorem cbX6_orNone : CB mX6_orNone 1 := ⟨in_all (List.mem_append_right _ (List.mem_of_getElem? (i := 1) (by decide +kernel))) (by decide +kernel), in_all (List.mem_append_right _ (List.mem_of_getElem? (i := 428) (by decide +kernel))) (by decide +kernel), by decide +kernel, by decide⟩
theorem imX6_orNone : Cond.instanceMethod mX6_orNone.1 ∈ WSall := in_all (List.mem_append_right _ (List.mem_of_getElem? (i := 427) (by decide +kernel))) (by decide +kernel)
theorem seX6_orNone : Cond.selects mX6_orNone.1.cls mX6_orNone.1 mX6_orNone.1 ∈ WSall := in_all (List.mem_append_left _ (List.mem_of_getElem? (i := 5) (by decide +kernel))) (by decide +kernel)
abbrev mX6_enter : Mt := (yX6_enter, cX6_enter, 3, (some .int))
theorem cbX6_enter : CB mX6_enter 2 := ⟨in_all (List.mem_append_right _ (List.mem_of_getElem? (i := 1) (by decide +kernel))) (by decide +kernel), in_all (List.mem_append_right _ (List.mem_of_getElem? (i := 433) (by decide +kernel))) (by decide +kernel), by decide +kernel, by decide⟩
theorem imX6_enter : Cond.instanceMethod mX6_enter.1 ∈ WSall := in_all (List.mem_append_right _ (List.mem_of_getElem? (i := 431) (by decide +kernel))) (by decide +kernel)
theorem seX6_enter : Cond.selects mX6_enter.1.cls mX6_enter.1 mX6_enter.1 ∈ WSall := in_all (List.mem_append_right _ (List.mem_of_getElem? (i := 432) (by decide +kernel))) (by decide +kernel)
abbrev mX1_isFull : Mt := (yX1_isFull, cX1_isFull, 1, (some .boolean))
theorem cbX1_isFull : CB mX1_isFull 0 := ⟨in_all (List.mem_append_right _ (List.mem_of_getElem? (i := 2) (by decide +kernel))) (by decide +kernel), in_all (List.mem_append_right _ (List.mem_of_getElem? (i := 437) (by decide +kernel))) (by decide +kernel), by decide +kernel, by decide⟩
theorem imX1_isFull : Cond.instanceMethod mX1_isFull.1 ∈ WSall := in_all (List.mem_append_right _ (List.mem_of_getElem? (i := 435) (by decide +kernel))) (by decide +kernel)
theorem seX1_isFull : Cond.selects mX1_isFull.1.cls mX1_isFull.1 mX1_isFull.1 ∈ WSall := in_all (List.mem_append_right _ (List.mem_of_getElem? (i := 436) (by decide +kernel))) (by decide +kernel)
abbrev mX1_note : Mt := (yX1_note, cX1_note, 3, (some .int))
theorem cbX1_note : CB mX1_note 2 := ⟨in_all (List.mem_append_right _ (List.mem_of_getElem? (i := 2) (by decide +kernel))) (by decide +kernel), in_all (List.mem_append_right _ (List.mem_of_getElem? (i := 442) (by decide +kernel))) (by decide +kernel), by decide +kernel, by decide⟩
theorem imX1_note : Cond.instanceMethod mX1_note.1 ∈ WSall := in_all (List.mem_append_right _ (List.mem_of_getElem? (i := 440) (by decide +kernel))) (by decide +kernel)
theorem seX1_note : Cond.selects mX1_note.1.cls mX1_note.1 mX1_note.1 ∈ WSall := in_all (List.mem_append_right _ (List.mem_of_getElem? (i := 441) (by decide +kernel))) (by decide +kernel)
abbrev mX6_entryOf : Mt := (yX6_entryOf, cX6_entryOf, 3, (some .int))
theorem cbX6_entryOf : CB mX6_entryOf 2 := ⟨in_all (List.mem_append_right _ (List.mem_of_getElem? (i := 1) (by decide +kernel))) (by decide +kernel), in_all (List.mem_append_right _ (List.mem_of_getElem? (i := 447) (by decide +kernel))) (by decide +kernel), by decide +kernel, by decide⟩
theorem imX6_entryOf : Cond.instanceMethod mX6_entryOf.1 ∈ WSall := in_all (List.mem_append_right _ (List.mem_of_getElem? (i := 445) (by decide +kernel))) (by decide +kernel)
theorem seX6_entryOf : Cond.selects mX6_entryOf.1.cls mX6_entryOf.1 mX6_entryOf.1 ∈ WSall := in_all (List.mem_append_right _ (List.mem_of_getElem? (i := 446) (by decide +kernel))) (by decide +kernel)
abbrev mX6_howManyBars : Mt := (yX6_howManyBars, cX6_howManyBars, 5, (some .int))
theorem cbX6_howManyBars : CB mX6_howManyBars 3 := ⟨in_all (List.mem_append_right _ (List.mem_of_getElem? (i := 1) (by decide +kernel))) (by decide +kernel), in_all (List.mem_append_right _ (List.mem_of_getElem? (i := 450) (by decide +kernel))) (by decide +kernel), by decide +kernel, by decide⟩
theorem stX6_howManyBars : Cond.static mX6_howManyBars.1 ∈ WSall := in_all (List.mem_append_right _ (List.mem_of_getElem? (i := 449) (by decide +kernel))) (by decide +kernel)
abbrev mX6_turn : Mt := (yX6_turn, cX6_turn, 4, (some .int))
theorem cbX6_turn : CB mX6_turn 2 := ⟨in_all (List.mem_append_right _ (List.mem_of_getElem? (i := 1) (by decide +kernel))) (by decide +kernel), in_all (List.mem_append_right _ (List.mem_of_getElem? (i := 455) (by decide +kernel))) (by decide +kernel), by decide +kernel, by decide⟩
theorem imX6_turn : Cond.instanceMethod mX6_turn.1 ∈ WSall := in_all (List.mem_append_right _ (List.mem_of_getElem? (i := 453) (by decide +kernel))) (by decide +kernel)
theorem seX6_turn : Cond.selects mX6_turn.1.cls mX6_turn.1 mX6_turn.1 ∈ WSall := in_all (List.mem_append_right _ (List.mem_of_getElem? (i := 454) (by decide +kernel))) (by decide +kernel)
abbrev mX6_as : Mt := (yX6_as, cX6_as, 3, (some .int))
theorem cbX6_as : CB mX6_as 2 := ⟨in_all (List.mem_append_right _ (List.mem_of_getElem? (i := 1) (by decide +kernel))) (by decide +kernel), in_all (List.mem_append_right _ (List.mem_of_getElem? (i := 459) (by decide +kernel))) (by decide +kernel), by decide +kernel, by decide⟩
theorem imX6_as : Cond.instanceMethod mX6_as.1 ∈ WSall := in_all (List.mem_append_right _ (List.mem_of_getElem? (i := 457) (by decide +kernel))) (by decide +kernel)
theorem seX6_as : Cond.selects mX6_as.1.cls mX6_as.1 mX6_as.1 ∈ WSall := in_all (List.mem_append_right _ (List.mem_of_getElem? (i := 458) (by decide +kernel))) (by decide +kernel)
abbrev mX6_isOfKind : Mt := (yX6_isOfKind, cX6_isOfKind, 4, (some .boolean))
theorem cbX6_isOfKind : CB mX6_isOfKind 2 := ⟨in_all (List.mem_append_right _ (List.mem_of_getElem? (i := 1) (by decide +kernel))) (by decide +kernel), in_all (List.mem_append_right _ (List.mem_of_getElem? (i := 462) (by decide +kernel))) (by decide +kernel), by decide +kernel, by decide⟩
theorem stX6_isOfKind : Cond.static mX6_isOfKind.1 ∈ WSall := in_all (List.mem_append_right _ (List.mem_of_getElem? (i := 461) (by decide +kernel))) (by decide +kernel)
abbrev mX6_strike : Mt := (yX6_strike, cX6_strike, 1, (some .int))
theorem cbX6_strike : CB mX6_strike 0 := ⟨in_all (List.mem_append_right _ (List.mem_of_getElem? (i := 1) (by decide +kernel))) (by decide +kernel), in_all (List.mem_append_right _ (List.mem_of_getElem? (i := 469) (by decide +kernel))) (by decide +kernel), by decide +kernel, by decide⟩
theorem imX6_strike : Cond.instanceMethod mX6_strike.1 ∈ WSall := in_all (List.mem_append_right _ (List.mem_of_getElem? (i := 467) (by decide +kernel))) (by decide +kernel)
theorem seX6_strike : Cond.selects mX6_strike.1.cls mX6_strike.1 mX6_strike.1 ∈ WSall := in_all (List.mem_append_right _ (List.mem_of_getElem? (i := 468) (by decide +kernel))) (by decide +kernel)
abbrev mX6_bars : Mt := (yX6_bars, cX6_bars, 3, (some .int))
theorem cbX6_bars : CB mX6_bars 2 := ⟨in_all (List.mem_append_right _ (List.mem_of_getElem? (i := 1) (by decide +kernel))) (by decide +kernel), in_all (List.mem_append_right _ (List.mem_of_getElem? (i := 473) (by decide +kernel))) (by decide +kernel), by decide +kernel, by decide⟩
theorem imX6_bars : Cond.instanceMethod mX6_bars.1 ∈ WSall := in_all (List.mem_append_right _ (List.mem_of_getElem? (i := 471) (by decide +kernel))) (by decide +kernel)
theorem seX6_bars : Cond.selects mX6_bars.1.cls mX6_bars.1 mX6_bars.1 ∈ WSall := in_all (List.mem_append_right _ (List.mem_of_getElem? (i := 472) (by decide +kernel))) (by decide +kernel)
abbrev mX6_by : Mt := (yX6_by, cX6_by, 2, (some .int))
theorem cbX6_by : CB mX6_by 1 := ⟨in_all (List.mem_append_right _ (List.mem_of_getElem? (i := 1) (by decide +kernel))) (by decide +kernel), in_all (List.mem_append_right _ (List.mem_of_getElem? (i := 478) (by decide +kernel))) (by decide +kernel), by decide +kernel, by decide⟩
theorem imX6_by : Cond.instanceMethod mX6_by.1 ∈ WSall := in_all (List.mem_append_right _ (List.mem_of_getElem? (i := 476) (by decide +kernel))) (by decide +kernel)
theorem seX6_by : Cond.selects mX6_by.1.cls mX6_by.1 mX6_by.1 ∈ WSall := in_all (List.mem_append_right _ (List.mem_of_getElem? (i := 477) (by decide +kernel))) (by decide +kernel)
abbrev mX6_breach : Mt := (yX6_breach, cX6_breach, 1, (some .int))
theorem cbX6_breach : CB mX6_breach 0 := ⟨in_all (List.mem_append_right _ (List.mem_of_getElem? (i := 1) (by decide +kernel))) (by decide +kernel), in_all (List.mem_append_right _ (List.mem_of_getElem? (i := 483) (by decide +kernel))) (by decide +kernel), by decide +kernel, by decide⟩
theorem imX6_breach : Cond.instanceMethod mX6_breach.1 ∈ WSall := in_all (List.mem_append_right _ (List.mem_of_getElem? (i := 481) (by decide +kernel))) (by decide +kernel)
theorem seX6_breach : Cond.selects mX6_breach.1.cls mX6_breach.1 mX6_breach.1 ∈ WSall := in_all (List.mem_append_right _ (List.mem_of_getElem? (i := 482) (by decide +kernel))) (by decide +kernel)
abbrev mX1_firstBreach : Mt := (yX1_firstBreach, cX1_firstBreach, 2, (some .int))
theorem cbX1_firstBreach : CB mX1_firstBreach 0 := ⟨in_all (List.mem_append_right _ (List.mem_of_getElem? (i := 2) (by decide +kernel))) (by decide +kernel), in_all (List.mem_append_right _ (List.mem_of_getElem? (i := 487) (by decide +kernel))) (by decide +kernel), by decide +kernel, by decide⟩
theorem imX1_firstBreach : Cond.instanceMethod mX1_firstBreach.1 ∈ WSall := in_all (List.mem_append_right _ (List.mem_of_getElem? (i := 485) (by decide +kernel))) (by decide +kernel)
theorem seX1_firstBreach : Cond.selects mX1_firstBreach.1.cls mX1_firstBreach.1 mX1_firstBreach.1 ∈ WSall := in_all (List.mem_append_right _ (List.mem_of_getElem? (i := 486) (by decide +kernel))) (by decide +kernel)
abbrev mX6_keenest : Mt := (yX6_keenest, cX6_keenest, 5, (some .int))
theorem cbX6_keenest : CB mX6_keenest 0 := ⟨in_all (List.mem_append_right _ (List.mem_of_getElem? (i := 1) (by decide +kernel))) (by decide +kernel), in_all (List.mem_append_right _ (List.mem_of_getElem? (i := 491) (by decide +kernel))) (by decide +kernel), by decide +kernel, by decide⟩
theorem imX6_keenest : Cond.instanceMethod mX6_keenest.1 ∈ WSall := in_all (List.mem_append_right _ (List.mem_of_getElem? (i := 489) (by decide +kernel))) (by decide +kernel)
theorem seX6_keenest : Cond.selects mX6_keenest.1.cls mX6_keenest.1 mX6_keenest.1 ∈ WSall := in_all (List.mem_append_right _ (List.mem_of_getElem? (i := 490) (by decide +kernel))) (by decide +kernel)
abbrev mX0_barredAloneBy : Mt := (yX0_barredAloneBy, cX0_barredAloneBy, 8, (some .int))
theorem cbX0_barredAloneBy : CB mX0_barredAloneBy 3 := ⟨in_all (List.mem_append_right _ (List.mem_of_getElem? (i := 5) (by decide +kernel))) (by decide +kernel), in_all (List.mem_append_right _ (List.mem_of_getElem? (i := 495) (by decide +kernel))) (by decide +kernel), by decide +kernel, by decide⟩
theorem imX0_barredAloneBy : Cond.instanceMethod mX0_barredAloneBy.1 ∈ WSall := in_all (List.mem_append_right _ (List.mem_of_getElem? (i := 493) (by decide +kernel))) (by decide +kernel)
theorem seX0_barredAloneBy : Cond.selects mX0_barredAloneBy.1.cls mX0_barredAloneBy.1 mX0_barredAloneBy.1 ∈ WSall := in_all (List.mem_append_right _ (List.mem_of_getElem? (i := 494) (by decide +kernel))) (by decide +kernel)
abbrev mX6_wouldBe : Mt := (yX6_wouldBe, cX6_wouldBe, 3, (some .int))
theorem cbX6_wouldBe : CB mX6_wouldBe 1 := ⟨in_all (List.mem_append_right _ (List.mem_of_getElem? (i := 1) (by decide +kernel))) (by decide +kernel), in_all (List.mem_append_right _ (List.mem_of_getElem? (i := 501) (by decide +kernel))) (by decide +kernel), by decide +kernel, by decide⟩
theorem imX6_wouldBe : Cond.instanceMethod mX6_wouldBe.1 ∈ WSall := in_all (List.mem_append_right _ (List.mem_of_getElem? (i := 499) (by decide +kernel))) (by decide +kernel)
theorem seX6_wouldBe : Cond.selects mX6_wouldBe.1.cls mX6_wouldBe.1 mX6_wouldBe.1 ∈ WSall := in_all (List.mem_append_right _ (List.mem_of_getElem? (i := 500) (by decide +kernel))) (by decide +kernel)
abbrev mX6_best : Mt := (yX6_best, cX6_best, 1, (some .int))
theorem cbX6_best : CB mX6_best 0 := ⟨in_all (List.mem_append_right _ (List.mem_of_getElem? (i := 1) (by decide +kernel))) (by decide +kernel), in_all (List.mem_append_right _ (List.mem_of_getElem? (i := 506) (by decide +kernel))) (by decide +kernel), by decide +kernel, by decide⟩
theorem imX6_best : Cond.instanceMethod mX6_best.1 ∈ WSall := in_all (List.mem_append_right _ (List.mem_of_getElem? (i := 504) (by decide +kernel))) (by decide +kernel)
theorem seX6_best : Cond.selects mX6_best.1.cls mX6_best.1 mX6_best.1 ∈ WSall := in_all (List.mem_append_right _ (List.mem_of_getElem? (i := 505) (by decide +kernel))) (by decide +kernel)
abbrev mX2_favourite : Mt := (yX2_favourite, cX2_favourite, 1, (some .int))
theorem cbX2_favourite : CB mX2_favourite 0 := ⟨in_all (List.mem_append_right _ (List.mem_of_getElem? (i := 4) (by decide +kernel))) (by decide +kernel), in_all (List.mem_append_right _ (List.mem_of_getElem? (i := 510) (by decide +kernel))) (by decide +kernel), by decide +kernel, by decide⟩
theorem imX2_favourite : Cond.instanceMethod mX2_favourite.1 ∈ WSall := in_all (List.mem_append_right _ (List.mem_of_getElem? (i := 508) (by decide +kernel))) (by decide +kernel)
theorem seX2_favourite : Cond.selects mX2_favourite.1.cls mX2_favourite.1 mX2_favourite.1 ∈ WSall := in_all (List.mem_append_right _ (List.mem_of_getElem? (i := 509) (by decide +kernel))) (by decide +kernel)
abbrev mX2_favouriteAmong : Mt := (yX2_favouriteAmong, cX2_favouriteAmong, 9, (some .int))
theorem cbX2_favouriteAmong : CB mX2_favouriteAmong 1 := ⟨in_all (List.mem_append_right _ (List.mem_of_getElem? (i := 4) (by decide +kernel))) (by decide +kernel), in_all (List.mem_append_right _ (List.mem_of_getElem? (i := 514) (by decide +kernel))) (by decide +kernel), by decide +kernel, by decide⟩
theorem imX2_favouriteAmong : Cond.instanceMethod mX2_favouriteAmong.1 ∈ WSall := in_all (List.mem_append_right _ (List.mem_of_getElem? (i := 512) (by decide +kernel))) (by decide +kernel)
theorem seX2_favouriteAmong : Cond.selects mX2_favouriteAmong.1.cls mX2_favouriteAmong.1 mX2_favouriteAmong.1 ∈ WSall := in_all (List.mem_append_right _ (List.mem_of_getElem? (i := 513) (by decide +kernel))) (by decide +kernel)
abbrev mX2_favouriteManner : Mt := (yX2_favouriteManner, cX2_favouriteManner, 3, (some .int))
theorem cbX2_favouriteManner : CB mX2_favouriteManner 1 := ⟨in_all (List.mem_append_right _ (List.mem_of_getElem? (i := 4) (by decide +kernel))) (by decide +kernel), in_all (List.mem_append_right _ (List.mem_of_getElem? (i := 518) (by decide +kernel))) (by decide +kernel), by decide +kernel, by decide⟩
theorem imX2_favouriteManner : Cond.instanceMethod mX2_favouriteManner.1 ∈ WSall := in_all (List.mem_append_right _ (List.mem_of_getElem? (i := 517) (by decide +kernel))) (by decide +kernel)
theorem seX2_favouriteManner : Cond.selects mX2_favouriteManner.1.cls mX2_favouriteManner.1 mX2_favouriteManner.1 ∈ WSall := in_all (List.mem_append_left _ (List.mem_of_getElem? (i := 6) (by decide +kernel))) (by decide +kernel)
abbrev mX6_serve : Mt := (yX6_serve, cX6_serve, 3, (some .int))
theorem cbX6_serve : CB mX6_serve 2 := ⟨in_all (List.mem_append_right _ (List.mem_of_getElem? (i := 1) (by decide +kernel))) (by decide +kernel), in_all (List.mem_append_right _ (List.mem_of_getElem? (i := 522) (by decide +kernel))) (by decide +kernel), by decide +kernel, by decide⟩
theorem imX6_serve : Cond.instanceMethod mX6_serve.1 ∈ WSall := in_all (List.mem_append_right _ (List.mem_of_getElem? (i := 520) (by decide +kernel))) (by decide +kernel)
theorem seX6_serve : Cond.selects mX6_serve.1.cls mX6_serve.1 mX6_serve.1 ∈ WSall := in_all (List.mem_append_right _ (List.mem_of_getElem? (i := 521) (by decide +kernel))) (by decide +kernel)
abbrev mX1_canServe : Mt := (yX1_canServe, cX1_canServe, 3, (some .boolean))
theorem cbX1_canServe : CB mX1_canServe 2 := ⟨in_all (List.mem_append_right _ (List.mem_of_getElem? (i := 2) (by decide +kernel))) (by decide +kernel), in_all (List.mem_append_right _ (List.mem_of_getElem? (i := 526) (by decide +kernel))) (by decide +kernel), by decide +kernel, by decide⟩
theorem imX1_canServe : Cond.instanceMethod mX1_canServe.1 ∈ WSall := in_all (List.mem_append_right _ (List.mem_of_getElem? (i := 524) (by decide +kernel))) (by decide +kernel)
theorem seX1_canServe : Cond.selects mX1_canServe.1.cls mX1_canServe.1 mX1_canServe.1 ∈ WSall := in_all (List.mem_append_right _ (List.mem_of_getElem? (i := 525) (by decide +kernel))) (by decide +kernel)
abbrev mX1_haveMeal : Mt := (yX1_haveMeal, cX1_haveMeal, 4, (some .int))
theorem cbX1_haveMeal : CB mX1_haveMeal 2 := ⟨in_all (List.mem_append_right _ (List.mem_of_getElem? (i := 2) (by decide +kernel))) (by decide +kernel), in_all (List.mem_append_right _ (List.mem_of_getElem? (i := 532) (by decide +kernel))) (by decide +kernel), by decide +kernel, by decide⟩
theorem imX1_haveMeal : Cond.instanceMethod mX1_haveMeal.1 ∈ WSall := in_all (List.mem_append_right _ (List.mem_of_getElem? (i := 530) (by decide +kernel))) (by decide +kernel)
theorem seX1_haveMeal : Cond.selects mX1_haveMeal.1.cls mX1_haveMeal.1 mX1_haveMeal.1 ∈ WSall := in_all (List.mem_append_right _ (List.mem_of_getElem? (i := 531) (by decide +kernel))) (by decide +kernel)
abbrev mX6_takeFrom : Mt := (yX6_takeFrom, cX6_takeFrom, 3, none)
theorem cbX6_takeFrom : CB mX6_takeFrom 2 := ⟨in_all (List.mem_append_right _ (List.mem_of_getElem? (i := 1) (by decide +kernel))) (by decide +kernel), in_all (List.mem_append_right _ (List.mem_of_getElem? (i := 536) (by decide +kernel))) (by decide +kernel), by decide +kernel, by decide⟩
theorem stX6_takeFrom : Cond.static mX6_takeFrom.1 ∈ WSall := in_all (List.mem_append_right _ (List.mem_of_getElem? (i := 535) (by decide +kernel))) (by decide +kernel)
abbrev mX6_meals : Mt := (yX6_meals, cX6_meals, 5, (some .int))
theorem cbX6_meals : CB mX6_meals 2 := ⟨in_all (List.mem_append_right _ (List.mem_of_getElem? (i := 1) (by decide +kernel))) (by decide +kernel), in_all (List.mem_append_right _ (List.mem_of_getElem? (i := 540) (by decide +kernel))) (by decide +kernel), by decide +kernel, by decide⟩
theorem imX6_meals : Cond.instanceMethod mX6_meals.1 ∈ WSall := in_all (List.mem_append_right _ (List.mem_of_getElem? (i := 538) (by decide +kernel))) (by decide +kernel)
theorem seX6_meals : Cond.selects mX6_meals.1.cls mX6_meals.1 mX6_meals.1 ∈ WSall := in_all (List.mem_append_right _ (List.mem_of_getElem? (i := 539) (by decide +kernel))) (by decide +kernel)
abbrev mX2_cookFavourite : Mt := (yX2_cookFavourite, cX2_cookFavourite, 3, (some .int))
theorem cbX2_cookFavourite : CB mX2_cookFavourite 1 := ⟨in_all (List.mem_append_right _ (List.mem_of_getElem? (i := 4) (by decide +kernel))) (by decide +kernel), in_all (List.mem_append_right _ (List.mem_of_getElem? (i := 544) (by decide +kernel))) (by decide +kernel), by decide +kernel, by decide⟩
theorem imX2_cookFavourite : Cond.instanceMethod mX2_cookFavourite.1 ∈ WSall := in_all (List.mem_append_right _ (List.mem_of_getElem? (i := 542) (by decide +kernel))) (by decide +kernel)
theorem seX2_cookFavourite : Cond.selects mX2_cookFavourite.1.cls mX2_cookFavourite.1 mX2_cookFavourite.1 ∈ WSall := in_all (List.mem_append_right _ (List.mem_of_getElem? (i := 543) (by decide +kernel))) (by decide +kernel)
abbrev mX2_cook : Mt := (yX2_cook, cX2_cook, 3, none)
theorem cbX2_cook : CB mX2_cook 2 := ⟨in_all (List.mem_append_right _ (List.mem_of_getElem? (i := 4) (by decide +kernel))) (by decide +kernel), in_all (List.mem_append_right _ (List.mem_of_getElem? (i := 549) (by decide +kernel))) (by decide +kernel), by decide +kernel, by decide⟩
theorem imX2_cook : Cond.instanceMethod mX2_cook.1 ∈ WSall := in_all (List.mem_append_right _ (List.mem_of_getElem? (i := 547) (by decide +kernel))) (by decide +kernel)
theorem seX2_cook : Cond.selects mX2_cook.1.cls mX2_cook.1 mX2_cook.1 ∈ WSall := in_all (List.mem_append_right _ (List.mem_of_getElem? (i := 548) (by decide +kernel))) (by decide +kernel)
abbrev mX6_on : Mt := (yX6_on, cX6_on, 5, (some .int))
theorem cbX6_on : CB mX6_on 2 := ⟨in_all (List.mem_append_right _ (List.mem_of_getElem? (i := 1) (by decide +kernel))) (by decide +kernel), in_all (List.mem_append_right _ (List.mem_of_getElem? (i := 555) (by decide +kernel))) (by decide +kernel), by decide +kernel, by decide⟩
theorem imX6_on : Cond.instanceMethod mX6_on.1 ∈ WSall := in_all (List.mem_append_right _ (List.mem_of_getElem? (i := 553) (by decide +kernel))) (by decide +kernel)
theorem seX6_on : Cond.selects mX6_on.1.cls mX6_on.1 mX6_on.1 ∈ WSall := in_all (List.mem_append_right _ (List.mem_of_getElem? (i := 554) (by decide +kernel))) (by decide +kernel)
abbrev mX6_lasts : Mt := (yX6_lasts, cX6_lasts, 2, (some .int))
theorem cbX6_lasts : CB mX6_lasts 1 := ⟨in_all (List.mem_append_right _ (List.mem_of_getElem? (i := 1) (by decide +kernel))) (by decide +kernel), in_all (List.mem_append_right _ (List.mem_of_getElem? (i := 559) (by decide +kernel))) (by decide +kernel), by decide +kernel, by decide⟩
theorem imX6_lasts : Cond.instanceMethod mX6_lasts.1 ∈ WSall := in_all (List.mem_append_right _ (List.mem_of_getElem? (i := 557) (by decide +kernel))) (by decide +kernel)
theorem seX6_lasts : Cond.selects mX6_lasts.1.cls mX6_lasts.1 mX6_lasts.1 ∈ WSall := in_all (List.mem_append_right _ (List.mem_of_getElem? (i := 558) (by decide +kernel))) (by decide +kernel)
abbrev mX2_mealsLeft : Mt := (yX2_mealsLeft, cX2_mealsLeft, 3, (some .int))
theorem cbX2_mealsLeft : CB mX2_mealsLeft 1 := ⟨in_all (List.mem_append_right _ (List.mem_of_getElem? (i := 4) (by decide +kernel))) (by decide +kernel), in_all (List.mem_append_right _ (List.mem_of_getElem? (i := 563) (by decide +kernel))) (by decide +kernel), by decide +kernel, by decide⟩
theorem imX2_mealsLeft : Cond.instanceMethod mX2_mealsLeft.1 ∈ WSall := in_all (List.mem_append_right _ (List.mem_of_getElem? (i := 561) (by decide +kernel))) (by decide +kernel)
theorem seX2_mealsLeft : Cond.selects mX2_mealsLeft.1.cls mX2_mealsLeft.1 mX2_mealsLeft.1 ∈ WSall := in_all (List.mem_append_right _ (List.mem_of_getElem? (i := 562) (by decide +kernel))) (by decide +kernel)
abbrev mX6_buy : Mt := (yX6_buy, cX6_buy, 6, (some .int))
theorem cbX6_buy : CB mX6_buy 1 := ⟨in_all (List.mem_append_right _ (List.mem_of_getElem? (i := 1) (by decide +kernel))) (by decide +kernel), in_all (List.mem_append_right _ (List.mem_of_getElem? (i := 568) (by decide +kernel))) (by decide +kernel), by decide +kernel, by decide⟩
theorem imX6_buy : Cond.instanceMethod mX6_buy.1 ∈ WSall := in_all (List.mem_append_right _ (List.mem_of_getElem? (i := 566) (by decide +kernel))) (by decide +kernel)
theorem seX6_buy : Cond.selects mX6_buy.1.cls mX6_buy.1 mX6_buy.1 ∈ WSall := in_all (List.mem_append_right _ (List.mem_of_getElem? (i := 567) (by decide +kernel))) (by decide +kernel)
abbrev mX6_steps : Mt := (yX6_steps, cX6_steps, 3, (some .int))
theorem cbX6_steps : CB mX6_steps 2 := ⟨in_all (List.mem_append_right _ (List.mem_of_getElem? (i := 1) (by decide +kernel))) (by decide +kernel), in_all (List.mem_append_right _ (List.mem_of_getElem? (i := 572) (by decide +kernel))) (by decide +kernel), by decide +kernel, by decide⟩
theorem imX6_steps : Cond.instanceMethod mX6_steps.1 ∈ WSall := in_all (List.mem_append_right _ (List.mem_of_getElem? (i := 570) (by decide +kernel))) (by decide +kernel)
theorem seX6_steps : Cond.selects mX6_steps.1.cls mX6_steps.1 mX6_steps.1 ∈ WSall := in_all (List.mem_append_right _ (List.mem_of_getElem? (i := 571) (by decide +kernel))) (by decide +kernel)
abbrev mX3_stepsBetween : Mt := (yX3_stepsBetween, cX3_stepsBetween, 5, (some .int))
theorem cbX3_stepsBetween : CB mX3_stepsBetween 3 := ⟨in_all (List.mem_append_right _ (List.mem_of_getElem? (i := 6) (by decide +kernel))) (by decide +kernel), in_all (List.mem_append_right _ (List.mem_of_getElem? (i := 576) (by decide +kernel))) (by decide +kernel), by decide +kernel, by decide⟩
theorem imX3_stepsBetween : Cond.instanceMethod mX3_stepsBetween.1 ∈ WSall := in_all (List.mem_append_right _ (List.mem_of_getElem? (i := 574) (by decide +kernel))) (by decide +kernel)
theorem seX3_stepsBetween : Cond.selects mX3_stepsBetween.1.cls mX3_stepsBetween.1 mX3_stepsBetween.1 ∈ WSall := in_all (List.mem_append_right _ (List.mem_of_getElem? (i := 575) (by decide +kernel))) (by decide +kernel)
abbrev mX3_setOut : Mt := (yX3_setOut, cX3_setOut, 2, none)
theorem cbX3_setOut : CB mX3_setOut 1 := ⟨in_all (List.mem_append_right _ (List.mem_of_getElem? (i := 6) (by decide +kernel))) (by decide +kernel), in_all (List.mem_append_right _ (List.mem_of_getElem? (i := 580) (by decide +kernel))) (by decide +kernel), by decide +kernel, by decide⟩
theorem imX3_setOut : Cond.instanceMethod mX3_setOut.1 ∈ WSall := in_all (List.mem_append_right _ (List.mem_of_getElem? (i := 579) (by decide +kernel))) (by decide +kernel)
theorem seX3_setOut : Cond.selects mX3_setOut.1.cls mX3_setOut.1 mX3_setOut.1 ∈ WSall := in_all (List.mem_append_left _ (List.mem_of_getElem? (i := 7) (by decide +kernel))) (by decide +kernel)
abbrev mX3_goFurther : Mt := (yX3_goFurther, cX3_goFurther, 7, (some .boolean))
theorem cbX3_goFurther : CB mX3_goFurther 1 := ⟨in_all (List.mem_append_right _ (List.mem_of_getElem? (i := 6) (by decide +kernel))) (by decide +kernel), in_all (List.mem_append_right _ (List.mem_of_getElem? (i := 588) (by decide +kernel))) (by decide +kernel), by decide +kernel, by decide⟩
theorem imX3_goFurther : Cond.instanceMethod mX3_goFurther.1 ∈ WSall := in_all (List.mem_append_right _ (List.mem_of_getElem? (i := 587) (by decide +kernel))) (by decide +kernel)
theorem seX3_goFurther : Cond.selects mX3_goFurther.1.cls mX3_goFurther.1 mX3_goFurther.1 ∈ WSall := in_all (List.mem_append_left _ (List.mem_of_getElem? (i := 8) (by decide +kernel))) (by decide +kernel)
abbrev mX3_otherManners : Mt := (yX3_otherManners, cX3_otherManners, 5, (some .int))
theorem cbX3_otherManners : CB mX3_otherManners 1 := ⟨in_all (List.mem_append_right _ (List.mem_of_getElem? (i := 6) (by decide +kernel))) (by decide +kernel), in_all (List.mem_append_right _ (List.mem_of_getElem? (i := 595) (by decide +kernel))) (by decide +kernel), by decide +kernel, by decide⟩
theorem stX3_otherManners : Cond.static mX3_otherManners.1 ∈ WSall := in_all (List.mem_append_right _ (List.mem_of_getElem? (i := 594) (by decide +kernel))) (by decide +kernel)
abbrev mX3_fromOtherSets : Mt := (yX3_fromOtherSets, cX3_fromOtherSets, 4, (some .int))
theorem cbX3_fromOtherSets : CB mX3_fromOtherSets 1 := ⟨in_all (List.mem_append_right _ (List.mem_of_getElem? (i := 6) (by decide +kernel))) (by decide +kernel), in_all (List.mem_append_right _ (List.mem_of_getElem? (i := 600) (by decide +kernel))) (by decide +kernel), by decide +kernel, by decide⟩
theorem imX3_fromOtherSets : Cond.instanceMethod mX3_fromOtherSets.1 ∈ WSall := in_all (List.mem_append_right _ (List.mem_of_getElem? (i := 599) (by decide +kernel))) (by decide +kernel)
theorem seX3_fromOtherSets : Cond.selects mX3_fromOtherSets.1.cls mX3_fromOtherSets.1 mX3_fromOtherSets.1 ∈ WSall := in_all (List.mem_append_left _ (List.mem_of_getElem? (i := 9) (by decide +kernel))) (by decide +kernel)
abbrev mX6_within : Mt := (yX6_within, cX6_within, 3, (some .int))
theorem cbX6_within : CB mX6_within 2 := ⟨in_all (List.mem_append_right _ (List.mem_of_getElem? (i := 1) (by decide +kernel))) (by decide +kernel), in_all (List.mem_append_right _ (List.mem_of_getElem? (i := 604) (by decide +kernel))) (by decide +kernel), by decide +kernel, by decide⟩
theorem imX6_within : Cond.instanceMethod mX6_within.1 ∈ WSall := in_all (List.mem_append_right _ (List.mem_of_getElem? (i := 602) (by decide +kernel))) (by decide +kernel)
theorem seX6_within : Cond.selects mX6_within.1.cls mX6_within.1 mX6_within.1 ∈ WSall := in_all (List.mem_append_right _ (List.mem_of_getElem? (i := 603) (by decide +kernel))) (by decide +kernel)
abbrev mX3_reach : Mt := (yX3_reach, cX3_reach, 6, none)
theorem cbX3_reach : CB mX3_reach 3 := ⟨in_all (List.mem_append_right _ (List.mem_of_getElem? (i := 6) (by decide +kernel))) (by decide +kernel), in_all (List.mem_append_right _ (List.mem_of_getElem? (i := 608) (by decide +kernel))) (by decide +kernel), by decide +kernel, by decide⟩
theorem imX3_reach : Cond.instanceMethod mX3_reach.1 ∈ WSall := in_all (List.mem_append_right _ (List.mem_of_getElem? (i := 606) (by decide +kernel))) (by decide +kernel)
theorem seX3_reach : Cond.selects mX3_reach.1.cls mX3_reach.1 mX3_reach.1 ∈ WSall := in_all (List.mem_append_right _ (List.mem_of_getElem? (i := 607) (by decide +kernel))) (by decide +kernel)
abbrev mX6_walk : Mt := (yX6_walk, cX6_walk, 3, (some .int))
theorem cbX6_walk : CB mX6_walk 2 := ⟨in_all (List.mem_append_right _ (List.mem_of_getElem? (i := 1) (by decide +kernel))) (by decide +kernel), in_all (List.mem_append_right _ (List.mem_of_getElem? (i := 613) (by decide +kernel))) (by decide +kernel), by decide +kernel, by decide⟩
theorem imX6_walk : Cond.instanceMethod mX6_walk.1 ∈ WSall := in_all (List.mem_append_right _ (List.mem_of_getElem? (i := 611) (by decide +kernel))) (by decide +kernel)
theorem seX6_walk : Cond.selects mX6_walk.1.cls mX6_walk.1 mX6_walk.1 ∈ WSall := in_all (List.mem_append_right _ (List.mem_of_getElem? (i := 612) (by decide +kernel))) (by decide +kernel)
abbrev mX6_now : Mt := (yX6_now, cX6_now, 2, (some .int))
theorem cbX6_now : CB mX6_now 1 := ⟨in_all (List.mem_append_right _ (List.mem_of_getElem? (i := 1) (by decide +kernel))) (by decide +kernel), in_all (List.mem_append_right _ (List.mem_of_getElem? (i := 618) (by decide +kernel))) (by decide +kernel), by decide +kernel, by decide⟩
theorem imX6_now : Cond.instanceMethod mX6_now.1 ∈ WSall := in_all (List.mem_append_right _ (List.mem_of_getElem? (i := 616) (by decide +kernel))) (by decide +kernel)
theorem seX6_now : Cond.selects mX6_now.1.cls mX6_now.1 mX6_now.1 ∈ WSall := in_all (List.mem_append_right _ (List.mem_of_getElem? (i := 617) (by decide +kernel))) (by decide +kernel)
abbrev mX1_guests : Mt := (yX1_guests, cX1_guests, 3, (some .int))
theorem cbX1_guests : CB mX1_guests 0 := ⟨in_all (List.mem_append_right _ (List.mem_of_getElem? (i := 2) (by decide +kernel))) (by decide +kernel), in_all (List.mem_append_right _ (List.mem_of_getElem? (i := 622) (by decide +kernel))) (by decide +kernel), by decide +kernel, by decide⟩
theorem imX1_guests : Cond.instanceMethod mX1_guests.1 ∈ WSall := in_all (List.mem_append_right _ (List.mem_of_getElem? (i := 620) (by decide +kernel))) (by decide +kernel)
theorem seX1_guests : Cond.selects mX1_guests.1.cls mX1_guests.1 mX1_guests.1 ∈ WSall := in_all (List.mem_append_right _ (List.mem_of_getElem? (i := 621) (by decide +kernel))) (by decide +kernel)
abbrev mX1_allStores : Mt := (yX1_allStores, cX1_allStores, 3, (some .int))
theorem cbX1_allStores : CB mX1_allStores 0 := ⟨in_all (List.mem_append_right _ (List.mem_of_getElem? (i := 2) (by decide +kernel))) (by decide +kernel), in_all (List.mem_append_right _ (List.mem_of_getElem? (i := 626) (by decide +kernel))) (by decide +kernel), by decide +kernel, by decide⟩
theorem imX1_allStores : Cond.instanceMethod mX1_allStores.1 ∈ WSall := in_all (List.mem_append_right _ (List.mem_of_getElem? (i := 624) (by decide +kernel))) (by decide +kernel)
theorem seX1_allStores : Cond.selects mX1_allStores.1.cls mX1_allStores.1 mX1_allStores.1 ∈ WSall := in_all (List.mem_append_right _ (List.mem_of_getElem? (i := 625) (by decide +kernel))) (by decide +kernel)
abbrev mX6_feed : Mt := (yX6_feed, cX6_feed, 4, (some .int))
theorem cbX6_feed : CB mX6_feed 2 := ⟨in_all (List.mem_append_right _ (List.mem_of_getElem? (i := 1) (by decide +kernel))) (by decide +kernel), in_all (List.mem_append_right _ (List.mem_of_getElem? (i := 630) (by decide +kernel))) (by decide +kernel), by decide +kernel, by decide⟩
theorem imX6_feed : Cond.instanceMethod mX6_feed.1 ∈ WSall := in_all (List.mem_append_right _ (List.mem_of_getElem? (i := 628) (by decide +kernel))) (by decide +kernel)
theorem seX6_feed : Cond.selects mX6_feed.1.cls mX6_feed.1 mX6_feed.1 ∈ WSall := in_all (List.mem_append_right _ (List.mem_of_getElem? (i := 629) (by decide +kernel))) (by decide +kernel)
abbrev mX5_put : Mt := (yX5_put, cX5_put, 2, none)
theorem cbX5_put : CB mX5_put 1 := ⟨in_all (List.mem_append_right _ (List.mem_of_getElem? (i := 7) (by decide +kernel))) (by decide +kernel), in_all (List.mem_append_right _ (List.mem_of_getElem? (i := 634) (by decide +kernel))) (by decide +kernel), by decide +kernel, by decide⟩
theorem imX5_put : Cond.instanceMethod mX5_put.1 ∈ WSall := in_all (List.mem_append_right _ (List.mem_of_getElem? (i := 632) (by decide +kernel))) (by decide +kernel)
theorem seX5_put : Cond.selects mX5_put.1.cls mX5_put.1 mX5_put.1 ∈ WSall := in_all (List.mem_append_right _ (List.mem_of_getElem? (i := 633) (by decide +kernel))) (by decide +kernel)
abbrev mX6_wipe : Mt := (yX6_wipe, cX6_wipe, 2, (some .int))
theorem cbX6_wipe : CB mX6_wipe 0 := ⟨in_all (List.mem_append_right _ (List.mem_of_getElem? (i := 1) (by decide +kernel))) (by decide +kernel), in_all (List.mem_append_right _ (List.mem_of_getElem? (i := 638) (by decide +kernel))) (by decide +kernel), by decide +kernel, by decide⟩
theorem imX6_wipe : Cond.instanceMethod mX6_wipe.1 ∈ WSall := in_all (List.mem_append_right _ (List.mem_of_getElem? (i := 636) (by decide +kernel))) (by decide +kernel)
theorem seX6_wipe : Cond.selects mX6_wipe.1.cls mX6_wipe.1 mX6_wipe.1 ∈ WSall := in_all (List.mem_append_right _ (List.mem_of_getElem? (i := 637) (by decide +kernel))) (by decide +kernel)
abbrev mX6_book : Mt := (yX6_book, cX6_book, 2, (some .int))
theorem cbX6_book : CB mX6_book 0 := ⟨in_all (List.mem_append_right _ (List.mem_of_getElem? (i := 1) (by decide +kernel))) (by decide +kernel), in_all (List.mem_append_right _ (List.mem_of_getElem? (i := 642) (by decide +kernel))) (by decide +kernel), by decide +kernel, by decide⟩
theorem imX6_book : Cond.instanceMethod mX6_book.1 ∈ WSall := in_all (List.mem_append_right _ (List.mem_of_getElem? (i := 640) (by decide +kernel))) (by decide +kernel)
theorem seX6_book : Cond.selects mX6_book.1.cls mX6_book.1 mX6_book.1 ∈ WSall := in_all (List.mem_append_right _ (List.mem_of_getElem? (i := 641) (by decide +kernel))) (by decide +kernel)
abbrev mX1_become : Mt := (yX1_become, cX1_become, 2, none)
theorem cbX1_become : CB mX1_become 1 := ⟨in_all (List.mem_append_right _ (List.mem_of_getElem? (i := 2) (by decide +kernel))) (by decide +kernel), in_all (List.mem_append_right _ (List.mem_of_getElem? (i := 646) (by decide +kernel))) (by decide +kernel), by decide +kernel, by decide⟩
theorem imX1_become : Cond.instanceMethod mX1_become.1 ∈ WSall := in_all (List.mem_append_right _ (List.mem_of_getElem? (i := 644) (by decide +kernel))) (by decide +kernel)
theorem seX1_become : Cond.selects mX1_become.1.cls mX1_become.1 mX1_become.1 ∈ WSall := in_all (List.mem_append_right _ (List.mem_of_getElem? (i := 645) (by decide +kernel))) (by decide +kernel)
abbrev mX5_tellTo : Mt := (yX5_tellTo, cX5_tellTo, 3, (some .int))
theorem cbX5_tellTo : CB mX5_tellTo 1 := ⟨in_all (List.mem_append_right _ (List.mem_of_getElem? (i := 7) (by decide +kernel))) (by decide +kernel), in_all (List.mem_append_right _ (List.mem_of_getElem? (i := 651) (by decide +kernel))) (by decide +kernel), by decide +kernel, by decide⟩
theorem imX5_tellTo : Cond.instanceMethod mX5_tellTo.1 ∈ WSall := in_all (List.mem_append_right _ (List.mem_of_getElem? (i := 649) (by decide +kernel))) (by decide +kernel)
theorem seX5_tellTo : Cond.selects mX5_tellTo.1.cls mX5_tellTo.1 mX5_tellTo.1 ∈ WSall := in_all (List.mem_append_right _ (List.mem_of_getElem? (i := 650) (by decide +kernel))) (by decide +kernel)
abbrev mX5_advance : Mt := (yX5_advance, cX5_advance, 1, none)
theorem cbX5_advance : CB mX5_advance 0 := ⟨in_all (List.mem_append_right _ (List.mem_of_getElem? (i := 7) (by decide +kernel))) (by decide +kernel), in_all (List.mem_append_right _ (List.mem_of_getElem? (i := 655) (by decide +kernel))) (by decide +kernel), by decide +kernel, by decide⟩
theorem imX5_advance : Cond.instanceMethod mX5_advance.1 ∈ WSall := in_all (List.mem_append_right _ (List.mem_of_getElem? (i := 654) (by decide +kernel))) (by decide +kernel)
theorem seX5_advance : Cond.selects mX5_advance.1.cls mX5_advance.1 mX5_advance.1 ∈ WSall := in_all (List.mem_append_left _ (List.mem_of_getElem? (i := 10) (by decide +kernel))) (by decide +kernel)
abbrev mX5_typeAt : Mt := (yX5_typeAt, cX5_typeAt, 3, (some .int))
theorem cbX5_typeAt : CB mX5_typeAt 1 := ⟨in_all (List.mem_append_right _ (List.mem_of_getElem? (i := 7) (by decide +kernel))) (by decide +kernel), in_all (List.mem_append_right _ (List.mem_of_getElem? (i := 659) (by decide +kernel))) (by decide +kernel), by decide +kernel, by decide⟩
theorem imX5_typeAt : Cond.instanceMethod mX5_typeAt.1 ∈ WSall := in_all (List.mem_append_right _ (List.mem_of_getElem? (i := 658) (by decide +kernel))) (by decide +kernel)
theorem seX5_typeAt : Cond.selects mX5_typeAt.1.cls mX5_typeAt.1 mX5_typeAt.1 ∈ WSall := in_all (List.mem_append_left _ (List.mem_of_getElem? (i := 11) (by decide +kernel))) (by decide +kernel)
abbrev mJ9_min_7cf53 : Mt := (yJ9_min_7cf53, cJ9_min_7cf53, 2, (some .int))
theorem cbJ9_min_7cf53 : CB mJ9_min_7cf53 2 := ⟨in_all (List.mem_append_right _ (List.mem_of_getElem? (i := 12) (by decide +kernel))) (by decide +kernel), in_all (List.mem_append_right _ (List.mem_of_getElem? (i := 662) (by decide +kernel))) (by decide +kernel), by decide +kernel, by decide⟩
theorem stJ9_min_7cf53 : Cond.static mJ9_min_7cf53.1 ∈ WSall := in_all (List.mem_append_right _ (List.mem_of_getElem? (i := 661) (by decide +kernel))) (by decide +kernel)
abbrev mX5_valueOfDigits : Mt := (yX5_valueOfDigits, cX5_valueOfDigits, 4, (some .int))
theorem cbX5_valueOfDigits : CB mX5_valueOfDigits 0 := ⟨in_all (List.mem_append_right _ (List.mem_of_getElem? (i := 7) (by decide +kernel))) (by decide +kernel), in_all (List.mem_append_right _ (List.mem_of_getElem? (i := 666) (by decide +kernel))) (by decide +kernel), by decide +kernel, by decide⟩
theorem imX5_valueOfDigits : Cond.instanceMethod mX5_valueOfDigits.1 ∈ WSall := in_all (List.mem_append_right _ (List.mem_of_getElem? (i := 665) (by decide +kernel))) (by decide +kernel)
theorem seX5_valueOfDigits : Cond.selects mX5_valueOfDigits.1.cls mX5_valueOfDigits.1 mX5_valueOfDigits.1 ∈ WSall := in_all (List.mem_append_left _ (List.mem_of_getElem? (i := 12) (by decide +kernel))) (by decide +kernel)
abbrev mX5_takeItem : Mt := (yX5_takeItem, cX5_takeItem, 3, (some .boolean))
theorem cbX5_takeItem : CB mX5_takeItem 1 := ⟨in_all (List.mem_append_right _ (List.mem_of_getElem? (i := 7) (by decide +kernel))) (by decide +kernel), in_all (List.mem_append_right _ (List.mem_of_getElem? (i := 670) (by decide +kernel))) (by decide +kernel), by decide +kernel, by decide⟩
theorem imX5_takeItem : Cond.instanceMethod mX5_takeItem.1 ∈ WSall := in_all (List.mem_append_right _ (List.mem_of_getElem? (i := 669) (by decide +kernel))) (by decide +kernel)
theorem seX5_takeItem : Cond.selects mX5_takeItem.1.cls mX5_takeItem.1 mX5_takeItem.1 ∈ WSall := in_all (List.mem_append_left _ (List.mem_of_getElem? (i := 13) (by decide +kernel))) (by decide +kernel)
abbrev mX5_kindNamed : Mt := (yX5_kindNamed, cX5_kindNamed, 1, (some .int))
theorem cbX5_kindNamed : CB mX5_kindNamed 0 := ⟨in_all (List.mem_append_right _ (List.mem_of_getElem? (i := 7) (by decide +kernel))) (by decide +kernel), in_all (List.mem_append_right _ (List.mem_of_getElem? (i := 674) (by decide +kernel))) (by decide +kernel), by decide +kernel, by decide⟩
theorem imX5_kindNamed : Cond.instanceMethod mX5_kindNamed.1 ∈ WSall := in_all (List.mem_append_right _ (List.mem_of_getElem? (i := 673) (by decide +kernel))) (by decide +kernel)
theorem seX5_kindNamed : Cond.selects mX5_kindNamed.1.cls mX5_kindNamed.1 mX5_kindNamed.1 ∈ WSall := in_all (List.mem_append_left _ (List.mem_of_getElem? (i := 14) (by decide +kernel))) (by decide +kernel)
abbrev mX5_isWord : Mt := (yX5_isWord, cX5_isWord, 3, (some .boolean))
theorem cbX5_isWord : CB mX5_isWord 1 := ⟨in_all (List.mem_append_right _ (List.mem_of_getElem? (i := 7) (by decide +kernel))) (by decide +kernel), in_all (List.mem_append_right _ (List.mem_of_getElem? (i := 679) (by decide +kernel))) (by decide +kernel), by decide +kernel, by decide⟩
theorem imX5_isWord : Cond.instanceMethod mX5_isWord.1 ∈ WSall := in_all (List.mem_append_right _ (List.mem_of_getElem? (i := 678) (by decide +kernel))) (by decide +kernel)
theorem seX5_isWord : Cond.selects mX5_isWord.1.cls mX5_isWord.1 mX5_isWord.1 ∈ WSall := in_all (List.mem_append_left _ (List.mem_of_getElem? (i := 15) (by decide +kernel))) (by decide +kernel)
abbrev mJ0_length_8abf5 : Mt := (yJ0_length_8abf5, cJ0_length_8abf5, 1, (some .int))
theorem cbJ0_length_8abf5 : CB mJ0_length_8abf5 0 := ⟨in_all (List.mem_append_right _ (List.mem_of_getElem? (i := 13) (by decide +kernel))) (by decide +kernel), in_all (List.mem_append_right _ (List.mem_of_getElem? (i := 683) (by decide +kernel))) (by decide +kernel), by decide +kernel, by decide⟩
theorem imJ0_length_8abf5 : Cond.instanceMethod mJ0_length_8abf5.1 ∈ WSall := in_all (List.mem_append_right _ (List.mem_of_getElem? (i := 681) (by decide +kernel))) (by decide +kernel)
theorem seJ0_length_8abf5 : Cond.selects mJ0_length_8abf5.1.cls mJ0_length_8abf5.1 mJ0_length_8abf5.1 ∈ WSall := in_all (List.mem_append_right _ (List.mem_of_getElem? (i := 682) (by decide +kernel))) (by decide +kernel)
abbrev mJ0_coder_7d493 : Mt := (yJ0_coder_7d493, cJ0_coder_7d493, 1, (some .byte))
theorem cbJ0_coder_7d493 : CB mJ0_coder_7d493 0 := ⟨in_all (List.mem_append_right _ (List.mem_of_getElem? (i := 13) (by decide +kernel))) (by decide +kernel), in_all (List.mem_append_right _ (List.mem_of_getElem? (i := 687) (by decide +kernel))) (by decide +kernel), by decide +kernel, by decide⟩
theorem imJ0_coder_7d493 : Cond.instanceMethod mJ0_coder_7d493.1 ∈ WSall := in_all (List.mem_append_right _ (List.mem_of_getElem? (i := 685) (by decide +kernel))) (by decide +kernel)
theorem seJ0_coder_7d493 : Cond.selects mJ0_coder_7d493.1.cls mJ0_coder_7d493.1 mJ0_coder_7d493.1 ∈ WSall := in_all (List.mem_append_right _ (List.mem_of_getElem? (i := 686) (by decide +kernel))) (by decide +kernel)
abbrev mJ0_charAt_5068e : Mt := (yJ0_charAt_5068e, cJ0_charAt_5068e, 2, (some .char))
theorem cbJ0_charAt_5068e : CB mJ0_charAt_5068e 1 := ⟨in_all (List.mem_append_right _ (List.mem_of_getElem? (i := 13) (by decide +kernel))) (by decide +kernel), in_all (List.mem_append_right _ (List.mem_of_getElem? (i := 693) (by decide +kernel))) (by decide +kernel), by decide +kernel, by decide⟩
theorem imJ0_charAt_5068e : Cond.instanceMethod mJ0_charAt_5068e.1 ∈ WSall := in_all (List.mem_append_right _ (List.mem_of_getElem? (i := 691) (by decide +kernel))) (by decide +kernel)
theorem seJ0_charAt_5068e : Cond.selects mJ0_charAt_5068e.1.cls mJ0_charAt_5068e.1 mJ0_charAt_5068e.1 ∈ WSall := in_all (List.mem_append_right _ (List.mem_of_getElem? (i := 692) (by decide +kernel))) (by decide +kernel)
abbrev mJ0_isLatin1_aae02 : Mt := (yJ0_isLatin1_aae02, cJ0_isLatin1_aae02, 1, (some .boolean))
theorem cbJ0_isLatin1_aae02 : CB mJ0_isLatin1_aae02 0 := ⟨in_all (List.mem_append_right _ (List.mem_of_getElem? (i := 13) (by decide +kernel))) (by decide +kernel), in_all (List.mem_append_right _ (List.mem_of_getElem? (i := 697) (by decide +kernel))) (by decide +kernel), by decide +kernel, by decide⟩
theorem imJ0_isLatin1_aae02 : Cond.instanceMethod mJ0_isLatin1_aae02.1 ∈ WSall := in_all (List.mem_append_right _ (List.mem_of_getElem? (i := 695) (by decide +kernel))) (by decide +kernel)
theorem seJ0_isLatin1_aae02 : Cond.selects mJ0_isLatin1_aae02.1.cls mJ0_isLatin1_aae02.1 mJ0_isLatin1_aae02.1 ∈ WSall := in_all (List.mem_append_right _ (List.mem_of_getElem? (i := 696) (by decide +kernel))) (by decide +kernel)
abbrev mJ1_charAt_3b067 : Mt := (yJ1_charAt_3b067, cJ1_charAt_3b067, 2, (some .char))
theorem cbJ1_charAt_3b067 : CB mJ1_charAt_3b067 2 := ⟨in_all (List.mem_append_right _ (List.mem_of_getElem? (i := 14) (by decide +kernel))) (by decide +kernel), in_all (List.mem_append_right _ (List.mem_of_getElem? (i := 700) (by decide +kernel))) (by decide +kernel), by decide +kernel, by decide⟩
theorem stJ1_charAt_3b067 : Cond.static mJ1_charAt_3b067.1 ∈ WSall := in_all (List.mem_append_right _ (List.mem_of_getElem? (i := 699) (by decide +kernel))) (by decide +kernel)
abbrev mJ0_checkIndex_df160 : Mt := (yJ0_checkIndex_df160, cJ0_checkIndex_df160, 2, none)
theorem cbJ0_checkIndex_df160 : CB mJ0_checkIndex_df160 2 := ⟨in_all (List.mem_append_right _ (List.mem_of_getElem? (i := 13) (by decide +kernel))) (by decide +kernel), in_all (List.mem_append_right _ (List.mem_of_getElem? (i := 703) (by decide +kernel))) (by decide +kernel), by decide +kernel, by decide⟩
theorem stJ0_checkIndex_df160 : Cond.static mJ0_checkIndex_df160.1 ∈ WSall := in_all (List.mem_append_right _ (List.mem_of_getElem? (i := 702) (by decide +kernel))) (by decide +kernel)
abbrev mJ3_checkIndex_8e157 : Mt := (yJ3_checkIndex_8e157, cJ3_checkIndex_8e157, 3, (some .int))
theorem cbJ3_checkIndex_8e157 : CB mJ3_checkIndex_8e157 3 := ⟨in_all (List.mem_append_right _ (List.mem_of_getElem? (i := 15) (by decide +kernel))) (by decide +kernel), in_all (List.mem_append_right _ (List.mem_of_getElem? (i := 708) (by decide +kernel))) (by decide +kernel), by decide +kernel, by decide⟩
theorem stJ3_checkIndex_8e157 : Cond.static mJ3_checkIndex_8e157.1 ∈ WSall := in_all (List.mem_append_right _ (List.mem_of_getElem? (i := 707) (by decide +kernel))) (by decide +kernel)
abbrev mJ2_charAt_3b067 : Mt := (yJ2_charAt_3b067, cJ2_charAt_3b067, 2, (some .char))
theorem cbJ2_charAt_3b067 : CB mJ2_charAt_3b067 2 := ⟨in_all (List.mem_append_right _ (List.mem_of_getElem? (i := 16) (by decide +kernel))) (by decide +kernel), in_all (List.mem_append_right _ (List.mem_of_getElem? (i := 711) (by decide +kernel))) (by decide +kernel), by decide +kernel, by decide⟩
theorem stJ2_charAt_3b067 : Cond.static mJ2_charAt_3b067.1 ∈ WSall := in_all (List.mem_append_right _ (List.mem_of_getElem? (i := 710) (by decide +kernel))) (by decide +kernel)
abbrev mJ2_checkIndex_2214a : Mt := (yJ2_checkIndex_2214a, cJ2_checkIndex_2214a, 2, none)
theorem cbJ2_checkIndex_2214a : CB mJ2_checkIndex_2214a 2 := ⟨in_all (List.mem_append_right _ (List.mem_of_getElem? (i := 16) (by decide +kernel))) (by decide +kernel), in_all (List.mem_append_right _ (List.mem_of_getElem? (i := 714) (by decide +kernel))) (by decide +kernel), by decide +kernel, by decide⟩
theorem stJ2_checkIndex_2214a : Cond.static mJ2_checkIndex_2214a.1 ∈ WSall := in_all (List.mem_append_right _ (List.mem_of_getElem? (i := 713) (by decide +kernel))) (by decide +kernel)
abbrev mJ2_length_9d52b : Mt := (yJ2_length_9d52b, cJ2_length_9d52b, 1, (some .int))
theorem cbJ2_length_9d52b : CB mJ2_length_9d52b 1 := ⟨in_all (List.mem_append_right _ (List.mem_of_getElem? (i := 16) (by decide +kernel))) (by decide +kernel), in_all (List.mem_append_right _ (List.mem_of_getElem? (i := 717) (by decide +kernel))) (by decide +kernel), by decide +kernel, by decide⟩
theorem stJ2_length_9d52b : Cond.static mJ2_length_9d52b.1 ∈ WSall := in_all (List.mem_append_right _ (List.mem_of_getElem? (i := 716) (by decide +kernel))) (by decide +kernel)
abbrev mJ2_getChar_3b067 : Mt := (yJ2_getChar_3b067, cJ2_getChar_3b067, 2, (some .char))
theorem cbJ2_getChar_3b067 : CB mJ2_getChar_3b067 2 := ⟨in_all (List.mem_append_right _ (List.mem_of_getElem? (i := 16) (by decide +kernel))) (by decide +kernel), in_all (List.mem_append_right _ (List.mem_of_getElem? (i := 721) (by decide +kernel))) (by decide +kernel), by decide +kernel, by decide⟩
theorem stJ2_getChar_3b067 : Cond.static mJ2_getChar_3b067.1 ∈ WSall := in_all (List.mem_append_right _ (List.mem_of_getElem? (i := 720) (by decide +kernel))) (by decide +kernel)
abbrev mX5_takeEntry : Mt := (yX5_takeEntry, cX5_takeEntry, 6, (some .boolean))
theorem cbX5_takeEntry : CB mX5_takeEntry 2 := ⟨in_all (List.mem_append_right _ (List.mem_of_getElem? (i := 7) (by decide +kernel))) (by decide +kernel), in_all (List.mem_append_right _ (List.mem_of_getElem? (i := 736) (by decide +kernel))) (by decide +kernel), by decide +kernel, by decide⟩
theorem imX5_takeEntry : Cond.instanceMethod mX5_takeEntry.1 ∈ WSall := in_all (List.mem_append_right _ (List.mem_of_getElem? (i := 735) (by decide +kernel))) (by decide +kernel)
theorem seX5_takeEntry : Cond.selects mX5_takeEntry.1.cls mX5_takeEntry.1 mX5_takeEntry.1 ∈ WSall := in_all (List.mem_append_left _ (List.mem_of_getElem? (i := 16) (by decide +kernel))) (by decide +kernel)
abbrev mX5_takeThings : Mt := (yX5_takeThings, cX5_takeThings, 3, (some .int))
theorem cbX5_takeThings : CB mX5_takeThings 0 := ⟨in_all (List.mem_append_right _ (List.mem_of_getElem? (i := 7) (by decide +kernel))) (by decide +kernel), in_all (List.mem_append_right _ (List.mem_of_getElem? (i := 741) (by decide +kernel))) (by decide +kernel), by decide +kernel, by decide⟩
theorem imX5_takeThings : Cond.instanceMethod mX5_takeThings.1 ∈ WSall := in_all (List.mem_append_right _ (List.mem_of_getElem? (i := 740) (by decide +kernel))) (by decide +kernel)
theorem seX5_takeThings : Cond.selects mX5_takeThings.1.cls mX5_takeThings.1 mX5_takeThings.1 ∈ WSall := in_all (List.mem_append_left _ (List.mem_of_getElem? (i := 17) (by decide +kernel))) (by decide +kernel)
abbrev mX5_takeWord : Mt := (yX5_takeWord, cX5_takeWord, 3, (some .boolean))
theorem cbX5_takeWord : CB mX5_takeWord 1 := ⟨in_all (List.mem_append_right _ (List.mem_of_getElem? (i := 7) (by decide +kernel))) (by decide +kernel), in_all (List.mem_append_right _ (List.mem_of_getElem? (i := 747) (by decide +kernel))) (by decide +kernel), by decide +kernel, by decide⟩
theorem imX5_takeWord : Cond.instanceMethod mX5_takeWord.1 ∈ WSall := in_all (List.mem_append_right _ (List.mem_of_getElem? (i := 746) (by decide +kernel))) (by decide +kernel)
theorem seX5_takeWord : Cond.selects mX5_takeWord.1.cls mX5_takeWord.1 mX5_takeWord.1 ∈ WSall := in_all (List.mem_append_left _ (List.mem_of_getElem? (i := 18) (by decide +kernel))) (by decide +kernel)
abbrev mX5_takeNumber : Mt := (yX5_takeNumber, cX5_takeNumber, 3, (some .int))
theorem cbX5_takeNumber : CB mX5_takeNumber 1 := ⟨in_all (List.mem_append_right _ (List.mem_of_getElem? (i := 7) (by decide +kernel))) (by decide +kernel), in_all (List.mem_append_right _ (List.mem_of_getElem? (i := 751) (by decide +kernel))) (by decide +kernel), by decide +kernel, by decide⟩
theorem imX5_takeNumber : Cond.instanceMethod mX5_takeNumber.1 ∈ WSall := in_all (List.mem_append_right _ (List.mem_of_getElem? (i := 750) (by decide +kernel))) (by decide +kernel)
theorem seX5_takeNumber : Cond.selects mX5_takeNumber.1.cls mX5_takeNumber.1 mX5_takeNumber.1 ∈ WSall := in_all (List.mem_append_left _ (List.mem_of_getElem? (i := 19) (by decide +kernel))) (by decide +kernel)
abbrev mX5_takeStore : Mt := (yX5_takeStore, cX5_takeStore, 4, (some .boolean))
theorem cbX5_takeStore : CB mX5_takeStore 1 := ⟨in_all (List.mem_append_right _ (List.mem_of_getElem? (i := 7) (by decide +kernel))) (by decide +kernel), in_all (List.mem_append_right _ (List.mem_of_getElem? (i := 759) (by decide +kernel))) (by decide +kernel), by decide +kernel, by decide⟩
theorem imX5_takeStore : Cond.instanceMethod mX5_takeStore.1 ∈ WSall := in_all (List.mem_append_right _ (List.mem_of_getElem? (i := 758) (by decide +kernel))) (by decide +kernel)
theorem seX5_takeStore : Cond.selects mX5_takeStore.1.cls mX5_takeStore.1 mX5_takeStore.1 ∈ WSall := in_all (List.mem_append_left _ (List.mem_of_getElem? (i := 20) (by decide +kernel))) (by decide +kernel)
abbrev mX5_takeLiking : Mt := (yX5_takeLiking, cX5_takeLiking, 7, (some .boolean))
theorem cbX5_takeLiking : CB mX5_takeLiking 2 := ⟨in_all (List.mem_append_right _ (List.mem_of_getElem? (i := 7) (by decide +kernel))) (by decide +kernel), in_all (List.mem_append_right _ (List.mem_of_getElem? (i := 764) (by decide +kernel))) (by decide +kernel), by decide +kernel, by decide⟩
theorem imX5_takeLiking : Cond.instanceMethod mX5_takeLiking.1 ∈ WSall := in_all (List.mem_append_right _ (List.mem_of_getElem? (i := 763) (by decide +kernel))) (by decide +kernel)
theorem seX5_takeLiking : Cond.selects mX5_takeLiking.1.cls mX5_takeLiking.1 mX5_takeLiking.1 ∈ WSall := in_all (List.mem_append_left _ (List.mem_of_getElem? (i := 21) (by decide +kernel))) (by decide +kernel)
abbrev mX5_whatNamed : Mt := (yX5_whatNamed, cX5_whatNamed, 1, (some .int))
theorem cbX5_whatNamed : CB mX5_whatNamed 0 := ⟨in_all (List.mem_append_right _ (List.mem_of_getElem? (i := 7) (by decide +kernel))) (by decide +kernel), in_all (List.mem_append_right _ (List.mem_of_getElem? (i := 768) (by decide +kernel))) (by decide +kernel), by decide +kernel, by decide⟩
theorem imX5_whatNamed : Cond.instanceMethod mX5_whatNamed.1 ∈ WSall := in_all (List.mem_append_right _ (List.mem_of_getElem? (i := 767) (by decide +kernel))) (by decide +kernel)
theorem seX5_whatNamed : Cond.selects mX5_whatNamed.1.cls mX5_whatNamed.1 mX5_whatNamed.1 ∈ WSall := in_all (List.mem_append_left _ (List.mem_of_getElem? (i := 22) (by decide +kernel))) (by decide +kernel)
abbrev mX5_takeEdict : Mt := (yX5_takeEdict, cX5_takeEdict, 4, (some .boolean))
theorem cbX5_takeEdict : CB mX5_takeEdict 1 := ⟨in_all (List.mem_append_right _ (List.mem_of_getElem? (i := 7) (by decide +kernel))) (by decide +kernel), in_all (List.mem_append_right _ (List.mem_of_getElem? (i := 776) (by decide +kernel))) (by decide +kernel), by decide +kernel, by decide⟩
theorem imX5_takeEdict : Cond.instanceMethod mX5_takeEdict.1 ∈ WSall := in_all (List.mem_append_right _ (List.mem_of_getElem? (i := 775) (by decide +kernel))) (by decide +kernel)
theorem seX5_takeEdict : Cond.selects mX5_takeEdict.1.cls mX5_takeEdict.1 mX5_takeEdict.1 ∈ WSall := in_all (List.mem_append_left _ (List.mem_of_getElem? (i := 23) (by decide +kernel))) (by decide +kernel)
abbrev mX5_takeDay : Mt := (yX5_takeDay, cX5_takeDay, 3, (some .boolean))
theorem cbX5_takeDay : CB mX5_takeDay 1 := ⟨in_all (List.mem_append_right _ (List.mem_of_getElem? (i := 7) (by decide +kernel))) (by decide +kernel), in_all (List.mem_append_right _ (List.mem_of_getElem? (i := 786) (by decide +kernel))) (by decide +kernel), by decide +kernel, by decide⟩
theorem imX5_takeDay : Cond.instanceMethod mX5_takeDay.1 ∈ WSall := in_all (List.mem_append_right _ (List.mem_of_getElem? (i := 785) (by decide +kernel))) (by decide +kernel)
theorem seX5_takeDay : Cond.selects mX5_takeDay.1.cls mX5_takeDay.1 mX5_takeDay.1 ∈ WSall := in_all (List.mem_append_left _ (List.mem_of_getElem? (i := 24) (by decide +kernel))) (by decide +kernel)
abbrev mX6_sheet : Mt := (yX6_sheet, cX6_sheet, 4, (some .int))
theorem cbX6_sheet : CB mX6_sheet 3 := ⟨in_all (List.mem_append_right _ (List.mem_of_getElem? (i := 1) (by decide +kernel))) (by decide +kernel), in_all (List.mem_append_right _ (List.mem_of_getElem? (i := 791) (by decide +kernel))) (by decide +kernel), by decide +kernel, by decide⟩
theorem imX6_sheet : Cond.instanceMethod mX6_sheet.1 ∈ WSall := in_all (List.mem_append_right _ (List.mem_of_getElem? (i := 789) (by decide +kernel))) (by decide +kernel)
theorem seX6_sheet : Cond.selects mX6_sheet.1.cls mX6_sheet.1 mX6_sheet.1 ∈ WSall := in_all (List.mem_append_right _ (List.mem_of_getElem? (i := 790) (by decide +kernel))) (by decide +kernel)
abbrev mX4_lay : Mt := (yX4_lay, cX4_lay, 3, none)
theorem cbX4_lay : CB mX4_lay 2 := ⟨in_all (List.mem_append_right _ (List.mem_of_getElem? (i := 8) (by decide +kernel))) (by decide +kernel), in_all (List.mem_append_right _ (List.mem_of_getElem? (i := 796) (by decide +kernel))) (by decide +kernel), by decide +kernel, by decide⟩
theorem imX4_lay : Cond.instanceMethod mX4_lay.1 ∈ WSall := in_all (List.mem_append_right _ (List.mem_of_getElem? (i := 794) (by decide +kernel))) (by decide +kernel)
theorem seX4_lay : Cond.selects mX4_lay.1.cls mX4_lay.1 mX4_lay.1 ∈ WSall := in_all (List.mem_append_right _ (List.mem_of_getElem? (i := 795) (by decide +kernel))) (by decide +kernel)
abbrev mJ7_fill_d0a16 : Mt := (yJ7_fill_d0a16, cJ7_fill_d0a16, 5, none)
theorem cbJ7_fill_d0a16 : CB mJ7_fill_d0a16 2 := ⟨in_all (List.mem_append_right _ (List.mem_of_getElem? (i := 3) (by decide +kernel))) (by decide +kernel), in_all (List.mem_append_right _ (List.mem_of_getElem? (i := 799) (by decide +kernel))) (by decide +kernel), by decide +kernel, by decide⟩
theorem stJ7_fill_d0a16 : Cond.static mJ7_fill_d0a16.1 ∈ WSall := in_all (List.mem_append_right _ (List.mem_of_getElem? (i := 798) (by decide +kernel))) (by decide +kernel)
abbrev mX6_write : Mt := (yX6_write, cX6_write, 9, (some .long))
theorem cbX6_write : CB mX6_write 3 := ⟨in_all (List.mem_append_right _ (List.mem_of_getElem? (i := 1) (by decide +kernel))) (by decide +kernel), in_all (List.mem_append_right _ (List.mem_of_getElem? (i := 803) (by decide +kernel))) (by decide +kernel), by decide +kernel, by decide⟩
theorem imX6_write : Cond.instanceMethod mX6_write.1 ∈ WSall := in_all (List.mem_append_right _ (List.mem_of_getElem? (i := 801) (by decide +kernel))) (by decide +kernel)
theorem seX6_write : Cond.selects mX6_write.1.cls mX6_write.1 mX6_write.1 ∈ WSall := in_all (List.mem_append_right _ (List.mem_of_getElem? (i := 802) (by decide +kernel))) (by decide +kernel)
abbrev mX6_sheetFault : Mt := (yX6_sheetFault, cX6_sheetFault, 2, (some .int))
theorem cbX6_sheetFault : CB mX6_sheetFault 1 := ⟨in_all (List.mem_append_right _ (List.mem_of_getElem? (i := 1) (by decide +kernel))) (by decide +kernel), in_all (List.mem_append_right _ (List.mem_of_getElem? (i := 807) (by decide +kernel))) (by decide +kernel), by decide +kernel, by decide⟩
theorem imX6_sheetFault : Cond.instanceMethod mX6_sheetFault.1 ∈ WSall := in_all (List.mem_append_right _ (List.mem_of_getElem? (i := 806) (by decide +kernel))) (by decide +kernel)
theorem seX6_sheetFault : Cond.selects mX6_sheetFault.1.cls mX6_sheetFault.1 mX6_sheetFault.1 ∈ WSall := in_all (List.mem_append_left _ (List.mem_of_getElem? (i := 25) (by decide +kernel))) (by decide +kernel)
abbrev mX4_isMissing : Mt := (yX4_isMissing, cX4_isMissing, 1, (some .boolean))
theorem cbX4_isMissing : CB mX4_isMissing 0 := ⟨in_all (List.mem_append_right _ (List.mem_of_getElem? (i := 8) (by decide +kernel))) (by decide +kernel), in_all (List.mem_append_right _ (List.mem_of_getElem? (i := 811) (by decide +kernel))) (by decide +kernel), by decide +kernel, by decide⟩
theorem imX4_isMissing : Cond.instanceMethod mX4_isMissing.1 ∈ WSall := in_all (List.mem_append_right _ (List.mem_of_getElem? (i := 809) (by decide +kernel))) (by decide +kernel)
theorem seX4_isMissing : Cond.selects mX4_isMissing.1.cls mX4_isMissing.1 mX4_isMissing.1 ∈ WSall := in_all (List.mem_append_right _ (List.mem_of_getElem? (i := 810) (by decide +kernel))) (by decide +kernel)
abbrev mX4_put : Mt := (yX4_put, cX4_put, 4, none)
theorem cbX4_put : CB mX4_put 2 := ⟨in_all (List.mem_append_right _ (List.mem_of_getElem? (i := 8) (by decide +kernel))) (by decide +kernel), in_all (List.mem_append_right _ (List.mem_of_getElem? (i := 816) (by decide +kernel))) (by decide +kernel), by decide +kernel, by decide⟩
theorem imX4_put : Cond.instanceMethod mX4_put.1 ∈ WSall := in_all (List.mem_append_right _ (List.mem_of_getElem? (i := 814) (by decide +kernel))) (by decide +kernel)
theorem seX4_put : Cond.selects mX4_put.1.cls mX4_put.1 mX4_put.1 ∈ WSall := in_all (List.mem_append_right _ (List.mem_of_getElem? (i := 815) (by decide +kernel))) (by decide +kernel)
abbrev mX4_cut : Mt := (yX4_cut, cX4_cut, 3, (some .long))
theorem cbX4_cut : CB mX4_cut 1 := ⟨in_all (List.mem_append_right _ (List.mem_of_getElem? (i := 8) (by decide +kernel))) (by decide +kernel), in_all (List.mem_append_right _ (List.mem_of_getElem? (i := 821) (by decide +kernel))) (by decide +kernel), by decide +kernel, by decide⟩
theorem imX4_cut : Cond.instanceMethod mX4_cut.1 ∈ WSall := in_all (List.mem_append_right _ (List.mem_of_getElem? (i := 820) (by decide +kernel))) (by decide +kernel)
theorem seX4_cut : Cond.selects mX4_cut.1.cls mX4_cut.1 mX4_cut.1 ∈ WSall := in_all (List.mem_append_left _ (List.mem_of_getElem? (i := 26) (by decide +kernel))) (by decide +kernel)
abbrev mX6_copy : Mt := (yX6_copy, cX6_copy, 8, (some .int))
theorem cbX6_copy : CB mX6_copy 5 := ⟨in_all (List.mem_append_right _ (List.mem_of_getElem? (i := 1) (by decide +kernel))) (by decide +kernel), in_all (List.mem_append_right _ (List.mem_of_getElem? (i := 825) (by decide +kernel))) (by decide +kernel), by decide +kernel, by decide⟩
theorem imX6_copy : Cond.instanceMethod mX6_copy.1 ∈ WSall := in_all (List.mem_append_right _ (List.mem_of_getElem? (i := 823) (by decide +kernel))) (by decide +kernel)
theorem seX6_copy : Cond.selects mX6_copy.1.cls mX6_copy.1 mX6_copy.1 ∈ WSall := in_all (List.mem_append_right _ (List.mem_of_getElem? (i := 824) (by decide +kernel))) (by decide +kernel)
abbrev mX4_hasPart : Mt := (yX4_hasPart, cX4_hasPart, 3, (some .boolean))
theorem cbX4_hasPart : CB mX4_hasPart 2 := ⟨in_all (List.mem_append_right _ (List.mem_of_getElem? (i := 8) (by decide +kernel))) (by decide +kernel), in_all (List.mem_append_right _ (List.mem_of_getElem? (i := 829) (by decide +kernel))) (by decide +kernel), by decide +kernel, by decide⟩
theorem imX4_hasPart : Cond.instanceMethod mX4_hasPart.1 ∈ WSall := in_all (List.mem_append_right _ (List.mem_of_getElem? (i := 827) (by decide +kernel))) (by decide +kernel)
theorem seX4_hasPart : Cond.selects mX4_hasPart.1.cls mX4_hasPart.1 mX4_hasPart.1 ∈ WSall := in_all (List.mem_append_right _ (List.mem_of_getElem? (i := 828) (by decide +kernel))) (by decide +kernel)
abbrev mX6_lays : Mt := (yX6_lays, cX6_lays, 8, (some .int))
theorem cbX6_lays : CB mX6_lays 1 := ⟨in_all (List.mem_append_right _ (List.mem_of_getElem? (i := 1) (by decide +kernel))) (by decide +kernel), in_all (List.mem_append_right _ (List.mem_of_getElem? (i := 834) (by decide +kernel))) (by decide +kernel), by decide +kernel, by decide⟩
theorem imX6_lays : Cond.instanceMethod mX6_lays.1 ∈ WSall := in_all (List.mem_append_right _ (List.mem_of_getElem? (i := 832) (by decide +kernel))) (by decide +kernel)
theorem seX6_lays : Cond.selects mX6_lays.1.cls mX6_lays.1 mX6_lays.1 ∈ WSall := in_all (List.mem_append_right _ (List.mem_of_getElem? (i := 833) (by decide +kernel))) (by decide +kernel)
abbrev mX6_menu : Mt := (yX6_menu, cX6_menu, 7, (some .int))
theorem cbX6_menu : CB mX6_menu 2 := ⟨in_all (List.mem_append_right _ (List.mem_of_getElem? (i := 1) (by decide +kernel))) (by decide +kernel), in_all (List.mem_append_right _ (List.mem_of_getElem? (i := 839) (by decide +kernel))) (by decide +kernel), by decide +kernel, by decide⟩
theorem imX6_menu : Cond.instanceMethod mX6_menu.1 ∈ WSall := in_all (List.mem_append_right _ (List.mem_of_getElem? (i := 837) (by decide +kernel))) (by decide +kernel)
theorem seX6_menu : Cond.selects mX6_menu.1.cls mX6_menu.1 mX6_menu.1 ∈ WSall := in_all (List.mem_append_right _ (List.mem_of_getElem? (i := 838) (by decide +kernel))) (by decide +kernel)
abbrev mX6_menuFault : Mt := (yX6_menuFault, cX6_menuFault, 4, (some .int))
theorem cbX6_menuFault : CB mX6_menuFault 2 := ⟨in_all (List.mem_append_right _ (List.mem_of_getElem? (i := 1) (by decide +kernel))) (by decide +kernel), in_all (List.mem_append_right _ (List.mem_of_getElem? (i := 843) (by decide +kernel))) (by decide +kernel), by decide +kernel, by decide⟩
theorem imX6_menuFault : Cond.instanceMethod mX6_menuFault.1 ∈ WSall := in_all (List.mem_append_right _ (List.mem_of_getElem? (i := 842) (by decide +kernel))) (by decide +kernel)
theorem seX6_menuFault : Cond.selects mX6_menuFault.1.cls mX6_menuFault.1 mX6_menuFault.1 ∈ WSall := in_all (List.mem_append_left _ (List.mem_of_getElem? (i := 27) (by decide +kernel))) (by decide +kernel)
abbrev mX6_read : Mt := (yX6_read, cX6_read, 8, (some .int))
theorem cbX6_read : CB mX6_read 2 := ⟨in_all (List.mem_append_right _ (List.mem_of_getElem? (i := 1) (by decide +kernel))) (by decide +kernel), in_all (List.mem_append_right _ (List.mem_of_getElem? (i := 847) (by decide +kernel))) (by decide +kernel), by decide +kernel, by decide⟩
theorem imX6_read : Cond.instanceMethod mX6_read.1 ∈ WSall := in_all (List.mem_append_right _ (List.mem_of_getElem? (i := 845) (by decide +kernel))) (by decide +kernel)
theorem seX6_read : Cond.selects mX6_read.1.cls mX6_read.1 mX6_read.1 ∈ WSall := in_all (List.mem_append_right _ (List.mem_of_getElem? (i := 846) (by decide +kernel))) (by decide +kernel)
abbrev mX2_canCook : Mt := (yX2_canCook, cX2_canCook, 5, (some .boolean))
theorem cbX2_canCook : CB mX2_canCook 2 := ⟨in_all (List.mem_append_right _ (List.mem_of_getElem? (i := 4) (by decide +kernel))) (by decide +kernel), in_all (List.mem_append_right _ (List.mem_of_getElem? (i := 852) (by decide +kernel))) (by decide +kernel), by decide +kernel, by decide⟩
theorem imX2_canCook : Cond.instanceMethod mX2_canCook.1 ∈ WSall := in_all (List.mem_append_right _ (List.mem_of_getElem? (i := 850) (by decide +kernel))) (by decide +kernel)
theorem seX2_canCook : Cond.selects mX2_canCook.1.cls mX2_canCook.1 mX2_canCook.1 ∈ WSall := in_all (List.mem_append_right _ (List.mem_of_getElem? (i := 851) (by decide +kernel))) (by decide +kernel)
abbrev mX6_image : Mt := (yX6_image, cX6_image, 1, (some .int))
theorem cbX6_image : CB mX6_image 0 := ⟨in_all (List.mem_append_right _ (List.mem_of_getElem? (i := 1) (by decide +kernel))) (by decide +kernel), in_all (List.mem_append_right _ (List.mem_of_getElem? (i := 859) (by decide +kernel))) (by decide +kernel), by decide +kernel, by decide⟩
theorem imX6_image : Cond.instanceMethod mX6_image.1 ∈ WSall := in_all (List.mem_append_right _ (List.mem_of_getElem? (i := 857) (by decide +kernel))) (by decide +kernel)
theorem seX6_image : Cond.selects mX6_image.1.cls mX6_image.1 mX6_image.1 ∈ WSall := in_all (List.mem_append_right _ (List.mem_of_getElem? (i := 858) (by decide +kernel))) (by decide +kernel)
abbrev mX6_undo : Mt := (yX6_undo, cX6_undo, 1, (some .int))
theorem cbX6_undo : CB mX6_undo 0 := ⟨in_all (List.mem_append_right _ (List.mem_of_getElem? (i := 1) (by decide +kernel))) (by decide +kernel), in_all (List.mem_append_right _ (List.mem_of_getElem? (i := 863) (by decide +kernel))) (by decide +kernel), by decide +kernel, by decide⟩
theorem imX6_undo : Cond.instanceMethod mX6_undo.1 ∈ WSall := in_all (List.mem_append_right _ (List.mem_of_getElem? (i := 861) (by decide +kernel))) (by decide +kernel)
theorem seX6_undo : Cond.selects mX6_undo.1.cls mX6_undo.1 mX6_undo.1 ∈ WSall := in_all (List.mem_append_right _ (List.mem_of_getElem? (i := 862) (by decide +kernel))) (by decide +kernel)
abbrev mX6_tear : Mt := (yX6_tear, cX6_tear, 2, (some .int))
theorem cbX6_tear : CB mX6_tear 0 := ⟨in_all (List.mem_append_right _ (List.mem_of_getElem? (i := 1) (by decide +kernel))) (by decide +kernel), in_all (List.mem_append_right _ (List.mem_of_getElem? (i := 867) (by decide +kernel))) (by decide +kernel), by decide +kernel, by decide⟩
theorem imX6_tear : Cond.instanceMethod mX6_tear.1 ∈ WSall := in_all (List.mem_append_right _ (List.mem_of_getElem? (i := 865) (by decide +kernel))) (by decide +kernel)
theorem seX6_tear : Cond.selects mX6_tear.1.cls mX6_tear.1 mX6_tear.1 ∈ WSall := in_all (List.mem_append_right _ (List.mem_of_getElem? (i := 866) (by decide +kernel))) (by decide +kernel)
abbrev mX6_count : Mt := (yX6_count, cX6_count, 2, (some .int))
theorem cbX6_count : CB mX6_count 1 := ⟨in_all (List.mem_append_right _ (List.mem_of_getElem? (i := 1) (by decide +kernel))) (by decide +kernel), in_all (List.mem_append_right _ (List.mem_of_getElem? (i := 871) (by decide +kernel))) (by decide +kernel), by decide +kernel, by decide⟩
theorem imX6_count : Cond.instanceMethod mX6_count.1 ∈ WSall := in_all (List.mem_append_right _ (List.mem_of_getElem? (i := 869) (by decide +kernel))) (by decide +kernel)
theorem seX6_count : Cond.selects mX6_count.1.cls mX6_count.1 mX6_count.1 ∈ WSall := in_all (List.mem_append_right _ (List.mem_of_getElem? (i := 870) (by decide +kernel))) (by decide +kernel)
abbrev mX6_status : Mt := (yX6_status, cX6_status, 4, (some .int))
theorem cbX6_status : CB mX6_status 1 := ⟨in_all (List.mem_append_right _ (List.mem_of_getElem? (i := 1) (by decide +kernel))) (by decide +kernel), in_all (List.mem_append_right _ (List.mem_of_getElem? (i := 875) (by decide +kernel))) (by decide +kernel), by decide +kernel, by decide⟩
theorem imX6_status : Cond.instanceMethod mX6_status.1 ∈ WSall := in_all (List.mem_append_right _ (List.mem_of_getElem? (i := 873) (by decide +kernel))) (by decide +kernel)
theorem seX6_status : Cond.selects mX6_status.1.cls mX6_status.1 mX6_status.1 ∈ WSall := in_all (List.mem_append_right _ (List.mem_of_getElem? (i := 874) (by decide +kernel))) (by decide +kernel)
abbrev mX7_init : Mt := (yX7_init, cX7_init, 4, none)
theorem cbX7_init : CB mX7_init 0 := ⟨in_all (List.mem_append_right _ (List.mem_of_getElem? (i := 9) (by decide +kernel))) (by decide +kernel), in_all (List.mem_append_right _ (List.mem_of_getElem? (i := 880) (by decide +kernel))) (by decide +kernel), by decide +kernel, by decide⟩
theorem imX7_init : Cond.instanceMethod mX7_init.1 ∈ WSall := in_all (List.mem_append_right _ (List.mem_of_getElem? (i := 879) (by decide +kernel))) (by decide +kernel)
abbrev mX7_ones : Mt := (yX7_ones, cX7_ones, 3, (some .int))
theorem cbX7_ones : CB mX7_ones 1 := ⟨in_all (List.mem_append_right _ (List.mem_of_getElem? (i := 9) (by decide +kernel))) (by decide +kernel), in_all (List.mem_append_right _ (List.mem_of_getElem? (i := 884) (by decide +kernel))) (by decide +kernel), by decide +kernel, by decide⟩
theorem stX7_ones : Cond.static mX7_ones.1 ∈ WSall := in_all (List.mem_append_right _ (List.mem_of_getElem? (i := 883) (by decide +kernel))) (by decide +kernel)
abbrev mX7_store : Mt := (yX7_store, cX7_store, 4, (some .int))
theorem cbX7_store : CB mX7_store 2 := ⟨in_all (List.mem_append_right _ (List.mem_of_getElem? (i := 9) (by decide +kernel))) (by decide +kernel), in_all (List.mem_append_right _ (List.mem_of_getElem? (i := 998) (by decide +kernel))) (by decide +kernel), by decide +kernel, by decide⟩
theorem imX7_store : Cond.instanceMethod mX7_store.1 ∈ WSall := in_all (List.mem_append_right _ (List.mem_of_getElem? (i := 996) (by decide +kernel))) (by decide +kernel)
theorem seX7_store : Cond.selects mX7_store.1.cls mX7_store.1 mX7_store.1 ∈ WSall := in_all (List.mem_append_right _ (List.mem_of_getElem? (i := 997) (by decide +kernel))) (by decide +kernel)
abbrev mX7_isThing : Mt := (yX7_isThing, cX7_isThing, 1, (some .boolean))
theorem cbX7_isThing : CB mX7_isThing 1 := ⟨in_all (List.mem_append_right _ (List.mem_of_getElem? (i := 9) (by decide +kernel))) (by decide +kernel), in_all (List.mem_append_right _ (List.mem_of_getElem? (i := 1001) (by decide +kernel))) (by decide +kernel), by decide +kernel, by decide⟩
theorem stX7_isThing : Cond.static mX7_isThing.1 ∈ WSall := in_all (List.mem_append_right _ (List.mem_of_getElem? (i := 1000) (by decide +kernel))) (by decide +kernel)
abbrev mX7_in : Mt := (yX7_in, cX7_in, 3, (some .boolean))
theorem cbX7_in : CB mX7_in 3 := ⟨in_all (List.mem_append_right _ (List.mem_of_getElem? (i := 9) (by decide +kernel))) (by decide +kernel), in_all (List.mem_append_right _ (List.mem_of_getElem? (i := 1004) (by decide +kernel))) (by decide +kernel), by decide +kernel, by decide⟩
theorem stX7_in : Cond.static mX7_in.1 ∈ WSall := in_all (List.mem_append_right _ (List.mem_of_getElem? (i := 1003) (by decide +kernel))) (by decide +kernel)
abbrev mX7_isStore : Mt := (yX7_isStore, cX7_isStore, 1, (some .boolean))
theorem cbX7_isStore : CB mX7_isStore 1 := ⟨in_all (List.mem_append_right _ (List.mem_of_getElem? (i := 9) (by decide +kernel))) (by decide +kernel), in_all (List.mem_append_right _ (List.mem_of_getElem? (i := 1007) (by decide +kernel))) (by decide +kernel), by decide +kernel, by decide⟩
theorem stX7_isStore : Cond.static mX7_isStore.1 ∈ WSall := in_all (List.mem_append_right _ (List.mem_of_getElem? (i := 1006) (by decide +kernel))) (by decide +kernel)
abbrev mX7_finds : Mt := (yX7_finds, cX7_finds, 2, (some .int))
theorem cbX7_finds : CB mX7_finds 1 := ⟨in_all (List.mem_append_right _ (List.mem_of_getElem? (i := 9) (by decide +kernel))) (by decide +kernel), in_all (List.mem_append_right _ (List.mem_of_getElem? (i := 1012) (by decide +kernel))) (by decide +kernel), by decide +kernel, by decide⟩
theorem imX7_finds : Cond.instanceMethod mX7_finds.1 ∈ WSall := in_all (List.mem_append_right _ (List.mem_of_getElem? (i := 1011) (by decide +kernel))) (by decide +kernel)
theorem seX7_finds : Cond.selects mX7_finds.1.cls mX7_finds.1 mX7_finds.1 ∈ WSall := in_all (List.mem_append_left _ (List.mem_of_getElem? (i := 28) (by decide +kernel))) (by decide +kernel)
abbrev mX7_storeOf : Mt := (yX7_storeOf, cX7_storeOf, 2, (some .int))
theorem cbX7_storeOf : CB mX7_storeOf 1 := ⟨in_all (List.mem_append_right _ (List.mem_of_getElem? (i := 9) (by decide +kernel))) (by decide +kernel), in_all (List.mem_append_right _ (List.mem_of_getElem? (i := 1016) (by decide +kernel))) (by decide +kernel), by decide +kernel, by decide⟩
theorem imX7_storeOf : Cond.instanceMethod mX7_storeOf.1 ∈ WSall := in_all (List.mem_append_right _ (List.mem_of_getElem? (i := 1014) (by decide +kernel))) (by decide +kernel)
theorem seX7_storeOf : Cond.selects mX7_storeOf.1.cls mX7_storeOf.1 mX7_storeOf.1 ∈ WSall := in_all (List.mem_append_right _ (List.mem_of_getElem? (i := 1015) (by decide +kernel))) (by decide +kernel)
abbrev mX7_like : Mt := (yX7_like, cX7_like, 6, (some .int))
theorem cbX7_like : CB mX7_like 3 := ⟨in_all (List.mem_append_right _ (List.mem_of_getElem? (i := 9) (by decide +kernel))) (by decide +kernel), in_all (List.mem_append_right _ (List.mem_of_getElem? (i := 1020) (by decide +kernel))) (by decide +kernel), by decide +kernel, by decide⟩
theorem imX7_like : Cond.instanceMethod mX7_like.1 ∈ WSall := in_all (List.mem_append_right _ (List.mem_of_getElem? (i := 1018) (by decide +kernel))) (by decide +kernel)
theorem seX7_like : Cond.selects mX7_like.1.cls mX7_like.1 mX7_like.1 ∈ WSall := in_all (List.mem_append_right _ (List.mem_of_getElem? (i := 1019) (by decide +kernel))) (by decide +kernel)
abbrev mX7_mostOf : Mt := (yX7_mostOf, cX7_mostOf, 1, (some .int))
theorem cbX7_mostOf : CB mX7_mostOf 1 := ⟨in_all (List.mem_append_right _ (List.mem_of_getElem? (i := 9) (by decide +kernel))) (by decide +kernel), in_all (List.mem_append_right _ (List.mem_of_getElem? (i := 1023) (by decide +kernel))) (by decide +kernel), by decide +kernel, by decide⟩
theorem stX7_mostOf : Cond.static mX7_mostOf.1 ∈ WSall := in_all (List.mem_append_right _ (List.mem_of_getElem? (i := 1022) (by decide +kernel))) (by decide +kernel)
abbrev mX7_likedAt : Mt := (yX7_likedAt, cX7_likedAt, 2, (some .int))
theorem cbX7_likedAt : CB mX7_likedAt 2 := ⟨in_all (List.mem_append_right _ (List.mem_of_getElem? (i := 9) (by decide +kernel))) (by decide +kernel), in_all (List.mem_append_right _ (List.mem_of_getElem? (i := 1026) (by decide +kernel))) (by decide +kernel), by decide +kernel, by decide⟩
theorem stX7_likedAt : Cond.static mX7_likedAt.1 ∈ WSall := in_all (List.mem_append_right _ (List.mem_of_getElem? (i := 1025) (by decide +kernel))) (by decide +kernel)
abbrev mX7_edict : Mt := (yX7_edict, cX7_edict, 4, (some .int))
theorem cbX7_edict : CB mX7_edict 2 := ⟨in_all (List.mem_append_right _ (List.mem_of_getElem? (i := 9) (by decide +kernel))) (by decide +kernel), in_all (List.mem_append_right _ (List.mem_of_getElem? (i := 1030) (by decide +kernel))) (by decide +kernel), by decide +kernel, by decide⟩
theorem imX7_edict : Cond.instanceMethod mX7_edict.1 ∈ WSall := in_all (List.mem_append_right _ (List.mem_of_getElem? (i := 1028) (by decide +kernel))) (by decide +kernel)
theorem seX7_edict : Cond.selects mX7_edict.1.cls mX7_edict.1 mX7_edict.1 ∈ WSall := in_all (List.mem_append_right _ (List.mem_of_getElem? (i := 1029) (by decide +kernel))) (by decide +kernel)
abbrev mX7_dish : Mt := (yX7_dish, cX7_dish, 5, (some .int))
theorem cbX7_dish : CB mX7_dish 3 := ⟨in_all (List.mem_append_right _ (List.mem_of_getElem? (i := 9) (by decide +kernel))) (by decide +kernel), in_all (List.mem_append_right _ (List.mem_of_getElem? (i := 1034) (by decide +kernel))) (by decide +kernel), by decide +kernel, by decide⟩
theorem imX7_dish : Cond.instanceMethod mX7_dish.1 ∈ WSall := in_all (List.mem_append_right _ (List.mem_of_getElem? (i := 1032) (by decide +kernel))) (by decide +kernel)
theorem seX7_dish : Cond.selects mX7_dish.1.cls mX7_dish.1 mX7_dish.1 ∈ WSall := in_all (List.mem_append_right _ (List.mem_of_getElem? (i := 1033) (by decide +kernel))) (by decide +kernel)
abbrev mX7_of : Mt := (yX7_of, cX7_of, 3, (some .int))
theorem cbX7_of : CB mX7_of 2 := ⟨in_all (List.mem_append_right _ (List.mem_of_getElem? (i := 9) (by decide +kernel))) (by decide +kernel), in_all (List.mem_append_right _ (List.mem_of_getElem? (i := 1038) (by decide +kernel))) (by decide +kernel), by decide +kernel, by decide⟩
theorem imX7_of : Cond.instanceMethod mX7_of.1 ∈ WSall := in_all (List.mem_append_right _ (List.mem_of_getElem? (i := 1036) (by decide +kernel))) (by decide +kernel)
theorem seX7_of : Cond.selects mX7_of.1.cls mX7_of.1 mX7_of.1 ∈ WSall := in_all (List.mem_append_right _ (List.mem_of_getElem? (i := 1037) (by decide +kernel))) (by decide +kernel)
abbrev mX7_isDish : Mt := (yX7_isDish, cX7_isDish, 2, (some .boolean))
theorem cbX7_isDish : CB mX7_isDish 1 := ⟨in_all (List.mem_append_right _ (List.mem_of_getElem? (i := 9) (by decide +kernel))) (by decide +kernel), in_all (List.mem_append_right _ (List.mem_of_getElem? (i := 1042) (by decide +kernel))) (by decide +kernel), by decide +kernel, by decide⟩
theorem imX7_isDish : Cond.instanceMethod mX7_isDish.1 ∈ WSall := in_all (List.mem_append_right _ (List.mem_of_getElem? (i := 1041) (by decide +kernel))) (by decide +kernel)
theorem seX7_isDish : Cond.selects mX7_isDish.1.cls mX7_isDish.1 mX7_isDish.1 ∈ WSall := in_all (List.mem_append_left _ (List.mem_of_getElem? (i := 29) (by decide +kernel))) (by decide +kernel)
abbrev mX7_setOf : Mt := (yX7_setOf, cX7_setOf, 1, (some .int))
theorem cbX7_setOf : CB mX7_setOf 1 := ⟨in_all (List.mem_append_right _ (List.mem_of_getElem? (i := 9) (by decide +kernel))) (by decide +kernel), in_all (List.mem_append_right _ (List.mem_of_getElem? (i := 1045) (by decide +kernel))) (by decide +kernel), by decide +kernel, by decide⟩
theorem stX7_setOf : Cond.static mX7_setOf.1 ∈ WSall := in_all (List.mem_append_right _ (List.mem_of_getElem? (i := 1044) (by decide +kernel))) (by decide +kernel)
abbrev mX7_wayOf : Mt := (yX7_wayOf, cX7_wayOf, 1, (some .int))
theorem cbX7_wayOf : CB mX7_wayOf 1 := ⟨in_all (List.mem_append_right _ (List.mem_of_getElem? (i := 9) (by decide +kernel))) (by decide +kernel), in_all (List.mem_append_right _ (List.mem_of_getElem? (i := 1048) (by decide +kernel))) (by decide +kernel), by decide +kernel, by decide⟩
theorem stX7_wayOf : Cond.static mX7_wayOf.1 ∈ WSall := in_all (List.mem_append_right _ (List.mem_of_getElem? (i := 1047) (by decide +kernel))) (by decide +kernel)
abbrev mX7_sauceOf : Mt := (yX7_sauceOf, cX7_sauceOf, 1, (some .int))
theorem cbX7_sauceOf : CB mX7_sauceOf 1 := ⟨in_all (List.mem_append_right _ (List.mem_of_getElem? (i := 9) (by decide +kernel))) (by decide +kernel), in_all (List.mem_append_right _ (List.mem_of_getElem? (i := 1051) (by decide +kernel))) (by decide +kernel), by decide +kernel, by decide⟩
theorem stX7_sauceOf : Cond.static mX7_sauceOf.1 ∈ WSall := in_all (List.mem_append_right _ (List.mem_of_getElem? (i := 1050) (by decide +kernel))) (by decide +kernel)
abbrev mX7_likingOf : Mt := (yX7_likingOf, cX7_likingOf, 4, (some .int))
theorem cbX7_likingOf : CB mX7_likingOf 1 := ⟨in_all (List.mem_append_right _ (List.mem_of_getElem? (i := 9) (by decide +kernel))) (by decide +kernel), in_all (List.mem_append_right _ (List.mem_of_getElem? (i := 1055) (by decide +kernel))) (by decide +kernel), by decide +kernel, by decide⟩
theorem imX7_likingOf : Cond.instanceMethod mX7_likingOf.1 ∈ WSall := in_all (List.mem_append_right _ (List.mem_of_getElem? (i := 1054) (by decide +kernel))) (by decide +kernel)
theorem seX7_likingOf : Cond.selects mX7_likingOf.1.cls mX7_likingOf.1 mX7_likingOf.1 ∈ WSall := in_all (List.mem_append_left _ (List.mem_of_getElem? (i := 30) (by decide +kernel))) (by decide +kernel)
abbrev mX7_has : Mt := (yX7_has, cX7_has, 2, (some .boolean))
theorem cbX7_has : CB mX7_has 2 := ⟨in_all (List.mem_append_right _ (List.mem_of_getElem? (i := 9) (by decide +kernel))) (by decide +kernel), in_all (List.mem_append_right _ (List.mem_of_getElem? (i := 1058) (by decide +kernel))) (by decide +kernel), by decide +kernel, by decide⟩
theorem stX7_has : Cond.static mX7_has.1 ∈ WSall := in_all (List.mem_append_right _ (List.mem_of_getElem? (i := 1057) (by decide +kernel))) (by decide +kernel)
abbrev mX7_canBe : Mt := (yX7_canBe, cX7_canBe, 4, (some .boolean))
theorem cbX7_canBe : CB mX7_canBe 1 := ⟨in_all (List.mem_append_right _ (List.mem_of_getElem? (i := 9) (by decide +kernel))) (by decide +kernel), in_all (List.mem_append_right _ (List.mem_of_getElem? (i := 1062) (by decide +kernel))) (by decide +kernel), by decide +kernel, by decide⟩
theorem imX7_canBe : Cond.instanceMethod mX7_canBe.1 ∈ WSall := in_all (List.mem_append_right _ (List.mem_of_getElem? (i := 1061) (by decide +kernel))) (by decide +kernel)
theorem seX7_canBe : Cond.selects mX7_canBe.1.cls mX7_canBe.1 mX7_canBe.1 ∈ WSall := in_all (List.mem_append_left _ (List.mem_of_getElem? (i := 31) (by decide +kernel))) (by decide +kernel)
abbrev mX7_isNew : Mt := (yX7_isNew, cX7_isNew, 2, (some .boolean))
theorem cbX7_isNew : CB mX7_isNew 1 := ⟨in_all (List.mem_append_right _ (List.mem_of_getElem? (i := 9) (by decide +kernel))) (by decide +kernel), in_all (List.mem_append_right _ (List.mem_of_getElem? (i := 1066) (by decide +kernel))) (by decide +kernel), by decide +kernel, by decide⟩
theorem imX7_isNew : Cond.instanceMethod mX7_isNew.1 ∈ WSall := in_all (List.mem_append_right _ (List.mem_of_getElem? (i := 1065) (by decide +kernel))) (by decide +kernel)
theorem seX7_isNew : Cond.selects mX7_isNew.1.cls mX7_isNew.1 mX7_isNew.1 ∈ WSall := in_all (List.mem_append_left _ (List.mem_of_getElem? (i := 32) (by decide +kernel))) (by decide +kernel)
abbrev mX7_firstBy : Mt := (yX7_firstBy, cX7_firstBy, 3, (some .int))
theorem cbX7_firstBy : CB mX7_firstBy 1 := ⟨in_all (List.mem_append_right _ (List.mem_of_getElem? (i := 9) (by decide +kernel))) (by decide +kernel), in_all (List.mem_append_right _ (List.mem_of_getElem? (i := 1070) (by decide +kernel))) (by decide +kernel), by decide +kernel, by decide⟩
theorem imX7_firstBy : Cond.instanceMethod mX7_firstBy.1 ∈ WSall := in_all (List.mem_append_right _ (List.mem_of_getElem? (i := 1069) (by decide +kernel))) (by decide +kernel)
theorem seX7_firstBy : Cond.selects mX7_firstBy.1.cls mX7_firstBy.1 mX7_firstBy.1 ∈ WSall := in_all (List.mem_append_left _ (List.mem_of_getElem? (i := 33) (by decide +kernel))) (by decide +kernel)
abbrev mX7_barsIt : Mt := (yX7_barsIt, cX7_barsIt, 9, (some .boolean))
theorem cbX7_barsIt : CB mX7_barsIt 2 := ⟨in_all (List.mem_append_right _ (List.mem_of_getElem? (i := 9) (by decide +kernel))) (by decide +kernel), in_all (List.mem_append_right _ (List.mem_of_getElem? (i := 1074) (by decide +kernel))) (by decide +kernel), by decide +kernel, by decide⟩
theorem imX7_barsIt : Cond.instanceMethod mX7_barsIt.1 ∈ WSall := in_all (List.mem_append_right _ (List.mem_of_getElem? (i := 1073) (by decide +kernel))) (by decide +kernel)
theorem seX7_barsIt : Cond.selects mX7_barsIt.1.cls mX7_barsIt.1 mX7_barsIt.1 ∈ WSall := in_all (List.mem_append_left _ (List.mem_of_getElem? (i := 34) (by decide +kernel))) (by decide +kernel)
abbrev mX7_near : Mt := (yX7_near, cX7_near, 3, (some .int))
theorem cbX7_near : CB mX7_near 2 := ⟨in_all (List.mem_append_right _ (List.mem_of_getElem? (i := 9) (by decide +kernel))) (by decide +kernel), in_all (List.mem_append_right _ (List.mem_of_getElem? (i := 1079) (by decide +kernel))) (by decide +kernel), by decide +kernel, by decide⟩
theorem imX7_near : Cond.instanceMethod mX7_near.1 ∈ WSall := in_all (List.mem_append_right _ (List.mem_of_getElem? (i := 1077) (by decide +kernel))) (by decide +kernel)
theorem seX7_near : Cond.selects mX7_near.1.cls mX7_near.1 mX7_near.1 ∈ WSall := in_all (List.mem_append_right _ (List.mem_of_getElem? (i := 1078) (by decide +kernel))) (by decide +kernel)
abbrev mX7_nearOf : Mt := (yX7_nearOf, cX7_nearOf, 2, (some .int))
theorem cbX7_nearOf : CB mX7_nearOf 2 := ⟨in_all (List.mem_append_right _ (List.mem_of_getElem? (i := 9) (by decide +kernel))) (by decide +kernel), in_all (List.mem_append_right _ (List.mem_of_getElem? (i := 1082) (by decide +kernel))) (by decide +kernel), by decide +kernel, by decide⟩
theorem stX7_nearOf : Cond.static mX7_nearOf.1 ∈ WSall := in_all (List.mem_append_right _ (List.mem_of_getElem? (i := 1081) (by decide +kernel))) (by decide +kernel)
abbrev mX7_nearHad : Mt := (yX7_nearHad, cX7_nearHad, 5, (some .int))
theorem cbX7_nearHad : CB mX7_nearHad 2 := ⟨in_all (List.mem_append_right _ (List.mem_of_getElem? (i := 9) (by decide +kernel))) (by decide +kernel), in_all (List.mem_append_right _ (List.mem_of_getElem? (i := 1086) (by decide +kernel))) (by decide +kernel), by decide +kernel, by decide⟩
theorem imX7_nearHad : Cond.instanceMethod mX7_nearHad.1 ∈ WSall := in_all (List.mem_append_right _ (List.mem_of_getElem? (i := 1084) (by decide +kernel))) (by decide +kernel)
theorem seX7_nearHad : Cond.selects mX7_nearHad.1.cls mX7_nearHad.1 mX7_nearHad.1 ∈ WSall := in_all (List.mem_append_right _ (List.mem_of_getElem? (i := 1085) (by decide +kernel))) (by decide +kernel)
abbrev mX7_many : Mt := (yX7_many, cX7_many, 6, (some .int))
theorem cbX7_many : CB mX7_many 1 := ⟨in_all (List.mem_append_right _ (List.mem_of_getElem? (i := 9) (by decide +kernel))) (by decide +kernel), in_all (List.mem_append_right _ (List.mem_of_getElem? (i := 1090) (by decide +kernel))) (by decide +kernel), by decide +kernel, by decide⟩
theorem imX7_many : Cond.instanceMethod mX7_many.1 ∈ WSall := in_all (List.mem_append_right _ (List.mem_of_getElem? (i := 1088) (by decide +kernel))) (by decide +kernel)
theorem seX7_many : Cond.selects mX7_many.1.cls mX7_many.1 mX7_many.1 ∈ WSall := in_all (List.mem_append_right _ (List.mem_of_getElem? (i := 1089) (by decide +kernel))) (by decide +kernel)
abbrev mX7_marks : Mt := (yX7_marks, cX7_marks, 2, none)
theorem cbX7_marks : CB mX7_marks 0 := ⟨in_all (List.mem_append_right _ (List.mem_of_getElem? (i := 9) (by decide +kernel))) (by decide +kernel), in_all (List.mem_append_right _ (List.mem_of_getElem? (i := 1094) (by decide +kernel))) (by decide +kernel), by decide +kernel, by decide⟩
theorem imX7_marks : Cond.instanceMethod mX7_marks.1 ∈ WSall := in_all (List.mem_append_right _ (List.mem_of_getElem? (i := 1093) (by decide +kernel))) (by decide +kernel)
theorem seX7_marks : Cond.selects mX7_marks.1.cls mX7_marks.1 mX7_marks.1 ∈ WSall := in_all (List.mem_append_left _ (List.mem_of_getElem? (i := 35) (by decide +kernel))) (by decide +kernel)
abbrev mX7_marksBy : Mt := (yX7_marksBy, cX7_marksBy, 6, none)
theorem cbX7_marksBy : CB mX7_marksBy 1 := ⟨in_all (List.mem_append_right _ (List.mem_of_getElem? (i := 9) (by decide +kernel))) (by decide +kernel), in_all (List.mem_append_right _ (List.mem_of_getElem? (i := 1098) (by decide +kernel))) (by decide +kernel), by decide +kernel, by decide⟩
theorem imX7_marksBy : Cond.instanceMethod mX7_marksBy.1 ∈ WSall := in_all (List.mem_append_right _ (List.mem_of_getElem? (i := 1097) (by decide +kernel))) (by decide +kernel)
theorem seX7_marksBy : Cond.selects mX7_marksBy.1.cls mX7_marksBy.1 mX7_marksBy.1 ∈ WSall := in_all (List.mem_append_left _ (List.mem_of_getElem? (i := 36) (by decide +kernel))) (by decide +kernel)
abbrev mX7_dishAt : Mt := (yX7_dishAt, cX7_dishAt, 2, (some .int))
theorem cbX7_dishAt : CB mX7_dishAt 1 := ⟨in_all (List.mem_append_right _ (List.mem_of_getElem? (i := 9) (by decide +kernel))) (by decide +kernel), in_all (List.mem_append_right _ (List.mem_of_getElem? (i := 1102) (by decide +kernel))) (by decide +kernel), by decide +kernel, by decide⟩
theorem imX7_dishAt : Cond.instanceMethod mX7_dishAt.1 ∈ WSall := in_all (List.mem_append_right _ (List.mem_of_getElem? (i := 1101) (by decide +kernel))) (by decide +kernel)
theorem seX7_dishAt : Cond.selects mX7_dishAt.1.cls mX7_dishAt.1 mX7_dishAt.1 ∈ WSall := in_all (List.mem_append_left _ (List.mem_of_getElem? (i := 37) (by decide +kernel))) (by decide +kernel)
abbrev mX7_next : Mt := (yX7_next, cX7_next, 3, (some .int))
theorem cbX7_next : CB mX7_next 1 := ⟨in_all (List.mem_append_right _ (List.mem_of_getElem? (i := 9) (by decide +kernel))) (by decide +kernel), in_all (List.mem_append_right _ (List.mem_of_getElem? (i := 1106) (by decide +kernel))) (by decide +kernel), by decide +kernel, by decide⟩
theorem imX7_next : Cond.instanceMethod mX7_next.1 ∈ WSall := in_all (List.mem_append_right _ (List.mem_of_getElem? (i := 1104) (by decide +kernel))) (by decide +kernel)
theorem seX7_next : Cond.selects mX7_next.1.cls mX7_next.1 mX7_next.1 ∈ WSall := in_all (List.mem_append_right _ (List.mem_of_getElem? (i := 1105) (by decide +kernel))) (by decide +kernel)
abbrev mX7_isGood : Mt := (yX7_isGood, cX7_isGood, 2, (some .boolean))
theorem cbX7_isGood : CB mX7_isGood 1 := ⟨in_all (List.mem_append_right _ (List.mem_of_getElem? (i := 9) (by decide +kernel))) (by decide +kernel), in_all (List.mem_append_right _ (List.mem_of_getElem? (i := 1110) (by decide +kernel))) (by decide +kernel), by decide +kernel, by decide⟩
theorem imX7_isGood : Cond.instanceMethod mX7_isGood.1 ∈ WSall := in_all (List.mem_append_right _ (List.mem_of_getElem? (i := 1109) (by decide +kernel))) (by decide +kernel)
theorem seX7_isGood : Cond.selects mX7_isGood.1.cls mX7_isGood.1 mX7_isGood.1 ∈ WSall := in_all (List.mem_append_left _ (List.mem_of_getElem? (i := 38) (by decide +kernel))) (by decide +kernel)
abbrev mX7_enter : Mt := (yX7_enter, cX7_enter, 3, (some .int))
theorem cbX7_enter : CB mX7_enter 2 := ⟨in_all (List.mem_append_right _ (List.mem_of_getElem? (i := 9) (by decide +kernel))) (by decide +kernel), in_all (List.mem_append_right _ (List.mem_of_getElem? (i := 1114) (by decide +kernel))) (by decide +kernel), by decide +kernel, by decide⟩
theorem imX7_enter : Cond.instanceMethod mX7_enter.1 ∈ WSall := in_all (List.mem_append_right _ (List.mem_of_getElem? (i := 1112) (by decide +kernel))) (by decide +kernel)
theorem seX7_enter : Cond.selects mX7_enter.1.cls mX7_enter.1 mX7_enter.1 ∈ WSall := in_all (List.mem_append_right _ (List.mem_of_getElem? (i := 1113) (by decide +kernel))) (by decide +kernel)
abbrev mX7_isKind : Mt := (yX7_isKind, cX7_isKind, 1, (some .boolean))
theorem cbX7_isKind : CB mX7_isKind 1 := ⟨in_all (List.mem_append_right _ (List.mem_of_getElem? (i := 9) (by decide +kernel))) (by decide +kernel), in_all (List.mem_append_right _ (List.mem_of_getElem? (i := 1117) (by decide +kernel))) (by decide +kernel), by decide +kernel, by decide⟩
theorem stX7_isKind : Cond.static mX7_isKind.1 ∈ WSall := in_all (List.mem_append_right _ (List.mem_of_getElem? (i := 1116) (by decide +kernel))) (by decide +kernel)
abbrev mX7_addEntry : Mt := (yX7_addEntry, cX7_addEntry, 4, none)
theorem cbX7_addEntry : CB mX7_addEntry 3 := ⟨in_all (List.mem_append_right _ (List.mem_of_getElem? (i := 9) (by decide +kernel))) (by decide +kernel), in_all (List.mem_append_right _ (List.mem_of_getElem? (i := 1122) (by decide +kernel))) (by decide +kernel), by decide +kernel, by decide⟩
theorem imX7_addEntry : Cond.instanceMethod mX7_addEntry.1 ∈ WSall := in_all (List.mem_append_right _ (List.mem_of_getElem? (i := 1121) (by decide +kernel))) (by decide +kernel)
theorem seX7_addEntry : Cond.selects mX7_addEntry.1.cls mX7_addEntry.1 mX7_addEntry.1 ∈ WSall := in_all (List.mem_append_left _ (List.mem_of_getElem? (i := 39) (by decide +kernel))) (by decide +kernel)
abbrev mX7_entryOf : Mt := (yX7_entryOf, cX7_entryOf, 3, (some .int))
theorem cbX7_entryOf : CB mX7_entryOf 2 := ⟨in_all (List.mem_append_right _ (List.mem_of_getElem? (i := 9) (by decide +kernel))) (by decide +kernel), in_all (List.mem_append_right _ (List.mem_of_getElem? (i := 1126) (by decide +kernel))) (by decide +kernel), by decide +kernel, by decide⟩
theorem imX7_entryOf : Cond.instanceMethod mX7_entryOf.1 ∈ WSall := in_all (List.mem_append_right _ (List.mem_of_getElem? (i := 1124) (by decide +kernel))) (by decide +kernel)
theorem seX7_entryOf : Cond.selects mX7_entryOf.1.cls mX7_entryOf.1 mX7_entryOf.1 ∈ WSall := in_all (List.mem_append_right _ (List.mem_of_getElem? (i := 1125) (by decide +kernel))) (by decide +kernel)
abbrev mX7_isEntry : Mt := (yX7_isEntry, cX7_isEntry, 2, (some .boolean))
theorem cbX7_isEntry : CB mX7_isEntry 1 := ⟨in_all (List.mem_append_right _ (List.mem_of_getElem? (i := 9) (by decide +kernel))) (by decide +kernel), in_all (List.mem_append_right _ (List.mem_of_getElem? (i := 1130) (by decide +kernel))) (by decide +kernel), by decide +kernel, by decide⟩
theorem imX7_isEntry : Cond.instanceMethod mX7_isEntry.1 ∈ WSall := in_all (List.mem_append_right _ (List.mem_of_getElem? (i := 1129) (by decide +kernel))) (by decide +kernel)
theorem seX7_isEntry : Cond.selects mX7_isEntry.1.cls mX7_isEntry.1 mX7_isEntry.1 ∈ WSall := in_all (List.mem_append_left _ (List.mem_of_getElem? (i := 40) (by decide +kernel))) (by decide +kernel)
abbrev mX7_barsMany : Mt := (yX7_barsMany, cX7_barsMany, 4, (some .int))
theorem cbX7_barsMany : CB mX7_barsMany 1 := ⟨in_all (List.mem_append_right _ (List.mem_of_getElem? (i := 9) (by decide +kernel))) (by decide +kernel), in_all (List.mem_append_right _ (List.mem_of_getElem? (i := 1134) (by decide +kernel))) (by decide +kernel), by decide +kernel, by decide⟩
theorem imX7_barsMany : Cond.instanceMethod mX7_barsMany.1 ∈ WSall := in_all (List.mem_append_right _ (List.mem_of_getElem? (i := 1133) (by decide +kernel))) (by decide +kernel)
theorem seX7_barsMany : Cond.selects mX7_barsMany.1.cls mX7_barsMany.1 mX7_barsMany.1 ∈ WSall := in_all (List.mem_append_left _ (List.mem_of_getElem? (i := 41) (by decide +kernel))) (by decide +kernel)
abbrev mX7_turn : Mt := (yX7_turn, cX7_turn, 4, (some .int))
theorem cbX7_turn : CB mX7_turn 2 := ⟨in_all (List.mem_append_right _ (List.mem_of_getElem? (i := 9) (by decide +kernel))) (by decide +kernel), in_all (List.mem_append_right _ (List.mem_of_getElem? (i := 1138) (by decide +kernel))) (by decide +kernel), by decide +kernel, by decide⟩
theorem imX7_turn : Cond.instanceMethod mX7_turn.1 ∈ WSall := in_all (List.mem_append_right _ (List.mem_of_getElem? (i := 1136) (by decide +kernel))) (by decide +kernel)
theorem seX7_turn : Cond.selects mX7_turn.1.cls mX7_turn.1 mX7_turn.1 ∈ WSall := in_all (List.mem_append_right _ (List.mem_of_getElem? (i := 1137) (by decide +kernel))) (by decide +kernel)
abbrev mX7_as : Mt := (yX7_as, cX7_as, 3, (some .int))
theorem cbX7_as : CB mX7_as 2 := ⟨in_all (List.mem_append_right _ (List.mem_of_getElem? (i := 9) (by decide +kernel))) (by decide +kernel), in_all (List.mem_append_right _ (List.mem_of_getElem? (i := 1142) (by decide +kernel))) (by decide +kernel), by decide +kernel, by decide⟩
theorem imX7_as : Cond.instanceMethod mX7_as.1 ∈ WSall := in_all (List.mem_append_right _ (List.mem_of_getElem? (i := 1140) (by decide +kernel))) (by decide +kernel)
theorem seX7_as : Cond.selects mX7_as.1.cls mX7_as.1 mX7_as.1 ∈ WSall := in_all (List.mem_append_right _ (List.mem_of_getElem? (i := 1141) (by decide +kernel))) (by decide +kernel)
abbrev mX7_isUnder : Mt := (yX7_isUnder, cX7_isUnder, 2, (some .boolean))
theorem cbX7_isUnder : CB mX7_isUnder 2 := ⟨in_all (List.mem_append_right _ (List.mem_of_getElem? (i := 9) (by decide +kernel))) (by decide +kernel), in_all (List.mem_append_right _ (List.mem_of_getElem? (i := 1145) (by decide +kernel))) (by decide +kernel), by decide +kernel, by decide⟩
theorem stX7_isUnder : Cond.static mX7_isUnder.1 ∈ WSall := in_all (List.mem_append_right _ (List.mem_of_getElem? (i := 1144) (by decide +kernel))) (by decide +kernel)
abbrev mX7_strike : Mt := (yX7_strike, cX7_strike, 1, (some .int))
theorem cbX7_strike : CB mX7_strike 0 := ⟨in_all (List.mem_append_right _ (List.mem_of_getElem? (i := 9) (by decide +kernel))) (by decide +kernel), in_all (List.mem_append_right _ (List.mem_of_getElem? (i := 1150) (by decide +kernel))) (by decide +kernel), by decide +kernel, by decide⟩
theorem imX7_strike : Cond.instanceMethod mX7_strike.1 ∈ WSall := in_all (List.mem_append_right _ (List.mem_of_getElem? (i := 1148) (by decide +kernel))) (by decide +kernel)
theorem seX7_strike : Cond.selects mX7_strike.1.cls mX7_strike.1 mX7_strike.1 ∈ WSall := in_all (List.mem_append_right _ (List.mem_of_getElem? (i := 1149) (by decide +kernel))) (by decide +kernel)
abbrev mX7_bars : Mt := (yX7_bars, cX7_bars, 3, (some .int))
theorem cbX7_bars : CB mX7_bars 2 := ⟨in_all (List.mem_append_right _ (List.mem_of_getElem? (i := 9) (by decide +kernel))) (by decide +kernel), in_all (List.mem_append_right _ (List.mem_of_getElem? (i := 1154) (by decide +kernel))) (by decide +kernel), by decide +kernel, by decide⟩
theorem imX7_bars : Cond.instanceMethod mX7_bars.1 ∈ WSall := in_all (List.mem_append_right _ (List.mem_of_getElem? (i := 1152) (by decide +kernel))) (by decide +kernel)
theorem seX7_bars : Cond.selects mX7_bars.1.cls mX7_bars.1 mX7_bars.1 ∈ WSall := in_all (List.mem_append_right _ (List.mem_of_getElem? (i := 1153) (by decide +kernel))) (by decide +kernel)
abbrev mX7_by : Mt := (yX7_by, cX7_by, 3, (some .int))
theorem cbX7_by : CB mX7_by 1 := ⟨in_all (List.mem_append_right _ (List.mem_of_getElem? (i := 9) (by decide +kernel))) (by decide +kernel), in_all (List.mem_append_right _ (List.mem_of_getElem? (i := 1158) (by decide +kernel))) (by decide +kernel), by decide +kernel, by decide⟩
theorem imX7_by : Cond.instanceMethod mX7_by.1 ∈ WSall := in_all (List.mem_append_right _ (List.mem_of_getElem? (i := 1156) (by decide +kernel))) (by decide +kernel)
theorem seX7_by : Cond.selects mX7_by.1.cls mX7_by.1 mX7_by.1 ∈ WSall := in_all (List.mem_append_right _ (List.mem_of_getElem? (i := 1157) (by decide +kernel))) (by decide +kernel)
abbrev mX7_breach : Mt := (yX7_breach, cX7_breach, 3, (some .int))
theorem cbX7_breach : CB mX7_breach 0 := ⟨in_all (List.mem_append_right _ (List.mem_of_getElem? (i := 9) (by decide +kernel))) (by decide +kernel), in_all (List.mem_append_right _ (List.mem_of_getElem? (i := 1162) (by decide +kernel))) (by decide +kernel), by decide +kernel, by decide⟩
theorem imX7_breach : Cond.instanceMethod mX7_breach.1 ∈ WSall := in_all (List.mem_append_right _ (List.mem_of_getElem? (i := 1160) (by decide +kernel))) (by decide +kernel)
theorem seX7_breach : Cond.selects mX7_breach.1.cls mX7_breach.1 mX7_breach.1 ∈ WSall := in_all (List.mem_append_right _ (List.mem_of_getElem? (i := 1161) (by decide +kernel))) (by decide +kernel)
abbrev mX7_keenest : Mt := (yX7_keenest, cX7_keenest, 6, (some .int))
theorem cbX7_keenest : CB mX7_keenest 0 := ⟨in_all (List.mem_append_right _ (List.mem_of_getElem? (i := 9) (by decide +kernel))) (by decide +kernel), in_all (List.mem_append_right _ (List.mem_of_getElem? (i := 1166) (by decide +kernel))) (by decide +kernel), by decide +kernel, by decide⟩
theorem imX7_keenest : Cond.instanceMethod mX7_keenest.1 ∈ WSall := in_all (List.mem_append_right _ (List.mem_of_getElem? (i := 1164) (by decide +kernel))) (by decide +kernel)
theorem seX7_keenest : Cond.selects mX7_keenest.1.cls mX7_keenest.1 mX7_keenest.1 ∈ WSall := in_all (List.mem_append_right _ (List.mem_of_getElem? (i := 1165) (by decide +kernel))) (by decide +kernel)
abbrev mX7_wouldBe : Mt := (yX7_wouldBe, cX7_wouldBe, 4, (some .int))
theorem cbX7_wouldBe : CB mX7_wouldBe 1 := ⟨in_all (List.mem_append_right _ (List.mem_of_getElem? (i := 9) (by decide +kernel))) (by decide +kernel), in_all (List.mem_append_right _ (List.mem_of_getElem? (i := 1170) (by decide +kernel))) (by decide +kernel), by decide +kernel, by decide⟩
theorem imX7_wouldBe : Cond.instanceMethod mX7_wouldBe.1 ∈ WSall := in_all (List.mem_append_right _ (List.mem_of_getElem? (i := 1168) (by decide +kernel))) (by decide +kernel)
theorem seX7_wouldBe : Cond.selects mX7_wouldBe.1.cls mX7_wouldBe.1 mX7_wouldBe.1 ∈ WSall := in_all (List.mem_append_right _ (List.mem_of_getElem? (i := 1169) (by decide +kernel))) (by decide +kernel)
abbrev mX7_newMany : Mt := (yX7_newMany, cX7_newMany, 3, (some .int))
theorem cbX7_newMany : CB mX7_newMany 0 := ⟨in_all (List.mem_append_right _ (List.mem_of_getElem? (i := 9) (by decide +kernel))) (by decide +kernel), in_all (List.mem_append_right _ (List.mem_of_getElem? (i := 1174) (by decide +kernel))) (by decide +kernel), by decide +kernel, by decide⟩
theorem imX7_newMany : Cond.instanceMethod mX7_newMany.1 ∈ WSall := in_all (List.mem_append_right _ (List.mem_of_getElem? (i := 1173) (by decide +kernel))) (by decide +kernel)
theorem seX7_newMany : Cond.selects mX7_newMany.1.cls mX7_newMany.1 mX7_newMany.1 ∈ WSall := in_all (List.mem_append_left _ (List.mem_of_getElem? (i := 42) (by decide +kernel))) (by decide +kernel)
abbrev mX7_best : Mt := (yX7_best, cX7_best, 2, (some .int))
theorem cbX7_best : CB mX7_best 0 := ⟨in_all (List.mem_append_right _ (List.mem_of_getElem? (i := 9) (by decide +kernel))) (by decide +kernel), in_all (List.mem_append_right _ (List.mem_of_getElem? (i := 1178) (by decide +kernel))) (by decide +kernel), by decide +kernel, by decide⟩
theorem imX7_best : Cond.instanceMethod mX7_best.1 ∈ WSall := in_all (List.mem_append_right _ (List.mem_of_getElem? (i := 1176) (by decide +kernel))) (by decide +kernel)
theorem seX7_best : Cond.selects mX7_best.1.cls mX7_best.1 mX7_best.1 ∈ WSall := in_all (List.mem_append_right _ (List.mem_of_getElem? (i := 1177) (by decide +kernel))) (by decide +kernel)
abbrev mX7_bestPlace : Mt := (yX7_bestPlace, cX7_bestPlace, 8, (some .int))
theorem cbX7_bestPlace : CB mX7_bestPlace 0 := ⟨in_all (List.mem_append_right _ (List.mem_of_getElem? (i := 9) (by decide +kernel))) (by decide +kernel), in_all (List.mem_append_right _ (List.mem_of_getElem? (i := 1182) (by decide +kernel))) (by decide +kernel), by decide +kernel, by decide⟩
theorem imX7_bestPlace : Cond.instanceMethod mX7_bestPlace.1 ∈ WSall := in_all (List.mem_append_right _ (List.mem_of_getElem? (i := 1181) (by decide +kernel))) (by decide +kernel)
theorem seX7_bestPlace : Cond.selects mX7_bestPlace.1.cls mX7_bestPlace.1 mX7_bestPlace.1 ∈ WSall := in_all (List.mem_append_left _ (List.mem_of_getElem? (i := 43) (by decide +kernel))) (by decide +kernel)
abbrev mX7_serve : Mt := (yX7_serve, cX7_serve, 3, (some .int))
theorem cbX7_serve : CB mX7_serve 2 := ⟨in_all (List.mem_append_right _ (List.mem_of_getElem? (i := 9) (by decide +kernel))) (by decide +kernel), in_all (List.mem_append_right _ (List.mem_of_getElem? (i := 1186) (by decide +kernel))) (by decide +kernel), by decide +kernel, by decide⟩
theorem imX7_serve : Cond.instanceMethod mX7_serve.1 ∈ WSall := in_all (List.mem_append_right _ (List.mem_of_getElem? (i := 1184) (by decide +kernel))) (by decide +kernel)
theorem seX7_serve : Cond.selects mX7_serve.1.cls mX7_serve.1 mX7_serve.1 ∈ WSall := in_all (List.mem_append_right _ (List.mem_of_getElem? (i := 1185) (by decide +kernel))) (by decide +kernel)
abbrev mX7_eats : Mt := (yX7_eats, cX7_eats, 5, none)
theorem cbX7_eats : CB mX7_eats 3 := ⟨in_all (List.mem_append_right _ (List.mem_of_getElem? (i := 9) (by decide +kernel))) (by decide +kernel), in_all (List.mem_append_right _ (List.mem_of_getElem? (i := 1191) (by decide +kernel))) (by decide +kernel), by decide +kernel, by decide⟩
theorem imX7_eats : Cond.instanceMethod mX7_eats.1 ∈ WSall := in_all (List.mem_append_right _ (List.mem_of_getElem? (i := 1190) (by decide +kernel))) (by decide +kernel)
theorem seX7_eats : Cond.selects mX7_eats.1.cls mX7_eats.1 mX7_eats.1 ∈ WSall := in_all (List.mem_append_left _ (List.mem_of_getElem? (i := 44) (by decide +kernel))) (by decide +kernel)
abbrev mX7_meals : Mt := (yX7_meals, cX7_meals, 5, (some .int))
theorem cbX7_meals : CB mX7_meals 2 := ⟨in_all (List.mem_append_right _ (List.mem_of_getElem? (i := 9) (by decide +kernel))) (by decide +kernel), in_all (List.mem_append_right _ (List.mem_of_getElem? (i := 1195) (by decide +kernel))) (by decide +kernel), by decide +kernel, by decide⟩
theorem imX7_meals : Cond.instanceMethod mX7_meals.1 ∈ WSall := in_all (List.mem_append_right _ (List.mem_of_getElem? (i := 1193) (by decide +kernel))) (by decide +kernel)
theorem seX7_meals : Cond.selects mX7_meals.1.cls mX7_meals.1 mX7_meals.1 ∈ WSall := in_all (List.mem_append_right _ (List.mem_of_getElem? (i := 1194) (by decide +kernel))) (by decide +kernel)
abbrev mX7_on : Mt := (yX7_on, cX7_on, 5, (some .int))
theorem cbX7_on : CB mX7_on 2 := ⟨in_all (List.mem_append_right _ (List.mem_of_getElem? (i := 9) (by decide +kernel))) (by decide +kernel), in_all (List.mem_append_right _ (List.mem_of_getElem? (i := 1199) (by decide +kernel))) (by decide +kernel), by decide +kernel, by decide⟩
theorem imX7_on : Cond.instanceMethod mX7_on.1 ∈ WSall := in_all (List.mem_append_right _ (List.mem_of_getElem? (i := 1197) (by decide +kernel))) (by decide +kernel)
theorem seX7_on : Cond.selects mX7_on.1.cls mX7_on.1 mX7_on.1 ∈ WSall := in_all (List.mem_append_right _ (List.mem_of_getElem? (i := 1198) (by decide +kernel))) (by decide +kernel)
abbrev mX7_begins0 : Mt := (yX7_begins0, cX7_begins0, 2, none)
theorem cbX7_begins0 : CB mX7_begins0 0 := ⟨in_all (List.mem_append_right _ (List.mem_of_getElem? (i := 9) (by decide +kernel))) (by decide +kernel), in_all (List.mem_append_right _ (List.mem_of_getElem? (i := 1203) (by decide +kernel))) (by decide +kernel), by decide +kernel, by decide⟩
theorem imX7_begins0 : Cond.instanceMethod mX7_begins0.1 ∈ WSall := in_all (List.mem_append_right _ (List.mem_of_getElem? (i := 1202) (by decide +kernel))) (by decide +kernel)
theorem seX7_begins0 : Cond.selects mX7_begins0.1.cls mX7_begins0.1 mX7_begins0.1 ∈ WSall := in_all (List.mem_append_left _ (List.mem_of_getElem? (i := 45) (by decide +kernel))) (by decide +kernel)
abbrev mX7_goesOn : Mt := (yX7_goesOn, cX7_goesOn, 3, (some .int))
theorem cbX7_goesOn : CB mX7_goesOn 1 := ⟨in_all (List.mem_append_right _ (List.mem_of_getElem? (i := 9) (by decide +kernel))) (by decide +kernel), in_all (List.mem_append_right _ (List.mem_of_getElem? (i := 1207) (by decide +kernel))) (by decide +kernel), by decide +kernel, by decide⟩
theorem imX7_goesOn : Cond.instanceMethod mX7_goesOn.1 ∈ WSall := in_all (List.mem_append_right _ (List.mem_of_getElem? (i := 1206) (by decide +kernel))) (by decide +kernel)
theorem seX7_goesOn : Cond.selects mX7_goesOn.1.cls mX7_goesOn.1 mX7_goesOn.1 ∈ WSall := in_all (List.mem_append_left _ (List.mem_of_getElem? (i := 46) (by decide +kernel))) (by decide +kernel)
abbrev mX7_back : Mt := (yX7_back, cX7_back, 2, none)
theorem cbX7_back : CB mX7_back 0 := ⟨in_all (List.mem_append_right _ (List.mem_of_getElem? (i := 9) (by decide +kernel))) (by decide +kernel), in_all (List.mem_append_right _ (List.mem_of_getElem? (i := 1211) (by decide +kernel))) (by decide +kernel), by decide +kernel, by decide⟩
theorem imX7_back : Cond.instanceMethod mX7_back.1 ∈ WSall := in_all (List.mem_append_right _ (List.mem_of_getElem? (i := 1210) (by decide +kernel))) (by decide +kernel)
theorem seX7_back : Cond.selects mX7_back.1.cls mX7_back.1 mX7_back.1 ∈ WSall := in_all (List.mem_append_left _ (List.mem_of_getElem? (i := 47) (by decide +kernel))) (by decide +kernel)
abbrev mX7_lasts : Mt := (yX7_lasts, cX7_lasts, 2, (some .int))
theorem cbX7_lasts : CB mX7_lasts 1 := ⟨in_all (List.mem_append_right _ (List.mem_of_getElem? (i := 9) (by decide +kernel))) (by decide +kernel), in_all (List.mem_append_right _ (List.mem_of_getElem? (i := 1215) (by decide +kernel))) (by decide +kernel), by decide +kernel, by decide⟩
theorem imX7_lasts : Cond.instanceMethod mX7_lasts.1 ∈ WSall := in_all (List.mem_append_right _ (List.mem_of_getElem? (i := 1213) (by decide +kernel))) (by decide +kernel)
theorem seX7_lasts : Cond.selects mX7_lasts.1.cls mX7_lasts.1 mX7_lasts.1 ∈ WSall := in_all (List.mem_append_right _ (List.mem_of_getElem? (i := 1214) (by decide +kernel))) (by decide +kernel)
abbrev mX7_lastsBy : Mt := (yX7_lastsBy, cX7_lastsBy, 3, (some .int))
theorem cbX7_lastsBy : CB mX7_lastsBy 1 := ⟨in_all (List.mem_append_right _ (List.mem_of_getElem? (i := 9) (by decide +kernel))) (by decide +kernel), in_all (List.mem_append_right _ (List.mem_of_getElem? (i := 1219) (by decide +kernel))) (by decide +kernel), by decide +kernel, by decide⟩
theorem imX7_lastsBy : Cond.instanceMethod mX7_lastsBy.1 ∈ WSall := in_all (List.mem_append_right _ (List.mem_of_getElem? (i := 1218) (by decide +kernel))) (by decide +kernel)
theorem seX7_lastsBy : Cond.selects mX7_lastsBy.1.cls mX7_lastsBy.1 mX7_lastsBy.1 ∈ WSall := in_all (List.mem_append_left _ (List.mem_of_getElem? (i := 48) (by decide +kernel))) (by decide +kernel)
abbrev mX7_buy : Mt := (yX7_buy, cX7_buy, 6, (some .int))
theorem cbX7_buy : CB mX7_buy 1 := ⟨in_all (List.mem_append_right _ (List.mem_of_getElem? (i := 9) (by decide +kernel))) (by decide +kernel), in_all (List.mem_append_right _ (List.mem_of_getElem? (i := 1223) (by decide +kernel))) (by decide +kernel), by decide +kernel, by decide⟩
theorem imX7_buy : Cond.instanceMethod mX7_buy.1 ∈ WSall := in_all (List.mem_append_right _ (List.mem_of_getElem? (i := 1221) (by decide +kernel))) (by decide +kernel)
theorem seX7_buy : Cond.selects mX7_buy.1.cls mX7_buy.1 mX7_buy.1 ∈ WSall := in_all (List.mem_append_right _ (List.mem_of_getElem? (i := 1222) (by decide +kernel))) (by decide +kernel)
abbrev mX7_steps : Mt := (yX7_steps, cX7_steps, 4, (some .int))
theorem cbX7_steps : CB mX7_steps 2 := ⟨in_all (List.mem_append_right _ (List.mem_of_getElem? (i := 9) (by decide +kernel))) (by decide +kernel), in_all (List.mem_append_right _ (List.mem_of_getElem? (i := 1227) (by decide +kernel))) (by decide +kernel), by decide +kernel, by decide⟩
theorem imX7_steps : Cond.instanceMethod mX7_steps.1 ∈ WSall := in_all (List.mem_append_right _ (List.mem_of_getElem? (i := 1225) (by decide +kernel))) (by decide +kernel)
theorem seX7_steps : Cond.selects mX7_steps.1.cls mX7_steps.1 mX7_steps.1 ∈ WSall := in_all (List.mem_append_right _ (List.mem_of_getElem? (i := 1226) (by decide +kernel))) (by decide +kernel)
abbrev mX7_findSteps : Mt := (yX7_findSteps, cX7_findSteps, 3, none)
theorem cbX7_findSteps : CB mX7_findSteps 1 := ⟨in_all (List.mem_append_right _ (List.mem_of_getElem? (i := 9) (by decide +kernel))) (by decide +kernel), in_all (List.mem_append_right _ (List.mem_of_getElem? (i := 1231) (by decide +kernel))) (by decide +kernel), by decide +kernel, by decide⟩
theorem imX7_findSteps : Cond.instanceMethod mX7_findSteps.1 ∈ WSall := in_all (List.mem_append_right _ (List.mem_of_getElem? (i := 1230) (by decide +kernel))) (by decide +kernel)
theorem seX7_findSteps : Cond.selects mX7_findSteps.1.cls mX7_findSteps.1 mX7_findSteps.1 ∈ WSall := in_all (List.mem_append_left _ (List.mem_of_getElem? (i := 49) (by decide +kernel))) (by decide +kernel)
abbrev mX7_placeOf : Mt := (yX7_placeOf, cX7_placeOf, 2, (some .int))
theorem cbX7_placeOf : CB mX7_placeOf 1 := ⟨in_all (List.mem_append_right _ (List.mem_of_getElem? (i := 9) (by decide +kernel))) (by decide +kernel), in_all (List.mem_append_right _ (List.mem_of_getElem? (i := 1235) (by decide +kernel))) (by decide +kernel), by decide +kernel, by decide⟩
theorem imX7_placeOf : Cond.instanceMethod mX7_placeOf.1 ∈ WSall := in_all (List.mem_append_right _ (List.mem_of_getElem? (i := 1234) (by decide +kernel))) (by decide +kernel)
theorem seX7_placeOf : Cond.selects mX7_placeOf.1.cls mX7_placeOf.1 mX7_placeOf.1 ∈ WSall := in_all (List.mem_append_left _ (List.mem_of_getElem? (i := 50) (by decide +kernel))) (by decide +kernel)
abbrev mX7_goesFrom : Mt := (yX7_goesFrom, cX7_goesFrom, 8, none)
theorem cbX7_goesFrom : CB mX7_goesFrom 1 := ⟨in_all (List.mem_append_right _ (List.mem_of_getElem? (i := 9) (by decide +kernel))) (by decide +kernel), in_all (List.mem_append_right _ (List.mem_of_getElem? (i := 1239) (by decide +kernel))) (by decide +kernel), by decide +kernel, by decide⟩
theorem imX7_goesFrom : Cond.instanceMethod mX7_goesFrom.1 ∈ WSall := in_all (List.mem_append_right _ (List.mem_of_getElem? (i := 1238) (by decide +kernel))) (by decide +kernel)
theorem seX7_goesFrom : Cond.selects mX7_goesFrom.1.cls mX7_goesFrom.1 mX7_goesFrom.1 ∈ WSall := in_all (List.mem_append_left _ (List.mem_of_getElem? (i := 51) (by decide +kernel))) (by decide +kernel)
abbrev mX7_comesTo : Mt := (yX7_comesTo, cX7_comesTo, 3, none)
theorem cbX7_comesTo : CB mX7_comesTo 2 := ⟨in_all (List.mem_append_right _ (List.mem_of_getElem? (i := 9) (by decide +kernel))) (by decide +kernel), in_all (List.mem_append_right _ (List.mem_of_getElem? (i := 1243) (by decide +kernel))) (by decide +kernel), by decide +kernel, by decide⟩
theorem imX7_comesTo : Cond.instanceMethod mX7_comesTo.1 ∈ WSall := in_all (List.mem_append_right _ (List.mem_of_getElem? (i := 1242) (by decide +kernel))) (by decide +kernel)
theorem seX7_comesTo : Cond.selects mX7_comesTo.1.cls mX7_comesTo.1 mX7_comesTo.1 ∈ WSall := in_all (List.mem_append_left _ (List.mem_of_getElem? (i := 52) (by decide +kernel))) (by decide +kernel)
abbrev mX7_within : Mt := (yX7_within, cX7_within, 5, (some .int))
theorem cbX7_within : CB mX7_within 2 := ⟨in_all (List.mem_append_right _ (List.mem_of_getElem? (i := 9) (by decide +kernel))) (by decide +kernel), in_all (List.mem_append_right _ (List.mem_of_getElem? (i := 1247) (by decide +kernel))) (by decide +kernel), by decide +kernel, by decide⟩
theorem imX7_within : Cond.instanceMethod mX7_within.1 ∈ WSall := in_all (List.mem_append_right _ (List.mem_of_getElem? (i := 1245) (by decide +kernel))) (by decide +kernel)
theorem seX7_within : Cond.selects mX7_within.1.cls mX7_within.1 mX7_within.1 ∈ WSall := in_all (List.mem_append_right _ (List.mem_of_getElem? (i := 1246) (by decide +kernel))) (by decide +kernel)
abbrev mX7_walk : Mt := (yX7_walk, cX7_walk, 7, (some .int))
theorem cbX7_walk : CB mX7_walk 2 := ⟨in_all (List.mem_append_right _ (List.mem_of_getElem? (i := 9) (by decide +kernel))) (by decide +kernel), in_all (List.mem_append_right _ (List.mem_of_getElem? (i := 1251) (by decide +kernel))) (by decide +kernel), by decide +kernel, by decide⟩
theorem imX7_walk : Cond.instanceMethod mX7_walk.1 ∈ WSall := in_all (List.mem_append_right _ (List.mem_of_getElem? (i := 1249) (by decide +kernel))) (by decide +kernel)
theorem seX7_walk : Cond.selects mX7_walk.1.cls mX7_walk.1 mX7_walk.1 ∈ WSall := in_all (List.mem_append_right _ (List.mem_of_getElem? (i := 1250) (by decide +kernel))) (by decide +kernel)
abbrev mX7_now : Mt := (yX7_now, cX7_now, 4, (some .int))
theorem cbX7_now : CB mX7_now 1 := ⟨in_all (List.mem_append_right _ (List.mem_of_getElem? (i := 9) (by decide +kernel))) (by decide +kernel), in_all (List.mem_append_right _ (List.mem_of_getElem? (i := 1255) (by decide +kernel))) (by decide +kernel), by decide +kernel, by decide⟩
theorem imX7_now : Cond.instanceMethod mX7_now.1 ∈ WSall := in_all (List.mem_append_right _ (List.mem_of_getElem? (i := 1253) (by decide +kernel))) (by decide +kernel)
theorem seX7_now : Cond.selects mX7_now.1.cls mX7_now.1 mX7_now.1 ∈ WSall := in_all (List.mem_append_right _ (List.mem_of_getElem? (i := 1254) (by decide +kernel))) (by decide +kernel)
abbrev mX7_feed : Mt := (yX7_feed, cX7_feed, 4, (some .int))
theorem cbX7_feed : CB mX7_feed 2 := ⟨in_all (List.mem_append_right _ (List.mem_of_getElem? (i := 9) (by decide +kernel))) (by decide +kernel), in_all (List.mem_append_right _ (List.mem_of_getElem? (i := 1259) (by decide +kernel))) (by decide +kernel), by decide +kernel, by decide⟩
theorem imX7_feed : Cond.instanceMethod mX7_feed.1 ∈ WSall := in_all (List.mem_append_right _ (List.mem_of_getElem? (i := 1257) (by decide +kernel))) (by decide +kernel)
theorem seX7_feed : Cond.selects mX7_feed.1.cls mX7_feed.1 mX7_feed.1 ∈ WSall := in_all (List.mem_append_right _ (List.mem_of_getElem? (i := 1258) (by decide +kernel))) (by decide +kernel)
abbrev mX7_wipe : Mt := (yX7_wipe, cX7_wipe, 2, (some .int))
theorem cbX7_wipe : CB mX7_wipe 0 := ⟨in_all (List.mem_append_right _ (List.mem_of_getElem? (i := 9) (by decide +kernel))) (by decide +kernel), in_all (List.mem_append_right _ (List.mem_of_getElem? (i := 1263) (by decide +kernel))) (by decide +kernel), by decide +kernel, by decide⟩
theorem imX7_wipe : Cond.instanceMethod mX7_wipe.1 ∈ WSall := in_all (List.mem_append_right _ (List.mem_of_getElem? (i := 1261) (by decide +kernel))) (by decide +kernel)
theorem seX7_wipe : Cond.selects mX7_wipe.1.cls mX7_wipe.1 mX7_wipe.1 ∈ WSall := in_all (List.mem_append_right _ (List.mem_of_getElem? (i := 1262) (by decide +kernel))) (by decide +kernel)
abbrev mX7_book : Mt := (yX7_book, cX7_book, 3, (some .int))
theorem cbX7_book : CB mX7_book 0 := ⟨in_all (List.mem_append_right _ (List.mem_of_getElem? (i := 9) (by decide +kernel))) (by decide +kernel), in_all (List.mem_append_right _ (List.mem_of_getElem? (i := 1267) (by decide +kernel))) (by decide +kernel), by decide +kernel, by decide⟩
theorem imX7_book : Cond.instanceMethod mX7_book.1 ∈ WSall := in_all (List.mem_append_right _ (List.mem_of_getElem? (i := 1265) (by decide +kernel))) (by decide +kernel)
theorem seX7_book : Cond.selects mX7_book.1.cls mX7_book.1 mX7_book.1 ∈ WSall := in_all (List.mem_append_right _ (List.mem_of_getElem? (i := 1266) (by decide +kernel))) (by decide +kernel)
abbrev mX7_moveAll : Mt := (yX7_moveAll, cX7_moveAll, 3, none)
theorem cbX7_moveAll : CB mX7_moveAll 2 := ⟨in_all (List.mem_append_right _ (List.mem_of_getElem? (i := 9) (by decide +kernel))) (by decide +kernel), in_all (List.mem_append_right _ (List.mem_of_getElem? (i := 1271) (by decide +kernel))) (by decide +kernel), by decide +kernel, by decide⟩
theorem imX7_moveAll : Cond.instanceMethod mX7_moveAll.1 ∈ WSall := in_all (List.mem_append_right _ (List.mem_of_getElem? (i := 1270) (by decide +kernel))) (by decide +kernel)
theorem seX7_moveAll : Cond.selects mX7_moveAll.1.cls mX7_moveAll.1 mX7_moveAll.1 ∈ WSall := in_all (List.mem_append_left _ (List.mem_of_getElem? (i := 53) (by decide +kernel))) (by decide +kernel)
abbrev mX7_moveRow : Mt := (yX7_moveRow, cX7_moveRow, 6, none)
theorem cbX7_moveRow : CB mX7_moveRow 4 := ⟨in_all (List.mem_append_right _ (List.mem_of_getElem? (i := 9) (by decide +kernel))) (by decide +kernel), in_all (List.mem_append_right _ (List.mem_of_getElem? (i := 1275) (by decide +kernel))) (by decide +kernel), by decide +kernel, by decide⟩
theorem imX7_moveRow : Cond.instanceMethod mX7_moveRow.1 ∈ WSall := in_all (List.mem_append_right _ (List.mem_of_getElem? (i := 1274) (by decide +kernel))) (by decide +kernel)
theorem seX7_moveRow : Cond.selects mX7_moveRow.1.cls mX7_moveRow.1 mX7_moveRow.1 ∈ WSall := in_all (List.mem_append_left _ (List.mem_of_getElem? (i := 54) (by decide +kernel))) (by decide +kernel)
abbrev mX7_advance : Mt := (yX7_advance, cX7_advance, 2, none)
theorem cbX7_advance : CB mX7_advance 0 := ⟨in_all (List.mem_append_right _ (List.mem_of_getElem? (i := 9) (by decide +kernel))) (by decide +kernel), in_all (List.mem_append_right _ (List.mem_of_getElem? (i := 1279) (by decide +kernel))) (by decide +kernel), by decide +kernel, by decide⟩
theorem imX7_advance : Cond.instanceMethod mX7_advance.1 ∈ WSall := in_all (List.mem_append_right _ (List.mem_of_getElem? (i := 1278) (by decide +kernel))) (by decide +kernel)
theorem seX7_advance : Cond.selects mX7_advance.1.cls mX7_advance.1 mX7_advance.1 ∈ WSall := in_all (List.mem_append_left _ (List.mem_of_getElem? (i := 55) (by decide +kernel))) (by decide +kernel)
abbrev mX7_byteAt : Mt := (yX7_byteAt, cX7_byteAt, 2, (some .int))
theorem cbX7_byteAt : CB mX7_byteAt 1 := ⟨in_all (List.mem_append_right _ (List.mem_of_getElem? (i := 9) (by decide +kernel))) (by decide +kernel), in_all (List.mem_append_right _ (List.mem_of_getElem? (i := 1283) (by decide +kernel))) (by decide +kernel), by decide +kernel, by decide⟩
theorem imX7_byteAt : Cond.instanceMethod mX7_byteAt.1 ∈ WSall := in_all (List.mem_append_right _ (List.mem_of_getElem? (i := 1282) (by decide +kernel))) (by decide +kernel)
theorem seX7_byteAt : Cond.selects mX7_byteAt.1.cls mX7_byteAt.1 mX7_byteAt.1 ∈ WSall := in_all (List.mem_append_left _ (List.mem_of_getElem? (i := 56) (by decide +kernel))) (by decide +kernel)
abbrev mX7_isLetter : Mt := (yX7_isLetter, cX7_isLetter, 1, (some .boolean))
theorem cbX7_isLetter : CB mX7_isLetter 1 := ⟨in_all (List.mem_append_right _ (List.mem_of_getElem? (i := 9) (by decide +kernel))) (by decide +kernel), in_all (List.mem_append_right _ (List.mem_of_getElem? (i := 1286) (by decide +kernel))) (by decide +kernel), by decide +kernel, by decide⟩
theorem stX7_isLetter : Cond.static mX7_isLetter.1 ∈ WSall := in_all (List.mem_append_right _ (List.mem_of_getElem? (i := 1285) (by decide +kernel))) (by decide +kernel)
abbrev mX7_isDigit : Mt := (yX7_isDigit, cX7_isDigit, 1, (some .boolean))
theorem cbX7_isDigit : CB mX7_isDigit 1 := ⟨in_all (List.mem_append_right _ (List.mem_of_getElem? (i := 9) (by decide +kernel))) (by decide +kernel), in_all (List.mem_append_right _ (List.mem_of_getElem? (i := 1289) (by decide +kernel))) (by decide +kernel), by decide +kernel, by decide⟩
theorem stX7_isDigit : Cond.static mX7_isDigit.1 ∈ WSall := in_all (List.mem_append_right _ (List.mem_of_getElem? (i := 1288) (by decide +kernel))) (by decide +kernel)
abbrev mX7_wantItem : Mt := (yX7_wantItem, cX7_wantItem, 1, none)
theorem cbX7_wantItem : CB mX7_wantItem 0 := ⟨in_all (List.mem_append_right _ (List.mem_of_getElem? (i := 9) (by decide +kernel))) (by decide +kernel), in_all (List.mem_append_right _ (List.mem_of_getElem? (i := 1296) (by decide +kernel))) (by decide +kernel), by decide +kernel, by decide⟩
theorem imX7_wantItem : Cond.instanceMethod mX7_wantItem.1 ∈ WSall := in_all (List.mem_append_right _ (List.mem_of_getElem? (i := 1295) (by decide +kernel))) (by decide +kernel)
theorem seX7_wantItem : Cond.selects mX7_wantItem.1.cls mX7_wantItem.1 mX7_wantItem.1 ∈ WSall := in_all (List.mem_append_left _ (List.mem_of_getElem? (i := 57) (by decide +kernel))) (by decide +kernel)
abbrev mX7_kindHere : Mt := (yX7_kindHere, cX7_kindHere, 1, (some .int))
theorem cbX7_kindHere : CB mX7_kindHere 0 := ⟨in_all (List.mem_append_right _ (List.mem_of_getElem? (i := 9) (by decide +kernel))) (by decide +kernel), in_all (List.mem_append_right _ (List.mem_of_getElem? (i := 1300) (by decide +kernel))) (by decide +kernel), by decide +kernel, by decide⟩
theorem imX7_kindHere : Cond.instanceMethod mX7_kindHere.1 ∈ WSall := in_all (List.mem_append_right _ (List.mem_of_getElem? (i := 1299) (by decide +kernel))) (by decide +kernel)
theorem seX7_kindHere : Cond.selects mX7_kindHere.1.cls mX7_kindHere.1 mX7_kindHere.1 ∈ WSall := in_all (List.mem_append_left _ (List.mem_of_getElem? (i := 58) (by decide +kernel))) (by decide +kernel)
abbrev mX7_isWord : Mt := (yX7_isWord, cX7_isWord, 3, (some .boolean))
theorem cbX7_isWord : CB mX7_isWord 1 := ⟨in_all (List.mem_append_right _ (List.mem_of_getElem? (i := 9) (by decide +kernel))) (by decide +kernel), in_all (List.mem_append_right _ (List.mem_of_getElem? (i := 1305) (by decide +kernel))) (by decide +kernel), by decide +kernel, by decide⟩
theorem imX7_isWord : Cond.instanceMethod mX7_isWord.1 ∈ WSall := in_all (List.mem_append_right _ (List.mem_of_getElem? (i := 1304) (by decide +kernel))) (by decide +kernel)
theorem seX7_isWord : Cond.selects mX7_isWord.1.cls mX7_isWord.1 mX7_isWord.1 ∈ WSall := in_all (List.mem_append_left _ (List.mem_of_getElem? (i := 59) (by decide +kernel))) (by decide +kernel)
abbrev mX7_wantEntry : Mt := (yX7_wantEntry, cX7_wantEntry, 5, none)
theorem cbX7_wantEntry : CB mX7_wantEntry 1 := ⟨in_all (List.mem_append_right _ (List.mem_of_getElem? (i := 9) (by decide +kernel))) (by decide +kernel), in_all (List.mem_append_right _ (List.mem_of_getElem? (i := 1314) (by decide +kernel))) (by decide +kernel), by decide +kernel, by decide⟩
theorem imX7_wantEntry : Cond.instanceMethod mX7_wantEntry.1 ∈ WSall := in_all (List.mem_append_right _ (List.mem_of_getElem? (i := 1313) (by decide +kernel))) (by decide +kernel)
theorem seX7_wantEntry : Cond.selects mX7_wantEntry.1.cls mX7_wantEntry.1 mX7_wantEntry.1 ∈ WSall := in_all (List.mem_append_left _ (List.mem_of_getElem? (i := 60) (by decide +kernel))) (by decide +kernel)
abbrev mX7_wantWord : Mt := (yX7_wantWord, cX7_wantWord, 3, none)
theorem cbX7_wantWord : CB mX7_wantWord 1 := ⟨in_all (List.mem_append_right _ (List.mem_of_getElem? (i := 9) (by decide +kernel))) (by decide +kernel), in_all (List.mem_append_right _ (List.mem_of_getElem? (i := 1319) (by decide +kernel))) (by decide +kernel), by decide +kernel, by decide⟩
theorem imX7_wantWord : Cond.instanceMethod mX7_wantWord.1 ∈ WSall := in_all (List.mem_append_right _ (List.mem_of_getElem? (i := 1318) (by decide +kernel))) (by decide +kernel)
theorem seX7_wantWord : Cond.selects mX7_wantWord.1.cls mX7_wantWord.1 mX7_wantWord.1 ∈ WSall := in_all (List.mem_append_left _ (List.mem_of_getElem? (i := 61) (by decide +kernel))) (by decide +kernel)
abbrev mX7_wantNumber : Mt := (yX7_wantNumber, cX7_wantNumber, 4, (some .int))
theorem cbX7_wantNumber : CB mX7_wantNumber 2 := ⟨in_all (List.mem_append_right _ (List.mem_of_getElem? (i := 9) (by decide +kernel))) (by decide +kernel), in_all (List.mem_append_right _ (List.mem_of_getElem? (i := 1323) (by decide +kernel))) (by decide +kernel), by decide +kernel, by decide⟩
theorem imX7_wantNumber : Cond.instanceMethod mX7_wantNumber.1 ∈ WSall := in_all (List.mem_append_right _ (List.mem_of_getElem? (i := 1322) (by decide +kernel))) (by decide +kernel)
theorem seX7_wantNumber : Cond.selects mX7_wantNumber.1.cls mX7_wantNumber.1 mX7_wantNumber.1 ∈ WSall := in_all (List.mem_append_left _ (List.mem_of_getElem? (i := 62) (by decide +kernel))) (by decide +kernel)
abbrev mX7_wantStore : Mt := (yX7_wantStore, cX7_wantStore, 3, none)
theorem cbX7_wantStore : CB mX7_wantStore 0 := ⟨in_all (List.mem_append_right _ (List.mem_of_getElem? (i := 9) (by decide +kernel))) (by decide +kernel), in_all (List.mem_append_right _ (List.mem_of_getElem? (i := 1329) (by decide +kernel))) (by decide +kernel), by decide +kernel, by decide⟩
theorem imX7_wantStore : Cond.instanceMethod mX7_wantStore.1 ∈ WSall := in_all (List.mem_append_right _ (List.mem_of_getElem? (i := 1328) (by decide +kernel))) (by decide +kernel)
theorem seX7_wantStore : Cond.selects mX7_wantStore.1.cls mX7_wantStore.1 mX7_wantStore.1 ∈ WSall := in_all (List.mem_append_left _ (List.mem_of_getElem? (i := 63) (by decide +kernel))) (by decide +kernel)
abbrev mX7_wantLiking : Mt := (yX7_wantLiking, cX7_wantLiking, 5, none)
theorem cbX7_wantLiking : CB mX7_wantLiking 1 := ⟨in_all (List.mem_append_right _ (List.mem_of_getElem? (i := 9) (by decide +kernel))) (by decide +kernel), in_all (List.mem_append_right _ (List.mem_of_getElem? (i := 1335) (by decide +kernel))) (by decide +kernel), by decide +kernel, by decide⟩
theorem imX7_wantLiking : Cond.instanceMethod mX7_wantLiking.1 ∈ WSall := in_all (List.mem_append_right _ (List.mem_of_getElem? (i := 1334) (by decide +kernel))) (by decide +kernel)
theorem seX7_wantLiking : Cond.selects mX7_wantLiking.1.cls mX7_wantLiking.1 mX7_wantLiking.1 ∈ WSall := in_all (List.mem_append_left _ (List.mem_of_getElem? (i := 64) (by decide +kernel))) (by decide +kernel)
abbrev mX7_wantEdict : Mt := (yX7_wantEdict, cX7_wantEdict, 3, none)
theorem cbX7_wantEdict : CB mX7_wantEdict 0 := ⟨in_all (List.mem_append_right _ (List.mem_of_getElem? (i := 9) (by decide +kernel))) (by decide +kernel), in_all (List.mem_append_right _ (List.mem_of_getElem? (i := 1341) (by decide +kernel))) (by decide +kernel), by decide +kernel, by decide⟩
theorem imX7_wantEdict : Cond.instanceMethod mX7_wantEdict.1 ∈ WSall := in_all (List.mem_append_right _ (List.mem_of_getElem? (i := 1340) (by decide +kernel))) (by decide +kernel)
theorem seX7_wantEdict : Cond.selects mX7_wantEdict.1.cls mX7_wantEdict.1 mX7_wantEdict.1 ∈ WSall := in_all (List.mem_append_left _ (List.mem_of_getElem? (i := 65) (by decide +kernel))) (by decide +kernel)
abbrev mX7_wantEither : Mt := (yX7_wantEither, cX7_wantEither, 6, (some .boolean))
theorem cbX7_wantEither : CB mX7_wantEither 2 := ⟨in_all (List.mem_append_right _ (List.mem_of_getElem? (i := 9) (by decide +kernel))) (by decide +kernel), in_all (List.mem_append_right _ (List.mem_of_getElem? (i := 1347) (by decide +kernel))) (by decide +kernel), by decide +kernel, by decide⟩
theorem imX7_wantEither : Cond.instanceMethod mX7_wantEither.1 ∈ WSall := in_all (List.mem_append_right _ (List.mem_of_getElem? (i := 1346) (by decide +kernel))) (by decide +kernel)
theorem seX7_wantEither : Cond.selects mX7_wantEither.1.cls mX7_wantEither.1 mX7_wantEither.1 ∈ WSall := in_all (List.mem_append_left _ (List.mem_of_getElem? (i := 66) (by decide +kernel))) (by decide +kernel)
abbrev mX7_wantDay : Mt := (yX7_wantDay, cX7_wantDay, 2, none)
theorem cbX7_wantDay : CB mX7_wantDay 0 := ⟨in_all (List.mem_append_right _ (List.mem_of_getElem? (i := 9) (by decide +kernel))) (by decide +kernel), in_all (List.mem_append_right _ (List.mem_of_getElem? (i := 1354) (by decide +kernel))) (by decide +kernel), by decide +kernel, by decide⟩
theorem imX7_wantDay : Cond.instanceMethod mX7_wantDay.1 ∈ WSall := in_all (List.mem_append_right _ (List.mem_of_getElem? (i := 1353) (by decide +kernel))) (by decide +kernel)
theorem seX7_wantDay : Cond.selects mX7_wantDay.1.cls mX7_wantDay.1 mX7_wantDay.1 ∈ WSall := in_all (List.mem_append_left _ (List.mem_of_getElem? (i := 67) (by decide +kernel))) (by decide +kernel)
abbrev mX7_sheet : Mt := (yX7_sheet, cX7_sheet, 5, (some .int))
theorem cbX7_sheet : CB mX7_sheet 3 := ⟨in_all (List.mem_append_right _ (List.mem_of_getElem? (i := 9) (by decide +kernel))) (by decide +kernel), in_all (List.mem_append_right _ (List.mem_of_getElem? (i := 1358) (by decide +kernel))) (by decide +kernel), by decide +kernel, by decide⟩
theorem imX7_sheet : Cond.instanceMethod mX7_sheet.1 ∈ WSall := in_all (List.mem_append_right _ (List.mem_of_getElem? (i := 1356) (by decide +kernel))) (by decide +kernel)
theorem seX7_sheet : Cond.selects mX7_sheet.1.cls mX7_sheet.1 mX7_sheet.1 ∈ WSall := in_all (List.mem_append_right _ (List.mem_of_getElem? (i := 1357) (by decide +kernel))) (by decide +kernel)
abbrev mX7_isSheet : Mt := (yX7_isSheet, cX7_isSheet, 1, (some .boolean))
theorem cbX7_isSheet : CB mX7_isSheet 1 := ⟨in_all (List.mem_append_right _ (List.mem_of_getElem? (i := 9) (by decide +kernel))) (by decide +kernel), in_all (List.mem_append_right _ (List.mem_of_getElem? (i := 1361) (by decide +kernel))) (by decide +kernel), by decide +kernel, by decide⟩
theorem stX7_isSheet : Cond.static mX7_isSheet.1 ∈ WSall := in_all (List.mem_append_right _ (List.mem_of_getElem? (i := 1360) (by decide +kernel))) (by decide +kernel)
abbrev mX7_write : Mt := (yX7_write, cX7_write, 7, (some .long))
theorem cbX7_write : CB mX7_write 3 := ⟨in_all (List.mem_append_right _ (List.mem_of_getElem? (i := 9) (by decide +kernel))) (by decide +kernel), in_all (List.mem_append_right _ (List.mem_of_getElem? (i := 1366) (by decide +kernel))) (by decide +kernel), by decide +kernel, by decide⟩
theorem imX7_write : Cond.instanceMethod mX7_write.1 ∈ WSall := in_all (List.mem_append_right _ (List.mem_of_getElem? (i := 1364) (by decide +kernel))) (by decide +kernel)
theorem seX7_write : Cond.selects mX7_write.1.cls mX7_write.1 mX7_write.1 ∈ WSall := in_all (List.mem_append_right _ (List.mem_of_getElem? (i := 1365) (by decide +kernel))) (by decide +kernel)
abbrev mX7_narrow : Mt := (yX7_narrow, cX7_narrow, 3, (some .long))
theorem cbX7_narrow : CB mX7_narrow 2 := ⟨in_all (List.mem_append_right _ (List.mem_of_getElem? (i := 9) (by decide +kernel))) (by decide +kernel), in_all (List.mem_append_right _ (List.mem_of_getElem? (i := 1370) (by decide +kernel))) (by decide +kernel), by decide +kernel, by decide⟩
theorem stX7_narrow : Cond.static mX7_narrow.1 ∈ WSall := in_all (List.mem_append_right _ (List.mem_of_getElem? (i := 1369) (by decide +kernel))) (by decide +kernel)
abbrev mX7_copy : Mt := (yX7_copy, cX7_copy, 7, (some .int))
theorem cbX7_copy : CB mX7_copy 5 := ⟨in_all (List.mem_append_right _ (List.mem_of_getElem? (i := 9) (by decide +kernel))) (by decide +kernel), in_all (List.mem_append_right _ (List.mem_of_getElem? (i := 1374) (by decide +kernel))) (by decide +kernel), by decide +kernel, by decide⟩
theorem imX7_copy : Cond.instanceMethod mX7_copy.1 ∈ WSall := in_all (List.mem_append_right _ (List.mem_of_getElem? (i := 1372) (by decide +kernel))) (by decide +kernel)
theorem seX7_copy : Cond.selects mX7_copy.1.cls mX7_copy.1 mX7_copy.1 ∈ WSall := in_all (List.mem_append_right _ (List.mem_of_getElem? (i := 1373) (by decide +kernel))) (by decide +kernel)
abbrev mX7_isPart : Mt := (yX7_isPart, cX7_isPart, 4, (some .boolean))
theorem cbX7_isPart : CB mX7_isPart 3 := ⟨in_all (List.mem_append_right _ (List.mem_of_getElem? (i := 9) (by decide +kernel))) (by decide +kernel), in_all (List.mem_append_right _ (List.mem_of_getElem? (i := 1378) (by decide +kernel))) (by decide +kernel), by decide +kernel, by decide⟩
theorem imX7_isPart : Cond.instanceMethod mX7_isPart.1 ∈ WSall := in_all (List.mem_append_right _ (List.mem_of_getElem? (i := 1377) (by decide +kernel))) (by decide +kernel)
theorem seX7_isPart : Cond.selects mX7_isPart.1.cls mX7_isPart.1 mX7_isPart.1 ∈ WSall := in_all (List.mem_append_left _ (List.mem_of_getElem? (i := 68) (by decide +kernel))) (by decide +kernel)
abbrev mX7_lays : Mt := (yX7_lays, cX7_lays, 6, (some .int))
theorem cbX7_lays : CB mX7_lays 1 := ⟨in_all (List.mem_append_right _ (List.mem_of_getElem? (i := 9) (by decide +kernel))) (by decide +kernel), in_all (List.mem_append_right _ (List.mem_of_getElem? (i := 1382) (by decide +kernel))) (by decide +kernel), by decide +kernel, by decide⟩
theorem imX7_lays : Cond.instanceMethod mX7_lays.1 ∈ WSall := in_all (List.mem_append_right _ (List.mem_of_getElem? (i := 1380) (by decide +kernel))) (by decide +kernel)
theorem seX7_lays : Cond.selects mX7_lays.1.cls mX7_lays.1 mX7_lays.1 ∈ WSall := in_all (List.mem_append_right _ (List.mem_of_getElem? (i := 1381) (by decide +kernel))) (by decide +kernel)
abbrev mX7_menu : Mt := (yX7_menu, cX7_menu, 6, (some .int))
theorem cbX7_menu : CB mX7_menu 2 := ⟨in_all (List.mem_append_right _ (List.mem_of_getElem? (i := 9) (by decide +kernel))) (by decide +kernel), in_all (List.mem_append_right _ (List.mem_of_getElem? (i := 1387) (by decide +kernel))) (by decide +kernel), by decide +kernel, by decide⟩
theorem imX7_menu : Cond.instanceMethod mX7_menu.1 ∈ WSall := in_all (List.mem_append_right _ (List.mem_of_getElem? (i := 1385) (by decide +kernel))) (by decide +kernel)
theorem seX7_menu : Cond.selects mX7_menu.1.cls mX7_menu.1 mX7_menu.1 ∈ WSall := in_all (List.mem_append_right _ (List.mem_of_getElem? (i := 1386) (by decide +kernel))) (by decide +kernel)
abbrev mX7_noMenu : Mt := (yX7_noMenu, cX7_noMenu, 3, (some .int))
theorem cbX7_noMenu : CB mX7_noMenu 2 := ⟨in_all (List.mem_append_right _ (List.mem_of_getElem? (i := 9) (by decide +kernel))) (by decide +kernel), in_all (List.mem_append_right _ (List.mem_of_getElem? (i := 1391) (by decide +kernel))) (by decide +kernel), by decide +kernel, by decide⟩
theorem imX7_noMenu : Cond.instanceMethod mX7_noMenu.1 ∈ WSall := in_all (List.mem_append_right _ (List.mem_of_getElem? (i := 1390) (by decide +kernel))) (by decide +kernel)
theorem seX7_noMenu : Cond.selects mX7_noMenu.1.cls mX7_noMenu.1 mX7_noMenu.1 ∈ WSall := in_all (List.mem_append_left _ (List.mem_of_getElem? (i := 69) (by decide +kernel))) (by decide +kernel)
abbrev mX7_read : Mt := (yX7_read, cX7_read, 8, (some .int))
theorem cbX7_read : CB mX7_read 2 := ⟨in_all (List.mem_append_right _ (List.mem_of_getElem? (i := 9) (by decide +kernel))) (by decide +kernel), in_all (List.mem_append_right _ (List.mem_of_getElem? (i := 1395) (by decide +kernel))) (by decide +kernel), by decide +kernel, by decide⟩
theorem imX7_read : Cond.instanceMethod mX7_read.1 ∈ WSall := in_all (List.mem_append_right _ (List.mem_of_getElem? (i := 1393) (by decide +kernel))) (by decide +kernel)
theorem seX7_read : Cond.selects mX7_read.1.cls mX7_read.1 mX7_read.1 ∈ WSall := in_all (List.mem_append_right _ (List.mem_of_getElem? (i := 1394) (by decide +kernel))) (by decide +kernel)
abbrev mX7_canServe : Mt := (yX7_canServe, cX7_canServe, 5, (some .boolean))
theorem cbX7_canServe : CB mX7_canServe 2 := ⟨in_all (List.mem_append_right _ (List.mem_of_getElem? (i := 9) (by decide +kernel))) (by decide +kernel), in_all (List.mem_append_right _ (List.mem_of_getElem? (i := 1399) (by decide +kernel))) (by decide +kernel), by decide +kernel, by decide⟩
theorem imX7_canServe : Cond.instanceMethod mX7_canServe.1 ∈ WSall := in_all (List.mem_append_right _ (List.mem_of_getElem? (i := 1398) (by decide +kernel))) (by decide +kernel)
theorem seX7_canServe : Cond.selects mX7_canServe.1.cls mX7_canServe.1 mX7_canServe.1 ∈ WSall := in_all (List.mem_append_left _ (List.mem_of_getElem? (i := 70) (by decide +kernel))) (by decide +kernel)
abbrev mX7_image : Mt := (yX7_image, cX7_image, 1, (some .int))
theorem cbX7_image : CB mX7_image 0 := ⟨in_all (List.mem_append_right _ (List.mem_of_getElem? (i := 9) (by decide +kernel))) (by decide +kernel), in_all (List.mem_append_right _ (List.mem_of_getElem? (i := 1404) (by decide +kernel))) (by decide +kernel), by decide +kernel, by decide⟩
theorem imX7_image : Cond.instanceMethod mX7_image.1 ∈ WSall := in_all (List.mem_append_right _ (List.mem_of_getElem? (i := 1402) (by decide +kernel))) (by decide +kernel)
theorem seX7_image : Cond.selects mX7_image.1.cls mX7_image.1 mX7_image.1 ∈ WSall := in_all (List.mem_append_right _ (List.mem_of_getElem? (i := 1403) (by decide +kernel))) (by decide +kernel)
abbrev mX7_undo : Mt := (yX7_undo, cX7_undo, 1, (some .int))
theorem cbX7_undo : CB mX7_undo 0 := ⟨in_all (List.mem_append_right _ (List.mem_of_getElem? (i := 9) (by decide +kernel))) (by decide +kernel), in_all (List.mem_append_right _ (List.mem_of_getElem? (i := 1408) (by decide +kernel))) (by decide +kernel), by decide +kernel, by decide⟩
theorem imX7_undo : Cond.instanceMethod mX7_undo.1 ∈ WSall := in_all (List.mem_append_right _ (List.mem_of_getElem? (i := 1406) (by decide +kernel))) (by decide +kernel)
theorem seX7_undo : Cond.selects mX7_undo.1.cls mX7_undo.1 mX7_undo.1 ∈ WSall := in_all (List.mem_append_right _ (List.mem_of_getElem? (i := 1407) (by decide +kernel))) (by decide +kernel)
abbrev mX7_tear : Mt := (yX7_tear, cX7_tear, 2, (some .int))
theorem cbX7_tear : CB mX7_tear 0 := ⟨in_all (List.mem_append_right _ (List.mem_of_getElem? (i := 9) (by decide +kernel))) (by decide +kernel), in_all (List.mem_append_right _ (List.mem_of_getElem? (i := 1412) (by decide +kernel))) (by decide +kernel), by decide +kernel, by decide⟩
theorem imX7_tear : Cond.instanceMethod mX7_tear.1 ∈ WSall := in_all (List.mem_append_right _ (List.mem_of_getElem? (i := 1410) (by decide +kernel))) (by decide +kernel)
theorem seX7_tear : Cond.selects mX7_tear.1.cls mX7_tear.1 mX7_tear.1 ∈ WSall := in_all (List.mem_append_right _ (List.mem_of_getElem? (i := 1411) (by decide +kernel))) (by decide +kernel)
abbrev mX7_count : Mt := (yX7_count, cX7_count, 2, (some .int))
theorem cbX7_count : CB mX7_count 1 := ⟨in_all (List.mem_append_right _ (List.mem_of_getElem? (i := 9) (by decide +kernel))) (by decide +kernel), in_all (List.mem_append_right _ (List.mem_of_getElem? (i := 1416) (by decide +kernel))) (by decide +kernel), by decide +kernel, by decide⟩
theorem imX7_count : Cond.instanceMethod mX7_count.1 ∈ WSall := in_all (List.mem_append_right _ (List.mem_of_getElem? (i := 1414) (by decide +kernel))) (by decide +kernel)
theorem seX7_count : Cond.selects mX7_count.1.cls mX7_count.1 mX7_count.1 ∈ WSall := in_all (List.mem_append_right _ (List.mem_of_getElem? (i := 1415) (by decide +kernel))) (by decide +kernel)
abbrev mX7_status : Mt := (yX7_status, cX7_status, 4, (some .int))
theorem cbX7_status : CB mX7_status 1 := ⟨in_all (List.mem_append_right _ (List.mem_of_getElem? (i := 9) (by decide +kernel))) (by decide +kernel), in_all (List.mem_append_right _ (List.mem_of_getElem? (i := 1420) (by decide +kernel))) (by decide +kernel), by decide +kernel, by decide⟩
theorem imX7_status : Cond.instanceMethod mX7_status.1 ∈ WSall := in_all (List.mem_append_right _ (List.mem_of_getElem? (i := 1418) (by decide +kernel))) (by decide +kernel)
theorem seX7_status : Cond.selects mX7_status.1.cls mX7_status.1 mX7_status.1 ∈ WSall := in_all (List.mem_append_right _ (List.mem_of_getElem? (i := 1419) (by decide +kernel))) (by decide +kernel)
theorem lkL_9 : LK RL 9 mX6_init := Or.inl (in_all (List.mem_append_right _ (List.mem_of_getElem? (i := 19) (by decide +kernel))) (by decide +kernel))
theorem lkX6_11 : LK RX6 11 mX1_init := Or.inl (in_all (List.mem_append_right _ (List.mem_of_getElem? (i := 27) (by decide +kernel))) (by decide +kernel))
theorem lkX1_43 : LK RX1 43 mJ7_fill_53178 := Or.inl (in_all (List.mem_append_right _ (List.mem_of_getElem? (i := 31) (by decide +kernel))) (by decide +kernel))
theorem lkX6_28 : LK RX6 28 mX2_init := Or.inl (in_all (List.mem_append_right _ (List.mem_of_getElem? (i := 85) (by decide +kernel))) (by decide +kernel))
theorem lkX2_17 : LK RX2 17 mX0_init := Or.inr ⟨"NewDishes", List.mem_of_getElem? (i := 0) (by decide +kernel)⟩
theorem lkX2_39 : LK RX2 39 mJ7_fill_53178 := Or.inl (in_all (List.mem_append_right _ (List.mem_of_getElem? (i := 104) (by decide +kernel))) (by decide +kernel))
theorem lkX6_35 : LK RX6 35 mX3_init := Or.inr ⟨"NewDishes", List.mem_of_getElem? (i := 1) (by decide +kernel)⟩
theorem lkX6_42 : LK RX6 42 mX5_init := Or.inr ⟨"NewDishes", List.mem_of_getElem? (i := 2) (by decide +kernel)⟩
theorem lkX6_57 : LK RX6 57 mX4_init := Or.inr ⟨"NewDishes", List.mem_of_getElem? (i := 3) (by decide +kernel)⟩
theorem lkL_13 : LK RL 13 mX6_store := Or.inl (in_all (List.mem_append_right _ (List.mem_of_getElem? (i := 219) (by decide +kernel))) (by decide +kernel))
theorem lkX6_58 : LK RX6 58 mX6_isBelow := Or.inl (in_all (List.mem_append_right _ (List.mem_of_getElem? (i := 223) (by decide +kernel))) (by decide +kernel))
theorem lkX6_63 : LK RX6 63 mX6_finding := Or.inl (in_all (List.mem_append_right _ (List.mem_of_getElem? (i := 227) (by decide +kernel))) (by decide +kernel))
theorem lkL_18 : LK RL 18 mX6_storeOf := Or.inl (in_all (List.mem_append_right _ (List.mem_of_getElem? (i := 231) (by decide +kernel))) (by decide +kernel))
theorem lkL_23 : LK RL 23 mX6_like := Or.inl (in_all (List.mem_append_right _ (List.mem_of_getElem? (i := 235) (by decide +kernel))) (by decide +kernel))
theorem lkX6_70 : LK RX6 70 mX1_likedOf := Or.inl (in_all (List.mem_append_right _ (List.mem_of_getElem? (i := 239) (by decide +kernel))) (by decide +kernel))
theorem lkL_28 : LK RL 28 mX6_edict := Or.inl (in_all (List.mem_append_right _ (List.mem_of_getElem? (i := 243) (by decide +kernel))) (by decide +kernel))
theorem lkX6_74 : LK RX6 74 mX1_decree := Or.inl (in_all (List.mem_append_right _ (List.mem_of_getElem? (i := 247) (by decide +kernel))) (by decide +kernel))
theorem lkX1_55 : LK RX1 55 mX6_hasBit := Or.inr ⟨"NewDishes", List.mem_of_getElem? (i := 4) (by decide +kernel)⟩
theorem lkL_33 : LK RL 33 mX6_dish := Or.inl (in_all (List.mem_append_right _ (List.mem_of_getElem? (i := 254) (by decide +kernel))) (by decide +kernel))
theorem lkX6_78 : LK RX6 78 mX6_isSet := Or.inl (in_all (List.mem_append_right _ (List.mem_of_getElem? (i := 258) (by decide +kernel))) (by decide +kernel))
theorem lkX6_293 : LK RX6 293 mJ6_bitCount_0f7a4 := Or.inl (in_all (List.mem_append_right _ (List.mem_of_getElem? (i := 261) (by decide +kernel))) (by decide +kernel))
theorem lkX6_82 : LK RX6 82 mX6_dishNumber := Or.inl (in_all (List.mem_append_right _ (List.mem_of_getElem? (i := 267) (by decide +kernel))) (by decide +kernel))
theorem lkL_37 : LK RL 37 mX6_of := Or.inl (in_all (List.mem_append_right _ (List.mem_of_getElem? (i := 270) (by decide +kernel))) (by decide +kernel))
theorem lkX6_86 : LK RX6 86 mX6_isDish := Or.inl (in_all (List.mem_append_right _ (List.mem_of_getElem? (i := 274) (by decide +kernel))) (by decide +kernel))
theorem lkX6_89 : LK RX6 89 mX6_setOf := Or.inl (in_all (List.mem_append_right _ (List.mem_of_getElem? (i := 277) (by decide +kernel))) (by decide +kernel))
theorem lkX6_92 : LK RX6 92 mX6_wayOf := Or.inl (in_all (List.mem_append_right _ (List.mem_of_getElem? (i := 280) (by decide +kernel))) (by decide +kernel))
theorem lkX6_95 : LK RX6 95 mX6_sauceOf := Or.inl (in_all (List.mem_append_right _ (List.mem_of_getElem? (i := 283) (by decide +kernel))) (by decide +kernel))
theorem lkX6_98 : LK RX6 98 mX1_liking := Or.inl (in_all (List.mem_append_right _ (List.mem_of_getElem? (i := 286) (by decide +kernel))) (by decide +kernel))
theorem lkX1_59 : LK RX1 59 mX6_wayOf := Or.inr ⟨"NewDishes", List.mem_of_getElem? (i := 5) (by decide +kernel)⟩
theorem lkX1_63 : LK RX1 63 mX6_sauceOf := Or.inr ⟨"NewDishes", List.mem_of_getElem? (i := 6) (by decide +kernel)⟩
theorem lkX1_66 : LK RX1 66 mX6_setOf := Or.inr ⟨"NewDishes", List.mem_of_getElem? (i := 7) (by decide +kernel)⟩
theorem lkX6_101 : LK RX6 101 mX1_canBe := Or.inl (in_all (List.mem_append_right _ (List.mem_of_getElem? (i := 293) (by decide +kernel))) (by decide +kernel))
theorem lkX1_69 : LK RX1 69 mX6_inStore := Or.inr ⟨"NewDishes", List.mem_of_getElem? (i := 8) (by decide +kernel)⟩
theorem lkX6_104 : LK RX6 104 mX1_isNew := Or.inl (in_all (List.mem_append_right _ (List.mem_of_getElem? (i := 300) (by decide +kernel))) (by decide +kernel))
theorem lkX1_73 : LK RX1 73 mX1_firstBarring := Or.inl (in_all (List.mem_append_right _ (List.mem_of_getElem? (i := 304) (by decide +kernel))) (by decide +kernel))
theorem lkX1_95 : LK RX1 95 mX1_isBarredBy := Or.inl (in_all (List.mem_append_right _ (List.mem_of_getElem? (i := 308) (by decide +kernel))) (by decide +kernel))
theorem lkX1_91 : LK RX1 91 mX6_barsDish := Or.inr ⟨"NewDishes", List.mem_of_getElem? (i := 9) (by decide +kernel)⟩
theorem lkX6_309 : LK RX6 309 mX6_barsSet := Or.inl (in_all (List.mem_append_right _ (List.mem_of_getElem? (i := 315) (by decide +kernel))) (by decide +kernel))
theorem lkX6_303 : LK RX6 303 mX6_barsParts := Or.inl (in_all (List.mem_append_right _ (List.mem_of_getElem? (i := 318) (by decide +kernel))) (by decide +kernel))
theorem lkX6_306 : LK RX6 306 mX6_isPartEitherWay := Or.inl (in_all (List.mem_append_right _ (List.mem_of_getElem? (i := 321) (by decide +kernel))) (by decide +kernel))
theorem lkX6_313 : LK RX6 313 mX6_mannerOf := Or.inl (in_all (List.mem_append_right _ (List.mem_of_getElem? (i := 324) (by decide +kernel))) (by decide +kernel))
theorem lkX6_316 : LK RX6 316 mX6_mannersBarred := Or.inl (in_all (List.mem_append_right _ (List.mem_of_getElem? (i := 327) (by decide +kernel))) (by decide +kernel))
theorem lkX6_319 : LK RX6 319 mX6_hasBit := Or.inl (in_all (List.mem_append_right _ (List.mem_of_getElem? (i := 332) (by decide +kernel))) (by decide +kernel))
theorem lkL_41 : LK RL 41 mX6_near := Or.inl (in_all (List.mem_append_right _ (List.mem_of_getElem? (i := 333) (by decide +kernel))) (by decide +kernel))
theorem lkX6_107 : LK RX6 107 mX6_nearness := Or.inl (in_all (List.mem_append_right _ (List.mem_of_getElem? (i := 337) (by decide +kernel))) (by decide +kernel))
theorem lkL_45 : LK RL 45 mX6_nearHad := Or.inl (in_all (List.mem_append_right _ (List.mem_of_getElem? (i := 340) (by decide +kernel))) (by decide +kernel))
theorem lkX6_111 : LK RX6 111 mX1_hadNear := Or.inl (in_all (List.mem_append_right _ (List.mem_of_getElem? (i := 344) (by decide +kernel))) (by decide +kernel))
theorem lkX1_98 : LK RX1 98 mX6_nearness := Or.inr ⟨"NewDishes", List.mem_of_getElem? (i := 10) (by decide +kernel)⟩
theorem lkL_49 : LK RL 49 mX6_many := Or.inl (in_all (List.mem_append_right _ (List.mem_of_getElem? (i := 349) (by decide +kernel))) (by decide +kernel))
theorem lkX6_114 : LK RX6 114 mX2_begin := Or.inl (in_all (List.mem_append_right _ (List.mem_of_getElem? (i := 353) (by decide +kernel))) (by decide +kernel))
theorem lkX2_57 : LK RX2 57 mX0_barAll := Or.inl (in_all (List.mem_append_right _ (List.mem_of_getElem? (i := 360) (by decide +kernel))) (by decide +kernel))
theorem lkX0_18 : LK RX0 18 mJ7_fill_53178 := Or.inl (in_all (List.mem_append_right _ (List.mem_of_getElem? (i := 364) (by decide +kernel))) (by decide +kernel))
theorem lkX0_36 : LK RX0 36 mX0_bar := Or.inl (in_all (List.mem_append_right _ (List.mem_of_getElem? (i := 365) (by decide +kernel))) (by decide +kernel))
theorem lkX0_40 : LK RX0 40 mX6_mannerOf := Or.inr ⟨"NewDishes", List.mem_of_getElem? (i := 11) (by decide +kernel)⟩
theorem lkX0_44 : LK RX0 44 mX6_mannersBarred := Or.inr ⟨"NewDishes", List.mem_of_getElem? (i := 12) (by decide +kernel)⟩
theorem lkX0_48 : LK RX0 48 mX6_setOf := Or.inr ⟨"NewDishes", List.mem_of_getElem? (i := 13) (by decide +kernel)⟩
theorem lkX0_51 : LK RX0 51 mX6_barsParts := Or.inr ⟨"NewDishes", List.mem_of_getElem? (i := 14) (by decide +kernel)⟩
theorem lkX0_55 : LK RX0 55 mX0_barIn := Or.inl (in_all (List.mem_append_right _ (List.mem_of_getElem? (i := 373) (by decide +kernel))) (by decide +kernel))
theorem lkX0_62 : LK RX0 62 mX6_isPartEitherWay := Or.inr ⟨"NewDishes", List.mem_of_getElem? (i := 16) (by decide +kernel)⟩
theorem lkX2_64 : LK RX2 64 mX2_weighSets := Or.inl (in_all (List.mem_append_right _ (List.mem_of_getElem? (i := 380) (by decide +kernel))) (by decide +kernel))
theorem lkX2_78 : LK RX2 78 mX6_hasBit := Or.inr ⟨"NewDishes", List.mem_of_getElem? (i := 18) (by decide +kernel)⟩
theorem lkX2_68 : LK RX2 68 mX2_weighManners := Or.inl (in_all (List.mem_append_right _ (List.mem_of_getElem? (i := 386) (by decide +kernel))) (by decide +kernel))
theorem lkX2_85 : LK RX2 85 mX6_wayOf := Or.inr ⟨"NewDishes", List.mem_of_getElem? (i := 19) (by decide +kernel)⟩
theorem lkX2_92 : LK RX2 92 mX6_sauceOf := Or.inr ⟨"NewDishes", List.mem_of_getElem? (i := 20) (by decide +kernel)⟩
theorem lkX2_72 : LK RX2 72 mX2_rankManners := Or.inl (in_all (List.mem_append_right _ (List.mem_of_getElem? (i := 392) (by decide +kernel))) (by decide +kernel))
theorem lkX6_118 : LK RX6 118 mX2_possible := Or.inl (in_all (List.mem_append_right _ (List.mem_of_getElem? (i := 396) (by decide +kernel))) (by decide +kernel))
theorem lkX2_98 : LK RX2 98 mX6_inStore := Or.inr ⟨"NewDishes", List.mem_of_getElem? (i := 21) (by decide +kernel)⟩
theorem lkX6_126 : LK RX6 126 mX0_unbarred := Or.inl (in_all (List.mem_append_right _ (List.mem_of_getElem? (i := 401) (by decide +kernel))) (by decide +kernel))
theorem lkX0_66 : LK RX0 66 mX6_countOf := Or.inr ⟨"NewDishes", List.mem_of_getElem? (i := 22) (by decide +kernel)⟩
theorem lkX6_131 : LK RX6 131 mX2_servable := Or.inl (in_all (List.mem_append_right _ (List.mem_of_getElem? (i := 408) (by decide +kernel))) (by decide +kernel))
theorem lkX2_102 : LK RX2 102 mX2_servableManners := Or.inl (in_all (List.mem_append_right _ (List.mem_of_getElem? (i := 412) (by decide +kernel))) (by decide +kernel))
theorem lkX2_106 : LK RX2 106 mJ6_bitCount_0f7a4 := Or.inl (in_all (List.mem_append_right _ (List.mem_of_getElem? (i := 416) (by decide +kernel))) (by decide +kernel))
theorem lkL_53 : LK RL 53 mX6_next := Or.inl (in_all (List.mem_append_right _ (List.mem_of_getElem? (i := 417) (by decide +kernel))) (by decide +kernel))
theorem lkX6_134 : LK RX6 134 mX2_firstFrom := Or.inl (in_all (List.mem_append_right _ (List.mem_of_getElem? (i := 421) (by decide +kernel))) (by decide +kernel))
theorem lkX6_137 : LK RX6 137 mX6_orNone := Or.inl (in_all (List.mem_append_right _ (List.mem_of_getElem? (i := 425) (by decide +kernel))) (by decide +kernel))
theorem lkL_57 : LK RL 57 mX6_enter := Or.inl (in_all (List.mem_append_right _ (List.mem_of_getElem? (i := 430) (by decide +kernel))) (by decide +kernel))
theorem lkX6_140 : LK RX6 140 mX1_isFull := Or.inl (in_all (List.mem_append_right _ (List.mem_of_getElem? (i := 434) (by decide +kernel))) (by decide +kernel))
theorem lkX6_145 : LK RX6 145 mX1_note := Or.inl (in_all (List.mem_append_right _ (List.mem_of_getElem? (i := 439) (by decide +kernel))) (by decide +kernel))
theorem lkX1_81 : LK RX1 81 mX1_isFull := Or.inl (in_all (List.mem_append_right _ (List.mem_of_getElem? (i := 443) (by decide +kernel))) (by decide +kernel))
theorem lkL_61 : LK RL 61 mX6_entryOf := Or.inl (in_all (List.mem_append_right _ (List.mem_of_getElem? (i := 444) (by decide +kernel))) (by decide +kernel))
theorem lkX6_164 : LK RX6 164 mX6_howManyBars := Or.inl (in_all (List.mem_append_right _ (List.mem_of_getElem? (i := 448) (by decide +kernel))) (by decide +kernel))
theorem lkL_65 : LK RL 65 mX6_turn := Or.inl (in_all (List.mem_append_right _ (List.mem_of_getElem? (i := 452) (by decide +kernel))) (by decide +kernel))
theorem lkL_69 : LK RL 69 mX6_as := Or.inl (in_all (List.mem_append_right _ (List.mem_of_getElem? (i := 456) (by decide +kernel))) (by decide +kernel))
theorem lkX6_167 : LK RX6 167 mX6_isOfKind := Or.inl (in_all (List.mem_append_right _ (List.mem_of_getElem? (i := 460) (by decide +kernel))) (by decide +kernel))
theorem lkL_73 : LK RL 73 mX6_strike := Or.inl (in_all (List.mem_append_right _ (List.mem_of_getElem? (i := 466) (by decide +kernel))) (by decide +kernel))
theorem lkL_78 : LK RL 78 mX6_bars := Or.inl (in_all (List.mem_append_right _ (List.mem_of_getElem? (i := 470) (by decide +kernel))) (by decide +kernel))
theorem lkX6_172 : LK RX6 172 mX1_isBarredBy := Or.inl (in_all (List.mem_append_right _ (List.mem_of_getElem? (i := 474) (by decide +kernel))) (by decide +kernel))
theorem lkL_82 : LK RL 82 mX6_by := Or.inl (in_all (List.mem_append_right _ (List.mem_of_getElem? (i := 475) (by decide +kernel))) (by decide +kernel))
theorem lkX6_175 : LK RX6 175 mX1_firstBarring := Or.inl (in_all (List.mem_append_right _ (List.mem_of_getElem? (i := 479) (by decide +kernel))) (by decide +kernel))
theorem lkL_86 : LK RL 86 mX6_breach := Or.inl (in_all (List.mem_append_right _ (List.mem_of_getElem? (i := 480) (by decide +kernel))) (by decide +kernel))
theorem lkX6_178 : LK RX6 178 mX1_firstBreach := Or.inl (in_all (List.mem_append_right _ (List.mem_of_getElem? (i := 484) (by decide +kernel))) (by decide +kernel))
theorem lkL_90 : LK RL 90 mX6_keenest := Or.inl (in_all (List.mem_append_right _ (List.mem_of_getElem? (i := 488) (by decide +kernel))) (by decide +kernel))
theorem lkX6_181 : LK RX6 181 mX0_barredAloneBy := Or.inl (in_all (List.mem_append_right _ (List.mem_of_getElem? (i := 492) (by decide +kernel))) (by decide +kernel))
theorem lkX0_70 : LK RX0 70 mX6_barsSet := Or.inr ⟨"NewDishes", List.mem_of_getElem? (i := 23) (by decide +kernel)⟩
theorem lkX0_74 : LK RX0 74 mJ6_bitCount_0f7a4 := Or.inl (in_all (List.mem_append_right _ (List.mem_of_getElem? (i := 497) (by decide +kernel))) (by decide +kernel))
theorem lkL_94 : LK RL 94 mX6_wouldBe := Or.inl (in_all (List.mem_append_right _ (List.mem_of_getElem? (i := 498) (by decide +kernel))) (by decide +kernel))
theorem lkX6_184 : LK RX6 184 mX0_barAll := Or.inl (in_all (List.mem_append_right _ (List.mem_of_getElem? (i := 502) (by decide +kernel))) (by decide +kernel))
theorem lkL_98 : LK RL 98 mX6_best := Or.inl (in_all (List.mem_append_right _ (List.mem_of_getElem? (i := 503) (by decide +kernel))) (by decide +kernel))
theorem lkX6_188 : LK RX6 188 mX2_favourite := Or.inl (in_all (List.mem_append_right _ (List.mem_of_getElem? (i := 507) (by decide +kernel))) (by decide +kernel))
theorem lkX2_111 : LK RX2 111 mX2_favouriteAmong := Or.inl (in_all (List.mem_append_right _ (List.mem_of_getElem? (i := 511) (by decide +kernel))) (by decide +kernel))
theorem lkX2_114 : LK RX2 114 mX2_favouriteManner := Or.inl (in_all (List.mem_append_right _ (List.mem_of_getElem? (i := 515) (by decide +kernel))) (by decide +kernel))
theorem lkL_102 : LK RL 102 mX6_serve := Or.inl (in_all (List.mem_append_right _ (List.mem_of_getElem? (i := 519) (by decide +kernel))) (by decide +kernel))
theorem lkX6_191 : LK RX6 191 mX1_canServe := Or.inl (in_all (List.mem_append_right _ (List.mem_of_getElem? (i := 523) (by decide +kernel))) (by decide +kernel))
theorem lkX1_77 : LK RX1 77 mX1_canBe := Or.inl (in_all (List.mem_append_right _ (List.mem_of_getElem? (i := 527) (by decide +kernel))) (by decide +kernel))
theorem lkX6_198 : LK RX6 198 mX1_haveMeal := Or.inl (in_all (List.mem_append_right _ (List.mem_of_getElem? (i := 529) (by decide +kernel))) (by decide +kernel))
theorem lkX1_85 : LK RX1 85 mX1_note := Or.inl (in_all (List.mem_append_right _ (List.mem_of_getElem? (i := 533) (by decide +kernel))) (by decide +kernel))
theorem lkX1_88 : LK RX1 88 mX6_takeFrom := Or.inr ⟨"NewDishes", List.mem_of_getElem? (i := 24) (by decide +kernel)⟩
theorem lkL_106 : LK RL 106 mX6_meals := Or.inl (in_all (List.mem_append_right _ (List.mem_of_getElem? (i := 537) (by decide +kernel))) (by decide +kernel))
theorem lkX6_201 : LK RX6 201 mX2_cookFavourite := Or.inl (in_all (List.mem_append_right _ (List.mem_of_getElem? (i := 541) (by decide +kernel))) (by decide +kernel))
theorem lkX2_130 : LK RX2 130 mX2_favourite := Or.inl (in_all (List.mem_append_right _ (List.mem_of_getElem? (i := 545) (by decide +kernel))) (by decide +kernel))
theorem lkX2_134 : LK RX2 134 mX2_cook := Or.inl (in_all (List.mem_append_right _ (List.mem_of_getElem? (i := 546) (by decide +kernel))) (by decide +kernel))
theorem lkX2_123 : LK RX2 123 mX6_takeFrom := Or.inr ⟨"NewDishes", List.mem_of_getElem? (i := 25) (by decide +kernel)⟩
theorem lkX2_126 : LK RX2 126 mX0_bar := Or.inl (in_all (List.mem_append_right _ (List.mem_of_getElem? (i := 551) (by decide +kernel))) (by decide +kernel))
theorem lkL_110 : LK RL 110 mX6_on := Or.inl (in_all (List.mem_append_right _ (List.mem_of_getElem? (i := 552) (by decide +kernel))) (by decide +kernel))
theorem lkL_114 : LK RL 114 mX6_lasts := Or.inl (in_all (List.mem_append_right _ (List.mem_of_getElem? (i := 556) (by decide +kernel))) (by decide +kernel))
theorem lkX6_204 : LK RX6 204 mX2_mealsLeft := Or.inl (in_all (List.mem_append_right _ (List.mem_of_getElem? (i := 560) (by decide +kernel))) (by decide +kernel))
theorem lkX2_138 : LK RX2 138 mX2_cookFavourite := Or.inl (in_all (List.mem_append_right _ (List.mem_of_getElem? (i := 564) (by decide +kernel))) (by decide +kernel))
theorem lkL_118 : LK RL 118 mX6_buy := Or.inl (in_all (List.mem_append_right _ (List.mem_of_getElem? (i := 565) (by decide +kernel))) (by decide +kernel))
theorem lkL_122 : LK RL 122 mX6_steps := Or.inl (in_all (List.mem_append_right _ (List.mem_of_getElem? (i := 569) (by decide +kernel))) (by decide +kernel))
theorem lkX6_210 : LK RX6 210 mX3_stepsBetween := Or.inl (in_all (List.mem_append_right _ (List.mem_of_getElem? (i := 573) (by decide +kernel))) (by decide +kernel))
theorem lkX3_18 : LK RX3 18 mX3_setOut := Or.inl (in_all (List.mem_append_right _ (List.mem_of_getElem? (i := 577) (by decide +kernel))) (by decide +kernel))
theorem lkX3_37 : LK RX3 37 mJ7_fill_53178 := Or.inl (in_all (List.mem_append_right _ (List.mem_of_getElem? (i := 581) (by decide +kernel))) (by decide +kernel))
theorem lkX3_26 : LK RX3 26 mX6_setOf := Or.inr ⟨"NewDishes", List.mem_of_getElem? (i := 26) (by decide +kernel)⟩
theorem lkX3_30 : LK RX3 30 mX6_mannerOf := Or.inr ⟨"NewDishes", List.mem_of_getElem? (i := 27) (by decide +kernel)⟩
theorem lkX3_33 : LK RX3 33 mX6_hasBit := Or.inr ⟨"NewDishes", List.mem_of_getElem? (i := 28) (by decide +kernel)⟩
theorem lkX3_22 : LK RX3 22 mX3_goFurther := Or.inl (in_all (List.mem_append_right _ (List.mem_of_getElem? (i := 585) (by decide +kernel))) (by decide +kernel))
theorem lkX3_54 : LK RX3 54 mX6_inStore := Or.inr ⟨"NewDishes", List.mem_of_getElem? (i := 29) (by decide +kernel)⟩
theorem lkX3_61 : LK RX3 61 mX2_servableManners := Or.inl (in_all (List.mem_append_right _ (List.mem_of_getElem? (i := 592) (by decide +kernel))) (by decide +kernel))
theorem lkX3_65 : LK RX3 65 mX3_otherManners := Or.inl (in_all (List.mem_append_right _ (List.mem_of_getElem? (i := 593) (by decide +kernel))) (by decide +kernel))
theorem lkX3_68 : LK RX3 68 mX3_fromOtherSets := Or.inl (in_all (List.mem_append_right _ (List.mem_of_getElem? (i := 597) (by decide +kernel))) (by decide +kernel))
theorem lkL_126 : LK RL 126 mX6_within := Or.inl (in_all (List.mem_append_right _ (List.mem_of_getElem? (i := 601) (by decide +kernel))) (by decide +kernel))
theorem lkX6_214 : LK RX6 214 mX3_reach := Or.inl (in_all (List.mem_append_right _ (List.mem_of_getElem? (i := 605) (by decide +kernel))) (by decide +kernel))
theorem lkX6_221 : LK RX6 221 mX6_countOf := Or.inl (in_all (List.mem_append_right _ (List.mem_of_getElem? (i := 609) (by decide +kernel))) (by decide +kernel))
theorem lkL_130 : LK RL 130 mX6_walk := Or.inl (in_all (List.mem_append_right _ (List.mem_of_getElem? (i := 610) (by decide +kernel))) (by decide +kernel))
theorem lkX6_225 : LK RX6 225 mX2_favouriteAmong := Or.inl (in_all (List.mem_append_right _ (List.mem_of_getElem? (i := 614) (by decide +kernel))) (by decide +kernel))
theorem lkL_134 : LK RL 134 mX6_now := Or.inl (in_all (List.mem_append_right _ (List.mem_of_getElem? (i := 615) (by decide +kernel))) (by decide +kernel))
theorem lkX6_228 : LK RX6 228 mX1_guests := Or.inl (in_all (List.mem_append_right _ (List.mem_of_getElem? (i := 619) (by decide +kernel))) (by decide +kernel))
theorem lkX6_231 : LK RX6 231 mX1_allStores := Or.inl (in_all (List.mem_append_right _ (List.mem_of_getElem? (i := 623) (by decide +kernel))) (by decide +kernel))
theorem lkL_138 : LK RL 138 mX6_feed := Or.inl (in_all (List.mem_append_right _ (List.mem_of_getElem? (i := 627) (by decide +kernel))) (by decide +kernel))
theorem lkX6_237 : LK RX6 237 mX5_put := Or.inl (in_all (List.mem_append_right _ (List.mem_of_getElem? (i := 631) (by decide +kernel))) (by decide +kernel))
theorem lkL_142 : LK RL 142 mX6_wipe := Or.inl (in_all (List.mem_append_right _ (List.mem_of_getElem? (i := 635) (by decide +kernel))) (by decide +kernel))
theorem lkL_146 : LK RL 146 mX6_book := Or.inl (in_all (List.mem_append_right _ (List.mem_of_getElem? (i := 639) (by decide +kernel))) (by decide +kernel))
theorem lkX6_241 : LK RX6 241 mX1_become := Or.inl (in_all (List.mem_append_right _ (List.mem_of_getElem? (i := 643) (by decide +kernel))) (by decide +kernel))
theorem lkX6_244 : LK RX6 244 mX5_tellTo := Or.inl (in_all (List.mem_append_right _ (List.mem_of_getElem? (i := 648) (by decide +kernel))) (by decide +kernel))
theorem lkX5_31 : LK RX5 31 mX5_advance := Or.inl (in_all (List.mem_append_right _ (List.mem_of_getElem? (i := 652) (by decide +kernel))) (by decide +kernel))
theorem lkX5_150 : LK RX5 150 mX5_typeAt := Or.inl (in_all (List.mem_append_right _ (List.mem_of_getElem? (i := 656) (by decide +kernel))) (by decide +kernel))
theorem lkX5_153 : LK RX5 153 mJ9_min_7cf53 := Or.inl (in_all (List.mem_append_right _ (List.mem_of_getElem? (i := 660) (by decide +kernel))) (by decide +kernel))
theorem lkX5_158 : LK RX5 158 mX5_valueOfDigits := Or.inl (in_all (List.mem_append_right _ (List.mem_of_getElem? (i := 663) (by decide +kernel))) (by decide +kernel))
theorem lkX5_34 : LK RX5 34 mX5_takeItem := Or.inl (in_all (List.mem_append_right _ (List.mem_of_getElem? (i := 667) (by decide +kernel))) (by decide +kernel))
theorem lkX5_38 : LK RX5 38 mX5_kindNamed := Or.inl (in_all (List.mem_append_right _ (List.mem_of_getElem? (i := 671) (by decide +kernel))) (by decide +kernel))
theorem lkX5_74 : LK RX5 74 mX5_isWord := Or.inl (in_all (List.mem_append_right _ (List.mem_of_getElem? (i := 676) (by decide +kernel))) (by decide +kernel))
theorem lkX5_142 : LK RX5 142 mJ0_length_8abf5 := Or.inl (in_all (List.mem_append_right _ (List.mem_of_getElem? (i := 680) (by decide +kernel))) (by decide +kernel))
theorem lkJ0_335 : LK RJ0 335 mJ0_coder_7d493 := Or.inl (in_all (List.mem_append_right _ (List.mem_of_getElem? (i := 684) (by decide +kernel))) (by decide +kernel))
theorem lkX5_146 : LK RX5 146 mJ0_charAt_5068e := Or.inl (in_all (List.mem_append_right _ (List.mem_of_getElem? (i := 690) (by decide +kernel))) (by decide +kernel))
theorem lkJ0_492 : LK RJ0 492 mJ0_isLatin1_aae02 := Or.inl (in_all (List.mem_append_right _ (List.mem_of_getElem? (i := 694) (by decide +kernel))) (by decide +kernel))
theorem lkJ0_495 : LK RJ0 495 mJ1_charAt_3b067 := Or.inl (in_all (List.mem_append_right _ (List.mem_of_getElem? (i := 698) (by decide +kernel))) (by decide +kernel))
theorem lkJ1_9 : LK RJ1 9 mJ0_checkIndex_df160 := Or.inl (in_all (List.mem_append_right _ (List.mem_of_getElem? (i := 701) (by decide +kernel))) (by decide +kernel))
theorem lkJ0_1059 : LK RJ0 1059 mJ3_checkIndex_8e157 := Or.inl (in_all (List.mem_append_right _ (List.mem_of_getElem? (i := 706) (by decide +kernel))) (by decide +kernel))
theorem lkJ0_498 : LK RJ0 498 mJ2_charAt_3b067 := Or.inl (in_all (List.mem_append_right _ (List.mem_of_getElem? (i := 709) (by decide +kernel))) (by decide +kernel))
theorem lkJ2_67 : LK RJ2 67 mJ2_checkIndex_2214a := Or.inl (in_all (List.mem_append_right _ (List.mem_of_getElem? (i := 712) (by decide +kernel))) (by decide +kernel))
theorem lkJ2_48 : LK RJ2 48 mJ2_length_9d52b := Or.inl (in_all (List.mem_append_right _ (List.mem_of_getElem? (i := 715) (by decide +kernel))) (by decide +kernel))
theorem lkJ2_414 : LK RJ2 414 mJ0_checkIndex_df160 := Or.inl (in_all (List.mem_append_right _ (List.mem_of_getElem? (i := 718) (by decide +kernel))) (by decide +kernel))
theorem lkJ2_71 : LK RJ2 71 mJ2_getChar_3b067 := Or.inl (in_all (List.mem_append_right _ (List.mem_of_getElem? (i := 719) (by decide +kernel))) (by decide +kernel))
theorem lkX5_42 : LK RX5 42 mX5_takeEntry := Or.inl (in_all (List.mem_append_right _ (List.mem_of_getElem? (i := 733) (by decide +kernel))) (by decide +kernel))
theorem lkX5_87 : LK RX5 87 mX1_isFull := Or.inl (in_all (List.mem_append_right _ (List.mem_of_getElem? (i := 737) (by decide +kernel))) (by decide +kernel))
theorem lkX5_93 : LK RX5 93 mX5_takeThings := Or.inl (in_all (List.mem_append_right _ (List.mem_of_getElem? (i := 738) (by decide +kernel))) (by decide +kernel))
theorem lkX5_112 : LK RX5 112 mX6_hasBit := Or.inr ⟨"NewDishes", List.mem_of_getElem? (i := 31) (by decide +kernel)⟩
theorem lkX5_48 : LK RX5 48 mX5_takeWord := Or.inl (in_all (List.mem_append_right _ (List.mem_of_getElem? (i := 744) (by decide +kernel))) (by decide +kernel))
theorem lkX5_98 : LK RX5 98 mX5_takeNumber := Or.inl (in_all (List.mem_append_right _ (List.mem_of_getElem? (i := 748) (by decide +kernel))) (by decide +kernel))
theorem lkX5_104 : LK RX5 104 mX6_dishNumber := Or.inr ⟨"NewDishes", List.mem_of_getElem? (i := 32) (by decide +kernel)⟩
theorem lkX5_108 : LK RX5 108 mX1_note := Or.inl (in_all (List.mem_append_right _ (List.mem_of_getElem? (i := 754) (by decide +kernel))) (by decide +kernel))
theorem lkX5_52 : LK RX5 52 mX5_takeStore := Or.inl (in_all (List.mem_append_right _ (List.mem_of_getElem? (i := 756) (by decide +kernel))) (by decide +kernel))
theorem lkX5_57 : LK RX5 57 mX5_takeLiking := Or.inl (in_all (List.mem_append_right _ (List.mem_of_getElem? (i := 761) (by decide +kernel))) (by decide +kernel))
theorem lkX5_119 : LK RX5 119 mX5_whatNamed := Or.inl (in_all (List.mem_append_right _ (List.mem_of_getElem? (i := 765) (by decide +kernel))) (by decide +kernel))
theorem lkX5_122 : LK RX5 122 mX1_likedOf := Or.inl (in_all (List.mem_append_right _ (List.mem_of_getElem? (i := 770) (by decide +kernel))) (by decide +kernel))
theorem lkX5_64 : LK RX5 64 mX5_takeEdict := Or.inl (in_all (List.mem_append_right _ (List.mem_of_getElem? (i := 773) (by decide +kernel))) (by decide +kernel))
theorem lkX5_136 : LK RX5 136 mX1_decree := Or.inl (in_all (List.mem_append_right _ (List.mem_of_getElem? (i := 781) (by decide +kernel))) (by decide +kernel))
theorem lkX5_69 : LK RX5 69 mX5_takeDay := Or.inl (in_all (List.mem_append_right _ (List.mem_of_getElem? (i := 783) (by decide +kernel))) (by decide +kernel))
theorem lkL_150 : LK RL 150 mX6_sheet := Or.inl (in_all (List.mem_append_right _ (List.mem_of_getElem? (i := 788) (by decide +kernel))) (by decide +kernel))
theorem lkX6_249 : LK RX6 249 mX4_lay := Or.inl (in_all (List.mem_append_right _ (List.mem_of_getElem? (i := 793) (by decide +kernel))) (by decide +kernel))
theorem lkX4_22 : LK RX4 22 mJ7_fill_d0a16 := Or.inl (in_all (List.mem_append_right _ (List.mem_of_getElem? (i := 797) (by decide +kernel))) (by decide +kernel))
theorem lkL_156 : LK RL 156 mX6_write := Or.inl (in_all (List.mem_append_right _ (List.mem_of_getElem? (i := 800) (by decide +kernel))) (by decide +kernel))
theorem lkX6_254 : LK RX6 254 mX6_sheetFault := Or.inl (in_all (List.mem_append_right _ (List.mem_of_getElem? (i := 804) (by decide +kernel))) (by decide +kernel))
theorem lkX6_264 : LK RX6 264 mX4_isMissing := Or.inl (in_all (List.mem_append_right _ (List.mem_of_getElem? (i := 808) (by decide +kernel))) (by decide +kernel))
theorem lkX6_261 : LK RX6 261 mX4_put := Or.inl (in_all (List.mem_append_right _ (List.mem_of_getElem? (i := 813) (by decide +kernel))) (by decide +kernel))
theorem lkX4_28 : LK RX4 28 mX6_isBelow := Or.inr ⟨"NewDishes", List.mem_of_getElem? (i := 33) (by decide +kernel)⟩
theorem lkX4_32 : LK RX4 32 mX4_cut := Or.inl (in_all (List.mem_append_right _ (List.mem_of_getElem? (i := 818) (by decide +kernel))) (by decide +kernel))
theorem lkL_161 : LK RL 161 mX6_copy := Or.inl (in_all (List.mem_append_right _ (List.mem_of_getElem? (i := 822) (by decide +kernel))) (by decide +kernel))
theorem lkX6_271 : LK RX6 271 mX4_hasPart := Or.inl (in_all (List.mem_append_right _ (List.mem_of_getElem? (i := 826) (by decide +kernel))) (by decide +kernel))
theorem lkL_166 : LK RL 166 mX6_lays := Or.inl (in_all (List.mem_append_right _ (List.mem_of_getElem? (i := 831) (by decide +kernel))) (by decide +kernel))
theorem lkL_170 : LK RL 170 mX6_menu := Or.inl (in_all (List.mem_append_right _ (List.mem_of_getElem? (i := 836) (by decide +kernel))) (by decide +kernel))
theorem lkX6_282 : LK RX6 282 mX6_menuFault := Or.inl (in_all (List.mem_append_right _ (List.mem_of_getElem? (i := 840) (by decide +kernel))) (by decide +kernel))
theorem lkL_174 : LK RL 174 mX6_read := Or.inl (in_all (List.mem_append_right _ (List.mem_of_getElem? (i := 844) (by decide +kernel))) (by decide +kernel))
theorem lkX6_287 : LK RX6 287 mX2_canCook := Or.inl (in_all (List.mem_append_right _ (List.mem_of_getElem? (i := 849) (by decide +kernel))) (by decide +kernel))
theorem lkX2_117 : LK RX2 117 mX6_setOf := Or.inr ⟨"NewDishes", List.mem_of_getElem? (i := 34) (by decide +kernel)⟩
theorem lkX2_120 : LK RX2 120 mX6_mannerOf := Or.inr ⟨"NewDishes", List.mem_of_getElem? (i := 35) (by decide +kernel)⟩
theorem lkX6_290 : LK RX6 290 mX2_cook := Or.inl (in_all (List.mem_append_right _ (List.mem_of_getElem? (i := 855) (by decide +kernel))) (by decide +kernel))
theorem lkL_178 : LK RL 178 mX6_image := Or.inl (in_all (List.mem_append_right _ (List.mem_of_getElem? (i := 856) (by decide +kernel))) (by decide +kernel))
theorem lkL_182 : LK RL 182 mX6_undo := Or.inl (in_all (List.mem_append_right _ (List.mem_of_getElem? (i := 860) (by decide +kernel))) (by decide +kernel))
theorem lkL_186 : LK RL 186 mX6_tear := Or.inl (in_all (List.mem_append_right _ (List.mem_of_getElem? (i := 864) (by decide +kernel))) (by decide +kernel))
theorem lkL_190 : LK RL 190 mX6_count := Or.inl (in_all (List.mem_append_right _ (List.mem_of_getElem? (i := 868) (by decide +kernel))) (by decide +kernel))
theorem lkL_194 : LK RL 194 mX6_status := Or.inl (in_all (List.mem_append_right _ (List.mem_of_getElem? (i := 872) (by decide +kernel))) (by decide +kernel))
theorem lkL_12 : LK RL 12 mX7_init := Or.inl (in_all (List.mem_append_right _ (List.mem_of_getElem? (i := 878) (by decide +kernel))) (by decide +kernel))
theorem lkX7_81 : LK RX7 81 mX7_ones := Or.inl (in_all (List.mem_append_right _ (List.mem_of_getElem? (i := 882) (by decide +kernel))) (by decide +kernel))
theorem lkL_17 : LK RL 17 mX7_store := Or.inl (in_all (List.mem_append_right _ (List.mem_of_getElem? (i := 995) (by decide +kernel))) (by decide +kernel))
theorem lkX7_97 : LK RX7 97 mX7_isThing := Or.inl (in_all (List.mem_append_right _ (List.mem_of_getElem? (i := 999) (by decide +kernel))) (by decide +kernel))
theorem lkX7_86 : LK RX7 86 mX7_in := Or.inl (in_all (List.mem_append_right _ (List.mem_of_getElem? (i := 1002) (by decide +kernel))) (by decide +kernel))
theorem lkX7_101 : LK RX7 101 mX7_isStore := Or.inl (in_all (List.mem_append_right _ (List.mem_of_getElem? (i := 1005) (by decide +kernel))) (by decide +kernel))
theorem lkX7_104 : LK RX7 104 mX7_finds := Or.inl (in_all (List.mem_append_right _ (List.mem_of_getElem? (i := 1009) (by decide +kernel))) (by decide +kernel))
theorem lkL_22 : LK RL 22 mX7_storeOf := Or.inl (in_all (List.mem_append_right _ (List.mem_of_getElem? (i := 1013) (by decide +kernel))) (by decide +kernel))
theorem lkL_27 : LK RL 27 mX7_like := Or.inl (in_all (List.mem_append_right _ (List.mem_of_getElem? (i := 1017) (by decide +kernel))) (by decide +kernel))
theorem lkX7_107 : LK RX7 107 mX7_mostOf := Or.inl (in_all (List.mem_append_right _ (List.mem_of_getElem? (i := 1021) (by decide +kernel))) (by decide +kernel))
theorem lkX7_110 : LK RX7 110 mX7_likedAt := Or.inl (in_all (List.mem_append_right _ (List.mem_of_getElem? (i := 1024) (by decide +kernel))) (by decide +kernel))
theorem lkL_32 : LK RL 32 mX7_edict := Or.inl (in_all (List.mem_append_right _ (List.mem_of_getElem? (i := 1027) (by decide +kernel))) (by decide +kernel))
theorem lkL_36 : LK RL 36 mX7_dish := Or.inl (in_all (List.mem_append_right _ (List.mem_of_getElem? (i := 1031) (by decide +kernel))) (by decide +kernel))
theorem lkL_40 : LK RL 40 mX7_of := Or.inl (in_all (List.mem_append_right _ (List.mem_of_getElem? (i := 1035) (by decide +kernel))) (by decide +kernel))
theorem lkX7_131 : LK RX7 131 mX7_isDish := Or.inl (in_all (List.mem_append_right _ (List.mem_of_getElem? (i := 1039) (by decide +kernel))) (by decide +kernel))
theorem lkX7_90 : LK RX7 90 mX7_setOf := Or.inl (in_all (List.mem_append_right _ (List.mem_of_getElem? (i := 1043) (by decide +kernel))) (by decide +kernel))
theorem lkX7_114 : LK RX7 114 mX7_wayOf := Or.inl (in_all (List.mem_append_right _ (List.mem_of_getElem? (i := 1046) (by decide +kernel))) (by decide +kernel))
theorem lkX7_117 : LK RX7 117 mX7_sauceOf := Or.inl (in_all (List.mem_append_right _ (List.mem_of_getElem? (i := 1049) (by decide +kernel))) (by decide +kernel))
theorem lkX7_134 : LK RX7 134 mX7_likingOf := Or.inl (in_all (List.mem_append_right _ (List.mem_of_getElem? (i := 1052) (by decide +kernel))) (by decide +kernel))
theorem lkX7_120 : LK RX7 120 mX7_has := Or.inl (in_all (List.mem_append_right _ (List.mem_of_getElem? (i := 1056) (by decide +kernel))) (by decide +kernel))
theorem lkX7_137 : LK RX7 137 mX7_canBe := Or.inl (in_all (List.mem_append_right _ (List.mem_of_getElem? (i := 1059) (by decide +kernel))) (by decide +kernel))
theorem lkX7_140 : LK RX7 140 mX7_isNew := Or.inl (in_all (List.mem_append_right _ (List.mem_of_getElem? (i := 1063) (by decide +kernel))) (by decide +kernel))
theorem lkX7_128 : LK RX7 128 mX7_firstBy := Or.inl (in_all (List.mem_append_right _ (List.mem_of_getElem? (i := 1067) (by decide +kernel))) (by decide +kernel))
theorem lkX7_124 : LK RX7 124 mX7_barsIt := Or.inl (in_all (List.mem_append_right _ (List.mem_of_getElem? (i := 1071) (by decide +kernel))) (by decide +kernel))
theorem lkL_44 : LK RL 44 mX7_near := Or.inl (in_all (List.mem_append_right _ (List.mem_of_getElem? (i := 1076) (by decide +kernel))) (by decide +kernel))
theorem lkX7_143 : LK RX7 143 mX7_nearOf := Or.inl (in_all (List.mem_append_right _ (List.mem_of_getElem? (i := 1080) (by decide +kernel))) (by decide +kernel))
theorem lkL_48 : LK RL 48 mX7_nearHad := Or.inl (in_all (List.mem_append_right _ (List.mem_of_getElem? (i := 1083) (by decide +kernel))) (by decide +kernel))
theorem lkL_52 : LK RL 52 mX7_many := Or.inl (in_all (List.mem_append_right _ (List.mem_of_getElem? (i := 1087) (by decide +kernel))) (by decide +kernel))
theorem lkX7_153 : LK RX7 153 mX7_marks := Or.inl (in_all (List.mem_append_right _ (List.mem_of_getElem? (i := 1091) (by decide +kernel))) (by decide +kernel))
theorem lkX7_146 : LK RX7 146 mX7_marksBy := Or.inl (in_all (List.mem_append_right _ (List.mem_of_getElem? (i := 1095) (by decide +kernel))) (by decide +kernel))
theorem lkX7_150 : LK RX7 150 mX7_dishAt := Or.inl (in_all (List.mem_append_right _ (List.mem_of_getElem? (i := 1099) (by decide +kernel))) (by decide +kernel))
theorem lkL_56 : LK RL 56 mX7_next := Or.inl (in_all (List.mem_append_right _ (List.mem_of_getElem? (i := 1103) (by decide +kernel))) (by decide +kernel))
theorem lkX7_156 : LK RX7 156 mX7_isGood := Or.inl (in_all (List.mem_append_right _ (List.mem_of_getElem? (i := 1107) (by decide +kernel))) (by decide +kernel))
theorem lkL_60 : LK RL 60 mX7_enter := Or.inl (in_all (List.mem_append_right _ (List.mem_of_getElem? (i := 1111) (by decide +kernel))) (by decide +kernel))
theorem lkX7_159 : LK RX7 159 mX7_isKind := Or.inl (in_all (List.mem_append_right _ (List.mem_of_getElem? (i := 1115) (by decide +kernel))) (by decide +kernel))
theorem lkX7_166 : LK RX7 166 mX7_addEntry := Or.inl (in_all (List.mem_append_right _ (List.mem_of_getElem? (i := 1119) (by decide +kernel))) (by decide +kernel))
theorem lkL_64 : LK RL 64 mX7_entryOf := Or.inl (in_all (List.mem_append_right _ (List.mem_of_getElem? (i := 1123) (by decide +kernel))) (by decide +kernel))
theorem lkX7_170 : LK RX7 170 mX7_isEntry := Or.inl (in_all (List.mem_append_right _ (List.mem_of_getElem? (i := 1127) (by decide +kernel))) (by decide +kernel))
theorem lkX7_173 : LK RX7 173 mX7_barsMany := Or.inl (in_all (List.mem_append_right _ (List.mem_of_getElem? (i := 1131) (by decide +kernel))) (by decide +kernel))
theorem lkL_68 : LK RL 68 mX7_turn := Or.inl (in_all (List.mem_append_right _ (List.mem_of_getElem? (i := 1135) (by decide +kernel))) (by decide +kernel))
theorem lkL_72 : LK RL 72 mX7_as := Or.inl (in_all (List.mem_append_right _ (List.mem_of_getElem? (i := 1139) (by decide +kernel))) (by decide +kernel))
theorem lkX7_176 : LK RX7 176 mX7_isUnder := Or.inl (in_all (List.mem_append_right _ (List.mem_of_getElem? (i := 1143) (by decide +kernel))) (by decide +kernel))
theorem lkL_77 : LK RL 77 mX7_strike := Or.inl (in_all (List.mem_append_right _ (List.mem_of_getElem? (i := 1147) (by decide +kernel))) (by decide +kernel))
theorem lkL_81 : LK RL 81 mX7_bars := Or.inl (in_all (List.mem_append_right _ (List.mem_of_getElem? (i := 1151) (by decide +kernel))) (by decide +kernel))
theorem lkL_85 : LK RL 85 mX7_by := Or.inl (in_all (List.mem_append_right _ (List.mem_of_getElem? (i := 1155) (by decide +kernel))) (by decide +kernel))
theorem lkL_89 : LK RL 89 mX7_breach := Or.inl (in_all (List.mem_append_right _ (List.mem_of_getElem? (i := 1159) (by decide +kernel))) (by decide +kernel))
theorem lkL_93 : LK RL 93 mX7_keenest := Or.inl (in_all (List.mem_append_right _ (List.mem_of_getElem? (i := 1163) (by decide +kernel))) (by decide +kernel))
theorem lkL_97 : LK RL 97 mX7_wouldBe := Or.inl (in_all (List.mem_append_right _ (List.mem_of_getElem? (i := 1167) (by decide +kernel))) (by decide +kernel))
theorem lkX7_180 : LK RX7 180 mX7_newMany := Or.inl (in_all (List.mem_append_right _ (List.mem_of_getElem? (i := 1171) (by decide +kernel))) (by decide +kernel))
theorem lkL_101 : LK RL 101 mX7_best := Or.inl (in_all (List.mem_append_right _ (List.mem_of_getElem? (i := 1175) (by decide +kernel))) (by decide +kernel))
theorem lkX7_184 : LK RX7 184 mX7_bestPlace := Or.inl (in_all (List.mem_append_right _ (List.mem_of_getElem? (i := 1179) (by decide +kernel))) (by decide +kernel))
theorem lkL_105 : LK RL 105 mX7_serve := Or.inl (in_all (List.mem_append_right _ (List.mem_of_getElem? (i := 1183) (by decide +kernel))) (by decide +kernel))
theorem lkX7_188 : LK RX7 188 mX7_eats := Or.inl (in_all (List.mem_append_right _ (List.mem_of_getElem? (i := 1188) (by decide +kernel))) (by decide +kernel))
theorem lkL_109 : LK RL 109 mX7_meals := Or.inl (in_all (List.mem_append_right _ (List.mem_of_getElem? (i := 1192) (by decide +kernel))) (by decide +kernel))
theorem lkL_113 : LK RL 113 mX7_on := Or.inl (in_all (List.mem_append_right _ (List.mem_of_getElem? (i := 1196) (by decide +kernel))) (by decide +kernel))
theorem lkX7_194 : LK RX7 194 mX7_begins0 := Or.inl (in_all (List.mem_append_right _ (List.mem_of_getElem? (i := 1200) (by decide +kernel))) (by decide +kernel))
theorem lkX7_197 : LK RX7 197 mX7_goesOn := Or.inl (in_all (List.mem_append_right _ (List.mem_of_getElem? (i := 1204) (by decide +kernel))) (by decide +kernel))
theorem lkX7_200 : LK RX7 200 mX7_back := Or.inl (in_all (List.mem_append_right _ (List.mem_of_getElem? (i := 1208) (by decide +kernel))) (by decide +kernel))
theorem lkL_117 : LK RL 117 mX7_lasts := Or.inl (in_all (List.mem_append_right _ (List.mem_of_getElem? (i := 1212) (by decide +kernel))) (by decide +kernel))
theorem lkX7_203 : LK RX7 203 mX7_lastsBy := Or.inl (in_all (List.mem_append_right _ (List.mem_of_getElem? (i := 1216) (by decide +kernel))) (by decide +kernel))
theorem lkL_121 : LK RL 121 mX7_buy := Or.inl (in_all (List.mem_append_right _ (List.mem_of_getElem? (i := 1220) (by decide +kernel))) (by decide +kernel))
theorem lkL_125 : LK RL 125 mX7_steps := Or.inl (in_all (List.mem_append_right _ (List.mem_of_getElem? (i := 1224) (by decide +kernel))) (by decide +kernel))
theorem lkX7_219 : LK RX7 219 mX7_findSteps := Or.inl (in_all (List.mem_append_right _ (List.mem_of_getElem? (i := 1228) (by decide +kernel))) (by decide +kernel))
theorem lkX7_213 : LK RX7 213 mX7_placeOf := Or.inl (in_all (List.mem_append_right _ (List.mem_of_getElem? (i := 1232) (by decide +kernel))) (by decide +kernel))
theorem lkX7_216 : LK RX7 216 mX7_goesFrom := Or.inl (in_all (List.mem_append_right _ (List.mem_of_getElem? (i := 1236) (by decide +kernel))) (by decide +kernel))
theorem lkX7_209 : LK RX7 209 mX7_comesTo := Or.inl (in_all (List.mem_append_right _ (List.mem_of_getElem? (i := 1240) (by decide +kernel))) (by decide +kernel))
theorem lkL_129 : LK RL 129 mX7_within := Or.inl (in_all (List.mem_append_right _ (List.mem_of_getElem? (i := 1244) (by decide +kernel))) (by decide +kernel))
theorem lkL_133 : LK RL 133 mX7_walk := Or.inl (in_all (List.mem_append_right _ (List.mem_of_getElem? (i := 1248) (by decide +kernel))) (by decide +kernel))
theorem lkL_137 : LK RL 137 mX7_now := Or.inl (in_all (List.mem_append_right _ (List.mem_of_getElem? (i := 1252) (by decide +kernel))) (by decide +kernel))
theorem lkL_141 : LK RL 141 mX7_feed := Or.inl (in_all (List.mem_append_right _ (List.mem_of_getElem? (i := 1256) (by decide +kernel))) (by decide +kernel))
theorem lkL_145 : LK RL 145 mX7_wipe := Or.inl (in_all (List.mem_append_right _ (List.mem_of_getElem? (i := 1260) (by decide +kernel))) (by decide +kernel))
theorem lkL_149 : LK RL 149 mX7_book := Or.inl (in_all (List.mem_append_right _ (List.mem_of_getElem? (i := 1264) (by decide +kernel))) (by decide +kernel))
theorem lkX7_333 : LK RX7 333 mX7_moveAll := Or.inl (in_all (List.mem_append_right _ (List.mem_of_getElem? (i := 1268) (by decide +kernel))) (by decide +kernel))
theorem lkX7_366 : LK RX7 366 mX7_moveRow := Or.inl (in_all (List.mem_append_right _ (List.mem_of_getElem? (i := 1272) (by decide +kernel))) (by decide +kernel))
theorem lkX7_276 : LK RX7 276 mX7_advance := Or.inl (in_all (List.mem_append_right _ (List.mem_of_getElem? (i := 1276) (by decide +kernel))) (by decide +kernel))
theorem lkX7_231 : LK RX7 231 mX7_byteAt := Or.inl (in_all (List.mem_append_right _ (List.mem_of_getElem? (i := 1280) (by decide +kernel))) (by decide +kernel))
theorem lkX7_234 : LK RX7 234 mX7_isLetter := Or.inl (in_all (List.mem_append_right _ (List.mem_of_getElem? (i := 1284) (by decide +kernel))) (by decide +kernel))
theorem lkX7_237 : LK RX7 237 mX7_isDigit := Or.inl (in_all (List.mem_append_right _ (List.mem_of_getElem? (i := 1287) (by decide +kernel))) (by decide +kernel))
theorem lkX7_337 : LK RX7 337 mX7_wantItem := Or.inl (in_all (List.mem_append_right _ (List.mem_of_getElem? (i := 1293) (by decide +kernel))) (by decide +kernel))
theorem lkX7_304 : LK RX7 304 mX7_kindHere := Or.inl (in_all (List.mem_append_right _ (List.mem_of_getElem? (i := 1297) (by decide +kernel))) (by decide +kernel))
theorem lkX7_258 : LK RX7 258 mX7_isWord := Or.inl (in_all (List.mem_append_right _ (List.mem_of_getElem? (i := 1302) (by decide +kernel))) (by decide +kernel))
theorem lkX7_307 : LK RX7 307 mX7_wantEntry := Or.inl (in_all (List.mem_append_right _ (List.mem_of_getElem? (i := 1311) (by decide +kernel))) (by decide +kernel))
theorem lkX7_281 : LK RX7 281 mX7_wantWord := Or.inl (in_all (List.mem_append_right _ (List.mem_of_getElem? (i := 1316) (by decide +kernel))) (by decide +kernel))
theorem lkX7_285 : LK RX7 285 mX7_wantNumber := Or.inl (in_all (List.mem_append_right _ (List.mem_of_getElem? (i := 1320) (by decide +kernel))) (by decide +kernel))
theorem lkX7_312 : LK RX7 312 mX7_wantStore := Or.inl (in_all (List.mem_append_right _ (List.mem_of_getElem? (i := 1326) (by decide +kernel))) (by decide +kernel))
theorem lkX7_319 : LK RX7 319 mX7_wantLiking := Or.inl (in_all (List.mem_append_right _ (List.mem_of_getElem? (i := 1332) (by decide +kernel))) (by decide +kernel))
theorem lkX7_325 : LK RX7 325 mX7_wantEdict := Or.inl (in_all (List.mem_append_right _ (List.mem_of_getElem? (i := 1338) (by decide +kernel))) (by decide +kernel))
theorem lkX7_296 : LK RX7 296 mX7_wantEither := Or.inl (in_all (List.mem_append_right _ (List.mem_of_getElem? (i := 1344) (by decide +kernel))) (by decide +kernel))
theorem lkX7_330 : LK RX7 330 mX7_wantDay := Or.inl (in_all (List.mem_append_right _ (List.mem_of_getElem? (i := 1351) (by decide +kernel))) (by decide +kernel))
theorem lkL_153 : LK RL 153 mX7_sheet := Or.inl (in_all (List.mem_append_right _ (List.mem_of_getElem? (i := 1355) (by decide +kernel))) (by decide +kernel))
theorem lkX7_340 : LK RX7 340 mX7_isSheet := Or.inl (in_all (List.mem_append_right _ (List.mem_of_getElem? (i := 1359) (by decide +kernel))) (by decide +kernel))
theorem lkL_160 : LK RL 160 mX7_write := Or.inl (in_all (List.mem_append_right _ (List.mem_of_getElem? (i := 1363) (by decide +kernel))) (by decide +kernel))
theorem lkX7_345 : LK RX7 345 mX7_narrow := Or.inl (in_all (List.mem_append_right _ (List.mem_of_getElem? (i := 1368) (by decide +kernel))) (by decide +kernel))
theorem lkL_165 : LK RL 165 mX7_copy := Or.inl (in_all (List.mem_append_right _ (List.mem_of_getElem? (i := 1371) (by decide +kernel))) (by decide +kernel))
theorem lkX7_349 : LK RX7 349 mX7_isPart := Or.inl (in_all (List.mem_append_right _ (List.mem_of_getElem? (i := 1375) (by decide +kernel))) (by decide +kernel))
theorem lkL_169 : LK RL 169 mX7_lays := Or.inl (in_all (List.mem_append_right _ (List.mem_of_getElem? (i := 1379) (by decide +kernel))) (by decide +kernel))
theorem lkL_173 : LK RL 173 mX7_menu := Or.inl (in_all (List.mem_append_right _ (List.mem_of_getElem? (i := 1384) (by decide +kernel))) (by decide +kernel))
theorem lkX7_354 : LK RX7 354 mX7_noMenu := Or.inl (in_all (List.mem_append_right _ (List.mem_of_getElem? (i := 1388) (by decide +kernel))) (by decide +kernel))
theorem lkL_177 : LK RL 177 mX7_read := Or.inl (in_all (List.mem_append_right _ (List.mem_of_getElem? (i := 1392) (by decide +kernel))) (by decide +kernel))
theorem lkX7_359 : LK RX7 359 mX7_canServe := Or.inl (in_all (List.mem_append_right _ (List.mem_of_getElem? (i := 1396) (by decide +kernel))) (by decide +kernel))
theorem lkL_181 : LK RL 181 mX7_image := Or.inl (in_all (List.mem_append_right _ (List.mem_of_getElem? (i := 1401) (by decide +kernel))) (by decide +kernel))
theorem lkL_185 : LK RL 185 mX7_undo := Or.inl (in_all (List.mem_append_right _ (List.mem_of_getElem? (i := 1405) (by decide +kernel))) (by decide +kernel))
theorem lkL_189 : LK RL 189 mX7_tear := Or.inl (in_all (List.mem_append_right _ (List.mem_of_getElem? (i := 1409) (by decide +kernel))) (by decide +kernel))
theorem lkL_193 : LK RL 193 mX7_count := Or.inl (in_all (List.mem_append_right _ (List.mem_of_getElem? (i := 1413) (by decide +kernel))) (by decide +kernel))
theorem lkL_197 : LK RL 197 mX7_status := Or.inl (in_all (List.mem_append_right _ (List.mem_of_getElem? (i := 1417) (by decide +kernel))) (by decide +kernel))
theorem flX1_9 : FL RX1 9 1 0 := ⟨RX1, TX1, 10, rfl, by decide, in_all (List.mem_append_right _ (List.mem_of_getElem? (i := 34) (by decide +kernel))) (by decide +kernel)⟩
theorem flX2_45 : FL RX2 45 1 0 := ⟨RX1, TX1, 10, rfl, by decide, in_all (List.mem_append_right _ (List.mem_of_getElem? (i := 35) (by decide +kernel))) (by decide +kernel)⟩
theorem flX6_67 : FL RX6 67 1 0 := ⟨RX1, TX1, 10, rfl, by decide, in_all (List.mem_append_right _ (List.mem_of_getElem? (i := 36) (by decide +kernel))) (by decide +kernel)⟩
theorem flX5_116 : FL RX5 116 1 0 := ⟨RX1, TX1, 10, rfl, by decide, in_all (List.mem_append_right _ (List.mem_of_getElem? (i := 37) (by decide +kernel))) (by decide +kernel)⟩
theorem flX1_15 : FL RX1 15 1 1 := ⟨RX1, TX1, 10, rfl, by decide, in_all (List.mem_append_right _ (List.mem_of_getElem? (i := 38) (by decide +kernel))) (by decide +kernel)⟩
theorem flX2_61 : FL RX2 61 1 1 := ⟨RX1, TX1, 10, rfl, by decide, in_all (List.mem_append_right _ (List.mem_of_getElem? (i := 39) (by decide +kernel))) (by decide +kernel)⟩
theorem flX1_18 : FL RX1 18 1 2 := ⟨RX1, TX1, 10, rfl, by decide, in_all (List.mem_append_right _ (List.mem_of_getElem? (i := 40) (by decide +kernel))) (by decide +kernel)⟩
theorem flX2_82 : FL RX2 82 1 2 := ⟨RX1, TX1, 10, rfl, by decide, in_all (List.mem_append_right _ (List.mem_of_getElem? (i := 41) (by decide +kernel))) (by decide +kernel)⟩
theorem flX1_21 : FL RX1 21 1 3 := ⟨RX1, TX1, 10, rfl, by decide, in_all (List.mem_append_right _ (List.mem_of_getElem? (i := 42) (by decide +kernel))) (by decide +kernel)⟩
theorem flX2_89 : FL RX2 89 1 3 := ⟨RX1, TX1, 10, rfl, by decide, in_all (List.mem_append_right _ (List.mem_of_getElem? (i := 43) (by decide +kernel))) (by decide +kernel)⟩
theorem flX1_24 : FL RX1 24 1 4 := ⟨RX1, TX1, 10, rfl, by decide, in_all (List.mem_append_right _ (List.mem_of_getElem? (i := 44) (by decide +kernel))) (by decide +kernel)⟩
theorem flX0_30 : FL RX0 30 1 4 := ⟨RX1, TX1, 10, rfl, by decide, in_all (List.mem_append_right _ (List.mem_of_getElem? (i := 45) (by decide +kernel))) (by decide +kernel)⟩
theorem flX6_152 : FL RX6 152 1 4 := ⟨RX1, TX1, 10, rfl, by decide, in_all (List.mem_append_right _ (List.mem_of_getElem? (i := 46) (by decide +kernel))) (by decide +kernel)⟩
theorem flX1_27 : FL RX1 27 1 5 := ⟨RX1, TX1, 10, rfl, by decide, in_all (List.mem_append_right _ (List.mem_of_getElem? (i := 47) (by decide +kernel))) (by decide +kernel)⟩
theorem flX0_33 : FL RX0 33 1 5 := ⟨RX1, TX1, 10, rfl, by decide, in_all (List.mem_append_right _ (List.mem_of_getElem? (i := 48) (by decide +kernel))) (by decide +kernel)⟩
theorem flX6_155 : FL RX6 155 1 5 := ⟨RX1, TX1, 10, rfl, by decide, in_all (List.mem_append_right _ (List.mem_of_getElem? (i := 49) (by decide +kernel))) (by decide +kernel)⟩
theorem flX1_30 : FL RX1 30 1 6 := ⟨RX1, TX1, 10, rfl, by decide, in_all (List.mem_append_right _ (List.mem_of_getElem? (i := 50) (by decide +kernel))) (by decide +kernel)⟩
theorem flX6_158 : FL RX6 158 1 6 := ⟨RX1, TX1, 10, rfl, by decide, in_all (List.mem_append_right _ (List.mem_of_getElem? (i := 51) (by decide +kernel))) (by decide +kernel)⟩
theorem flX1_33 : FL RX1 33 1 7 := ⟨RX1, TX1, 10, rfl, by decide, in_all (List.mem_append_right _ (List.mem_of_getElem? (i := 52) (by decide +kernel))) (by decide +kernel)⟩
theorem fpX1_33 : FP RX1 33 1 7 .int := ⟨RX1, TX1, 10, rfl, by decide, in_all (List.mem_append_right _ (List.mem_of_getElem? (i := 52) (by decide +kernel))) (by decide +kernel), rfl, by decide +kernel⟩
theorem flX0_24 : FL RX0 24 1 7 := ⟨RX1, TX1, 10, rfl, by decide, in_all (List.mem_append_right _ (List.mem_of_getElem? (i := 53) (by decide +kernel))) (by decide +kernel)⟩
theorem fpX0_24 : FP RX0 24 1 7 .int := ⟨RX1, TX1, 10, rfl, by decide, in_all (List.mem_append_right _ (List.mem_of_getElem? (i := 53) (by decide +kernel))) (by decide +kernel), rfl, by decide +kernel⟩
theorem flX6_148 : FL RX6 148 1 7 := ⟨RX1, TX1, 10, rfl, by decide, in_all (List.mem_append_right _ (List.mem_of_getElem? (i := 54) (by decide +kernel))) (by decide +kernel)⟩
theorem fpX6_148 : FP RX6 148 1 7 .int := ⟨RX1, TX1, 10, rfl, by decide, in_all (List.mem_append_right _ (List.mem_of_getElem? (i := 54) (by decide +kernel))) (by decide +kernel), rfl, by decide +kernel⟩
theorem flX1_37 : FL RX1 37 1 8 := ⟨RX1, TX1, 10, rfl, by decide, in_all (List.mem_append_right _ (List.mem_of_getElem? (i := 55) (by decide +kernel))) (by decide +kernel)⟩
theorem fpX1_37 : FP RX1 37 1 8 .int := ⟨RX1, TX1, 10, rfl, by decide, in_all (List.mem_append_right _ (List.mem_of_getElem? (i := 55) (by decide +kernel))) (by decide +kernel), rfl, by decide +kernel⟩
theorem flX2_56 : FL RX2 56 1 8 := ⟨RX1, TX1, 10, rfl, by decide, in_all (List.mem_append_right _ (List.mem_of_getElem? (i := 56) (by decide +kernel))) (by decide +kernel)⟩
theorem fpX2_56 : FP RX2 56 1 8 .int := ⟨RX1, TX1, 10, rfl, by decide, in_all (List.mem_append_right _ (List.mem_of_getElem? (i := 56) (by decide +kernel))) (by decide +kernel), rfl, by decide +kernel⟩
theorem flX6_161 : FL RX6 161 1 8 := ⟨RX1, TX1, 10, rfl, by decide, in_all (List.mem_append_right _ (List.mem_of_getElem? (i := 57) (by decide +kernel))) (by decide +kernel)⟩
theorem fpX6_161 : FP RX6 161 1 8 .int := ⟨RX1, TX1, 10, rfl, by decide, in_all (List.mem_append_right _ (List.mem_of_getElem? (i := 57) (by decide +kernel))) (by decide +kernel), rfl, by decide +kernel⟩
theorem flX1_40 : FL RX1 40 1 9 := ⟨RX1, TX1, 10, rfl, by decide, in_all (List.mem_append_right _ (List.mem_of_getElem? (i := 58) (by decide +kernel))) (by decide +kernel)⟩
theorem fpX1_40 : FP RX1 40 1 9 .int := ⟨RX1, TX1, 10, rfl, by decide, in_all (List.mem_append_right _ (List.mem_of_getElem? (i := 58) (by decide +kernel))) (by decide +kernel), rfl, by decide +kernel⟩
theorem flX5_140 : FL RX5 140 1 9 := ⟨RX1, TX1, 10, rfl, by decide, in_all (List.mem_append_right _ (List.mem_of_getElem? (i := 59) (by decide +kernel))) (by decide +kernel)⟩
theorem fpX5_140 : FP RX5 140 1 9 .int := ⟨RX1, TX1, 10, rfl, by decide, in_all (List.mem_append_right _ (List.mem_of_getElem? (i := 59) (by decide +kernel))) (by decide +kernel), rfl, by decide +kernel⟩
theorem flX6_194 : FL RX6 194 1 9 := ⟨RX1, TX1, 10, rfl, by decide, in_all (List.mem_append_right _ (List.mem_of_getElem? (i := 60) (by decide +kernel))) (by decide +kernel)⟩
theorem fpX6_194 : FP RX6 194 1 9 .int := ⟨RX1, TX1, 10, rfl, by decide, in_all (List.mem_append_right _ (List.mem_of_getElem? (i := 60) (by decide +kernel))) (by decide +kernel), rfl, by decide +kernel⟩
theorem flX0_9 : FL RX0 9 0 0 := ⟨RX0, TX0, 2, rfl, by decide, in_all (List.mem_append_right _ (List.mem_of_getElem? (i := 95) (by decide +kernel))) (by decide +kernel)⟩
theorem flX2_95 : FL RX2 95 0 0 := ⟨RX0, TX0, 2, rfl, by decide, in_all (List.mem_append_right _ (List.mem_of_getElem? (i := 96) (by decide +kernel))) (by decide +kernel)⟩
theorem flX0_15 : FL RX0 15 0 1 := ⟨RX0, TX0, 2, rfl, by decide, in_all (List.mem_append_right _ (List.mem_of_getElem? (i := 97) (by decide +kernel))) (by decide +kernel)⟩
theorem kcX2_38 : Cond.constant RX2 38 (1048575) ∈ WSall := in_all (List.mem_append_right _ (List.mem_of_getElem? (i := 103) (by decide +kernel))) (by decide +kernel)
theorem flX2_9 : FL RX2 9 2 0 := ⟨RX2, TX2, 7, rfl, by decide, in_all (List.mem_append_right _ (List.mem_of_getElem? (i := 105) (by decide +kernel))) (by decide +kernel)⟩
theorem flX3_49 : FL RX3 49 2 0 := ⟨RX2, TX2, 7, rfl, by decide, in_all (List.mem_append_right _ (List.mem_of_getElem? (i := 106) (by decide +kernel))) (by decide +kernel)⟩
theorem flX6_207 : FL RX6 207 2 0 := ⟨RX2, TX2, 7, rfl, by decide, in_all (List.mem_append_right _ (List.mem_of_getElem? (i := 107) (by decide +kernel))) (by decide +kernel)⟩
theorem flX2_18 : FL RX2 18 2 1 := ⟨RX2, TX2, 7, rfl, by decide, in_all (List.mem_append_right _ (List.mem_of_getElem? (i := 108) (by decide +kernel))) (by decide +kernel)⟩
theorem flX6_122 : FL RX6 122 2 1 := ⟨RX2, TX2, 7, rfl, by decide, in_all (List.mem_append_right _ (List.mem_of_getElem? (i := 109) (by decide +kernel))) (by decide +kernel)⟩
theorem flX2_22 : FL RX2 22 2 2 := ⟨RX2, TX2, 7, rfl, by decide, in_all (List.mem_append_right _ (List.mem_of_getElem? (i := 110) (by decide +kernel))) (by decide +kernel)⟩
theorem fpX2_22 : FP RX2 22 2 2 .int := ⟨RX2, TX2, 7, rfl, by decide, in_all (List.mem_append_right _ (List.mem_of_getElem? (i := 110) (by decide +kernel))) (by decide +kernel), rfl, by decide +kernel⟩
theorem flX2_26 : FL RX2 26 2 3 := ⟨RX2, TX2, 7, rfl, by decide, in_all (List.mem_append_right _ (List.mem_of_getElem? (i := 111) (by decide +kernel))) (by decide +kernel)⟩
theorem flX2_29 : FL RX2 29 2 4 := ⟨RX2, TX2, 7, rfl, by decide, in_all (List.mem_append_right _ (List.mem_of_getElem? (i := 112) (by decide +kernel))) (by decide +kernel)⟩
theorem flX2_32 : FL RX2 32 2 5 := ⟨RX2, TX2, 7, rfl, by decide, in_all (List.mem_append_right _ (List.mem_of_getElem? (i := 113) (by decide +kernel))) (by decide +kernel)⟩
theorem flX2_35 : FL RX2 35 2 6 := ⟨RX2, TX2, 7, rfl, by decide, in_all (List.mem_append_right _ (List.mem_of_getElem? (i := 114) (by decide +kernel))) (by decide +kernel)⟩
theorem flX3_9 : FL RX3 9 3 0 := ⟨RX3, TX3, 2, rfl, by decide, in_all (List.mem_append_right _ (List.mem_of_getElem? (i := 136) (by decide +kernel))) (by decide +kernel)⟩
theorem flX6_218 : FL RX6 218 3 0 := ⟨RX3, TX3, 2, rfl, by decide, in_all (List.mem_append_right _ (List.mem_of_getElem? (i := 137) (by decide +kernel))) (by decide +kernel)⟩
theorem flX3_15 : FL RX3 15 3 1 := ⟨RX3, TX3, 2, rfl, by decide, in_all (List.mem_append_right _ (List.mem_of_getElem? (i := 138) (by decide +kernel))) (by decide +kernel)⟩
theorem flX5_9 : FL RX5 9 5 0 := ⟨RX5, TX5, 6, rfl, by decide, in_all (List.mem_append_right _ (List.mem_of_getElem? (i := 150) (by decide +kernel))) (by decide +kernel)⟩
theorem fpX5_9 : FP RX5 9 5 0 .int := ⟨RX5, TX5, 6, rfl, by decide, in_all (List.mem_append_right _ (List.mem_of_getElem? (i := 150) (by decide +kernel))) (by decide +kernel), rfl, by decide +kernel⟩
theorem flX6_234 : FL RX6 234 5 0 := ⟨RX5, TX5, 6, rfl, by decide, in_all (List.mem_append_right _ (List.mem_of_getElem? (i := 151) (by decide +kernel))) (by decide +kernel)⟩
theorem fpX6_234 : FP RX6 234 5 0 .int := ⟨RX5, TX5, 6, rfl, by decide, in_all (List.mem_append_right _ (List.mem_of_getElem? (i := 151) (by decide +kernel))) (by decide +kernel), rfl, by decide +kernel⟩
theorem flX5_15 : FL RX5 15 5 1 := ⟨RX5, TX5, 6, rfl, by decide, in_all (List.mem_append_right _ (List.mem_of_getElem? (i := 152) (by decide +kernel))) (by decide +kernel)⟩
theorem flX5_19 : FL RX5 19 5 2 := ⟨RX5, TX5, 6, rfl, by decide, in_all (List.mem_append_right _ (List.mem_of_getElem? (i := 153) (by decide +kernel))) (by decide +kernel)⟩
theorem fpX5_19 : FP RX5 19 5 2 .int := ⟨RX5, TX5, 6, rfl, by decide, in_all (List.mem_append_right _ (List.mem_of_getElem? (i := 153) (by decide +kernel))) (by decide +kernel), rfl, by decide +kernel⟩
theorem flX5_22 : FL RX5 22 5 3 := ⟨RX5, TX5, 6, rfl, by decide, in_all (List.mem_append_right _ (List.mem_of_getElem? (i := 154) (by decide +kernel))) (by decide +kernel)⟩
theorem fpX5_22 : FP RX5 22 5 3 .int := ⟨RX5, TX5, 6, rfl, by decide, in_all (List.mem_append_right _ (List.mem_of_getElem? (i := 154) (by decide +kernel))) (by decide +kernel), rfl, by decide +kernel⟩
theorem flX5_25 : FL RX5 25 5 4 := ⟨RX5, TX5, 6, rfl, by decide, in_all (List.mem_append_right _ (List.mem_of_getElem? (i := 155) (by decide +kernel))) (by decide +kernel)⟩
theorem fpX5_25 : FP RX5 25 5 4 .int := ⟨RX5, TX5, 6, rfl, by decide, in_all (List.mem_append_right _ (List.mem_of_getElem? (i := 155) (by decide +kernel))) (by decide +kernel), rfl, by decide +kernel⟩
theorem flX5_28 : FL RX5 28 5 5 := ⟨RX5, TX5, 6, rfl, by decide, in_all (List.mem_append_right _ (List.mem_of_getElem? (i := 156) (by decide +kernel))) (by decide +kernel)⟩
theorem fpX5_28 : FP RX5 28 5 5 .int := ⟨RX5, TX5, 6, rfl, by decide, in_all (List.mem_append_right _ (List.mem_of_getElem? (i := 156) (by decide +kernel))) (by decide +kernel), rfl, by decide +kernel⟩
theorem flX4_9 : FL RX4 9 4 0 := ⟨RX4, TX4, 3, rfl, by decide, in_all (List.mem_append_right _ (List.mem_of_getElem? (i := 177) (by decide +kernel))) (by decide +kernel)⟩
theorem fpX4_9 : FP RX4 9 4 0 .int := ⟨RX4, TX4, 3, rfl, by decide, in_all (List.mem_append_right _ (List.mem_of_getElem? (i := 177) (by decide +kernel))) (by decide +kernel), rfl, by decide +kernel⟩
theorem flX6_268 : FL RX6 268 4 0 := ⟨RX4, TX4, 3, rfl, by decide, in_all (List.mem_append_right _ (List.mem_of_getElem? (i := 178) (by decide +kernel))) (by decide +kernel)⟩
theorem fpX6_268 : FP RX6 268 4 0 .int := ⟨RX4, TX4, 3, rfl, by decide, in_all (List.mem_append_right _ (List.mem_of_getElem? (i := 178) (by decide +kernel))) (by decide +kernel), rfl, by decide +kernel⟩
theorem flX4_15 : FL RX4 15 4 1 := ⟨RX4, TX4, 3, rfl, by decide, in_all (List.mem_append_right _ (List.mem_of_getElem? (i := 179) (by decide +kernel))) (by decide +kernel)⟩
theorem fpX4_15 : FP RX4 15 4 1 .int := ⟨RX4, TX4, 3, rfl, by decide, in_all (List.mem_append_right _ (List.mem_of_getElem? (i := 179) (by decide +kernel))) (by decide +kernel), rfl, by decide +kernel⟩
theorem flX6_253 : FL RX6 253 4 1 := ⟨RX4, TX4, 3, rfl, by decide, in_all (List.mem_append_right _ (List.mem_of_getElem? (i := 180) (by decide +kernel))) (by decide +kernel)⟩
theorem fpX6_253 : FP RX6 253 4 1 .int := ⟨RX4, TX4, 3, rfl, by decide, in_all (List.mem_append_right _ (List.mem_of_getElem? (i := 180) (by decide +kernel))) (by decide +kernel), rfl, by decide +kernel⟩
theorem flX4_18 : FL RX4 18 4 2 := ⟨RX4, TX4, 3, rfl, by decide, in_all (List.mem_append_right _ (List.mem_of_getElem? (i := 181) (by decide +kernel))) (by decide +kernel)⟩
theorem flX6_257 : FL RX6 257 4 2 := ⟨RX4, TX4, 3, rfl, by decide, in_all (List.mem_append_right _ (List.mem_of_getElem? (i := 182) (by decide +kernel))) (by decide +kernel)⟩
theorem flX6_12 : FL RX6 12 6 0 := ⟨RX6, TX6, 9, rfl, by decide, in_all (List.mem_append_right _ (List.mem_of_getElem? (i := 191) (by decide +kernel))) (by decide +kernel)⟩
theorem flX6_16 : FL RX6 16 6 1 := ⟨RX6, TX6, 9, rfl, by decide, in_all (List.mem_append_right _ (List.mem_of_getElem? (i := 192) (by decide +kernel))) (by decide +kernel)⟩
theorem flX6_19 : FL RX6 19 6 2 := ⟨RX6, TX6, 9, rfl, by decide, in_all (List.mem_append_right _ (List.mem_of_getElem? (i := 193) (by decide +kernel))) (by decide +kernel)⟩
theorem flX6_22 : FL RX6 22 6 3 := ⟨RX6, TX6, 9, rfl, by decide, in_all (List.mem_append_right _ (List.mem_of_getElem? (i := 194) (by decide +kernel))) (by decide +kernel)⟩
theorem fpX6_22 : FP RX6 22 6 3 .boolean := ⟨RX6, TX6, 9, rfl, by decide, in_all (List.mem_append_right _ (List.mem_of_getElem? (i := 194) (by decide +kernel))) (by decide +kernel), rfl, by decide +kernel⟩
theorem flX6_29 : FL RX6 29 6 4 := ⟨RX6, TX6, 9, rfl, by decide, in_all (List.mem_append_right _ (List.mem_of_getElem? (i := 195) (by decide +kernel))) (by decide +kernel)⟩
theorem flX6_36 : FL RX6 36 6 5 := ⟨RX6, TX6, 9, rfl, by decide, in_all (List.mem_append_right _ (List.mem_of_getElem? (i := 196) (by decide +kernel))) (by decide +kernel)⟩
theorem flX6_43 : FL RX6 43 6 6 := ⟨RX6, TX6, 9, rfl, by decide, in_all (List.mem_append_right _ (List.mem_of_getElem? (i := 197) (by decide +kernel))) (by decide +kernel)⟩
theorem flX6_49 : FL RX6 49 6 7 := ⟨RX6, TX6, 9, rfl, by decide, in_all (List.mem_append_right _ (List.mem_of_getElem? (i := 198) (by decide +kernel))) (by decide +kernel)⟩
theorem flX6_53 : FL RX6 53 6 8 := ⟨RX6, TX6, 9, rfl, by decide, in_all (List.mem_append_right _ (List.mem_of_getElem? (i := 199) (by decide +kernel))) (by decide +kernel)⟩
theorem kcX6_62 : Cond.constant RX6 62 (-1000000001) ∈ WSall := in_all (List.mem_append_right _ (List.mem_of_getElem? (i := 226) (by decide +kernel))) (by decide +kernel)
theorem kcJ6_265 : Cond.constant RJ6 265 (1431655765) ∈ WSall := in_all (List.mem_append_right _ (List.mem_of_getElem? (i := 264) (by decide +kernel))) (by decide +kernel)
theorem kcJ6_266 : Cond.constant RJ6 266 (858993459) ∈ WSall := in_all (List.mem_append_right _ (List.mem_of_getElem? (i := 265) (by decide +kernel))) (by decide +kernel)
theorem kcJ6_267 : Cond.constant RJ6 267 (252645135) ∈ WSall := in_all (List.mem_append_right _ (List.mem_of_getElem? (i := 266) (by decide +kernel))) (by decide +kernel)
theorem kcX6_301 : Cond.constant RX6 301 (1048575) ∈ WSall := in_all (List.mem_append_right _ (List.mem_of_getElem? (i := 330) (by decide +kernel))) (by decide +kernel)
theorem kcX6_302 : Cond.constant RX6 302 (69905) ∈ WSall := in_all (List.mem_append_right _ (List.mem_of_getElem? (i := 331) (by decide +kernel))) (by decide +kernel)
theorem kcX6_171 : Cond.constant RX6 171 (-1000000004) ∈ WSall := in_all (List.mem_append_right _ (List.mem_of_getElem? (i := 429) (by decide +kernel))) (by decide +kernel)
theorem kcX6_144 : Cond.constant RX6 144 (-1000000002) ∈ WSall := in_all (List.mem_append_right _ (List.mem_of_getElem? (i := 438) (by decide +kernel))) (by decide +kernel)
theorem fsX6_322 : Cond.fieldLink RX6 322 "NewDishes" "SETS" "[I" ∈ WSall := in_all (List.mem_append_right _ (List.mem_of_getElem? (i := 451) (by decide +kernel))) (by decide +kernel)
theorem fsX6_298 : Cond.fieldLink RX6 298 "NewDishes" "ABOVE" "[I" ∈ WSall := in_all (List.mem_append_right _ (List.mem_of_getElem? (i := 463) (by decide +kernel))) (by decide +kernel)
theorem kcX6_170 : Cond.constant RX6 170 (-1000000003) ∈ WSall := in_all (List.mem_append_right _ (List.mem_of_getElem? (i := 465) (by decide +kernel))) (by decide +kernel)
theorem kcX6_197 : Cond.constant RX6 197 (-1000000005) ∈ WSall := in_all (List.mem_append_right _ (List.mem_of_getElem? (i := 528) (by decide +kernel))) (by decide +kernel)
theorem kcX3_71 : Cond.constant RX3 71 (69905) ∈ WSall := in_all (List.mem_append_right _ (List.mem_of_getElem? (i := 596) (by decide +kernel))) (by decide +kernel)
theorem kcX6_248 : Cond.constant RX6 248 (-1000000007) ∈ WSall := in_all (List.mem_append_right _ (List.mem_of_getElem? (i := 792) (by decide +kernel))) (by decide +kernel)
theorem kcX6_267 : Cond.constant RX6 267 (-1000000006) ∈ WSall := in_all (List.mem_append_right _ (List.mem_of_getElem? (i := 812) (by decide +kernel))) (by decide +kernel)
theorem klX6_280 : Cond.constantLong RX6 280 (99) ∈ WSall := in_all (List.mem_append_right _ (List.mem_of_getElem? (i := 835) (by decide +kernel))) (by decide +kernel)
theorem klX6_285 : Cond.constantLong RX6 285 (4499) ∈ WSall := in_all (List.mem_append_right _ (List.mem_of_getElem? (i := 848) (by decide +kernel))) (by decide +kernel)
theorem flX7_7 : FL RX7 7 7 0 := ⟨RX7, TX7, 36, rfl, by decide, in_all (List.mem_append_right _ (List.mem_of_getElem? (i := 885) (by decide +kernel))) (by decide +kernel)⟩
theorem flX7_13 : FL RX7 13 7 1 := ⟨RX7, TX7, 36, rfl, by decide, in_all (List.mem_append_right _ (List.mem_of_getElem? (i := 886) (by decide +kernel))) (by decide +kernel)⟩
theorem flX7_16 : FL RX7 16 7 2 := ⟨RX7, TX7, 36, rfl, by decide, in_all (List.mem_append_right _ (List.mem_of_getElem? (i := 887) (by decide +kernel))) (by decide +kernel)⟩
theorem flX7_163 : FL RX7 163 7 3 := ⟨RX7, TX7, 36, rfl, by decide, in_all (List.mem_append_right _ (List.mem_of_getElem? (i := 888) (by decide +kernel))) (by decide +kernel)⟩
theorem fpX7_163 : FP RX7 163 7 3 .int := ⟨RX7, TX7, 36, rfl, by decide, in_all (List.mem_append_right _ (List.mem_of_getElem? (i := 888) (by decide +kernel))) (by decide +kernel), rfl, by decide +kernel⟩
theorem flX7_93 : FL RX7 93 7 4 := ⟨RX7, TX7, 36, rfl, by decide, in_all (List.mem_append_right _ (List.mem_of_getElem? (i := 889) (by decide +kernel))) (by decide +kernel)⟩
theorem fpX7_93 : FP RX7 93 7 4 .int := ⟨RX7, TX7, 36, rfl, by decide, in_all (List.mem_append_right _ (List.mem_of_getElem? (i := 889) (by decide +kernel))) (by decide +kernel), rfl, by decide +kernel⟩
theorem flX7_19 : FL RX7 19 7 5 := ⟨RX7, TX7, 36, rfl, by decide, in_all (List.mem_append_right _ (List.mem_of_getElem? (i := 890) (by decide +kernel))) (by decide +kernel)⟩
theorem flX7_22 : FL RX7 22 7 6 := ⟨RX7, TX7, 36, rfl, by decide, in_all (List.mem_append_right _ (List.mem_of_getElem? (i := 891) (by decide +kernel))) (by decide +kernel)⟩
theorem flX7_25 : FL RX7 25 7 7 := ⟨RX7, TX7, 36, rfl, by decide, in_all (List.mem_append_right _ (List.mem_of_getElem? (i := 892) (by decide +kernel))) (by decide +kernel)⟩
theorem flX7_28 : FL RX7 28 7 8 := ⟨RX7, TX7, 36, rfl, by decide, in_all (List.mem_append_right _ (List.mem_of_getElem? (i := 893) (by decide +kernel))) (by decide +kernel)⟩
theorem flX7_31 : FL RX7 31 7 9 := ⟨RX7, TX7, 36, rfl, by decide, in_all (List.mem_append_right _ (List.mem_of_getElem? (i := 894) (by decide +kernel))) (by decide +kernel)⟩
theorem flX7_34 : FL RX7 34 7 10 := ⟨RX7, TX7, 36, rfl, by decide, in_all (List.mem_append_right _ (List.mem_of_getElem? (i := 895) (by decide +kernel))) (by decide +kernel)⟩
theorem flX7_37 : FL RX7 37 7 11 := ⟨RX7, TX7, 36, rfl, by decide, in_all (List.mem_append_right _ (List.mem_of_getElem? (i := 896) (by decide +kernel))) (by decide +kernel)⟩
theorem flX7_41 : FL RX7 41 7 12 := ⟨RX7, TX7, 36, rfl, by decide, in_all (List.mem_append_right _ (List.mem_of_getElem? (i := 897) (by decide +kernel))) (by decide +kernel)⟩
theorem flX7_44 : FL RX7 44 7 13 := ⟨RX7, TX7, 36, rfl, by decide, in_all (List.mem_append_right _ (List.mem_of_getElem? (i := 898) (by decide +kernel))) (by decide +kernel)⟩
theorem flX7_191 : FL RX7 191 7 14 := ⟨RX7, TX7, 36, rfl, by decide, in_all (List.mem_append_right _ (List.mem_of_getElem? (i := 899) (by decide +kernel))) (by decide +kernel)⟩
theorem fpX7_191 : FP RX7 191 7 14 .int := ⟨RX7, TX7, 36, rfl, by decide, in_all (List.mem_append_right _ (List.mem_of_getElem? (i := 899) (by decide +kernel))) (by decide +kernel), rfl, by decide +kernel⟩
theorem flX7_47 : FL RX7 47 7 15 := ⟨RX7, TX7, 36, rfl, by decide, in_all (List.mem_append_right _ (List.mem_of_getElem? (i := 900) (by decide +kernel))) (by decide +kernel)⟩
theorem flX7_50 : FL RX7 50 7 16 := ⟨RX7, TX7, 36, rfl, by decide, in_all (List.mem_append_right _ (List.mem_of_getElem? (i := 901) (by decide +kernel))) (by decide +kernel)⟩
theorem flX7_53 : FL RX7 53 7 17 := ⟨RX7, TX7, 36, rfl, by decide, in_all (List.mem_append_right _ (List.mem_of_getElem? (i := 902) (by decide +kernel))) (by decide +kernel)⟩
theorem flX7_206 : FL RX7 206 7 18 := ⟨RX7, TX7, 36, rfl, by decide, in_all (List.mem_append_right _ (List.mem_of_getElem? (i := 903) (by decide +kernel))) (by decide +kernel)⟩
theorem fpX7_206 : FP RX7 206 7 18 .int := ⟨RX7, TX7, 36, rfl, by decide, in_all (List.mem_append_right _ (List.mem_of_getElem? (i := 903) (by decide +kernel))) (by decide +kernel), rfl, by decide +kernel⟩
theorem flX7_56 : FL RX7 56 7 19 := ⟨RX7, TX7, 36, rfl, by decide, in_all (List.mem_append_right _ (List.mem_of_getElem? (i := 904) (by decide +kernel))) (by decide +kernel)⟩
theorem flX7_222 : FL RX7 222 7 20 := ⟨RX7, TX7, 36, rfl, by decide, in_all (List.mem_append_right _ (List.mem_of_getElem? (i := 905) (by decide +kernel))) (by decide +kernel)⟩
theorem fpX7_222 : FP RX7 222 7 20 .int := ⟨RX7, TX7, 36, rfl, by decide, in_all (List.mem_append_right _ (List.mem_of_getElem? (i := 905) (by decide +kernel))) (by decide +kernel), rfl, by decide +kernel⟩
theorem flX7_240 : FL RX7 240 7 21 := ⟨RX7, TX7, 36, rfl, by decide, in_all (List.mem_append_right _ (List.mem_of_getElem? (i := 906) (by decide +kernel))) (by decide +kernel)⟩
theorem fpX7_240 : FP RX7 240 7 21 .int := ⟨RX7, TX7, 36, rfl, by decide, in_all (List.mem_append_right _ (List.mem_of_getElem? (i := 906) (by decide +kernel))) (by decide +kernel), rfl, by decide +kernel⟩
theorem flX7_228 : FL RX7 228 7 22 := ⟨RX7, TX7, 36, rfl, by decide, in_all (List.mem_append_right _ (List.mem_of_getElem? (i := 907) (by decide +kernel))) (by decide +kernel)⟩
theorem fpX7_228 : FP RX7 228 7 22 .int := ⟨RX7, TX7, 36, rfl, by decide, in_all (List.mem_append_right _ (List.mem_of_getElem? (i := 907) (by decide +kernel))) (by decide +kernel), rfl, by decide +kernel⟩
theorem flX7_225 : FL RX7 225 7 23 := ⟨RX7, TX7, 36, rfl, by decide, in_all (List.mem_append_right _ (List.mem_of_getElem? (i := 908) (by decide +kernel))) (by decide +kernel)⟩
theorem fpX7_225 : FP RX7 225 7 23 .int := ⟨RX7, TX7, 36, rfl, by decide, in_all (List.mem_append_right _ (List.mem_of_getElem? (i := 908) (by decide +kernel))) (by decide +kernel), rfl, by decide +kernel⟩
theorem flX7_243 : FL RX7 243 7 24 := ⟨RX7, TX7, 36, rfl, by decide, in_all (List.mem_append_right _ (List.mem_of_getElem? (i := 909) (by decide +kernel))) (by decide +kernel)⟩
theorem fpX7_243 : FP RX7 243 7 24 .long := ⟨RX7, TX7, 36, rfl, by decide, in_all (List.mem_append_right _ (List.mem_of_getElem? (i := 909) (by decide +kernel))) (by decide +kernel), rfl, by decide +kernel⟩
theorem flX7_247 : FL RX7 247 7 25 := ⟨RX7, TX7, 36, rfl, by decide, in_all (List.mem_append_right _ (List.mem_of_getElem? (i := 910) (by decide +kernel))) (by decide +kernel)⟩
theorem fpX7_247 : FP RX7 247 7 25 .int := ⟨RX7, TX7, 36, rfl, by decide, in_all (List.mem_append_right _ (List.mem_of_getElem? (i := 910) (by decide +kernel))) (by decide +kernel), rfl, by decide +kernel⟩
theorem flX7_272 : FL RX7 272 7 26 := ⟨RX7, TX7, 36, rfl, by decide, in_all (List.mem_append_right _ (List.mem_of_getElem? (i := 911) (by decide +kernel))) (by decide +kernel)⟩
theorem fpX7_272 : FP RX7 272 7 26 .boolean := ⟨RX7, TX7, 36, rfl, by decide, in_all (List.mem_append_right _ (List.mem_of_getElem? (i := 911) (by decide +kernel))) (by decide +kernel), rfl, by decide +kernel⟩
theorem flX7_59 : FL RX7 59 7 27 := ⟨RX7, TX7, 36, rfl, by decide, in_all (List.mem_append_right _ (List.mem_of_getElem? (i := 912) (by decide +kernel))) (by decide +kernel)⟩
theorem flX7_62 : FL RX7 62 7 28 := ⟨RX7, TX7, 36, rfl, by decide, in_all (List.mem_append_right _ (List.mem_of_getElem? (i := 913) (by decide +kernel))) (by decide +kernel)⟩
theorem flX7_65 : FL RX7 65 7 29 := ⟨RX7, TX7, 36, rfl, by decide, in_all (List.mem_append_right _ (List.mem_of_getElem? (i := 914) (by decide +kernel))) (by decide +kernel)⟩
theorem flX7_69 : FL RX7 69 7 30 := ⟨RX7, TX7, 36, rfl, by decide, in_all (List.mem_append_right _ (List.mem_of_getElem? (i := 915) (by decide +kernel))) (by decide +kernel)⟩
theorem flX7_72 : FL RX7 72 7 31 := ⟨RX7, TX7, 36, rfl, by decide, in_all (List.mem_append_right _ (List.mem_of_getElem? (i := 916) (by decide +kernel))) (by decide +kernel)⟩
theorem flX7_75 : FL RX7 75 7 32 := ⟨RX7, TX7, 36, rfl, by decide, in_all (List.mem_append_right _ (List.mem_of_getElem? (i := 917) (by decide +kernel))) (by decide +kernel)⟩
theorem flX7_370 : FL RX7 370 7 33 := ⟨RX7, TX7, 36, rfl, by decide, in_all (List.mem_append_right _ (List.mem_of_getElem? (i := 918) (by decide +kernel))) (by decide +kernel)⟩
theorem fpX7_370 : FP RX7 370 7 33 .boolean := ⟨RX7, TX7, 36, rfl, by decide, in_all (List.mem_append_right _ (List.mem_of_getElem? (i := 918) (by decide +kernel))) (by decide +kernel), rfl, by decide +kernel⟩
theorem flX7_363 : FL RX7 363 7 34 := ⟨RX7, TX7, 36, rfl, by decide, in_all (List.mem_append_right _ (List.mem_of_getElem? (i := 919) (by decide +kernel))) (by decide +kernel)⟩
theorem fpX7_363 : FP RX7 363 7 34 .int := ⟨RX7, TX7, 36, rfl, by decide, in_all (List.mem_append_right _ (List.mem_of_getElem? (i := 919) (by decide +kernel))) (by decide +kernel), rfl, by decide +kernel⟩
theorem flX7_78 : FL RX7 78 7 35 := ⟨RX7, TX7, 36, rfl, by decide, in_all (List.mem_append_right _ (List.mem_of_getElem? (i := 920) (by decide +kernel))) (by decide +kernel)⟩
theorem kcX7_85 : Cond.constant RX7 85 (-1000000001) ∈ WSall := in_all (List.mem_append_right _ (List.mem_of_getElem? (i := 1008) (by decide +kernel))) (by decide +kernel)
theorem kcX7_127 : Cond.constant RX7 127 (-1000000004) ∈ WSall := in_all (List.mem_append_right _ (List.mem_of_getElem? (i := 1075) (by decide +kernel))) (by decide +kernel)
theorem kcX7_162 : Cond.constant RX7 162 (-1000000002) ∈ WSall := in_all (List.mem_append_right _ (List.mem_of_getElem? (i := 1118) (by decide +kernel))) (by decide +kernel)
theorem kcX7_179 : Cond.constant RX7 179 (-1000000003) ∈ WSall := in_all (List.mem_append_right _ (List.mem_of_getElem? (i := 1146) (by decide +kernel))) (by decide +kernel)
theorem kcX7_187 : Cond.constant RX7 187 (-1000000005) ∈ WSall := in_all (List.mem_append_right _ (List.mem_of_getElem? (i := 1187) (by decide +kernel))) (by decide +kernel)
theorem klX7_250 : Cond.constantLong RX7 250 (27) ∈ WSall := in_all (List.mem_append_right _ (List.mem_of_getElem? (i := 1290) (by decide +kernel))) (by decide +kernel)
theorem klX7_252 : Cond.constantLong RX7 252 (96) ∈ WSall := in_all (List.mem_append_right _ (List.mem_of_getElem? (i := 1291) (by decide +kernel))) (by decide +kernel)
theorem klX7_254 : Cond.constantLong RX7 254 (-1) ∈ WSall := in_all (List.mem_append_right _ (List.mem_of_getElem? (i := 1292) (by decide +kernel))) (by decide +kernel)
theorem klX7_256 : Cond.constantLong RX7 256 (2947858) ∈ WSall := in_all (List.mem_append_right _ (List.mem_of_getElem? (i := 1301) (by decide +kernel))) (by decide +kernel)
theorem klX7_262 : Cond.constantLong RX7 262 (230482966) ∈ WSall := in_all (List.mem_append_right _ (List.mem_of_getElem? (i := 1306) (by decide +kernel))) (by decide +kernel)
theorem klX7_264 : Cond.constantLong RX7 264 (4137608) ∈ WSall := in_all (List.mem_append_right _ (List.mem_of_getElem? (i := 1307) (by decide +kernel))) (by decide +kernel)
theorem klX7_266 : Cond.constantLong RX7 266 (7469473) ∈ WSall := in_all (List.mem_append_right _ (List.mem_of_getElem? (i := 1308) (by decide +kernel))) (by decide +kernel)
theorem klX7_268 : Cond.constantLong RX7 268 (3288323) ∈ WSall := in_all (List.mem_append_right _ (List.mem_of_getElem? (i := 1309) (by decide +kernel))) (by decide +kernel)
theorem klX7_270 : Cond.constantLong RX7 270 (275358764) ∈ WSall := in_all (List.mem_append_right _ (List.mem_of_getElem? (i := 1310) (by decide +kernel))) (by decide +kernel)
theorem klX7_279 : Cond.constantLong RX7 279 (16819) ∈ WSall := in_all (List.mem_append_right _ (List.mem_of_getElem? (i := 1315) (by decide +kernel))) (by decide +kernel)
theorem klX7_288 : Cond.constantLong RX7 288 (10132457) ∈ WSall := in_all (List.mem_append_right _ (List.mem_of_getElem? (i := 1324) (by decide +kernel))) (by decide +kernel)
theorem klX7_310 : Cond.constantLong RX7 310 (10502465) ∈ WSall := in_all (List.mem_append_right _ (List.mem_of_getElem? (i := 1325) (by decide +kernel))) (by decide +kernel)
theorem klX7_315 : Cond.constantLong RX7 315 (6562612) ∈ WSall := in_all (List.mem_append_right _ (List.mem_of_getElem? (i := 1330) (by decide +kernel))) (by decide +kernel)
theorem klX7_317 : Cond.constantLong RX7 317 (4865210560) ∈ WSall := in_all (List.mem_append_right _ (List.mem_of_getElem? (i := 1331) (by decide +kernel))) (by decide +kernel)
theorem klX7_290 : Cond.constantLong RX7 290 (10793230) ∈ WSall := in_all (List.mem_append_right _ (List.mem_of_getElem? (i := 1336) (by decide +kernel))) (by decide +kernel)
theorem klX7_323 : Cond.constantLong RX7 323 (2742599) ∈ WSall := in_all (List.mem_append_right _ (List.mem_of_getElem? (i := 1337) (by decide +kernel))) (by decide +kernel)
theorem klX7_292 : Cond.constantLong RX7 292 (273576358) ∈ WSall := in_all (List.mem_append_right _ (List.mem_of_getElem? (i := 1342) (by decide +kernel))) (by decide +kernel)
theorem klX7_294 : Cond.constantLong RX7 294 (454132) ∈ WSall := in_all (List.mem_append_right _ (List.mem_of_getElem? (i := 1343) (by decide +kernel))) (by decide +kernel)
theorem klX7_300 : Cond.constantLong RX7 300 (419) ∈ WSall := in_all (List.mem_append_right _ (List.mem_of_getElem? (i := 1348) (by decide +kernel))) (by decide +kernel)
theorem klX7_302 : Cond.constantLong RX7 302 (11103) ∈ WSall := in_all (List.mem_append_right _ (List.mem_of_getElem? (i := 1349) (by decide +kernel))) (by decide +kernel)
theorem klX7_328 : Cond.constantLong RX7 328 (2968) ∈ WSall := in_all (List.mem_append_right _ (List.mem_of_getElem? (i := 1350) (by decide +kernel))) (by decide +kernel)
theorem kcX7_343 : Cond.constant RX7 343 (-1000000007) ∈ WSall := in_all (List.mem_append_right _ (List.mem_of_getElem? (i := 1362) (by decide +kernel))) (by decide +kernel)
theorem kcX7_344 : Cond.constant RX7 344 (-1000000006) ∈ WSall := in_all (List.mem_append_right _ (List.mem_of_getElem? (i := 1367) (by decide +kernel))) (by decide +kernel)
theorem klX7_352 : Cond.constantLong RX7 352 (99) ∈ WSall := in_all (List.mem_append_right _ (List.mem_of_getElem? (i := 1383) (by decide +kernel))) (by decide +kernel)
theorem klX7_357 : Cond.constantLong RX7 357 (5120) ∈ WSall := in_all (List.mem_append_right _ (List.mem_of_getElem? (i := 1400) (by decide +kernel))) (by decide +kernel)
theorem klL_154 : Cond.constantLong RL 154 (4294967295) ∈ WSall := in_all (List.mem_append_right _ (List.mem_of_getElem? (i := 1421) (by decide +kernel))) (by decide +kernel)
theorem fnX0_59 : Cond.fieldLinkNest RX0 59 "NewDishes" "SETS" "[I" "NewDishes" ∈ nestW := List.mem_of_getElem? (i := 15) (by decide +kernel)
theorem fnX2_75 : Cond.fieldLinkNest RX2 75 "NewDishes" "SETS" "[I" "NewDishes" ∈ nestW := List.mem_of_getElem? (i := 17) (by decide +kernel)
theorem fnX3_58 : Cond.fieldLinkNest RX3 58 "NewDishes" "SETS" "[I" "NewDishes" ∈ nestW := List.mem_of_getElem? (i := 30) (by decide +kernel)
