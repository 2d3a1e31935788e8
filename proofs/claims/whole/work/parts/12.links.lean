/-! ===== methods, rooms, links (written by mk_links.py) ===== -/
theorem in_X0 : ∀ w ∈ u_ws RX0 TX0 4, w ∈ Tb := by decide +kernel
theorem FL_X0 {own : String} {ix fk : Nat} (hk : fk < 4) (h : Cond.fieldLink own ix (TX0 fk).1 (TX0 fk).2.1 (TX0 fk).2.2.1 ∈ Tb ∨ ∃ host, Cond.fieldLinkNest own ix (TX0 fk).1 (TX0 fk).2.1 (TX0 fk).2.2.1 host ∈ Tb) : FL own ix 0 fk := ⟨RX0, TX0, 4, tyX0, rfl, hk, in_X0, tyX0_ok, nmX0, h⟩
theorem in_X1 : ∀ w ∈ u_ws RX1 TX1 3, w ∈ Tb := by decide +kernel
theorem FL_X1 {own : String} {ix fk : Nat} (hk : fk < 3) (h : Cond.fieldLink own ix (TX1 fk).1 (TX1 fk).2.1 (TX1 fk).2.2.1 ∈ Tb ∨ ∃ host, Cond.fieldLinkNest own ix (TX1 fk).1 (TX1 fk).2.1 (TX1 fk).2.2.1 host ∈ Tb) : FL own ix 1 fk := ⟨RX1, TX1, 3, tyX1, rfl, hk, in_X1, tyX1_ok, nmX1, h⟩
theorem in_X2 : ∀ w ∈ u_ws RX2 TX2 3, w ∈ Tb := by decide +kernel
theorem FL_X2 {own : String} {ix fk : Nat} (hk : fk < 3) (h : Cond.fieldLink own ix (TX2 fk).1 (TX2 fk).2.1 (TX2 fk).2.2.1 ∈ Tb ∨ ∃ host, Cond.fieldLinkNest own ix (TX2 fk).1 (TX2 fk).2.1 (TX2 fk).2.2.1 host ∈ Tb) : FL own ix 2 fk := ⟨RX2, TX2, 3, tyX2, rfl, hk, in_X2, tyX2_ok, nmX2, h⟩
theorem in_X3 : ∀ w ∈ u_ws RX3 TX3 3, w ∈ Tb := by decide +kernel
theorem FL_X3 {own : String} {ix fk : Nat} (hk : fk < 3) (h : Cond.fieldLink own ix (TX3 fk).1 (TX3 fk).2.1 (TX3 fk).2.2.1 ∈ Tb ∨ ∃ host, Cond.fieldLinkNest own ix (TX3 fk).1 (TX3 fk).2.1 (TX3 fk).2.2.1 host ∈ Tb) : FL own ix 3 fk := ⟨RX3, TX3, 3, tyX3, rfl, hk, in_X3, tyX3_ok, nmX3, h⟩
theorem in_X4 : ∀ w ∈ u_ws RX4 TX4 5, w ∈ Tb := by decide +kernel
theorem FL_X4 {own : String} {ix fk : Nat} (hk : fk < 5) (h : Cond.fieldLink own ix (TX4 fk).1 (TX4 fk).2.1 (TX4 fk).2.2.1 ∈ Tb ∨ ∃ host, Cond.fieldLinkNest own ix (TX4 fk).1 (TX4 fk).2.1 (TX4 fk).2.2.1 host ∈ Tb) : FL own ix 4 fk := ⟨RX4, TX4, 5, tyX4, rfl, hk, in_X4, tyX4_ok, nmX4, h⟩
theorem in_X5 : ∀ w ∈ u_ws RX5 TX5 5, w ∈ Tb := by decide +kernel
theorem FL_X5 {own : String} {ix fk : Nat} (hk : fk < 5) (h : Cond.fieldLink own ix (TX5 fk).1 (TX5 fk).2.1 (TX5 fk).2.2.1 ∈ Tb ∨ ∃ host, Cond.fieldLinkNest own ix (TX5 fk).1 (TX5 fk).2.1 (TX5 fk).2.2.1 host ∈ Tb) : FL own ix 5 fk := ⟨RX5, TX5, 5, tyX5, rfl, hk, in_X5, tyX5_ok, nmX5, h⟩
theorem in_X6 : ∀ w ∈ u_ws RX6 TX6 11, w ∈ Tb := by decide +kernel
theorem FL_X6 {own : String} {ix fk : Nat} (hk : fk < 11) (h : Cond.fieldLink own ix (TX6 fk).1 (TX6 fk).2.1 (TX6 fk).2.2.1 ∈ Tb ∨ ∃ host, Cond.fieldLinkNest own ix (TX6 fk).1 (TX6 fk).2.1 (TX6 fk).2.2.1 host ∈ Tb) : FL own ix 6 fk := ⟨RX6, TX6, 11, tyX6, rfl, hk, in_X6, tyX6_ok, nmX6, h⟩
theorem in_X7 : ∀ w ∈ u_ws RX7 TX7 29, w ∈ Tb := by decide +kernel
theorem FL_X7 {own : String} {ix fk : Nat} (hk : fk < 29) (h : Cond.fieldLink own ix (TX7 fk).1 (TX7 fk).2.1 (TX7 fk).2.2.1 ∈ Tb ∨ ∃ host, Cond.fieldLinkNest own ix (TX7 fk).1 (TX7 fk).2.1 (TX7 fk).2.2.1 host ∈ Tb) : FL own ix 7 fk := ⟨RX7, TX7, 29, tyX7, rfl, hk, in_X7, tyX7_ok, nmX7, h⟩
abbrev YX0_init : AY := (yX0_init, cX0_init, 1, none, [], { frames := 1, cells := 1, slots := 600, locals := 20 })
theorem ck_X0_init : CK YX0_init 0 := ⟨Tb_at 130 (by decide +kernel) (by decide +kernel), Tb_at 40 (by decide +kernel) (by decide +kernel), by decide +kernel, by decide +kernel, by decide +kernel⟩
abbrev YX0_append : AY := (yX0_append, cX0_append, 2, none, [], { frames := 0, cells := 0, slots := 0, locals := 0 })
theorem ck_X0_append : CK YX0_append 1 := ⟨Tb_at 641 (by decide +kernel) (by decide +kernel), Tb_at 40 (by decide +kernel) (by decide +kernel), by decide +kernel, by decide +kernel, by decide +kernel⟩
abbrev YX0_packFrom : AY := (yX0_packFrom, cX0_packFrom, 6, none, [], { frames := 2, cells := 0, slots := 0, locals := 43 })
theorem ck_X0_packFrom : CK YX0_packFrom 1 := ⟨Tb_at 633 (by decide +kernel) (by decide +kernel), Tb_at 40 (by decide +kernel) (by decide +kernel), by decide +kernel, by decide +kernel, by decide +kernel⟩
abbrev YX0_appendDifference : AY := (yX0_appendDifference, cX0_appendDifference, 3, none, [], { frames := 1, cells := 0, slots := 0, locals := 21 })
theorem ck_X0_appendDifference : CK YX0_appendDifference 1 := ⟨Tb_at 637 (by decide +kernel) (by decide +kernel), Tb_at 40 (by decide +kernel) (by decide +kernel), by decide +kernel, by decide +kernel, by decide +kernel⟩
abbrev YX0_unpackTo : AY := (yX0_unpackTo, cX0_unpackTo, 6, some .boolean, [], { frames := 2, cells := 0, slots := 0, locals := 46 })
theorem ck_X0_unpackTo : CK YX0_unpackTo 1 := ⟨Tb_at 667 (by decide +kernel) (by decide +kernel), Tb_at 40 (by decide +kernel) (by decide +kernel), by decide +kernel, by decide +kernel, by decide +kernel⟩
abbrev YX0_nextDifference : AY := (yX0_nextDifference, cX0_nextDifference, 4, some .int, [], { frames := 0, cells := 0, slots := 0, locals := 0 })
theorem ck_X0_nextDifference : CK YX0_nextDifference 0 := ⟨Tb_at 671 (by decide +kernel) (by decide +kernel), Tb_at 40 (by decide +kernel) (by decide +kernel), by decide +kernel, by decide +kernel, by decide +kernel⟩
abbrev YX1_init : AY := (yX1_init, cX1_init, 1, none, [], { frames := 1, cells := 2, slots := 16, locals := 20 })
theorem ck_X1_init : CK YX1_init 0 := ⟨Tb_at 158 (by decide +kernel) (by decide +kernel), Tb_at 42 (by decide +kernel) (by decide +kernel), by decide +kernel, by decide +kernel, by decide +kernel⟩
abbrev YX1_numberFor : AY := (yX1_numberFor, cX1_numberFor, 3, some .int, [], { frames := 0, cells := 0, slots := 0, locals := 0 })
theorem ck_X1_numberFor : CK YX1_numberFor 1 := ⟨Tb_at 261 (by decide +kernel) (by decide +kernel), Tb_at 42 (by decide +kernel) (by decide +kernel), by decide +kernel, by decide +kernel, by decide +kernel⟩
abbrev YX1_fits : AY := (yX1_fits, cX1_fits, 6, some .boolean, [], { frames := 0, cells := 0, slots := 0, locals := 0 })
theorem ck_X1_fits : CK YX1_fits 3 := ⟨Tb_at 501 (by decide +kernel) (by decide +kernel), Tb_at 42 (by decide +kernel) (by decide +kernel), by decide +kernel, by decide +kernel, by decide +kernel⟩
abbrev YX1_insert : AY := (yX1_insert, cX1_insert, 5, none, [], { frames := 0, cells := 0, slots := 0, locals := 0 })
theorem ck_X1_insert : CK YX1_insert 3 := ⟨Tb_at 505 (by decide +kernel) (by decide +kernel), Tb_at 42 (by decide +kernel) (by decide +kernel), by decide +kernel, by decide +kernel, by decide +kernel⟩
abbrev YX1_trueTime : AY := (yX1_trueTime, cX1_trueTime, 3, some .int, [], { frames := 1, cells := 0, slots := 0, locals := 26 })
theorem ck_X1_trueTime : CK YX1_trueTime 1 := ⟨Tb_at 257 (by decide +kernel) (by decide +kernel), Tb_at 42 (by decide +kernel) (by decide +kernel), by decide +kernel, by decide +kernel, by decide +kernel⟩
abbrev YX1_between : AY := (yX1_between, cX1_between, 7, some .int, [], { frames := 0, cells := 0, slots := 0, locals := 0 })
theorem ck_X1_between : CK YX1_between 3 := ⟨Tb_at 265 (by decide +kernel) (by decide +kernel), Tb_at 42 (by decide +kernel) (by decide +kernel), by decide +kernel, by decide +kernel, by decide +kernel⟩
abbrev YX2_init : AY := (yX2_init, cX2_init, 1, none, [], { frames := 2, cells := 7, slots := 204, locals := 41 })
theorem ck_X2_init : CK YX2_init 0 := ⟨Tb_at 150 (by decide +kernel) (by decide +kernel), Tb_at 41 (by decide +kernel) (by decide +kernel), by decide +kernel, by decide +kernel, by decide +kernel⟩
abbrev YX2_trueTimeOf : AY := (yX2_trueTimeOf, cX2_trueTimeOf, 2, some .int, [], { frames := 2, cells := 0, slots := 0, locals := 48 })
theorem ck_X2_trueTimeOf : CK YX2_trueTimeOf 1 := ⟨Tb_at 253 (by decide +kernel) (by decide +kernel), Tb_at 41 (by decide +kernel) (by decide +kernel), by decide +kernel, by decide +kernel, by decide +kernel⟩
abbrev YX2_trueTimeBefore : AY := (yX2_trueTimeBefore, cX2_trueTimeBefore, 2, some .int, [], { frames := 3, cells := 0, slots := 0, locals := 69 })
theorem ck_X2_trueTimeBefore : CK YX2_trueTimeBefore 1 := ⟨Tb_at 465 (by decide +kernel) (by decide +kernel), Tb_at 41 (by decide +kernel) (by decide +kernel), by decide +kernel, by decide +kernel, by decide +kernel⟩
abbrev YX2_isJump : AY := (yX2_isJump, cX2_isJump, 5, some .boolean, [], { frames := 4, cells := 0, slots := 0, locals := 90 })
theorem ck_X2_isJump : CK YX2_isJump 2 := ⟨Tb_at 461 (by decide +kernel) (by decide +kernel), Tb_at 41 (by decide +kernel) (by decide +kernel), by decide +kernel, by decide +kernel, by decide +kernel⟩
abbrev YX2_isBehindGap : AY := (yX2_isBehindGap, cX2_isBehindGap, 3, some .boolean, [], { frames := 4, cells := 0, slots := 0, locals := 90 })
theorem ck_X2_isBehindGap : CK YX2_isBehindGap 2 := ⟨Tb_at 474 (by decide +kernel) (by decide +kernel), Tb_at 41 (by decide +kernel) (by decide +kernel), by decide +kernel, by decide +kernel, by decide +kernel⟩
abbrev YX2_jumps : AY := (yX2_jumps, cX2_jumps, 4, some .int, [], { frames := 5, cells := 0, slots := 0, locals := 114 })
theorem ck_X2_jumps : CK YX2_jumps 1 := ⟨Tb_at 457 (by decide +kernel) (by decide +kernel), Tb_at 41 (by decide +kernel) (by decide +kernel), by decide +kernel, by decide +kernel, by decide +kernel⟩
abbrev YX2_gaps : AY := (yX2_gaps, cX2_gaps, 4, some .int, [], { frames := 5, cells := 0, slots := 0, locals := 112 })
theorem ck_X2_gaps : CK YX2_gaps 1 := ⟨Tb_at 470 (by decide +kernel) (by decide +kernel), Tb_at 41 (by decide +kernel) (by decide +kernel), by decide +kernel, by decide +kernel, by decide +kernel⟩
abbrev YX2_placeOfJump : AY := (yX2_placeOfJump, cX2_placeOfJump, 5, some .int, [], { frames := 5, cells := 0, slots := 0, locals := 114 })
theorem ck_X2_placeOfJump : CK YX2_placeOfJump 2 := ⟨Tb_at 538 (by decide +kernel) (by decide +kernel), Tb_at 41 (by decide +kernel) (by decide +kernel), by decide +kernel, by decide +kernel, by decide +kernel⟩
abbrev YX2_placeBehindGap : AY := (yX2_placeBehindGap, cX2_placeBehindGap, 5, some .int, [], { frames := 5, cells := 0, slots := 0, locals := 112 })
theorem ck_X2_placeBehindGap : CK YX2_placeBehindGap 2 := ⟨Tb_at 549 (by decide +kernel) (by decide +kernel), Tb_at 41 (by decide +kernel) (by decide +kernel), by decide +kernel, by decide +kernel, by decide +kernel⟩
abbrev YX2_placeNearestTo : AY := (yX2_placeNearestTo, cX2_placeNearestTo, 6, some .int, [], { frames := 3, cells := 0, slots := 0, locals := 69 })
theorem ck_X2_placeNearestTo : CK YX2_placeNearestTo 1 := ⟨Tb_at 249 (by decide +kernel) (by decide +kernel), Tb_at 41 (by decide +kernel) (by decide +kernel), by decide +kernel, by decide +kernel, by decide +kernel⟩
abbrev YX3_init : AY := (yX3_init, cX3_init, 1, none, [], { frames := 1, cells := 2, slots := 16, locals := 20 })
theorem ck_X3_init : CK YX3_init 0 := ⟨Tb_at 187 (by decide +kernel) (by decide +kernel), Tb_at 43 (by decide +kernel) (by decide +kernel), by decide +kernel, by decide +kernel, by decide +kernel⟩
abbrev YX3_append : AY := (yX3_append, cX3_append, 3, none, [], { frames := 0, cells := 0, slots := 0, locals := 0 })
theorem ck_X3_append : CK YX3_append 2 := ⟨Tb_at 594 (by decide +kernel) (by decide +kernel), Tb_at 43 (by decide +kernel) (by decide +kernel), by decide +kernel, by decide +kernel, by decide +kernel⟩
abbrev YX3_holds : AY := (yX3_holds, cX3_holds, 10, some .boolean, [], { frames := 2, cells := 0, slots := 0, locals := 45 })
theorem ck_X3_holds : CK YX3_holds 2 := ⟨Tb_at 605 (by decide +kernel) (by decide +kernel), Tb_at 43 (by decide +kernel) (by decide +kernel), by decide +kernel, by decide +kernel, by decide +kernel⟩
abbrev YX3_turn : AY := (yX3_turn, cX3_turn, 9, some .long, [], { frames := 0, cells := 0, slots := 0, locals := 0 })
theorem ck_X3_turn : CK YX3_turn 4 := ⟨Tb_at 609 (by decide +kernel) (by decide +kernel), Tb_at 43 (by decide +kernel) (by decide +kernel), by decide +kernel, by decide +kernel, by decide +kernel⟩
abbrev YX3_isBeside : AY := (yX3_isBeside, cX3_isBeside, 5, some .boolean, [], { frames := 1, cells := 0, slots := 0, locals := 21 })
theorem ck_X3_isBeside : CK YX3_isBeside 4 := ⟨Tb_at 613 (by decide +kernel) (by decide +kernel), Tb_at 43 (by decide +kernel) (by decide +kernel), by decide +kernel, by decide +kernel, by decide +kernel⟩
abbrev YX4_init : AY := (yX4_init, cX4_init, 1, none, [], { frames := 1, cells := 14, slots := 233, locals := 20 })
theorem ck_X4_init : CK YX4_init 0 := ⟨Tb_at 103 (by decide +kernel) (by decide +kernel), Tb_at 39 (by decide +kernel) (by decide +kernel), by decide +kernel, by decide +kernel, by decide +kernel⟩
abbrev YX4_choose : AY := (yX4_choose, cX4_choose, 5, none, [], { frames := 3, cells := 0, slots := 0, locals := 72 })
theorem ck_X4_choose : CK YX4_choose 2 := ⟨Tb_at 277 (by decide +kernel) (by decide +kernel), Tb_at 39 (by decide +kernel) (by decide +kernel), by decide +kernel, by decide +kernel, by decide +kernel⟩
abbrev YX4_sum : AY := (yX4_sum, cX4_sum, 4, some .long, [], { frames := 0, cells := 0, slots := 0, locals := 0 })
theorem ck_X4_sum : CK YX4_sum 0 := ⟨Tb_at 298 (by decide +kernel) (by decide +kernel), Tb_at 39 (by decide +kernel) (by decide +kernel), by decide +kernel, by decide +kernel, by decide +kernel⟩
abbrev YX4_sumUp : AY := (yX4_sumUp, cX4_sumUp, 4, none, [], { frames := 2, cells := 0, slots := 0, locals := 49 })
theorem ck_X4_sumUp : CK YX4_sumUp 0 := ⟨Tb_at 284 (by decide +kernel) (by decide +kernel), Tb_at 39 (by decide +kernel) (by decide +kernel), by decide +kernel, by decide +kernel, by decide +kernel⟩
abbrev YX4_firstBest : AY := (yX4_firstBest, cX4_firstBest, 7, some .int, [], { frames := 1, cells := 0, slots := 0, locals := 23 })
theorem ck_X4_firstBest : CK YX4_firstBest 2 := ⟨Tb_at 288 (by decide +kernel) (by decide +kernel), Tb_at 39 (by decide +kernel) (by decide +kernel), by decide +kernel, by decide +kernel, by decide +kernel⟩
abbrev YX4_sumWith : AY := (yX4_sumWith, cX4_sumWith, 4, some .long, [], { frames := 0, cells := 0, slots := 0, locals := 0 })
theorem ck_X4_sumWith : CK YX4_sumWith 3 := ⟨Tb_at 292 (by decide +kernel) (by decide +kernel), Tb_at 39 (by decide +kernel) (by decide +kernel), by decide +kernel, by decide +kernel, by decide +kernel⟩
abbrev YX5_init : AY := (yX5_init, cX5_init, 2, none, [], { frames := 1, cells := 3, slots := 180, locals := 20 })
theorem ck_X5_init : CK YX5_init 1 := ⟨Tb_at 68 (by decide +kernel) (by decide +kernel), Tb_at 38 (by decide +kernel) (by decide +kernel), by decide +kernel, by decide +kernel, by decide +kernel⟩
abbrev YX5_numberFor : AY := (yX5_numberFor, cX5_numberFor, 3, some .int, [], { frames := 0, cells := 0, slots := 0, locals := 0 })
theorem ck_X5_numberFor : CK YX5_numberFor 1 := ⟨Tb_at 434 (by decide +kernel) (by decide +kernel), Tb_at 38 (by decide +kernel) (by decide +kernel), by decide +kernel, by decide +kernel, by decide +kernel⟩
abbrev YX5_hasSecond : AY := (yX5_hasSecond, cX5_hasSecond, 3, some .boolean, [], { frames := 0, cells := 0, slots := 0, locals := 0 })
theorem ck_X5_hasSecond : CK YX5_hasSecond 2 := ⟨Tb_at 438 (by decide +kernel) (by decide +kernel), Tb_at 38 (by decide +kernel) (by decide +kernel), by decide +kernel, by decide +kernel, by decide +kernel⟩
abbrev YX5_isAt : AY := (yX5_isAt, cX5_isAt, 4, some .boolean, [], { frames := 0, cells := 0, slots := 0, locals := 0 })
theorem ck_X5_isAt : CK YX5_isAt 3 := ⟨Tb_at 442 (by decide +kernel) (by decide +kernel), Tb_at 38 (by decide +kernel) (by decide +kernel), by decide +kernel, by decide +kernel, by decide +kernel⟩
abbrev YX5_insert : AY := (yX5_insert, cX5_insert, 6, none, [], { frames := 0, cells := 0, slots := 0, locals := 0 })
theorem ck_X5_insert : CK YX5_insert 4 := ⟨Tb_at 446 (by decide +kernel) (by decide +kernel), Tb_at 38 (by decide +kernel) (by decide +kernel), by decide +kernel, by decide +kernel, by decide +kernel⟩
abbrev YX5_mayFollow : AY := (yX5_mayFollow, cX5_mayFollow, 5, some .boolean, [], { frames := 1, cells := 0, slots := 0, locals := 22 })
theorem ck_X5_mayFollow : CK YX5_mayFollow 3 := ⟨Tb_at 675 (by decide +kernel) (by decide +kernel), Tb_at 38 (by decide +kernel) (by decide +kernel), by decide +kernel, by decide +kernel, by decide +kernel⟩
abbrev YX5_becomeAs : AY := (yX5_becomeAs, cX5_becomeAs, 3, none, [], { frames := 1, cells := 0, slots := 0, locals := 25 })
theorem ck_X5_becomeAs : CK YX5_becomeAs 1 := ⟨Tb_at 681 (by decide +kernel) (by decide +kernel), Tb_at 38 (by decide +kernel) (by decide +kernel), by decide +kernel, by decide +kernel, by decide +kernel⟩
abbrev YX5_squareTo : AY := (yX5_squareTo, cX5_squareTo, 8, some .long, [], { frames := 0, cells := 0, slots := 0, locals := 0 })
theorem ck_X5_squareTo : CK YX5_squareTo 3 := ⟨Tb_at 273 (by decide +kernel) (by decide +kernel), Tb_at 38 (by decide +kernel) (by decide +kernel), by decide +kernel, by decide +kernel, by decide +kernel⟩
abbrev YX5_squareToCell : AY := (yX5_squareToCell, cX5_squareToCell, 4, some .long, [], { frames := 2, cells := 0, slots := 0, locals := 43 })
theorem ck_X5_squareToCell : CK YX5_squareToCell 3 := ⟨Tb_at 560 (by decide +kernel) (by decide +kernel), Tb_at 38 (by decide +kernel) (by decide +kernel), by decide +kernel, by decide +kernel, by decide +kernel⟩
abbrev YX5_nearestInCell : AY := (yX5_nearestInCell, cX5_nearestInCell, 3, some .int, [], { frames := 1, cells := 0, slots := 0, locals := 21 })
theorem ck_X5_nearestInCell : CK YX5_nearestInCell 2 := ⟨Tb_at 563 (by decide +kernel) (by decide +kernel), Tb_at 38 (by decide +kernel) (by decide +kernel), by decide +kernel, by decide +kernel, by decide +kernel⟩
abbrev YX5_firstRepeat : AY := (yX5_firstRepeat, cX5_firstRepeat, 4, some .int, [], { frames := 2, cells := 0, slots := 0, locals := 46 })
theorem ck_X5_firstRepeat : CK YX5_firstRepeat 1 := ⟨Tb_at 693 (by decide +kernel) (by decide +kernel), Tb_at 38 (by decide +kernel) (by decide +kernel), by decide +kernel, by decide +kernel, by decide +kernel⟩
abbrev YX5_sameSteps : AY := (yX5_sameSteps, cX5_sameSteps, 5, some .boolean, [], { frames := 1, cells := 0, slots := 0, locals := 22 })
theorem ck_X5_sameSteps : CK YX5_sameSteps 3 := ⟨Tb_at 697 (by decide +kernel) (by decide +kernel), Tb_at 38 (by decide +kernel) (by decide +kernel), by decide +kernel, by decide +kernel, by decide +kernel⟩
abbrev YX5_sameStep : AY := (yX5_sameStep, cX5_sameStep, 3, some .boolean, [], { frames := 0, cells := 0, slots := 0, locals := 0 })
theorem ck_X5_sameStep : CK YX5_sameStep 2 := ⟨Tb_at 701 (by decide +kernel) (by decide +kernel), Tb_at 38 (by decide +kernel) (by decide +kernel), by decide +kernel, by decide +kernel, by decide +kernel⟩
abbrev YX6_init : AY := (yX6_init, cX6_init, 2, none, [], { frames := 3, cells := 81, slots := 2936, locals := 61 })
theorem ck_X6_init : CK YX6_init 0 := ⟨Tb_at 56 (by decide +kernel) (by decide +kernel), Tb_at 37 (by decide +kernel) (by decide +kernel), by decide +kernel, by decide +kernel, by decide +kernel⟩
abbrev YX6_device : AY := (yX6_device, cX6_device, 1, some .int, [], { frames := 7, cells := 1, slots := 6, locals := 110 })
theorem ck_X6_device : CK YX6_device 0 := ⟨Tb_at 306 (by decide +kernel) (by decide +kernel), Tb_at 37 (by decide +kernel) (by decide +kernel), by decide +kernel, by decide +kernel, by decide +kernel⟩
abbrev YX6_place : AY := (yX6_place, cX6_place, 8, some .int, [], { frames := 8, cells := 4, slots := 24, locals := 131 })
theorem ck_X6_place : CK YX6_place 4 := ⟨Tb_at 381 (by decide +kernel) (by decide +kernel), Tb_at 37 (by decide +kernel) (by decide +kernel), by decide +kernel, by decide +kernel, by decide +kernel⟩
abbrev YX6_has : AY := (yX6_has, cX6_has, 4, some .int, [], { frames := 8, cells := 2, slots := 12, locals := 137 })
theorem ck_X6_has : CK YX6_has 2 := ⟨Tb_at 453 (by decide +kernel) (by decide +kernel), Tb_at 37 (by decide +kernel) (by decide +kernel), by decide +kernel, by decide +kernel, by decide +kernel⟩
abbrev YX6_at : AY := (yX6_at, cX6_at, 5, some .int, [], { frames := 9, cells := 3, slots := 18, locals := 154 })
theorem ck_X6_at : CK YX6_at 3 := ⟨Tb_at 481 (by decide +kernel) (by decide +kernel), Tb_at 37 (by decide +kernel) (by decide +kernel), by decide +kernel, by decide +kernel, by decide +kernel⟩
abbrev YX6_mark : AY := (yX6_mark, cX6_mark, 6, some .int, [], { frames := 8, cells := 5, slots := 30, locals := 131 })
theorem ck_X6_mark : CK YX6_mark 3 := ⟨Tb_at 493 (by decide +kernel) (by decide +kernel), Tb_at 37 (by decide +kernel) (by decide +kernel), by decide +kernel, by decide +kernel, by decide +kernel⟩
abbrev YX6_time : AY := (yX6_time, cX6_time, 4, some .int, [], { frames := 8, cells := 2, slots := 12, locals := 131 })
theorem ck_X6_time : CK YX6_time 2 := ⟨Tb_at 512 (by decide +kernel) (by decide +kernel), Tb_at 37 (by decide +kernel) (by decide +kernel), by decide +kernel, by decide +kernel, by decide +kernel⟩
abbrev YX6_speed : AY := (yX6_speed, cX6_speed, 3, some .int, [], { frames := 8, cells := 1, slots := 6, locals := 131 })
theorem ck_X6_speed : CK YX6_speed 1 := ⟨Tb_at 520 (by decide +kernel) (by decide +kernel), Tb_at 37 (by decide +kernel) (by decide +kernel), by decide +kernel, by decide +kernel, by decide +kernel⟩
abbrev YX6_limit : AY := (yX6_limit, cX6_limit, 3, some .int, [], { frames := 8, cells := 1, slots := 6, locals := 131 })
theorem ck_X6_limit : CK YX6_limit 1 := ⟨Tb_at 527 (by decide +kernel) (by decide +kernel), Tb_at 37 (by decide +kernel) (by decide +kernel), by decide +kernel, by decide +kernel, by decide +kernel⟩
abbrev YX6_jump : AY := (yX6_jump, cX6_jump, 3, some .int, [], { frames := 8, cells := 1, slots := 6, locals := 138 })
theorem ck_X6_jump : CK YX6_jump 2 := ⟨Tb_at 534 (by decide +kernel) (by decide +kernel), Tb_at 37 (by decide +kernel) (by decide +kernel), by decide +kernel, by decide +kernel, by decide +kernel⟩
abbrev YX6_gap : AY := (yX6_gap, cX6_gap, 3, some .int, [], { frames := 8, cells := 1, slots := 6, locals := 136 })
theorem ck_X6_gap : CK YX6_gap 2 := ⟨Tb_at 545 (by decide +kernel) (by decide +kernel), Tb_at 37 (by decide +kernel) (by decide +kernel), by decide +kernel, by decide +kernel, by decide +kernel⟩
abbrev YX6_could : AY := (yX6_could, cX6_could, 9, some .boolean, [], { frames := 8, cells := 4, slots := 24, locals := 136 })
theorem ck_X6_could : CK YX6_could 4 := ⟨Tb_at 556 (by decide +kernel) (by decide +kernel), Tb_at 37 (by decide +kernel) (by decide +kernel), by decide +kernel, by decide +kernel, by decide +kernel⟩
abbrev YX6_fence : AY := (yX6_fence, cX6_fence, 1, some .int, [], { frames := 7, cells := 1, slots := 6, locals := 110 })
theorem ck_X6_fence : CK YX6_fence 0 := ⟨Tb_at 579 (by decide +kernel) (by decide +kernel), Tb_at 37 (by decide +kernel) (by decide +kernel), by decide +kernel, by decide +kernel, by decide +kernel⟩
abbrev YX6_corner : AY := (yX6_corner, cX6_corner, 5, some .int, [], { frames := 8, cells := 4, slots := 24, locals := 131 })
theorem ck_X6_corner : CK YX6_corner 3 := ⟨Tb_at 586 (by decide +kernel) (by decide +kernel), Tb_at 37 (by decide +kernel) (by decide +kernel), by decide +kernel, by decide +kernel, by decide +kernel⟩
abbrev YX6_in : AY := (yX6_in, cX6_in, 5, some .boolean, [], { frames := 9, cells := 3, slots := 18, locals := 154 })
theorem ck_X6_in : CK YX6_in 3 := ⟨Tb_at 601 (by decide +kernel) (by decide +kernel), Tb_at 37 (by decide +kernel) (by decide +kernel), by decide +kernel, by decide +kernel, by decide +kernel⟩
abbrev YX6_port : AY := (yX6_port, cX6_port, 5, some .int, [], { frames := 9, cells := 2, slots := 12, locals := 154 })
theorem ck_X6_port : CK YX6_port 2 := ⟨Tb_at 622 (by decide +kernel) (by decide +kernel), Tb_at 37 (by decide +kernel) (by decide +kernel), by decide +kernel, by decide +kernel, by decide +kernel⟩
abbrev YX6_pack : AY := (yX6_pack, cX6_pack, 2, some .int, [], { frames := 8, cells := 1, slots := 6, locals := 131 })
theorem ck_X6_pack : CK YX6_pack 1 := ⟨Tb_at 629 (by decide +kernel) (by decide +kernel), Tb_at 37 (by decide +kernel) (by decide +kernel), by decide +kernel, by decide +kernel, by decide +kernel⟩
abbrev YX6_byteAt : AY := (yX6_byteAt, cX6_byteAt, 2, some .int, [], { frames := 7, cells := 1, slots := 6, locals := 110 })
theorem ck_X6_byteAt : CK YX6_byteAt 1 := ⟨Tb_at 648 (by decide +kernel) (by decide +kernel), Tb_at 37 (by decide +kernel) (by decide +kernel), by decide +kernel, by decide +kernel, by decide +kernel⟩
abbrev YX6_feed : AY := (yX6_feed, cX6_feed, 2, some .int, [], { frames := 8, cells := 2, slots := 12, locals := 131 })
theorem ck_X6_feed : CK YX6_feed 1 := ⟨Tb_at 655 (by decide +kernel) (by decide +kernel), Tb_at 37 (by decide +kernel) (by decide +kernel), by decide +kernel, by decide +kernel, by decide +kernel⟩
abbrev YX6_read : AY := (yX6_read, cX6_read, 4, some .int, [], { frames := 8, cells := 1, slots := 6, locals := 131 })
theorem ck_X6_read : CK YX6_read 1 := ⟨Tb_at 663 (by decide +kernel) (by decide +kernel), Tb_at 37 (by decide +kernel) (by decide +kernel), by decide +kernel, by decide +kernel, by decide +kernel⟩
abbrev YX6_repeat : AY := (yX6_repeat, cX6_repeat, 4, some .int, [], { frames := 8, cells := 2, slots := 12, locals := 131 })
theorem ck_X6_repeat : CK YX6_repeat 2 := ⟨Tb_at 689 (by decide +kernel) (by decide +kernel), Tb_at 37 (by decide +kernel) (by decide +kernel), by decide +kernel, by decide +kernel, by decide +kernel⟩
abbrev YX6_sight : AY := (yX6_sight, cX6_sight, 4, some .int, [], { frames := 8, cells := 2, slots := 12, locals := 131 })
theorem ck_X6_sight : CK YX6_sight 3 := ⟨Tb_at 708 (by decide +kernel) (by decide +kernel), Tb_at 37 (by decide +kernel) (by decide +kernel), by decide +kernel, by decide +kernel, by decide +kernel⟩
abbrev YX6_weight : AY := (yX6_weight, cX6_weight, 3, some .long, [], { frames := 8, cells := 2, slots := 12, locals := 131 })
theorem ck_X6_weight : CK YX6_weight 2 := ⟨Tb_at 715 (by decide +kernel) (by decide +kernel), Tb_at 37 (by decide +kernel) (by decide +kernel), by decide +kernel, by decide +kernel, by decide +kernel⟩
abbrev YX6_matched : AY := (yX6_matched, cX6_matched, 1, some .long, [], { frames := 6, cells := 0, slots := 0, locals := 139 })
theorem ck_X6_matched : CK YX6_matched 0 := ⟨Tb_at 237 (by decide +kernel) (by decide +kernel), Tb_at 37 (by decide +kernel) (by decide +kernel), by decide +kernel, by decide +kernel, by decide +kernel⟩
abbrev YX6_match : AY := (yX6_match, cX6_match, 2, some .int, [], { frames := 7, cells := 1, slots := 6, locals := 139 })
theorem ck_X6_match : CK YX6_match 1 := ⟨Tb_at 722 (by decide +kernel) (by decide +kernel), Tb_at 37 (by decide +kernel) (by decide +kernel), by decide +kernel, by decide +kernel, by decide +kernel⟩
abbrev YX6_told : AY := (yX6_told, cX6_told, 2, some .int, [], { frames := 6, cells := 1, slots := 6, locals := 89 })
theorem ck_X6_told : CK YX6_told 1 := ⟨Tb_at 729 (by decide +kernel) (by decide +kernel), Tb_at 37 (by decide +kernel) (by decide +kernel), by decide +kernel, by decide +kernel, by decide +kernel⟩
abbrev YX6_deviceOf : AY := (yX6_deviceOf, cX6_deviceOf, 2, some (.object "TrackRows$Device"), [], { frames := 7, cells := 1, slots := 6, locals := 110 })
theorem ck_X6_deviceOf : CK YX6_deviceOf 1 := ⟨Tb_at 385 (by decide +kernel) (by decide +kernel), Tb_at 37 (by decide +kernel) (by decide +kernel), by decide +kernel, by decide +kernel, by decide +kernel⟩
abbrev YX6_deviceWithPlace : AY := (yX6_deviceWithPlace, cX6_deviceWithPlace, 4, some (.object "TrackRows$Device"), [], { frames := 8, cells := 2, slots := 12, locals := 131 })
theorem ck_X6_deviceWithPlace : CK YX6_deviceWithPlace 2 := ⟨Tb_at 485 (by decide +kernel) (by decide +kernel), Tb_at 37 (by decide +kernel) (by decide +kernel), by decide +kernel, by decide +kernel, by decide +kernel⟩
abbrev YX6_fenceOf : AY := (yX6_fenceOf, cX6_fenceOf, 2, some (.object "TrackRows$Fence"), [], { frames := 7, cells := 1, slots := 6, locals := 110 })
theorem ck_X6_fenceOf : CK YX6_fenceOf 1 := ⟨Tb_at 590 (by decide +kernel) (by decide +kernel), Tb_at 37 (by decide +kernel) (by decide +kernel), by decide +kernel, by decide +kernel, by decide +kernel⟩
abbrev YX6_weightOf : AY := (yX6_weightOf, cX6_weightOf, 4, some .long, [], { frames := 4, cells := 0, slots := 0, locals := 94 })
theorem ck_X6_weightOf : CK YX6_weightOf 2 := ⟨Tb_at 245 (by decide +kernel) (by decide +kernel), Tb_at 37 (by decide +kernel) (by decide +kernel), by decide +kernel, by decide +kernel, by decide +kernel⟩
abbrev YX6_matchAll : AY := (yX6_matchAll, cX6_matchAll, 3, none, [], { frames := 5, cells := 0, slots := 0, locals := 117 })
theorem ck_X6_matchAll : CK YX6_matchAll 0 := ⟨Tb_at 241 (by decide +kernel) (by decide +kernel), Tb_at 37 (by decide +kernel) (by decide +kernel), by decide +kernel, by decide +kernel, by decide +kernel⟩
abbrev YX6_refuseNumber : AY := (yX6_refuseNumber, cX6_refuseNumber, 2, none, [], { frames := 6, cells := 1, slots := 6, locals := 89 })
theorem ck_X6_refuseNumber : CK YX6_refuseNumber 2 := ⟨Tb_at 388 (by decide +kernel) (by decide +kernel), Tb_at 37 (by decide +kernel) (by decide +kernel), by decide +kernel, by decide +kernel, by decide +kernel⟩
abbrev YX6_refuseOutside : AY := (yX6_refuseOutside, cX6_refuseOutside, 3, none, [], { frames := 7, cells := 1, slots := 6, locals := 109 })
theorem ck_X6_refuseOutside : CK YX6_refuseOutside 3 := ⟨Tb_at 496 (by decide +kernel) (by decide +kernel), Tb_at 37 (by decide +kernel) (by decide +kernel), by decide +kernel, by decide +kernel, by decide +kernel⟩
abbrev YX6_refuseUntellable : AY := (yX6_refuseUntellable, cX6_refuseUntellable, 3, none, [], { frames := 7, cells := 1, slots := 6, locals := 109 })
theorem ck_X6_refuseUntellable : CK YX6_refuseUntellable 3 := ⟨Tb_at 406 (by decide +kernel) (by decide +kernel), Tb_at 37 (by decide +kernel) (by decide +kernel), by decide +kernel, by decide +kernel, by decide +kernel⟩
abbrev YX6_refuseUnless : AY := (yX6_refuseUnless, cX6_refuseUnless, 1, none, [], { frames := 6, cells := 1, slots := 6, locals := 89 })
theorem ck_X6_refuseUnless : CK YX6_refuseUnless 1 := ⟨Tb_at 415 (by decide +kernel) (by decide +kernel), Tb_at 37 (by decide +kernel) (by decide +kernel), by decide +kernel, by decide +kernel, by decide +kernel⟩
abbrev YX6_refuseMore : AY := (yX6_refuseMore, cX6_refuseMore, 2, none, [], { frames := 6, cells := 1, slots := 6, locals := 89 })
theorem ck_X6_refuseMore : CK YX6_refuseMore 2 := ⟨Tb_at 309 (by decide +kernel) (by decide +kernel), Tb_at 37 (by decide +kernel) (by decide +kernel), by decide +kernel, by decide +kernel, by decide +kernel⟩
abbrev YX6_isTellable : AY := (yX6_isTellable, cX6_isTellable, 3, some .boolean, [], { frames := 0, cells := 0, slots := 0, locals := 0 })
theorem ck_X6_isTellable : CK YX6_isTellable 3 := ⟨Tb_at 409 (by decide +kernel) (by decide +kernel), Tb_at 37 (by decide +kernel) (by decide +kernel), by decide +kernel, by decide +kernel, by decide +kernel⟩
abbrev YX6_secondsFor : AY := (yX6_secondsFor, cX6_secondsFor, 8, some .int, [], { frames := 0, cells := 0, slots := 0, locals := 0 })
theorem ck_X6_secondsFor : CK YX6_secondsFor 2 := ⟨Tb_at 571 (by decide +kernel) (by decide +kernel), Tb_at 37 (by decide +kernel) (by decide +kernel), by decide +kernel, by decide +kernel, by decide +kernel⟩
abbrev YX7_init : AY := (yX7_init, cX7_init, 1, none, [], { frames := 1, cells := 20, slots := 2483, locals := 20 })
theorem ck_X7_init : CK YX7_init 0 := ⟨Tb_at 734 (by decide +kernel) (by decide +kernel), Tb_at 44 (by decide +kernel) (by decide +kernel), by decide +kernel, by decide +kernel, by decide +kernel⟩
abbrev YX7_thrown : AY := (yX7_thrown, cX7_thrown, 1, some .int, [], { frames := 0, cells := 0, slots := 0, locals := 0 })
theorem ck_X7_thrown : CK YX7_thrown 0 := ⟨Tb_at 827 (by decide +kernel) (by decide +kernel), Tb_at 44 (by decide +kernel) (by decide +kernel), by decide +kernel, by decide +kernel, by decide +kernel⟩
abbrev YX7_fails : AY := (yX7_fails, cX7_fails, 3, some .boolean, [], { frames := 0, cells := 0, slots := 0, locals := 0 })
theorem ck_X7_fails : CK YX7_fails 2 := ⟨Tb_at 835 (by decide +kernel) (by decide +kernel), Tb_at 44 (by decide +kernel) (by decide +kernel), by decide +kernel, by decide +kernel, by decide +kernel⟩
abbrev YX7_within : AY := (yX7_within, cX7_within, 6, some .boolean, [], { frames := 0, cells := 0, slots := 0, locals := 0 })
theorem ck_X7_within : CK YX7_within 3 := ⟨Tb_at 847 (by decide +kernel) (by decide +kernel), Tb_at 44 (by decide +kernel) (by decide +kernel), by decide +kernel, by decide +kernel, by decide +kernel⟩
abbrev YX7_isDevice : AY := (yX7_isDevice, cX7_isDevice, 2, some .boolean, [], { frames := 0, cells := 0, slots := 0, locals := 0 })
theorem ck_X7_isDevice : CK YX7_isDevice 1 := ⟨Tb_at 843 (by decide +kernel) (by decide +kernel), Tb_at 44 (by decide +kernel) (by decide +kernel), by decide +kernel, by decide +kernel, by decide +kernel⟩
abbrev YX7_isPlace : AY := (yX7_isPlace, cX7_isPlace, 3, some .boolean, [], { frames := 1, cells := 0, slots := 0, locals := 21 })
theorem ck_X7_isPlace : CK YX7_isPlace 2 := ⟨Tb_at 888 (by decide +kernel) (by decide +kernel), Tb_at 44 (by decide +kernel) (by decide +kernel), by decide +kernel, by decide +kernel, by decide +kernel⟩
abbrev YX7_device : AY := (yX7_device, cX7_device, 1, some .int, [], { frames := 1, cells := 0, slots := 0, locals := 22 })
theorem ck_X7_device : CK YX7_device 0 := ⟨Tb_at 831 (by decide +kernel) (by decide +kernel), Tb_at 44 (by decide +kernel) (by decide +kernel), by decide +kernel, by decide +kernel, by decide +kernel⟩
abbrev YX7_before : AY := (yX7_before, cX7_before, 5, some .int, [], { frames := 0, cells := 0, slots := 0, locals := 0 })
theorem ck_X7_before : CK YX7_before 2 := ⟨Tb_at 856 (by decide +kernel) (by decide +kernel), Tb_at 44 (by decide +kernel) (by decide +kernel), by decide +kernel, by decide +kernel, by decide +kernel⟩
abbrev YX7_isPoint : AY := (yX7_isPoint, cX7_isPoint, 2, some .boolean, [], { frames := 1, cells := 0, slots := 0, locals := 25 })
theorem ck_X7_isPoint : CK YX7_isPoint 2 := ⟨Tb_at 850 (by decide +kernel) (by decide +kernel), Tb_at 44 (by decide +kernel) (by decide +kernel), by decide +kernel, by decide +kernel, by decide +kernel⟩
abbrev YX7_place : AY := (yX7_place, cX7_place, 8, some .int, [], { frames := 2, cells := 0, slots := 0, locals := 46 })
theorem ck_X7_place : CK YX7_place 4 := ⟨Tb_at 839 (by decide +kernel) (by decide +kernel), Tb_at 44 (by decide +kernel) (by decide +kernel), by decide +kernel, by decide +kernel, by decide +kernel⟩
abbrev YX7_has : AY := (yX7_has, cX7_has, 3, some .int, [], { frames := 4, cells := 0, slots := 0, locals := 96 })
theorem ck_X7_has : CK YX7_has 2 := ⟨Tb_at 860 (by decide +kernel) (by decide +kernel), Tb_at 44 (by decide +kernel) (by decide +kernel), by decide +kernel, by decide +kernel, by decide +kernel⟩
abbrev YX7_at : AY := (yX7_at, cX7_at, 5, some .int, [], { frames := 2, cells := 0, slots := 0, locals := 43 })
theorem ck_X7_at : CK YX7_at 3 := ⟨Tb_at 884 (by decide +kernel) (by decide +kernel), Tb_at 44 (by decide +kernel) (by decide +kernel), by decide +kernel, by decide +kernel, by decide +kernel⟩
abbrev YX7_mark : AY := (yX7_mark, cX7_mark, 7, some .int, [], { frames := 1, cells := 0, slots := 0, locals := 25 })
theorem ck_X7_mark : CK YX7_mark 3 := ⟨Tb_at 893 (by decide +kernel) (by decide +kernel), Tb_at 44 (by decide +kernel) (by decide +kernel), by decide +kernel, by decide +kernel, by decide +kernel⟩
abbrev YX7_timeOf : AY := (yX7_timeOf, cX7_timeOf, 5, some .int, [], { frames := 0, cells := 0, slots := 0, locals := 0 })
theorem ck_X7_timeOf : CK YX7_timeOf 2 := ⟨Tb_at 877 (by decide +kernel) (by decide +kernel), Tb_at 44 (by decide +kernel) (by decide +kernel), by decide +kernel, by decide +kernel, by decide +kernel⟩
abbrev YX7_time : AY := (yX7_time, cX7_time, 3, some .int, [], { frames := 1, cells := 0, slots := 0, locals := 25 })
theorem ck_X7_time : CK YX7_time 2 := ⟨Tb_at 897 (by decide +kernel) (by decide +kernel), Tb_at 44 (by decide +kernel) (by decide +kernel), by decide +kernel, by decide +kernel, by decide +kernel⟩
abbrev YX7_speed : AY := (yX7_speed, cX7_speed, 3, some .int, [], { frames := 1, cells := 0, slots := 0, locals := 25 })
theorem ck_X7_speed : CK YX7_speed 1 := ⟨Tb_at 901 (by decide +kernel) (by decide +kernel), Tb_at 44 (by decide +kernel) (by decide +kernel), by decide +kernel, by decide +kernel, by decide +kernel⟩
abbrev YX7_limit : AY := (yX7_limit, cX7_limit, 3, some .int, [], { frames := 1, cells := 0, slots := 0, locals := 25 })
theorem ck_X7_limit : CK YX7_limit 1 := ⟨Tb_at 906 (by decide +kernel) (by decide +kernel), Tb_at 44 (by decide +kernel) (by decide +kernel), by decide +kernel, by decide +kernel, by decide +kernel⟩
abbrev YX7_square : AY := (yX7_square, cX7_square, 4, some .long, [], { frames := 0, cells := 0, slots := 0, locals := 0 })
theorem ck_X7_square : CK YX7_square 2 := ⟨Tb_at 880 (by decide +kernel) (by decide +kernel), Tb_at 44 (by decide +kernel) (by decide +kernel), by decide +kernel, by decide +kernel, by decide +kernel⟩
abbrev YX7_between : AY := (yX7_between, cX7_between, 3, some .long, [], { frames := 1, cells := 0, slots := 0, locals := 24 })
theorem ck_X7_between : CK YX7_between 2 := ⟨Tb_at 873 (by decide +kernel) (by decide +kernel), Tb_at 44 (by decide +kernel) (by decide +kernel), by decide +kernel, by decide +kernel, by decide +kernel⟩
abbrev YX7_is : AY := (yX7_is, cX7_is, 7, some .boolean, [], { frames := 2, cells := 0, slots := 0, locals := 46 })
theorem ck_X7_is : CK YX7_is 3 := ⟨Tb_at 869 (by decide +kernel) (by decide +kernel), Tb_at 44 (by decide +kernel) (by decide +kernel), by decide +kernel, by decide +kernel, by decide +kernel⟩
abbrev YX7_countOf : AY := (yX7_countOf, cX7_countOf, 5, some .int, [], { frames := 3, cells := 0, slots := 0, locals := 72 })
theorem ck_X7_countOf : CK YX7_countOf 2 := ⟨Tb_at 865 (by decide +kernel) (by decide +kernel), Tb_at 44 (by decide +kernel) (by decide +kernel), by decide +kernel, by decide +kernel, by decide +kernel⟩
abbrev YX7_find : AY := (yX7_find, cX7_find, 6, some .int, [], { frames := 3, cells := 0, slots := 0, locals := 72 })
theorem ck_X7_find : CK YX7_find 3 := ⟨Tb_at 914 (by decide +kernel) (by decide +kernel), Tb_at 44 (by decide +kernel) (by decide +kernel), by decide +kernel, by decide +kernel, by decide +kernel⟩
abbrev YX7_jump : AY := (yX7_jump, cX7_jump, 3, some .int, [], { frames := 4, cells := 0, slots := 0, locals := 97 })
theorem ck_X7_jump : CK YX7_jump 2 := ⟨Tb_at 910 (by decide +kernel) (by decide +kernel), Tb_at 44 (by decide +kernel) (by decide +kernel), by decide +kernel, by decide +kernel, by decide +kernel⟩
abbrev YX7_gap : AY := (yX7_gap, cX7_gap, 3, some .int, [], { frames := 4, cells := 0, slots := 0, locals := 97 })
theorem ck_X7_gap : CK YX7_gap 2 := ⟨Tb_at 918 (by decide +kernel) (by decide +kernel), Tb_at 44 (by decide +kernel) (by decide +kernel), by decide +kernel, by decide +kernel, by decide +kernel⟩
abbrev YX7_nearest : AY := (yX7_nearest, cX7_nearest, 2, some .int, [], { frames := 0, cells := 0, slots := 0, locals := 0 })
theorem ck_X7_nearest : CK YX7_nearest 2 := ⟨Tb_at 931 (by decide +kernel) (by decide +kernel), Tb_at 44 (by decide +kernel) (by decide +kernel), by decide +kernel, by decide +kernel, by decide +kernel⟩
abbrev YX7_secondsFor : AY := (yX7_secondsFor, cX7_secondsFor, 9, some .long, [], { frames := 0, cells := 0, slots := 0, locals := 0 })
theorem ck_X7_secondsFor : CK YX7_secondsFor 1 := ⟨Tb_at 935 (by decide +kernel) (by decide +kernel), Tb_at 44 (by decide +kernel) (by decide +kernel), by decide +kernel, by decide +kernel, by decide +kernel⟩
abbrev YX7_way : AY := (yX7_way, cX7_way, 7, some .long, [], { frames := 1, cells := 0, slots := 0, locals := 28 })
theorem ck_X7_way : CK YX7_way 4 := ⟨Tb_at 928 (by decide +kernel) (by decide +kernel), Tb_at 44 (by decide +kernel) (by decide +kernel), by decide +kernel, by decide +kernel, by decide +kernel⟩
abbrev YX7_could : AY := (yX7_could, cX7_could, 7, some .boolean, [], { frames := 4, cells := 0, slots := 0, locals := 97 })
theorem ck_X7_could : CK YX7_could 4 := ⟨Tb_at 922 (by decide +kernel) (by decide +kernel), Tb_at 44 (by decide +kernel) (by decide +kernel), by decide +kernel, by decide +kernel, by decide +kernel⟩
abbrev YX7_fence : AY := (yX7_fence, cX7_fence, 1, some .int, [], { frames := 1, cells := 0, slots := 0, locals := 22 })
theorem ck_X7_fence : CK YX7_fence 0 := ⟨Tb_at 940 (by decide +kernel) (by decide +kernel), Tb_at 44 (by decide +kernel) (by decide +kernel), by decide +kernel, by decide +kernel, by decide +kernel⟩
abbrev YX7_corner : AY := (yX7_corner, cX7_corner, 4, some .int, [], { frames := 2, cells := 0, slots := 0, locals := 46 })
theorem ck_X7_corner : CK YX7_corner 3 := ⟨Tb_at 944 (by decide +kernel) (by decide +kernel), Tb_at 44 (by decide +kernel) (by decide +kernel), by decide +kernel, by decide +kernel, by decide +kernel⟩
abbrev YX7_isIn : AY := (yX7_isIn, cX7_isIn, 23, some .boolean, [], { frames := 0, cells := 0, slots := 0, locals := 0 })
theorem ck_X7_isIn : CK YX7_isIn 2 := ⟨Tb_at 952 (by decide +kernel) (by decide +kernel), Tb_at 44 (by decide +kernel) (by decide +kernel), by decide +kernel, by decide +kernel, by decide +kernel⟩
abbrev YX7_in : AY := (yX7_in, cX7_in, 4, some .boolean, [], { frames := 2, cells := 0, slots := 0, locals := 43 })
theorem ck_X7_in : CK YX7_in 3 := ⟨Tb_at 948 (by decide +kernel) (by decide +kernel), Tb_at 44 (by decide +kernel) (by decide +kernel), by decide +kernel, by decide +kernel, by decide +kernel⟩
abbrev YX7_port : AY := (yX7_port, cX7_port, 4, some .int, [], { frames := 2, cells := 0, slots := 0, locals := 43 })
theorem ck_X7_port : CK YX7_port 2 := ⟨Tb_at 956 (by decide +kernel) (by decide +kernel), Tb_at 44 (by decide +kernel) (by decide +kernel), by decide +kernel, by decide +kernel, by decide +kernel⟩
abbrev YX7_put : AY := (yX7_put, cX7_put, 3, none, [], { frames := 0, cells := 0, slots := 0, locals := 0 })
theorem ck_X7_put : CK YX7_put 1 := ⟨Tb_at 964 (by decide +kernel) (by decide +kernel), Tb_at 44 (by decide +kernel) (by decide +kernel), by decide +kernel, by decide +kernel, by decide +kernel⟩
abbrev YX7_pack : AY := (yX7_pack, cX7_pack, 4, some .int, [], { frames := 1, cells := 0, slots := 0, locals := 22 })
theorem ck_X7_pack : CK YX7_pack 1 := ⟨Tb_at 960 (by decide +kernel) (by decide +kernel), Tb_at 44 (by decide +kernel) (by decide +kernel), by decide +kernel, by decide +kernel, by decide +kernel⟩
abbrev YX7_byteAt : AY := (yX7_byteAt, cX7_byteAt, 2, some .int, [], { frames := 1, cells := 0, slots := 0, locals := 22 })
theorem ck_X7_byteAt : CK YX7_byteAt 1 := ⟨Tb_at 968 (by decide +kernel) (by decide +kernel), Tb_at 44 (by decide +kernel) (by decide +kernel), by decide +kernel, by decide +kernel, by decide +kernel⟩
abbrev YX7_feed : AY := (yX7_feed, cX7_feed, 2, some .int, [], { frames := 1, cells := 0, slots := 0, locals := 25 })
theorem ck_X7_feed : CK YX7_feed 1 := ⟨Tb_at 972 (by decide +kernel) (by decide +kernel), Tb_at 44 (by decide +kernel) (by decide +kernel), by decide +kernel, by decide +kernel, by decide +kernel⟩
abbrev YX7_difference : AY := (yX7_difference, cX7_difference, 6, some .int, [], { frames := 0, cells := 0, slots := 0, locals := 0 })
theorem ck_X7_difference : CK YX7_difference 0 := ⟨Tb_at 981 (by decide +kernel) (by decide +kernel), Tb_at 44 (by decide +kernel) (by decide +kernel), by decide +kernel, by decide +kernel, by decide +kernel⟩
abbrev YX7_read : AY := (yX7_read, cX7_read, 7, some .int, [], { frames := 2, cells := 0, slots := 0, locals := 46 })
theorem ck_X7_read : CK YX7_read 1 := ⟨Tb_at 977 (by decide +kernel) (by decide +kernel), Tb_at 44 (by decide +kernel) (by decide +kernel), by decide +kernel, by decide +kernel, by decide +kernel⟩
abbrev YX7_isSame : AY := (yX7_isSame, cX7_isSame, 6, some .boolean, [], { frames := 0, cells := 0, slots := 0, locals := 0 })
theorem ck_X7_isSame : CK YX7_isSame 3 := ⟨Tb_at 993 (by decide +kernel) (by decide +kernel), Tb_at 44 (by decide +kernel) (by decide +kernel), by decide +kernel, by decide +kernel, by decide +kernel⟩
abbrev YX7_repeat : AY := (yX7_repeat, cX7_repeat, 7, some .int, [], { frames := 1, cells := 0, slots := 0, locals := 25 })
theorem ck_X7_repeat : CK YX7_repeat 2 := ⟨Tb_at 988 (by decide +kernel) (by decide +kernel), Tb_at 44 (by decide +kernel) (by decide +kernel), by decide +kernel, by decide +kernel, by decide +kernel⟩
abbrev YX7_sight : AY := (yX7_sight, cX7_sight, 4, some .int, [], { frames := 2, cells := 0, slots := 0, locals := 46 })
theorem ck_X7_sight : CK YX7_sight 3 := ⟨Tb_at 997 (by decide +kernel) (by decide +kernel), Tb_at 44 (by decide +kernel) (by decide +kernel), by decide +kernel, by decide +kernel, by decide +kernel⟩
abbrev YX7_size : AY := (yX7_size, cX7_size, 2, some .long, [], { frames := 0, cells := 0, slots := 0, locals := 0 })
theorem ck_X7_size : CK YX7_size 1 := ⟨Tb_at 1008 (by decide +kernel) (by decide +kernel), Tb_at 44 (by decide +kernel) (by decide +kernel), by decide +kernel, by decide +kernel, by decide +kernel⟩
abbrev YX7_weightOf : AY := (yX7_weightOf, cX7_weightOf, 9, some .long, [], { frames := 1, cells := 0, slots := 0, locals := 24 })
theorem ck_X7_weightOf : CK YX7_weightOf 2 := ⟨Tb_at 1005 (by decide +kernel) (by decide +kernel), Tb_at 44 (by decide +kernel) (by decide +kernel), by decide +kernel, by decide +kernel, by decide +kernel⟩
abbrev YX7_weight : AY := (yX7_weight, cX7_weight, 3, some .long, [], { frames := 2, cells := 0, slots := 0, locals := 52 })
theorem ck_X7_weight : CK YX7_weight 2 := ⟨Tb_at 1001 (by decide +kernel) (by decide +kernel), Tb_at 44 (by decide +kernel) (by decide +kernel), by decide +kernel, by decide +kernel, by decide +kernel⟩
abbrev YX7_digit : AY := (yX7_digit, cX7_digit, 5, some .int, [], { frames := 0, cells := 0, slots := 0, locals := 0 })
theorem ck_X7_digit : CK YX7_digit 2 := ⟨Tb_at 1021 (by decide +kernel) (by decide +kernel), Tb_at 44 (by decide +kernel) (by decide +kernel), by decide +kernel, by decide +kernel, by decide +kernel⟩
abbrev YX7_findWay : AY := (yX7_findWay, cX7_findWay, 11, none, [], { frames := 2, cells := 0, slots := 0, locals := 52 })
theorem ck_X7_findWay : CK YX7_findWay 0 := ⟨Tb_at 1017 (by decide +kernel) (by decide +kernel), Tb_at 44 (by decide +kernel) (by decide +kernel), by decide +kernel, by decide +kernel, by decide +kernel⟩
abbrev YX7_matched : AY := (yX7_matched, cX7_matched, 1, some .long, [], { frames := 3, cells := 0, slots := 0, locals := 82 })
theorem ck_X7_matched : CK YX7_matched 0 := ⟨Tb_at 1013 (by decide +kernel) (by decide +kernel), Tb_at 44 (by decide +kernel) (by decide +kernel), by decide +kernel, by decide +kernel, by decide +kernel⟩
abbrev YX7_match : AY := (yX7_match, cX7_match, 3, some .int, [], { frames := 3, cells := 0, slots := 0, locals := 82 })
theorem ck_X7_match : CK YX7_match 1 := ⟨Tb_at 1025 (by decide +kernel) (by decide +kernel), Tb_at 44 (by decide +kernel) (by decide +kernel), by decide +kernel, by decide +kernel, by decide +kernel⟩
abbrev YX7_told : AY := (yX7_told, cX7_told, 2, some .int, [], { frames := 1, cells := 0, slots := 0, locals := 25 })
theorem ck_X7_told : CK YX7_told 1 := ⟨Tb_at 1029 (by decide +kernel) (by decide +kernel), Tb_at 44 (by decide +kernel) (by decide +kernel), by decide +kernel, by decide +kernel, by decide +kernel⟩
abbrev YL_device : AY := (yL_device, cL_device, 3, some .int, [(0, 8, 11, 13)], { frames := 8, cells := 1, slots := 6, locals := 130 })
theorem ck_L_device : CK YL_device 2 := ⟨Tb_at 301 (by decide +kernel) (by decide +kernel), Tb_at 36 (by decide +kernel) (by decide +kernel), by decide +kernel, by decide +kernel, by decide +kernel⟩
abbrev YL_place : AY := (yL_place, cL_place, 7, some .int, [(0, 14, 17, 19), (0, 14, 21, 21), (0, 14, 25, 13)], { frames := 9, cells := 4, slots := 24, locals := 158 })
theorem ck_L_place : CK YL_place 6 := ⟨Tb_at 375 (by decide +kernel) (by decide +kernel), Tb_at 36 (by decide +kernel) (by decide +kernel), by decide +kernel, by decide +kernel, by decide +kernel⟩
abbrev YL_has : AY := (yL_has, cL_has, 5, some .int, [(0, 10, 13, 19), (0, 10, 17, 21)], { frames := 9, cells := 2, slots := 12, locals := 160 })
theorem ck_L_has : CK YL_has 4 := ⟨Tb_at 449 (by decide +kernel) (by decide +kernel), Tb_at 36 (by decide +kernel) (by decide +kernel), by decide +kernel, by decide +kernel, by decide +kernel⟩
abbrev YL_at : AY := (yL_at, cL_at, 6, some .int, [(0, 12, 15, 19), (0, 12, 19, 21)], { frames := 10, cells := 3, slots := 18, locals := 178 })
theorem ck_L_at : CK YL_at 5 := ⟨Tb_at 477 (by decide +kernel) (by decide +kernel), Tb_at 36 (by decide +kernel) (by decide +kernel), by decide +kernel, by decide +kernel, by decide +kernel⟩
abbrev YL_mark : AY := (yL_mark, cL_mark, 6, some .int, [(0, 12, 15, 19), (0, 12, 19, 21), (0, 12, 23, 13)], { frames := 9, cells := 5, slots := 30, locals := 156 })
theorem ck_L_mark : CK YL_mark 5 := ⟨Tb_at 489 (by decide +kernel) (by decide +kernel), Tb_at 36 (by decide +kernel) (by decide +kernel), by decide +kernel, by decide +kernel, by decide +kernel⟩
abbrev YL_time : AY := (yL_time, cL_time, 5, some .int, [(0, 10, 13, 19), (0, 10, 17, 21)], { frames := 9, cells := 2, slots := 12, locals := 154 })
theorem ck_L_time : CK YL_time 4 := ⟨Tb_at 508 (by decide +kernel) (by decide +kernel), Tb_at 36 (by decide +kernel) (by decide +kernel), by decide +kernel, by decide +kernel, by decide +kernel⟩
abbrev YL_speed : AY := (yL_speed, cL_speed, 4, some .int, [(0, 9, 12, 21)], { frames := 9, cells := 1, slots := 6, locals := 153 })
theorem ck_L_speed : CK YL_speed 3 := ⟨Tb_at 516 (by decide +kernel) (by decide +kernel), Tb_at 36 (by decide +kernel) (by decide +kernel), by decide +kernel, by decide +kernel, by decide +kernel⟩
abbrev YL_limit : AY := (yL_limit, cL_limit, 4, some .int, [(0, 9, 12, 21)], { frames := 9, cells := 1, slots := 6, locals := 153 })
theorem ck_L_limit : CK YL_limit 3 := ⟨Tb_at 523 (by decide +kernel) (by decide +kernel), Tb_at 36 (by decide +kernel) (by decide +kernel), by decide +kernel, by decide +kernel, by decide +kernel⟩
abbrev YL_jump : AY := (yL_jump, cL_jump, 5, some .int, [(0, 10, 13, 19)], { frames := 9, cells := 1, slots := 6, locals := 160 })
theorem ck_L_jump : CK YL_jump 4 := ⟨Tb_at 530 (by decide +kernel) (by decide +kernel), Tb_at 36 (by decide +kernel) (by decide +kernel), by decide +kernel, by decide +kernel, by decide +kernel⟩
abbrev YL_gap : AY := (yL_gap, cL_gap, 5, some .int, [(0, 10, 13, 19)], { frames := 9, cells := 1, slots := 6, locals := 158 })
theorem ck_L_gap : CK YL_gap 4 := ⟨Tb_at 541 (by decide +kernel) (by decide +kernel), Tb_at 36 (by decide +kernel) (by decide +kernel), by decide +kernel, by decide +kernel, by decide +kernel⟩
abbrev YL_could : AY := (yL_could, cL_could, 7, some .int, [(0, 21, 24, 19), (0, 21, 28, 21)], { frames := 9, cells := 4, slots := 24, locals := 164 })
theorem ck_L_could : CK YL_could 6 := ⟨Tb_at 552 (by decide +kernel) (by decide +kernel), Tb_at 36 (by decide +kernel) (by decide +kernel), by decide +kernel, by decide +kernel, by decide +kernel⟩
abbrev YL_fence : AY := (yL_fence, cL_fence, 3, some .int, [(0, 8, 11, 13)], { frames := 8, cells := 1, slots := 6, locals := 130 })
theorem ck_L_fence : CK YL_fence 2 := ⟨Tb_at 575 (by decide +kernel) (by decide +kernel), Tb_at 36 (by decide +kernel) (by decide +kernel), by decide +kernel, by decide +kernel, by decide +kernel⟩
abbrev YL_corner : AY := (yL_corner, cL_corner, 6, some .int, [(0, 12, 15, 19), (0, 12, 19, 21), (0, 12, 23, 13)], { frames := 9, cells := 4, slots := 24, locals := 155 })
theorem ck_L_corner : CK YL_corner 5 := ⟨Tb_at 582 (by decide +kernel) (by decide +kernel), Tb_at 36 (by decide +kernel) (by decide +kernel), by decide +kernel, by decide +kernel, by decide +kernel⟩
abbrev YL_in : AY := (yL_in, cL_in, 6, some .int, [(0, 19, 22, 19)], { frames := 10, cells := 3, slots := 18, locals := 178 })
theorem ck_L_in : CK YL_in 5 := ⟨Tb_at 597 (by decide +kernel) (by decide +kernel), Tb_at 36 (by decide +kernel) (by decide +kernel), by decide +kernel, by decide +kernel, by decide +kernel⟩
abbrev YL_port : AY := (yL_port, cL_port, 5, some .int, [(0, 10, 13, 19)], { frames := 10, cells := 2, slots := 12, locals := 178 })
theorem ck_L_port : CK YL_port 4 := ⟨Tb_at 618 (by decide +kernel) (by decide +kernel), Tb_at 36 (by decide +kernel) (by decide +kernel), by decide +kernel, by decide +kernel, by decide +kernel⟩
abbrev YL_pack : AY := (yL_pack, cL_pack, 4, some .int, [(0, 9, 12, 19)], { frames := 9, cells := 1, slots := 6, locals := 152 })
theorem ck_L_pack : CK YL_pack 3 := ⟨Tb_at 625 (by decide +kernel) (by decide +kernel), Tb_at 36 (by decide +kernel) (by decide +kernel), by decide +kernel, by decide +kernel, by decide +kernel⟩
abbrev YL_byteAt : AY := (yL_byteAt, cL_byteAt, 4, some .int, [(0, 9, 12, 19)], { frames := 8, cells := 1, slots := 6, locals := 131 })
theorem ck_L_byteAt : CK YL_byteAt 3 := ⟨Tb_at 644 (by decide +kernel) (by decide +kernel), Tb_at 36 (by decide +kernel) (by decide +kernel), by decide +kernel, by decide +kernel, by decide +kernel⟩
abbrev YL_feed : AY := (yL_feed, cL_feed, 4, some .int, [(0, 9, 12, 21), (0, 9, 15, 13)], { frames := 9, cells := 2, slots := 12, locals := 152 })
theorem ck_L_feed : CK YL_feed 3 := ⟨Tb_at 651 (by decide +kernel) (by decide +kernel), Tb_at 36 (by decide +kernel) (by decide +kernel), by decide +kernel, by decide +kernel, by decide +kernel⟩
abbrev YL_read : AY := (yL_read, cL_read, 4, some .int, [(0, 9, 12, 19)], { frames := 9, cells := 1, slots := 6, locals := 154 })
theorem ck_L_read : CK YL_read 3 := ⟨Tb_at 659 (by decide +kernel) (by decide +kernel), Tb_at 36 (by decide +kernel) (by decide +kernel), by decide +kernel, by decide +kernel, by decide +kernel⟩
abbrev YL_repeat : AY := (yL_repeat, cL_repeat, 5, some .int, [(0, 10, 13, 19), (0, 10, 17, 21)], { frames := 9, cells := 2, slots := 12, locals := 154 })
theorem ck_L_repeat : CK YL_repeat 4 := ⟨Tb_at 685 (by decide +kernel) (by decide +kernel), Tb_at 36 (by decide +kernel) (by decide +kernel), by decide +kernel, by decide +kernel, by decide +kernel⟩
abbrev YL_sight : AY := (yL_sight, cL_sight, 6, some .int, [(0, 12, 15, 21), (0, 12, 19, 13)], { frames := 9, cells := 2, slots := 12, locals := 154 })
theorem ck_L_sight : CK YL_sight 5 := ⟨Tb_at 704 (by decide +kernel) (by decide +kernel), Tb_at 36 (by decide +kernel) (by decide +kernel), by decide +kernel, by decide +kernel, by decide +kernel⟩
abbrev YL_weight : AY := (yL_weight, cL_weight, 5, some .int, [(0, 9, 12, 19)], { frames := 9, cells := 2, slots := 12, locals := 153 })
theorem ck_L_weight : CK YL_weight 4 := ⟨Tb_at 711 (by decide +kernel) (by decide +kernel), Tb_at 36 (by decide +kernel) (by decide +kernel), by decide +kernel, by decide +kernel, by decide +kernel⟩
abbrev YL_match : AY := (yL_match, cL_match, 4, some .int, [(0, 9, 12, 19)], { frames := 8, cells := 1, slots := 6, locals := 160 })
theorem ck_L_match : CK YL_match 3 := ⟨Tb_at 718 (by decide +kernel) (by decide +kernel), Tb_at 36 (by decide +kernel) (by decide +kernel), by decide +kernel, by decide +kernel, by decide +kernel⟩
abbrev YL_told : AY := (yL_told, cL_told, 4, some .int, [(0, 9, 12, 21)], { frames := 7, cells := 1, slots := 6, locals := 110 })
theorem ck_L_told : CK YL_told 3 := ⟨Tb_at 725 (by decide +kernel) (by decide +kernel), Tb_at 36 (by decide +kernel) (by decide +kernel), by decide +kernel, by decide +kernel, by decide +kernel⟩
theorem fl_X5_15 : FL "TrackRows$Places" 15 5 0 := FL_X5 (by decide) (Or.inl (Tb_at 70 (by decide +kernel) (by decide +kernel)))
theorem ff_X5_15 : FF "TrackRows$Places" 15 5 0 .int := ⟨fl_X5_15, fun C T N h => by cases h; exact ⟨rfl, by decide +kernel, by decide +kernel, Tb_at 70 (by decide +kernel) (by decide +kernel)⟩⟩
theorem fl_X5_18 : FL "TrackRows$Places" 18 5 1 := FL_X5 (by decide) (Or.inl (Tb_at 71 (by decide +kernel) (by decide +kernel)))
theorem ff_X5_18 : FF "TrackRows$Places" 18 5 1 (.array .int) := ⟨fl_X5_18, fun C T N h => by cases h; exact ⟨rfl, by decide +kernel, by decide +kernel, Tb_at 71 (by decide +kernel) (by decide +kernel)⟩⟩
theorem fl_X2_31 : FL "TrackRows$Device" 31 5 1 := FL_X5 (by decide) (Or.inr ⟨"TrackRows", Tb_at 72 (by decide +kernel) (by decide +kernel)⟩)
theorem fl_X0_29 : FL "TrackRows$Bytes" 29 5 1 := FL_X5 (by decide) (Or.inr ⟨"TrackRows", Tb_at 73 (by decide +kernel) (by decide +kernel)⟩)
theorem fl_X6_126 : FL "TrackRows" 126 5 1 := FL_X5 (by decide) (Or.inr ⟨"TrackRows", Tb_at 74 (by decide +kernel) (by decide +kernel)⟩)
theorem fl_X5_22 : FL "TrackRows$Places" 22 5 2 := FL_X5 (by decide) (Or.inl (Tb_at 75 (by decide +kernel) (by decide +kernel)))
theorem ff_X5_22 : FF "TrackRows$Places" 22 5 2 (.array .int) := ⟨fl_X5_22, fun C T N h => by cases h; exact ⟨rfl, by decide +kernel, by decide +kernel, Tb_at 75 (by decide +kernel) (by decide +kernel)⟩⟩
theorem fl_X0_36 : FL "TrackRows$Bytes" 36 5 2 := FL_X5 (by decide) (Or.inr ⟨"TrackRows", Tb_at 76 (by decide +kernel) (by decide +kernel)⟩)
theorem fl_X2_45 : FL "TrackRows$Device" 45 5 2 := FL_X5 (by decide) (Or.inr ⟨"TrackRows", Tb_at 77 (by decide +kernel) (by decide +kernel)⟩)
theorem fl_X6_130 : FL "TrackRows" 130 5 2 := FL_X5 (by decide) (Or.inr ⟨"TrackRows", Tb_at 78 (by decide +kernel) (by decide +kernel)⟩)
theorem fl_X5_25 : FL "TrackRows$Places" 25 5 3 := FL_X5 (by decide) (Or.inl (Tb_at 79 (by decide +kernel) (by decide +kernel)))
theorem ff_X5_25 : FF "TrackRows$Places" 25 5 3 (.array .int) := ⟨fl_X5_25, fun C T N h => by cases h; exact ⟨rfl, by decide +kernel, by decide +kernel, Tb_at 79 (by decide +kernel) (by decide +kernel)⟩⟩
theorem fl_X0_39 : FL "TrackRows$Bytes" 39 5 3 := FL_X5 (by decide) (Or.inr ⟨"TrackRows", Tb_at 80 (by decide +kernel) (by decide +kernel)⟩)
theorem fl_X2_48 : FL "TrackRows$Device" 48 5 3 := FL_X5 (by decide) (Or.inr ⟨"TrackRows", Tb_at 81 (by decide +kernel) (by decide +kernel)⟩)
theorem fl_X6_133 : FL "TrackRows" 133 5 3 := FL_X5 (by decide) (Or.inr ⟨"TrackRows", Tb_at 82 (by decide +kernel) (by decide +kernel)⟩)
theorem fl_X5_9 : FL "TrackRows$Places" 9 5 4 := FL_X5 (by decide) (Or.inl (Tb_at 83 (by decide +kernel) (by decide +kernel)))
theorem fp_X5_9 : FP "TrackRows$Places" 9 5 4 .int := ⟨fl_X5_9, fun C T N h => by cases h; exact ⟨rfl, by decide +kernel⟩⟩
theorem fl_X0_26 : FL "TrackRows$Bytes" 26 5 4 := FL_X5 (by decide) (Or.inr ⟨"TrackRows", Tb_at 84 (by decide +kernel) (by decide +kernel)⟩)
theorem fp_X0_26 : FP "TrackRows$Bytes" 26 5 4 .int := ⟨fl_X0_26, fun C T N h => by cases h; exact ⟨rfl, by decide +kernel⟩⟩
theorem fl_X6_99 : FL "TrackRows" 99 5 4 := FL_X5 (by decide) (Or.inr ⟨"TrackRows", Tb_at 85 (by decide +kernel) (by decide +kernel)⟩)
theorem fl_X2_55 : FL "TrackRows$Device" 55 5 4 := FL_X5 (by decide) (Or.inr ⟨"TrackRows", Tb_at 86 (by decide +kernel) (by decide +kernel)⟩)
theorem fl_X4_11 : FL "TrackRows$Matching" 11 4 0 := FL_X4 (by decide) (Or.inl (Tb_at 107 (by decide +kernel) (by decide +kernel)))
theorem ff_X4_11 : FF "TrackRows$Matching" 11 4 0 (.array (.array .long)) := ⟨fl_X4_11, fun C T N h => by cases h; exact ⟨rfl, by decide +kernel, by decide +kernel, Tb_at 107 (by decide +kernel) (by decide +kernel)⟩⟩
theorem fl_X6_231 : FL "TrackRows" 231 4 0 := FL_X4 (by decide) (Or.inr ⟨"TrackRows", Tb_at 108 (by decide +kernel) (by decide +kernel)⟩)
theorem fl_X4_16 : FL "TrackRows$Matching" 16 4 1 := FL_X4 (by decide) (Or.inl (Tb_at 109 (by decide +kernel) (by decide +kernel)))
theorem ff_X4_16 : FF "TrackRows$Matching" 16 4 1 (.array (.array .long)) := ⟨fl_X4_16, fun C T N h => by cases h; exact ⟨rfl, by decide +kernel, by decide +kernel, Tb_at 109 (by decide +kernel) (by decide +kernel)⟩⟩
theorem fl_X4_19 : FL "TrackRows$Matching" 19 4 2 := FL_X4 (by decide) (Or.inl (Tb_at 110 (by decide +kernel) (by decide +kernel)))
theorem ff_X4_19 : FF "TrackRows$Matching" 19 4 2 (.array .int) := ⟨fl_X4_19, fun C T N h => by cases h; exact ⟨rfl, by decide +kernel, by decide +kernel, Tb_at 110 (by decide +kernel) (by decide +kernel)⟩⟩
theorem fl_X6_220 : FL "TrackRows" 220 4 2 := FL_X4 (by decide) (Or.inr ⟨"TrackRows", Tb_at 111 (by decide +kernel) (by decide +kernel)⟩)
theorem fl_X4_23 : FL "TrackRows$Matching" 23 4 3 := FL_X4 (by decide) (Or.inl (Tb_at 112 (by decide +kernel) (by decide +kernel)))
theorem fp_X4_23 : FP "TrackRows$Matching" 23 4 3 .int := ⟨fl_X4_23, fun C T N h => by cases h; exact ⟨rfl, by decide +kernel⟩⟩
theorem fl_X4_27 : FL "TrackRows$Matching" 27 4 4 := FL_X4 (by decide) (Or.inl (Tb_at 113 (by decide +kernel) (by decide +kernel)))
theorem fp_X4_27 : FP "TrackRows$Matching" 27 4 4 .int := ⟨fl_X4_27, fun C T N h => by cases h; exact ⟨rfl, by decide +kernel⟩⟩
theorem fl_X0_9 : FL "TrackRows$Bytes" 9 0 0 := FL_X0 (by decide) (Or.inl (Tb_at 132 (by decide +kernel) (by decide +kernel)))
theorem ff_X0_9 : FF "TrackRows$Bytes" 9 0 0 (.array .int) := ⟨fl_X0_9, fun C T N h => by cases h; exact ⟨rfl, by decide +kernel, by decide +kernel, Tb_at 132 (by decide +kernel) (by decide +kernel)⟩⟩
theorem fl_X6_194 : FL "TrackRows" 194 0 0 := FL_X0 (by decide) (Or.inr ⟨"TrackRows", Tb_at 133 (by decide +kernel) (by decide +kernel)⟩)
theorem fl_X0_15 : FL "TrackRows$Bytes" 15 0 1 := FL_X0 (by decide) (Or.inl (Tb_at 134 (by decide +kernel) (by decide +kernel)))
theorem fp_X0_15 : FP "TrackRows$Bytes" 15 0 1 .int := ⟨fl_X0_15, fun C T N h => by cases h; exact ⟨rfl, by decide +kernel⟩⟩
theorem fl_X6_190 : FL "TrackRows" 190 0 1 := FL_X0 (by decide) (Or.inr ⟨"TrackRows", Tb_at 135 (by decide +kernel) (by decide +kernel)⟩)
theorem fp_X6_190 : FP "TrackRows" 190 0 1 .int := ⟨fl_X6_190, fun C T N h => by cases h; exact ⟨rfl, by decide +kernel⟩⟩
theorem fl_X0_19 : FL "TrackRows$Bytes" 19 0 2 := FL_X0 (by decide) (Or.inl (Tb_at 136 (by decide +kernel) (by decide +kernel)))
theorem fp_X0_19 : FP "TrackRows$Bytes" 19 0 2 .int := ⟨fl_X0_19, fun C T N h => by cases h; exact ⟨rfl, by decide +kernel⟩⟩
theorem fl_X0_22 : FL "TrackRows$Bytes" 22 0 3 := FL_X0 (by decide) (Or.inl (Tb_at 137 (by decide +kernel) (by decide +kernel)))
theorem fp_X0_22 : FP "TrackRows$Bytes" 22 0 3 .boolean := ⟨fl_X0_22, fun C T N h => by cases h; exact ⟨rfl, by decide +kernel⟩⟩
theorem fl_X1_9 : FL "TrackRows$Clock" 9 1 0 := FL_X1 (by decide) (Or.inl (Tb_at 160 (by decide +kernel) (by decide +kernel)))
theorem ff_X1_9 : FF "TrackRows$Clock" 9 1 0 (.array .int) := ⟨fl_X1_9, fun C T N h => by cases h; exact ⟨rfl, by decide +kernel, by decide +kernel, Tb_at 160 (by decide +kernel) (by decide +kernel)⟩⟩
theorem fl_X1_15 : FL "TrackRows$Clock" 15 1 1 := FL_X1 (by decide) (Or.inl (Tb_at 161 (by decide +kernel) (by decide +kernel)))
theorem ff_X1_15 : FF "TrackRows$Clock" 15 1 1 (.array .int) := ⟨fl_X1_15, fun C T N h => by cases h; exact ⟨rfl, by decide +kernel, by decide +kernel, Tb_at 161 (by decide +kernel) (by decide +kernel)⟩⟩
theorem fl_X1_18 : FL "TrackRows$Clock" 18 1 2 := FL_X1 (by decide) (Or.inl (Tb_at 162 (by decide +kernel) (by decide +kernel)))
theorem fp_X1_18 : FP "TrackRows$Clock" 18 1 2 .int := ⟨fl_X1_18, fun C T N h => by cases h; exact ⟨rfl, by decide +kernel⟩⟩
theorem fl_X6_110 : FL "TrackRows" 110 1 2 := FL_X1 (by decide) (Or.inr ⟨"TrackRows", Tb_at 163 (by decide +kernel) (by decide +kernel)⟩)
theorem fl_X2_14 : FL "TrackRows$Device" 14 2 0 := FL_X2 (by decide) (Or.inl (Tb_at 171 (by decide +kernel) (by decide +kernel)))
theorem ff_X2_14 : FF "TrackRows$Device" 14 2 0 (.object "TrackRows$Places") := ⟨fl_X2_14, fun C T N h => by cases h; exact ⟨rfl, by decide +kernel, by decide +kernel, Tb_at 171 (by decide +kernel) (by decide +kernel)⟩⟩
theorem fl_X6_73 : FL "TrackRows" 73 2 0 := FL_X2 (by decide) (Or.inr ⟨"TrackRows", Tb_at 172 (by decide +kernel) (by decide +kernel)⟩)
theorem fl_X2_23 : FL "TrackRows$Device" 23 2 1 := FL_X2 (by decide) (Or.inl (Tb_at 173 (by decide +kernel) (by decide +kernel)))
theorem ff_X2_23 : FF "TrackRows$Device" 23 2 1 (.object "TrackRows$Clock") := ⟨fl_X2_23, fun C T N h => by cases h; exact ⟨rfl, by decide +kernel, by decide +kernel, Tb_at 173 (by decide +kernel) (by decide +kernel)⟩⟩
theorem fl_X6_106 : FL "TrackRows" 106 2 1 := FL_X2 (by decide) (Or.inr ⟨"TrackRows", Tb_at 174 (by decide +kernel) (by decide +kernel)⟩)
theorem fl_X2_27 : FL "TrackRows$Device" 27 2 2 := FL_X2 (by decide) (Or.inl (Tb_at 175 (by decide +kernel) (by decide +kernel)))
theorem fp_X2_27 : FP "TrackRows$Device" 27 2 2 .int := ⟨fl_X2_27, fun C T N h => by cases h; exact ⟨rfl, by decide +kernel⟩⟩
theorem fl_X6_96 : FL "TrackRows" 96 2 2 := FL_X2 (by decide) (Or.inr ⟨"TrackRows", Tb_at 176 (by decide +kernel) (by decide +kernel)⟩)
theorem fp_X6_96 : FP "TrackRows" 96 2 2 .int := ⟨fl_X6_96, fun C T N h => by cases h; exact ⟨rfl, by decide +kernel⟩⟩
theorem fl_X3_9 : FL "TrackRows$Fence" 9 3 0 := FL_X3 (by decide) (Or.inl (Tb_at 189 (by decide +kernel) (by decide +kernel)))
theorem ff_X3_9 : FF "TrackRows$Fence" 9 3 0 (.array .int) := ⟨fl_X3_9, fun C T N h => by cases h; exact ⟨rfl, by decide +kernel, by decide +kernel, Tb_at 189 (by decide +kernel) (by decide +kernel)⟩⟩
theorem fl_X3_15 : FL "TrackRows$Fence" 15 3 1 := FL_X3 (by decide) (Or.inl (Tb_at 190 (by decide +kernel) (by decide +kernel)))
theorem ff_X3_15 : FF "TrackRows$Fence" 15 3 1 (.array .int) := ⟨fl_X3_15, fun C T N h => by cases h; exact ⟨rfl, by decide +kernel, by decide +kernel, Tb_at 190 (by decide +kernel) (by decide +kernel)⟩⟩
theorem fl_X3_18 : FL "TrackRows$Fence" 18 3 2 := FL_X3 (by decide) (Or.inl (Tb_at 191 (by decide +kernel) (by decide +kernel)))
theorem fp_X3_18 : FP "TrackRows$Fence" 18 3 2 .int := ⟨fl_X3_18, fun C T N h => by cases h; exact ⟨rfl, by decide +kernel⟩⟩
theorem fl_X6_179 : FL "TrackRows" 179 3 2 := FL_X3 (by decide) (Or.inr ⟨"TrackRows", Tb_at 192 (by decide +kernel) (by decide +kernel)⟩)
theorem fl_X6_11 : FL "TrackRows" 11 6 0 := FL_X6 (by decide) (Or.inl (Tb_at 200 (by decide +kernel) (by decide +kernel)))
theorem ff_X6_11 : FF "TrackRows" 11 6 0 (.array (.object "TrackRows$Device")) := ⟨fl_X6_11, fun C T N h => by cases h; exact ⟨rfl, by decide +kernel, by decide +kernel, Tb_at 200 (by decide +kernel) (by decide +kernel)⟩⟩
theorem fl_X6_17 : FL "TrackRows" 17 6 1 := FL_X6 (by decide) (Or.inl (Tb_at 201 (by decide +kernel) (by decide +kernel)))
theorem ff_X6_17 : FF "TrackRows" 17 6 1 (.array (.object "TrackRows$Fence")) := ⟨fl_X6_17, fun C T N h => by cases h; exact ⟨rfl, by decide +kernel, by decide +kernel, Tb_at 201 (by decide +kernel) (by decide +kernel)⟩⟩
theorem fl_X6_26 : FL "TrackRows" 26 6 2 := FL_X6 (by decide) (Or.inl (Tb_at 202 (by decide +kernel) (by decide +kernel)))
theorem ff_X6_26 : FF "TrackRows" 26 6 2 (.object "TrackRows$Places") := ⟨fl_X6_26, fun C T N h => by cases h; exact ⟨rfl, by decide +kernel, by decide +kernel, Tb_at 202 (by decide +kernel) (by decide +kernel)⟩⟩
theorem fl_X6_33 : FL "TrackRows" 33 6 3 := FL_X6 (by decide) (Or.inl (Tb_at 203 (by decide +kernel) (by decide +kernel)))
theorem ff_X6_33 : FF "TrackRows" 33 6 3 (.object "TrackRows$Matching") := ⟨fl_X6_33, fun C T N h => by cases h; exact ⟨rfl, by decide +kernel, by decide +kernel, Tb_at 203 (by decide +kernel) (by decide +kernel)⟩⟩
theorem fl_X6_40 : FL "TrackRows" 40 6 4 := FL_X6 (by decide) (Or.inl (Tb_at 204 (by decide +kernel) (by decide +kernel)))
theorem ff_X6_40 : FF "TrackRows" 40 6 4 (.object "TrackRows$Bytes") := ⟨fl_X6_40, fun C T N h => by cases h; exact ⟨rfl, by decide +kernel, by decide +kernel, Tb_at 204 (by decide +kernel) (by decide +kernel)⟩⟩
theorem fl_X6_44 : FL "TrackRows" 44 6 5 := FL_X6 (by decide) (Or.inl (Tb_at 205 (by decide +kernel) (by decide +kernel)))
theorem ff_X6_44 : FF "TrackRows" 44 6 5 (.object "TrackRows$Bytes") := ⟨fl_X6_44, fun C T N h => by cases h; exact ⟨rfl, by decide +kernel, by decide +kernel, Tb_at 205 (by decide +kernel) (by decide +kernel)⟩⟩
theorem fl_X6_47 : FL "TrackRows" 47 6 6 := FL_X6 (by decide) (Or.inl (Tb_at 206 (by decide +kernel) (by decide +kernel)))
theorem ff_X6_47 : FF "TrackRows" 47 6 6 (.object "TrackRows$Places") := ⟨fl_X6_47, fun C T N h => by cases h; exact ⟨rfl, by decide +kernel, by decide +kernel, Tb_at 206 (by decide +kernel) (by decide +kernel)⟩⟩
theorem fl_X6_50 : FL "TrackRows" 50 6 7 := FL_X6 (by decide) (Or.inl (Tb_at 207 (by decide +kernel) (by decide +kernel)))
theorem fp_X6_50 : FP "TrackRows" 50 6 7 .int := ⟨fl_X6_50, fun C T N h => by cases h; exact ⟨rfl, by decide +kernel⟩⟩
theorem fl_X6_54 : FL "TrackRows" 54 6 8 := FL_X6 (by decide) (Or.inl (Tb_at 208 (by decide +kernel) (by decide +kernel)))
theorem fp_X6_54 : FP "TrackRows" 54 6 8 .int := ⟨fl_X6_54, fun C T N h => by cases h; exact ⟨rfl, by decide +kernel⟩⟩
theorem fl_X6_57 : FL "TrackRows" 57 6 9 := FL_X6 (by decide) (Or.inl (Tb_at 209 (by decide +kernel) (by decide +kernel)))
theorem fp_X6_57 : FP "TrackRows" 57 6 9 .int := ⟨fl_X6_57, fun C T N h => by cases h; exact ⟨rfl, by decide +kernel⟩⟩
theorem fl_X6_60 : FL "TrackRows" 60 6 10 := FL_X6 (by decide) (Or.inl (Tb_at 210 (by decide +kernel) (by decide +kernel)))
theorem fp_X6_60 : FP "TrackRows" 60 6 10 .int := ⟨fl_X6_60, fun C T N h => by cases h; exact ⟨rfl, by decide +kernel⟩⟩
theorem fl_X7_72 : FL "TrackRowsModel" 72 7 0 := FL_X7 (by decide) (Or.inl (Tb_at 736 (by decide +kernel) (by decide +kernel)))
theorem fp_X7_72 : FP "TrackRowsModel" 72 7 0 .int := ⟨fl_X7_72, fun C T N h => by cases h; exact ⟨rfl, by decide +kernel⟩⟩
theorem fl_X7_75 : FL "TrackRowsModel" 75 7 1 := FL_X7 (by decide) (Or.inl (Tb_at 737 (by decide +kernel) (by decide +kernel)))
theorem fp_X7_75 : FP "TrackRowsModel" 75 7 1 .int := ⟨fl_X7_75, fun C T N h => by cases h; exact ⟨rfl, by decide +kernel⟩⟩
theorem fl_X7_7 : FL "TrackRowsModel" 7 7 2 := FL_X7 (by decide) (Or.inl (Tb_at 738 (by decide +kernel) (by decide +kernel)))
theorem ff_X7_7 : FF "TrackRowsModel" 7 7 2 (.array .int) := ⟨fl_X7_7, fun C T N h => by cases h; exact ⟨rfl, by decide +kernel, by decide +kernel, Tb_at 738 (by decide +kernel) (by decide +kernel)⟩⟩
theorem fl_X7_13 : FL "TrackRowsModel" 13 7 3 := FL_X7 (by decide) (Or.inl (Tb_at 739 (by decide +kernel) (by decide +kernel)))
theorem ff_X7_13 : FF "TrackRowsModel" 13 7 3 (.array .int) := ⟨fl_X7_13, fun C T N h => by cases h; exact ⟨rfl, by decide +kernel, by decide +kernel, Tb_at 739 (by decide +kernel) (by decide +kernel)⟩⟩
theorem fl_X7_16 : FL "TrackRowsModel" 16 7 4 := FL_X7 (by decide) (Or.inl (Tb_at 740 (by decide +kernel) (by decide +kernel)))
theorem ff_X7_16 : FF "TrackRowsModel" 16 7 4 (.array .int) := ⟨fl_X7_16, fun C T N h => by cases h; exact ⟨rfl, by decide +kernel, by decide +kernel, Tb_at 740 (by decide +kernel) (by decide +kernel)⟩⟩
theorem fl_X7_19 : FL "TrackRowsModel" 19 7 5 := FL_X7 (by decide) (Or.inl (Tb_at 741 (by decide +kernel) (by decide +kernel)))
theorem ff_X7_19 : FF "TrackRowsModel" 19 7 5 (.array .int) := ⟨fl_X7_19, fun C T N h => by cases h; exact ⟨rfl, by decide +kernel, by decide +kernel, Tb_at 741 (by decide +kernel) (by decide +kernel)⟩⟩
theorem fl_X7_22 : FL "TrackRowsModel" 22 7 6 := FL_X7 (by decide) (Or.inl (Tb_at 742 (by decide +kernel) (by decide +kernel)))
theorem ff_X7_22 : FF "TrackRowsModel" 22 7 6 (.array .int) := ⟨fl_X7_22, fun C T N h => by cases h; exact ⟨rfl, by decide +kernel, by decide +kernel, Tb_at 742 (by decide +kernel) (by decide +kernel)⟩⟩
theorem fl_X7_25 : FL "TrackRowsModel" 25 7 7 := FL_X7 (by decide) (Or.inl (Tb_at 743 (by decide +kernel) (by decide +kernel)))
theorem ff_X7_25 : FF "TrackRowsModel" 25 7 7 (.array .int) := ⟨fl_X7_25, fun C T N h => by cases h; exact ⟨rfl, by decide +kernel, by decide +kernel, Tb_at 743 (by decide +kernel) (by decide +kernel)⟩⟩
theorem fl_X7_28 : FL "TrackRowsModel" 28 7 8 := FL_X7 (by decide) (Or.inl (Tb_at 744 (by decide +kernel) (by decide +kernel)))
theorem ff_X7_28 : FF "TrackRowsModel" 28 7 8 (.array .int) := ⟨fl_X7_28, fun C T N h => by cases h; exact ⟨rfl, by decide +kernel, by decide +kernel, Tb_at 744 (by decide +kernel) (by decide +kernel)⟩⟩
theorem fl_X7_31 : FL "TrackRowsModel" 31 7 9 := FL_X7 (by decide) (Or.inl (Tb_at 745 (by decide +kernel) (by decide +kernel)))
theorem ff_X7_31 : FF "TrackRowsModel" 31 7 9 (.array .int) := ⟨fl_X7_31, fun C T N h => by cases h; exact ⟨rfl, by decide +kernel, by decide +kernel, Tb_at 745 (by decide +kernel) (by decide +kernel)⟩⟩
theorem fl_X7_34 : FL "TrackRowsModel" 34 7 10 := FL_X7 (by decide) (Or.inl (Tb_at 746 (by decide +kernel) (by decide +kernel)))
theorem fp_X7_34 : FP "TrackRowsModel" 34 7 10 .int := ⟨fl_X7_34, fun C T N h => by cases h; exact ⟨rfl, by decide +kernel⟩⟩
theorem fl_X7_38 : FL "TrackRowsModel" 38 7 11 := FL_X7 (by decide) (Or.inl (Tb_at 747 (by decide +kernel) (by decide +kernel)))
theorem fp_X7_38 : FP "TrackRowsModel" 38 7 11 .int := ⟨fl_X7_38, fun C T N h => by cases h; exact ⟨rfl, by decide +kernel⟩⟩
theorem fl_X7_153 : FL "TrackRowsModel" 153 7 12 := FL_X7 (by decide) (Or.inl (Tb_at 748 (by decide +kernel) (by decide +kernel)))
theorem fp_X7_153 : FP "TrackRowsModel" 153 7 12 .int := ⟨fl_X7_153, fun C T N h => by cases h; exact ⟨rfl, by decide +kernel⟩⟩
theorem fl_X7_41 : FL "TrackRowsModel" 41 7 13 := FL_X7 (by decide) (Or.inl (Tb_at 749 (by decide +kernel) (by decide +kernel)))
theorem ff_X7_41 : FF "TrackRowsModel" 41 7 13 (.array .int) := ⟨fl_X7_41, fun C T N h => by cases h; exact ⟨rfl, by decide +kernel, by decide +kernel, Tb_at 749 (by decide +kernel) (by decide +kernel)⟩⟩
theorem fl_X7_44 : FL "TrackRowsModel" 44 7 14 := FL_X7 (by decide) (Or.inl (Tb_at 750 (by decide +kernel) (by decide +kernel)))
theorem ff_X7_44 : FF "TrackRowsModel" 44 7 14 (.array .int) := ⟨fl_X7_44, fun C T N h => by cases h; exact ⟨rfl, by decide +kernel, by decide +kernel, Tb_at 750 (by decide +kernel) (by decide +kernel)⟩⟩
theorem fl_X7_47 : FL "TrackRowsModel" 47 7 15 := FL_X7 (by decide) (Or.inl (Tb_at 751 (by decide +kernel) (by decide +kernel)))
theorem ff_X7_47 : FF "TrackRowsModel" 47 7 15 (.array .int) := ⟨fl_X7_47, fun C T N h => by cases h; exact ⟨rfl, by decide +kernel, by decide +kernel, Tb_at 751 (by decide +kernel) (by decide +kernel)⟩⟩
theorem fl_X7_159 : FL "TrackRowsModel" 159 7 16 := FL_X7 (by decide) (Or.inl (Tb_at 752 (by decide +kernel) (by decide +kernel)))
theorem fp_X7_159 : FP "TrackRowsModel" 159 7 16 .int := ⟨fl_X7_159, fun C T N h => by cases h; exact ⟨rfl, by decide +kernel⟩⟩
theorem fl_X7_50 : FL "TrackRowsModel" 50 7 17 := FL_X7 (by decide) (Or.inl (Tb_at 753 (by decide +kernel) (by decide +kernel)))
theorem ff_X7_50 : FF "TrackRowsModel" 50 7 17 (.array .int) := ⟨fl_X7_50, fun C T N h => by cases h; exact ⟨rfl, by decide +kernel, by decide +kernel, Tb_at 753 (by decide +kernel) (by decide +kernel)⟩⟩
theorem fl_X7_168 : FL "TrackRowsModel" 168 7 18 := FL_X7 (by decide) (Or.inl (Tb_at 754 (by decide +kernel) (by decide +kernel)))
theorem fp_X7_168 : FP "TrackRowsModel" 168 7 18 .int := ⟨fl_X7_168, fun C T N h => by cases h; exact ⟨rfl, by decide +kernel⟩⟩
theorem fl_X7_53 : FL "TrackRowsModel" 53 7 19 := FL_X7 (by decide) (Or.inl (Tb_at 755 (by decide +kernel) (by decide +kernel)))
theorem ff_X7_53 : FF "TrackRowsModel" 53 7 19 (.array .int) := ⟨fl_X7_53, fun C T N h => by cases h; exact ⟨rfl, by decide +kernel, by decide +kernel, Tb_at 755 (by decide +kernel) (by decide +kernel)⟩⟩
theorem fl_X7_171 : FL "TrackRowsModel" 171 7 20 := FL_X7 (by decide) (Or.inl (Tb_at 756 (by decide +kernel) (by decide +kernel)))
theorem fp_X7_171 : FP "TrackRowsModel" 171 7 20 .int := ⟨fl_X7_171, fun C T N h => by cases h; exact ⟨rfl, by decide +kernel⟩⟩
theorem fl_X7_56 : FL "TrackRowsModel" 56 7 21 := FL_X7 (by decide) (Or.inl (Tb_at 757 (by decide +kernel) (by decide +kernel)))
theorem ff_X7_56 : FF "TrackRowsModel" 56 7 21 (.array .int) := ⟨fl_X7_56, fun C T N h => by cases h; exact ⟨rfl, by decide +kernel, by decide +kernel, Tb_at 757 (by decide +kernel) (by decide +kernel)⟩⟩
theorem fl_X7_189 : FL "TrackRowsModel" 189 7 22 := FL_X7 (by decide) (Or.inl (Tb_at 758 (by decide +kernel) (by decide +kernel)))
theorem fp_X7_189 : FP "TrackRowsModel" 189 7 22 .int := ⟨fl_X7_189, fun C T N h => by cases h; exact ⟨rfl, by decide +kernel⟩⟩
theorem fl_X7_59 : FL "TrackRowsModel" 59 7 23 := FL_X7 (by decide) (Or.inl (Tb_at 759 (by decide +kernel) (by decide +kernel)))
theorem ff_X7_59 : FF "TrackRowsModel" 59 7 23 (.array .int) := ⟨fl_X7_59, fun C T N h => by cases h; exact ⟨rfl, by decide +kernel, by decide +kernel, Tb_at 759 (by decide +kernel) (by decide +kernel)⟩⟩
theorem fl_X7_62 : FL "TrackRowsModel" 62 7 24 := FL_X7 (by decide) (Or.inl (Tb_at 760 (by decide +kernel) (by decide +kernel)))
theorem ff_X7_62 : FF "TrackRowsModel" 62 7 24 (.array .int) := ⟨fl_X7_62, fun C T N h => by cases h; exact ⟨rfl, by decide +kernel, by decide +kernel, Tb_at 760 (by decide +kernel) (by decide +kernel)⟩⟩
theorem fl_X7_65 : FL "TrackRowsModel" 65 7 25 := FL_X7 (by decide) (Or.inl (Tb_at 761 (by decide +kernel) (by decide +kernel)))
theorem ff_X7_65 : FF "TrackRowsModel" 65 7 25 (.array .int) := ⟨fl_X7_65, fun C T N h => by cases h; exact ⟨rfl, by decide +kernel, by decide +kernel, Tb_at 761 (by decide +kernel) (by decide +kernel)⟩⟩
theorem fl_X7_68 : FL "TrackRowsModel" 68 7 26 := FL_X7 (by decide) (Or.inl (Tb_at 762 (by decide +kernel) (by decide +kernel)))
theorem ff_X7_68 : FF "TrackRowsModel" 68 7 26 (.array .long) := ⟨fl_X7_68, fun C T N h => by cases h; exact ⟨rfl, by decide +kernel, by decide +kernel, Tb_at 762 (by decide +kernel) (by decide +kernel)⟩⟩
theorem fl_X7_203 : FL "TrackRowsModel" 203 7 27 := FL_X7 (by decide) (Or.inl (Tb_at 763 (by decide +kernel) (by decide +kernel)))
theorem fp_X7_203 : FP "TrackRowsModel" 203 7 27 .long := ⟨fl_X7_203, fun C T N h => by cases h; exact ⟨rfl, by decide +kernel⟩⟩
theorem fl_X7_207 : FL "TrackRowsModel" 207 7 28 := FL_X7 (by decide) (Or.inl (Tb_at 764 (by decide +kernel) (by decide +kernel)))
theorem fp_X7_207 : FP "TrackRowsModel" 207 7 28 .int := ⟨fl_X7_207, fun C T N h => by cases h; exact ⟨rfl, by decide +kernel⟩⟩
theorem lk_X0_3 : Cond.methodLink "TrackRows$Bytes" 3 Lib.objectInit ∈ Tb := Tb_at 131 (by decide +kernel) (by decide +kernel)
theorem lk_X0_32 : LV "TrackRows$Bytes" 32 YX0_appendDifference := ⟨Tb_at 634 (by decide +kernel) (by decide +kernel), Tb_at 636 (by decide +kernel) (by decide +kernel), Tb_at 14 (by decide +kernel) (by decide +kernel)⟩
theorem lk_X0_42 : LV "TrackRows$Bytes" 42 YX0_append := ⟨Tb_at 638 (by decide +kernel) (by decide +kernel), Tb_at 639 (by decide +kernel) (by decide +kernel), Tb_at 640 (by decide +kernel) (by decide +kernel)⟩
theorem lk_X0_45 : LV "TrackRows$Bytes" 45 YX0_nextDifference := ⟨Tb_at 668 (by decide +kernel) (by decide +kernel), Tb_at 670 (by decide +kernel) (by decide +kernel), Tb_at 15 (by decide +kernel) (by decide +kernel)⟩
theorem lk_X0_49 : LV "TrackRows$Bytes" 49 YX5_mayFollow := ⟨Tb_at 672 (by decide +kernel) (by decide +kernel), Tb_at 673 (by decide +kernel) (by decide +kernel), Tb_at 674 (by decide +kernel) (by decide +kernel)⟩
theorem lk_X0_53 : LV "TrackRows$Bytes" 53 YX5_insert := ⟨Tb_at 677 (by decide +kernel) (by decide +kernel), Tb_at 444 (by decide +kernel) (by decide +kernel), Tb_at 445 (by decide +kernel) (by decide +kernel)⟩
theorem lk_X1_3 : Cond.methodLink "TrackRows$Clock" 3 Lib.objectInit ∈ Tb := Tb_at 159 (by decide +kernel) (by decide +kernel)
theorem lk_X1_22 : LV "TrackRows$Clock" 22 YX1_numberFor := ⟨Tb_at 258 (by decide +kernel) (by decide +kernel), Tb_at 259 (by decide +kernel) (by decide +kernel), Tb_at 260 (by decide +kernel) (by decide +kernel)⟩
theorem lk_X1_26 : LV "TrackRows$Clock" 26 YX1_between := ⟨Tb_at 262 (by decide +kernel) (by decide +kernel), Tb_at 264 (by decide +kernel) (by decide +kernel), Tb_at 2 (by decide +kernel) (by decide +kernel)⟩
theorem lk_X2_3 : Cond.methodLink "TrackRows$Device" 3 Lib.objectInit ∈ Tb := Tb_at 151 (by decide +kernel) (by decide +kernel)
theorem lk_X2_11 : LI "TrackRows$Device" 11 YX5_init := ⟨Tb_at 153 (by decide +kernel) (by decide +kernel), Tb_at 67 (by decide +kernel) (by decide +kernel), rfl⟩
theorem lk_X2_22 : LN "TrackRows$Device" 22 YX1_init := ⟨"TrackRows", Tb_at 156 (by decide +kernel) (by decide +kernel)⟩
theorem im_X1_init : Cond.instanceMethod YX1_init.y ∈ Tb ∧ YX1_init.y.name = "<init>" := ⟨Tb_at 157 (by decide +kernel) (by decide +kernel), rfl⟩
theorem lk_X2_35 : LV "TrackRows$Device" 35 YX1_trueTime := ⟨Tb_at 254 (by decide +kernel) (by decide +kernel), Tb_at 255 (by decide +kernel) (by decide +kernel), Tb_at 256 (by decide +kernel) (by decide +kernel)⟩
theorem lk_X2_39 : LV "TrackRows$Device" 39 YX2_trueTimeOf := ⟨Tb_at 250 (by decide +kernel) (by decide +kernel), Tb_at 251 (by decide +kernel) (by decide +kernel), Tb_at 252 (by decide +kernel) (by decide +kernel)⟩
theorem lk_X2_42 : LV "TrackRows$Device" 42 YX2_trueTimeBefore := ⟨Tb_at 462 (by decide +kernel) (by decide +kernel), Tb_at 463 (by decide +kernel) (by decide +kernel), Tb_at 464 (by decide +kernel) (by decide +kernel)⟩
theorem lk_X2_51 : LV "TrackRows$Device" 51 YX5_squareTo := ⟨Tb_at 466 (by decide +kernel) (by decide +kernel), Tb_at 271 (by decide +kernel) (by decide +kernel), Tb_at 272 (by decide +kernel) (by decide +kernel)⟩
theorem lk_X2_58 : LV "TrackRows$Device" 58 YX2_isJump := ⟨Tb_at 458 (by decide +kernel) (by decide +kernel), Tb_at 460 (by decide +kernel) (by decide +kernel), Tb_at 8 (by decide +kernel) (by decide +kernel)⟩
theorem lk_X2_62 : LV "TrackRows$Device" 62 YX2_isBehindGap := ⟨Tb_at 471 (by decide +kernel) (by decide +kernel), Tb_at 473 (by decide +kernel) (by decide +kernel), Tb_at 9 (by decide +kernel) (by decide +kernel)⟩
theorem lk_X2_65 : LM "TrackRows$Device" 65 Lib.Math.abs.name Lib.Math.abs.code 1 := ⟨Tb_at 266 (by decide +kernel) (by decide +kernel), Tb_at 267 (by decide +kernel) (by decide +kernel), Tb_at 51 (by decide +kernel) (by decide +kernel), Tb_at 268 (by decide +kernel) (by decide +kernel)⟩
theorem lk_X3_3 : Cond.methodLink "TrackRows$Fence" 3 Lib.objectInit ∈ Tb := Tb_at 188 (by decide +kernel) (by decide +kernel)
theorem lk_X3_22 : LV "TrackRows$Fence" 22 YX3_turn := ⟨Tb_at 606 (by decide +kernel) (by decide +kernel), Tb_at 608 (by decide +kernel) (by decide +kernel), Tb_at 12 (by decide +kernel) (by decide +kernel)⟩
theorem lk_X3_26 : LV "TrackRows$Fence" 26 YX3_isBeside := ⟨Tb_at 610 (by decide +kernel) (by decide +kernel), Tb_at 612 (by decide +kernel) (by decide +kernel), Tb_at 13 (by decide +kernel) (by decide +kernel)⟩
theorem lk_X3_30 : LM "TrackRows$Fence" 30 Lib.Math.min.name Lib.Math.min.code 2 := ⟨Tb_at 614 (by decide +kernel) (by decide +kernel), Tb_at 279 (by decide +kernel) (by decide +kernel), Tb_at 51 (by decide +kernel) (by decide +kernel), Tb_at 280 (by decide +kernel) (by decide +kernel)⟩
theorem lk_X3_36 : LM "TrackRows$Fence" 36 Lib.Math.max.name Lib.Math.max.code 2 := ⟨Tb_at 615 (by decide +kernel) (by decide +kernel), Tb_at 566 (by decide +kernel) (by decide +kernel), Tb_at 51 (by decide +kernel) (by decide +kernel), Tb_at 567 (by decide +kernel) (by decide +kernel)⟩
theorem lk_X4_3 : Cond.methodLink "TrackRows$Matching" 3 Lib.objectInit ∈ Tb := Tb_at 104 (by decide +kernel) (by decide +kernel)
theorem lk_X4_30 : LM "TrackRows$Matching" 30 Lib.Math.min.name Lib.Math.min.code 2 := ⟨Tb_at 278 (by decide +kernel) (by decide +kernel), Tb_at 279 (by decide +kernel) (by decide +kernel), Tb_at 51 (by decide +kernel) (by decide +kernel), Tb_at 280 (by decide +kernel) (by decide +kernel)⟩
theorem lk_X4_36 : LV "TrackRows$Matching" 36 YX4_sumUp := ⟨Tb_at 281 (by decide +kernel) (by decide +kernel), Tb_at 283 (by decide +kernel) (by decide +kernel), Tb_at 3 (by decide +kernel) (by decide +kernel)⟩
theorem lk_X4_39 : LV "TrackRows$Matching" 39 YX4_firstBest := ⟨Tb_at 285 (by decide +kernel) (by decide +kernel), Tb_at 287 (by decide +kernel) (by decide +kernel), Tb_at 4 (by decide +kernel) (by decide +kernel)⟩
theorem lk_X4_42 : LV "TrackRows$Matching" 42 YX4_sumWith := ⟨Tb_at 289 (by decide +kernel) (by decide +kernel), Tb_at 291 (by decide +kernel) (by decide +kernel), Tb_at 5 (by decide +kernel) (by decide +kernel)⟩
theorem lk_X5_3 : Cond.methodLink "TrackRows$Places" 3 Lib.objectInit ∈ Tb := Tb_at 69 (by decide +kernel) (by decide +kernel)
theorem lk_X5_28 : LN "TrackRows$Places" 28 YX6_isTellable := ⟨"TrackRows", Tb_at 676 (by decide +kernel) (by decide +kernel)⟩
theorem im_X6_isTellable : Cond.static YX6_isTellable.y ∈ Tb := Tb_at 408 (by decide +kernel) (by decide +kernel)
theorem lk_X5_32 : LV "TrackRows$Places" 32 YX5_insert := ⟨Tb_at 682 (by decide +kernel) (by decide +kernel), Tb_at 444 (by decide +kernel) (by decide +kernel), Tb_at 445 (by decide +kernel) (by decide +kernel)⟩
theorem lk_X5_36 : LSt "TrackRows$Places" 36 YX5_nearestInCell := ⟨Tb_at 561 (by decide +kernel) (by decide +kernel), Tb_at 562 (by decide +kernel) (by decide +kernel)⟩
theorem lk_X5_40 : LV "TrackRows$Places" 40 YX5_squareTo := ⟨Tb_at 568 (by decide +kernel) (by decide +kernel), Tb_at 271 (by decide +kernel) (by decide +kernel), Tb_at 272 (by decide +kernel) (by decide +kernel)⟩
theorem lk_X5_44 : LM "TrackRows$Places" 44 Lib.Math.min.name Lib.Math.min.code 2 := ⟨Tb_at 564 (by decide +kernel) (by decide +kernel), Tb_at 279 (by decide +kernel) (by decide +kernel), Tb_at 51 (by decide +kernel) (by decide +kernel), Tb_at 280 (by decide +kernel) (by decide +kernel)⟩
theorem lk_X5_49 : LM "TrackRows$Places" 49 Lib.Math.max.name Lib.Math.max.code 2 := ⟨Tb_at 565 (by decide +kernel) (by decide +kernel), Tb_at 566 (by decide +kernel) (by decide +kernel), Tb_at 51 (by decide +kernel) (by decide +kernel), Tb_at 567 (by decide +kernel) (by decide +kernel)⟩
theorem lk_X5_52 : LV "TrackRows$Places" 52 YX5_sameSteps := ⟨Tb_at 694 (by decide +kernel) (by decide +kernel), Tb_at 696 (by decide +kernel) (by decide +kernel), Tb_at 16 (by decide +kernel) (by decide +kernel)⟩
theorem lk_X5_55 : LV "TrackRows$Places" 55 YX5_sameStep := ⟨Tb_at 698 (by decide +kernel) (by decide +kernel), Tb_at 700 (by decide +kernel) (by decide +kernel), Tb_at 17 (by decide +kernel) (by decide +kernel)⟩
theorem lk_X6_1 : Cond.methodLink "TrackRows" 1 Lib.objectInit ∈ Tb := Tb_at 57 (by decide +kernel) (by decide +kernel)
theorem lk_X6_23 : LI "TrackRows" 23 YX5_init := ⟨Tb_at 66 (by decide +kernel) (by decide +kernel), Tb_at 67 (by decide +kernel) (by decide +kernel), rfl⟩
theorem lk_X6_32 : LN "TrackRows" 32 YX4_init := ⟨"TrackRows", Tb_at 101 (by decide +kernel) (by decide +kernel)⟩
theorem im_X4_init : Cond.instanceMethod YX4_init.y ∈ Tb ∧ YX4_init.y.name = "<init>" := ⟨Tb_at 102 (by decide +kernel) (by decide +kernel), rfl⟩
theorem lk_X6_39 : LN "TrackRows" 39 YX0_init := ⟨"TrackRows", Tb_at 128 (by decide +kernel) (by decide +kernel)⟩
theorem im_X0_init : Cond.instanceMethod YX0_init.y ∈ Tb ∧ YX0_init.y.name = "<init>" := ⟨Tb_at 129 (by decide +kernel) (by decide +kernel), rfl⟩
theorem lk_X6_63 : LN "TrackRows" 63 YX2_init := ⟨"TrackRows", Tb_at 148 (by decide +kernel) (by decide +kernel)⟩
theorem im_X2_init : Cond.instanceMethod YX2_init.y ∈ Tb ∧ YX2_init.y.name = "<init>" := ⟨Tb_at 149 (by decide +kernel) (by decide +kernel), rfl⟩
theorem lk_X6_64 : LN "TrackRows" 64 YX3_init := ⟨"TrackRows", Tb_at 185 (by decide +kernel) (by decide +kernel)⟩
theorem im_X3_init : Cond.instanceMethod YX3_init.y ∈ Tb ∧ YX3_init.y.name = "<init>" := ⟨Tb_at 186 (by decide +kernel) (by decide +kernel), rfl⟩
theorem lk_X6_65 : LSt "TrackRows" 65 YX6_refuseMore := ⟨Tb_at 307 (by decide +kernel) (by decide +kernel), Tb_at 308 (by decide +kernel) (by decide +kernel)⟩
theorem lk_X6_69 : LV "TrackRows" 69 YX6_deviceOf := ⟨Tb_at 382 (by decide +kernel) (by decide +kernel), Tb_at 384 (by decide +kernel) (by decide +kernel), Tb_at 7 (by decide +kernel) (by decide +kernel)⟩
theorem lk_X6_76 : LSt "TrackRows" 76 YX6_refuseUntellable := ⟨Tb_at 404 (by decide +kernel) (by decide +kernel), Tb_at 405 (by decide +kernel) (by decide +kernel)⟩
theorem lk_X6_80 : LV "TrackRows" 80 YX5_numberFor := ⟨Tb_at 431 (by decide +kernel) (by decide +kernel), Tb_at 432 (by decide +kernel) (by decide +kernel), Tb_at 433 (by decide +kernel) (by decide +kernel)⟩
theorem lk_X6_84 : LV "TrackRows" 84 YX5_hasSecond := ⟨Tb_at 435 (by decide +kernel) (by decide +kernel), Tb_at 436 (by decide +kernel) (by decide +kernel), Tb_at 437 (by decide +kernel) (by decide +kernel)⟩
theorem lk_X6_88 : LV "TrackRows" 88 YX5_isAt := ⟨Tb_at 439 (by decide +kernel) (by decide +kernel), Tb_at 440 (by decide +kernel) (by decide +kernel), Tb_at 441 (by decide +kernel) (by decide +kernel)⟩
theorem lk_X6_92 : LSt "TrackRows" 92 YX6_refuseUnless := ⟨Tb_at 413 (by decide +kernel) (by decide +kernel), Tb_at 414 (by decide +kernel) (by decide +kernel)⟩
theorem lk_X6_102 : LV "TrackRows" 102 YX5_insert := ⟨Tb_at 443 (by decide +kernel) (by decide +kernel), Tb_at 444 (by decide +kernel) (by decide +kernel), Tb_at 445 (by decide +kernel) (by decide +kernel)⟩
theorem lk_X6_113 : LV "TrackRows" 113 YX2_jumps := ⟨Tb_at 454 (by decide +kernel) (by decide +kernel), Tb_at 455 (by decide +kernel) (by decide +kernel), Tb_at 456 (by decide +kernel) (by decide +kernel)⟩
theorem lk_X6_116 : LV "TrackRows" 116 YX2_gaps := ⟨Tb_at 467 (by decide +kernel) (by decide +kernel), Tb_at 468 (by decide +kernel) (by decide +kernel), Tb_at 469 (by decide +kernel) (by decide +kernel)⟩
theorem th_X6_121 : TH "TrackRows" 119 121 "java/lang/IllegalArgumentException" := ⟨by decide +kernel, by decide +kernel, by decide +kernel, by decide +kernel, by decide +kernel, by decide +kernel⟩
theorem lk_X6_122 : LV "TrackRows" 122 YX6_deviceWithPlace := ⟨Tb_at 482 (by decide +kernel) (by decide +kernel), Tb_at 484 (by decide +kernel) (by decide +kernel), Tb_at 10 (by decide +kernel) (by decide +kernel)⟩
theorem lk_X6_136 : LV "TrackRows" 136 YX2_trueTimeOf := ⟨Tb_at 486 (by decide +kernel) (by decide +kernel), Tb_at 251 (by decide +kernel) (by decide +kernel), Tb_at 252 (by decide +kernel) (by decide +kernel)⟩
theorem lk_X6_140 : LSt "TrackRows" 140 YX6_refuseOutside := ⟨Tb_at 494 (by decide +kernel) (by decide +kernel), Tb_at 495 (by decide +kernel) (by decide +kernel)⟩
theorem lk_X6_143 : LV "TrackRows" 143 YX1_numberFor := ⟨Tb_at 497 (by decide +kernel) (by decide +kernel), Tb_at 259 (by decide +kernel) (by decide +kernel), Tb_at 260 (by decide +kernel) (by decide +kernel)⟩
theorem lk_X6_144 : LV "TrackRows" 144 YX1_fits := ⟨Tb_at 498 (by decide +kernel) (by decide +kernel), Tb_at 499 (by decide +kernel) (by decide +kernel), Tb_at 500 (by decide +kernel) (by decide +kernel)⟩
theorem lk_X6_147 : LV "TrackRows" 147 YX1_insert := ⟨Tb_at 502 (by decide +kernel) (by decide +kernel), Tb_at 503 (by decide +kernel) (by decide +kernel), Tb_at 504 (by decide +kernel) (by decide +kernel)⟩
theorem lk_X6_149 : LV "TrackRows" 149 YX1_trueTime := ⟨Tb_at 513 (by decide +kernel) (by decide +kernel), Tb_at 255 (by decide +kernel) (by decide +kernel), Tb_at 256 (by decide +kernel) (by decide +kernel)⟩
theorem lk_X6_153 : LV "TrackRows" 153 YX2_placeOfJump := ⟨Tb_at 535 (by decide +kernel) (by decide +kernel), Tb_at 536 (by decide +kernel) (by decide +kernel), Tb_at 537 (by decide +kernel) (by decide +kernel)⟩
theorem lk_X6_157 : LV "TrackRows" 157 YX2_placeBehindGap := ⟨Tb_at 546 (by decide +kernel) (by decide +kernel), Tb_at 547 (by decide +kernel) (by decide +kernel), Tb_at 548 (by decide +kernel) (by decide +kernel)⟩
theorem th_X6_162 : TH "TrackRows" 160 162 "java/lang/IndexOutOfBoundsException" := ⟨by decide +kernel, by decide +kernel, by decide +kernel, by decide +kernel, by decide +kernel, by decide +kernel⟩
theorem lk_X6_163 : LV "TrackRows" 163 YX5_squareToCell := ⟨Tb_at 557 (by decide +kernel) (by decide +kernel), Tb_at 558 (by decide +kernel) (by decide +kernel), Tb_at 559 (by decide +kernel) (by decide +kernel)⟩
theorem lk_X6_167 : LSt "TrackRows" 167 YX6_secondsFor := ⟨Tb_at 569 (by decide +kernel) (by decide +kernel), Tb_at 570 (by decide +kernel) (by decide +kernel)⟩
theorem lk_X6_171 : LV "TrackRows" 171 YX2_trueTimeBefore := ⟨Tb_at 572 (by decide +kernel) (by decide +kernel), Tb_at 463 (by decide +kernel) (by decide +kernel), Tb_at 464 (by decide +kernel) (by decide +kernel)⟩
theorem lk_X6_174 : LV "TrackRows" 174 YX6_fenceOf := ⟨Tb_at 587 (by decide +kernel) (by decide +kernel), Tb_at 589 (by decide +kernel) (by decide +kernel), Tb_at 11 (by decide +kernel) (by decide +kernel)⟩
theorem lk_X6_180 : LV "TrackRows" 180 YX3_append := ⟨Tb_at 591 (by decide +kernel) (by decide +kernel), Tb_at 592 (by decide +kernel) (by decide +kernel), Tb_at 593 (by decide +kernel) (by decide +kernel)⟩
theorem lk_X6_183 : LV "TrackRows" 183 YX3_holds := ⟨Tb_at 602 (by decide +kernel) (by decide +kernel), Tb_at 603 (by decide +kernel) (by decide +kernel), Tb_at 604 (by decide +kernel) (by decide +kernel)⟩
theorem lk_X6_186 : LV "TrackRows" 186 YX0_packFrom := ⟨Tb_at 630 (by decide +kernel) (by decide +kernel), Tb_at 631 (by decide +kernel) (by decide +kernel), Tb_at 632 (by decide +kernel) (by decide +kernel)⟩
theorem lk_X6_191 : LSt "TrackRows" 191 YX6_refuseNumber := ⟨Tb_at 386 (by decide +kernel) (by decide +kernel), Tb_at 387 (by decide +kernel) (by decide +kernel)⟩
theorem lk_X6_197 : LV "TrackRows" 197 YX0_append := ⟨Tb_at 656 (by decide +kernel) (by decide +kernel), Tb_at 639 (by decide +kernel) (by decide +kernel), Tb_at 640 (by decide +kernel) (by decide +kernel)⟩
theorem lk_X6_199 : LV "TrackRows" 199 YX0_unpackTo := ⟨Tb_at 664 (by decide +kernel) (by decide +kernel), Tb_at 665 (by decide +kernel) (by decide +kernel), Tb_at 666 (by decide +kernel) (by decide +kernel)⟩
theorem lk_X6_203 : LV "TrackRows" 203 YX5_becomeAs := ⟨Tb_at 678 (by decide +kernel) (by decide +kernel), Tb_at 679 (by decide +kernel) (by decide +kernel), Tb_at 680 (by decide +kernel) (by decide +kernel)⟩
theorem lk_X6_206 : LV "TrackRows" 206 YX5_firstRepeat := ⟨Tb_at 690 (by decide +kernel) (by decide +kernel), Tb_at 691 (by decide +kernel) (by decide +kernel), Tb_at 692 (by decide +kernel) (by decide +kernel)⟩
theorem lk_X6_209 : LV "TrackRows" 209 YX6_weightOf := ⟨Tb_at 242 (by decide +kernel) (by decide +kernel), Tb_at 244 (by decide +kernel) (by decide +kernel), Tb_at 1 (by decide +kernel) (by decide +kernel)⟩
theorem lk_X6_213 : LV "TrackRows" 213 YX6_matchAll := ⟨Tb_at 238 (by decide +kernel) (by decide +kernel), Tb_at 240 (by decide +kernel) (by decide +kernel), Tb_at 0 (by decide +kernel) (by decide +kernel)⟩
theorem lk_X6_216 : LV "TrackRows" 216 YX4_sum := ⟨Tb_at 295 (by decide +kernel) (by decide +kernel), Tb_at 296 (by decide +kernel) (by decide +kernel), Tb_at 297 (by decide +kernel) (by decide +kernel)⟩
theorem lk_X6_223 : LV "TrackRows" 223 YX2_placeNearestTo := ⟨Tb_at 246 (by decide +kernel) (by decide +kernel), Tb_at 247 (by decide +kernel) (by decide +kernel), Tb_at 248 (by decide +kernel) (by decide +kernel)⟩
theorem lk_X6_228 : LV "TrackRows" 228 YX5_squareTo := ⟨Tb_at 270 (by decide +kernel) (by decide +kernel), Tb_at 271 (by decide +kernel) (by decide +kernel), Tb_at 272 (by decide +kernel) (by decide +kernel)⟩
theorem lk_X6_235 : LV "TrackRows" 235 YX4_choose := ⟨Tb_at 274 (by decide +kernel) (by decide +kernel), Tb_at 275 (by decide +kernel) (by decide +kernel), Tb_at 276 (by decide +kernel) (by decide +kernel)⟩
theorem lk_X6_238 : LSt "TrackRows" 238 YX6_isTellable := ⟨Tb_at 407 (by decide +kernel) (by decide +kernel), Tb_at 408 (by decide +kernel) (by decide +kernel)⟩
theorem th_X6_243 : TH "TrackRows" 241 243 "java/lang/IllegalStateException" := ⟨by decide +kernel, by decide +kernel, by decide +kernel, by decide +kernel, by decide +kernel, by decide +kernel⟩
theorem lk_X7_1 : Cond.methodLink "TrackRowsModel" 1 Lib.objectInit ∈ Tb := Tb_at 735 (by decide +kernel) (by decide +kernel)
theorem lk_X7_78 : LV "TrackRowsModel" 78 YX7_isDevice := ⟨Tb_at 840 (by decide +kernel) (by decide +kernel), Tb_at 842 (by decide +kernel) (by decide +kernel), Tb_at 19 (by decide +kernel) (by decide +kernel)⟩
theorem lk_X7_82 : LV "TrackRowsModel" 82 YX7_fails := ⟨Tb_at 832 (by decide +kernel) (by decide +kernel), Tb_at 834 (by decide +kernel) (by decide +kernel), Tb_at 18 (by decide +kernel) (by decide +kernel)⟩
theorem lk_X7_90 : LSt "TrackRowsModel" 90 YX7_within := ⟨Tb_at 845 (by decide +kernel) (by decide +kernel), Tb_at 846 (by decide +kernel) (by decide +kernel)⟩
theorem lk_X7_96 : LSt "TrackRowsModel" 96 YX7_isPoint := ⟨Tb_at 848 (by decide +kernel) (by decide +kernel), Tb_at 849 (by decide +kernel) (by decide +kernel)⟩
theorem lk_X7_100 : LV "TrackRowsModel" 100 YX7_before := ⟨Tb_at 853 (by decide +kernel) (by decide +kernel), Tb_at 855 (by decide +kernel) (by decide +kernel), Tb_at 20 (by decide +kernel) (by decide +kernel)⟩
theorem lk_X7_106 : LV "TrackRowsModel" 106 YX7_countOf := ⟨Tb_at 862 (by decide +kernel) (by decide +kernel), Tb_at 864 (by decide +kernel) (by decide +kernel), Tb_at 21 (by decide +kernel) (by decide +kernel)⟩
theorem lk_X7_110 : LV "TrackRowsModel" 110 YX7_isPlace := ⟨Tb_at 885 (by decide +kernel) (by decide +kernel), Tb_at 887 (by decide +kernel) (by decide +kernel), Tb_at 25 (by decide +kernel) (by decide +kernel)⟩
theorem lk_X7_115 : LV "TrackRowsModel" 115 YX7_timeOf := ⟨Tb_at 874 (by decide +kernel) (by decide +kernel), Tb_at 876 (by decide +kernel) (by decide +kernel), Tb_at 24 (by decide +kernel) (by decide +kernel)⟩
theorem lk_X7_120 : LV "TrackRowsModel" 120 YX7_between := ⟨Tb_at 870 (by decide +kernel) (by decide +kernel), Tb_at 872 (by decide +kernel) (by decide +kernel), Tb_at 23 (by decide +kernel) (by decide +kernel)⟩
theorem lk_X7_124 : LSt "TrackRowsModel" 124 YX7_square := ⟨Tb_at 878 (by decide +kernel) (by decide +kernel), Tb_at 879 (by decide +kernel) (by decide +kernel)⟩
theorem lk_X7_128 : LV "TrackRowsModel" 128 YX7_is := ⟨Tb_at 866 (by decide +kernel) (by decide +kernel), Tb_at 868 (by decide +kernel) (by decide +kernel), Tb_at 22 (by decide +kernel) (by decide +kernel)⟩
theorem lk_X7_132 : LV "TrackRowsModel" 132 YX7_find := ⟨Tb_at 911 (by decide +kernel) (by decide +kernel), Tb_at 913 (by decide +kernel) (by decide +kernel), Tb_at 26 (by decide +kernel) (by decide +kernel)⟩
theorem lk_X7_138 : LSt "TrackRowsModel" 138 YX7_nearest := ⟨Tb_at 929 (by decide +kernel) (by decide +kernel), Tb_at 930 (by decide +kernel) (by decide +kernel)⟩
theorem lk_X7_141 : LV "TrackRowsModel" 141 YX7_secondsFor := ⟨Tb_at 932 (by decide +kernel) (by decide +kernel), Tb_at 934 (by decide +kernel) (by decide +kernel), Tb_at 28 (by decide +kernel) (by decide +kernel)⟩
theorem lk_X7_149 : LV "TrackRowsModel" 149 YX7_way := ⟨Tb_at 925 (by decide +kernel) (by decide +kernel), Tb_at 927 (by decide +kernel) (by decide +kernel), Tb_at 27 (by decide +kernel) (by decide +kernel)⟩
theorem lk_X7_156 : LV "TrackRowsModel" 156 YX7_isIn := ⟨Tb_at 949 (by decide +kernel) (by decide +kernel), Tb_at 951 (by decide +kernel) (by decide +kernel), Tb_at 29 (by decide +kernel) (by decide +kernel)⟩
theorem lk_X7_162 : LV "TrackRowsModel" 162 YX7_put := ⟨Tb_at 961 (by decide +kernel) (by decide +kernel), Tb_at 963 (by decide +kernel) (by decide +kernel), Tb_at 30 (by decide +kernel) (by decide +kernel)⟩
theorem lk_X7_179 : LV "TrackRowsModel" 179 YX7_difference := ⟨Tb_at 978 (by decide +kernel) (by decide +kernel), Tb_at 980 (by decide +kernel) (by decide +kernel), Tb_at 31 (by decide +kernel) (by decide +kernel)⟩
theorem lk_X7_185 : LV "TrackRowsModel" 185 YX7_isSame := ⟨Tb_at 990 (by decide +kernel) (by decide +kernel), Tb_at 992 (by decide +kernel) (by decide +kernel), Tb_at 32 (by decide +kernel) (by decide +kernel)⟩
theorem lk_X7_192 : LSt "TrackRowsModel" 192 YX7_size := ⟨Tb_at 1006 (by decide +kernel) (by decide +kernel), Tb_at 1007 (by decide +kernel) (by decide +kernel)⟩
theorem lk_X7_197 : LV "TrackRowsModel" 197 YX7_weightOf := ⟨Tb_at 1002 (by decide +kernel) (by decide +kernel), Tb_at 1004 (by decide +kernel) (by decide +kernel), Tb_at 33 (by decide +kernel) (by decide +kernel)⟩
theorem lk_X7_200 : LV "TrackRowsModel" 200 YX7_digit := ⟨Tb_at 1018 (by decide +kernel) (by decide +kernel), Tb_at 1020 (by decide +kernel) (by decide +kernel), Tb_at 35 (by decide +kernel) (by decide +kernel)⟩
theorem lk_X7_209 : LV "TrackRowsModel" 209 YX7_findWay := ⟨Tb_at 1014 (by decide +kernel) (by decide +kernel), Tb_at 1016 (by decide +kernel) (by decide +kernel), Tb_at 34 (by decide +kernel) (by decide +kernel)⟩
theorem lk_L_7 : LV "TrackRowsLaw" 7 YX6_device := ⟨Tb_at 303 (by decide +kernel) (by decide +kernel), Tb_at 304 (by decide +kernel) (by decide +kernel), Tb_at 305 (by decide +kernel) (by decide +kernel)⟩
theorem lk_L_15 : LV "TrackRowsLaw" 15 YX6_place := ⟨Tb_at 378 (by decide +kernel) (by decide +kernel), Tb_at 379 (by decide +kernel) (by decide +kernel), Tb_at 380 (by decide +kernel) (by decide +kernel)⟩
theorem lk_L_23 : LV "TrackRowsLaw" 23 YX6_has := ⟨Tb_at 450 (by decide +kernel) (by decide +kernel), Tb_at 451 (by decide +kernel) (by decide +kernel), Tb_at 452 (by decide +kernel) (by decide +kernel)⟩
theorem lk_L_27 : LV "TrackRowsLaw" 27 YX6_at := ⟨Tb_at 478 (by decide +kernel) (by decide +kernel), Tb_at 479 (by decide +kernel) (by decide +kernel), Tb_at 480 (by decide +kernel) (by decide +kernel)⟩
theorem lk_L_31 : LV "TrackRowsLaw" 31 YX6_mark := ⟨Tb_at 490 (by decide +kernel) (by decide +kernel), Tb_at 491 (by decide +kernel) (by decide +kernel), Tb_at 492 (by decide +kernel) (by decide +kernel)⟩
theorem lk_L_34 : LV "TrackRowsLaw" 34 YX6_time := ⟨Tb_at 509 (by decide +kernel) (by decide +kernel), Tb_at 510 (by decide +kernel) (by decide +kernel), Tb_at 511 (by decide +kernel) (by decide +kernel)⟩
theorem lk_L_37 : LV "TrackRowsLaw" 37 YX6_speed := ⟨Tb_at 517 (by decide +kernel) (by decide +kernel), Tb_at 518 (by decide +kernel) (by decide +kernel), Tb_at 519 (by decide +kernel) (by decide +kernel)⟩
theorem lk_L_41 : LV "TrackRowsLaw" 41 YX6_limit := ⟨Tb_at 524 (by decide +kernel) (by decide +kernel), Tb_at 525 (by decide +kernel) (by decide +kernel), Tb_at 526 (by decide +kernel) (by decide +kernel)⟩
theorem lk_L_44 : LV "TrackRowsLaw" 44 YX6_jump := ⟨Tb_at 531 (by decide +kernel) (by decide +kernel), Tb_at 532 (by decide +kernel) (by decide +kernel), Tb_at 533 (by decide +kernel) (by decide +kernel)⟩
theorem lk_L_47 : LV "TrackRowsLaw" 47 YX6_gap := ⟨Tb_at 542 (by decide +kernel) (by decide +kernel), Tb_at 543 (by decide +kernel) (by decide +kernel), Tb_at 544 (by decide +kernel) (by decide +kernel)⟩
theorem lk_L_50 : LV "TrackRowsLaw" 50 YX6_could := ⟨Tb_at 553 (by decide +kernel) (by decide +kernel), Tb_at 554 (by decide +kernel) (by decide +kernel), Tb_at 555 (by decide +kernel) (by decide +kernel)⟩
theorem lk_L_54 : LV "TrackRowsLaw" 54 YX6_fence := ⟨Tb_at 576 (by decide +kernel) (by decide +kernel), Tb_at 577 (by decide +kernel) (by decide +kernel), Tb_at 578 (by decide +kernel) (by decide +kernel)⟩
theorem lk_L_57 : LV "TrackRowsLaw" 57 YX6_corner := ⟨Tb_at 583 (by decide +kernel) (by decide +kernel), Tb_at 584 (by decide +kernel) (by decide +kernel), Tb_at 585 (by decide +kernel) (by decide +kernel)⟩
theorem lk_L_60 : LV "TrackRowsLaw" 60 YX6_in := ⟨Tb_at 598 (by decide +kernel) (by decide +kernel), Tb_at 599 (by decide +kernel) (by decide +kernel), Tb_at 600 (by decide +kernel) (by decide +kernel)⟩
theorem lk_L_64 : LV "TrackRowsLaw" 64 YX6_port := ⟨Tb_at 619 (by decide +kernel) (by decide +kernel), Tb_at 620 (by decide +kernel) (by decide +kernel), Tb_at 621 (by decide +kernel) (by decide +kernel)⟩
theorem lk_L_67 : LV "TrackRowsLaw" 67 YX6_pack := ⟨Tb_at 626 (by decide +kernel) (by decide +kernel), Tb_at 627 (by decide +kernel) (by decide +kernel), Tb_at 628 (by decide +kernel) (by decide +kernel)⟩
theorem lk_L_70 : LV "TrackRowsLaw" 70 YX6_byteAt := ⟨Tb_at 645 (by decide +kernel) (by decide +kernel), Tb_at 646 (by decide +kernel) (by decide +kernel), Tb_at 647 (by decide +kernel) (by decide +kernel)⟩
theorem lk_L_73 : LV "TrackRowsLaw" 73 YX6_feed := ⟨Tb_at 652 (by decide +kernel) (by decide +kernel), Tb_at 653 (by decide +kernel) (by decide +kernel), Tb_at 654 (by decide +kernel) (by decide +kernel)⟩
theorem lk_L_76 : LV "TrackRowsLaw" 76 YX6_read := ⟨Tb_at 660 (by decide +kernel) (by decide +kernel), Tb_at 661 (by decide +kernel) (by decide +kernel), Tb_at 662 (by decide +kernel) (by decide +kernel)⟩
theorem lk_L_79 : LV "TrackRowsLaw" 79 YX6_repeat := ⟨Tb_at 686 (by decide +kernel) (by decide +kernel), Tb_at 687 (by decide +kernel) (by decide +kernel), Tb_at 688 (by decide +kernel) (by decide +kernel)⟩
theorem lk_L_82 : LV "TrackRowsLaw" 82 YX6_sight := ⟨Tb_at 705 (by decide +kernel) (by decide +kernel), Tb_at 706 (by decide +kernel) (by decide +kernel), Tb_at 707 (by decide +kernel) (by decide +kernel)⟩
theorem lk_L_85 : LV "TrackRowsLaw" 85 YX6_weight := ⟨Tb_at 712 (by decide +kernel) (by decide +kernel), Tb_at 713 (by decide +kernel) (by decide +kernel), Tb_at 714 (by decide +kernel) (by decide +kernel)⟩
theorem lk_L_89 : LV "TrackRowsLaw" 89 YX6_match := ⟨Tb_at 719 (by decide +kernel) (by decide +kernel), Tb_at 720 (by decide +kernel) (by decide +kernel), Tb_at 721 (by decide +kernel) (by decide +kernel)⟩
theorem lk_L_92 : LV "TrackRowsLaw" 92 YX6_told := ⟨Tb_at 726 (by decide +kernel) (by decide +kernel), Tb_at 727 (by decide +kernel) (by decide +kernel), Tb_at 728 (by decide +kernel) (by decide +kernel)⟩
theorem lk_L_95 : LI "TrackRowsLaw" 95 YX6_init := ⟨Tb_at 54 (by decide +kernel) (by decide +kernel), Tb_at 55 (by decide +kernel) (by decide +kernel), rfl⟩
theorem lk_L_98 : LI "TrackRowsLaw" 98 YX7_init := ⟨Tb_at 732 (by decide +kernel) (by decide +kernel), Tb_at 733 (by decide +kernel) (by decide +kernel), rfl⟩
theorem lk_L_99 : LSt "TrackRowsLaw" 99 YL_device := ⟨Tb_at 299 (by decide +kernel) (by decide +kernel), Tb_at 300 (by decide +kernel) (by decide +kernel)⟩
theorem lk_L_104 : LV "TrackRowsLaw" 104 YX7_device := ⟨Tb_at 828 (by decide +kernel) (by decide +kernel), Tb_at 829 (by decide +kernel) (by decide +kernel), Tb_at 830 (by decide +kernel) (by decide +kernel)⟩
theorem lk_L_105 : LV "TrackRowsLaw" 105 YX7_thrown := ⟨Tb_at 824 (by decide +kernel) (by decide +kernel), Tb_at 825 (by decide +kernel) (by decide +kernel), Tb_at 826 (by decide +kernel) (by decide +kernel)⟩
theorem lk_L_108 : LSt "TrackRowsLaw" 108 YL_place := ⟨Tb_at 373 (by decide +kernel) (by decide +kernel), Tb_at 374 (by decide +kernel) (by decide +kernel)⟩
theorem lk_L_111 : LV "TrackRowsLaw" 111 YX7_place := ⟨Tb_at 836 (by decide +kernel) (by decide +kernel), Tb_at 837 (by decide +kernel) (by decide +kernel), Tb_at 838 (by decide +kernel) (by decide +kernel)⟩
theorem lk_L_112 : LSt "TrackRowsLaw" 112 YL_has := ⟨Tb_at 447 (by decide +kernel) (by decide +kernel), Tb_at 448 (by decide +kernel) (by decide +kernel)⟩
theorem lk_L_115 : LV "TrackRowsLaw" 115 YX7_has := ⟨Tb_at 857 (by decide +kernel) (by decide +kernel), Tb_at 858 (by decide +kernel) (by decide +kernel), Tb_at 859 (by decide +kernel) (by decide +kernel)⟩
theorem lk_L_116 : LSt "TrackRowsLaw" 116 YL_at := ⟨Tb_at 475 (by decide +kernel) (by decide +kernel), Tb_at 476 (by decide +kernel) (by decide +kernel)⟩
theorem lk_L_119 : LV "TrackRowsLaw" 119 YX7_at := ⟨Tb_at 881 (by decide +kernel) (by decide +kernel), Tb_at 882 (by decide +kernel) (by decide +kernel), Tb_at 883 (by decide +kernel) (by decide +kernel)⟩
theorem lk_L_120 : LSt "TrackRowsLaw" 120 YL_mark := ⟨Tb_at 487 (by decide +kernel) (by decide +kernel), Tb_at 488 (by decide +kernel) (by decide +kernel)⟩
theorem lk_L_122 : LV "TrackRowsLaw" 122 YX7_mark := ⟨Tb_at 890 (by decide +kernel) (by decide +kernel), Tb_at 891 (by decide +kernel) (by decide +kernel), Tb_at 892 (by decide +kernel) (by decide +kernel)⟩
theorem lk_L_123 : LSt "TrackRowsLaw" 123 YL_time := ⟨Tb_at 506 (by decide +kernel) (by decide +kernel), Tb_at 507 (by decide +kernel) (by decide +kernel)⟩
theorem lk_L_125 : LV "TrackRowsLaw" 125 YX7_time := ⟨Tb_at 894 (by decide +kernel) (by decide +kernel), Tb_at 895 (by decide +kernel) (by decide +kernel), Tb_at 896 (by decide +kernel) (by decide +kernel)⟩
theorem lk_L_126 : LSt "TrackRowsLaw" 126 YL_speed := ⟨Tb_at 514 (by decide +kernel) (by decide +kernel), Tb_at 515 (by decide +kernel) (by decide +kernel)⟩
theorem lk_L_129 : LV "TrackRowsLaw" 129 YX7_speed := ⟨Tb_at 898 (by decide +kernel) (by decide +kernel), Tb_at 899 (by decide +kernel) (by decide +kernel), Tb_at 900 (by decide +kernel) (by decide +kernel)⟩
theorem lk_L_130 : LSt "TrackRowsLaw" 130 YL_limit := ⟨Tb_at 521 (by decide +kernel) (by decide +kernel), Tb_at 522 (by decide +kernel) (by decide +kernel)⟩
theorem lk_L_132 : LV "TrackRowsLaw" 132 YX7_limit := ⟨Tb_at 903 (by decide +kernel) (by decide +kernel), Tb_at 904 (by decide +kernel) (by decide +kernel), Tb_at 905 (by decide +kernel) (by decide +kernel)⟩
theorem lk_L_133 : LSt "TrackRowsLaw" 133 YL_jump := ⟨Tb_at 528 (by decide +kernel) (by decide +kernel), Tb_at 529 (by decide +kernel) (by decide +kernel)⟩
theorem lk_L_135 : LV "TrackRowsLaw" 135 YX7_jump := ⟨Tb_at 907 (by decide +kernel) (by decide +kernel), Tb_at 908 (by decide +kernel) (by decide +kernel), Tb_at 909 (by decide +kernel) (by decide +kernel)⟩
theorem lk_L_136 : LSt "TrackRowsLaw" 136 YL_gap := ⟨Tb_at 539 (by decide +kernel) (by decide +kernel), Tb_at 540 (by decide +kernel) (by decide +kernel)⟩
theorem lk_L_138 : LV "TrackRowsLaw" 138 YX7_gap := ⟨Tb_at 915 (by decide +kernel) (by decide +kernel), Tb_at 916 (by decide +kernel) (by decide +kernel), Tb_at 917 (by decide +kernel) (by decide +kernel)⟩
theorem lk_L_139 : LSt "TrackRowsLaw" 139 YL_could := ⟨Tb_at 550 (by decide +kernel) (by decide +kernel), Tb_at 551 (by decide +kernel) (by decide +kernel)⟩
theorem lk_L_141 : LV "TrackRowsLaw" 141 YX7_could := ⟨Tb_at 919 (by decide +kernel) (by decide +kernel), Tb_at 920 (by decide +kernel) (by decide +kernel), Tb_at 921 (by decide +kernel) (by decide +kernel)⟩
theorem lk_L_142 : LSt "TrackRowsLaw" 142 YL_fence := ⟨Tb_at 573 (by decide +kernel) (by decide +kernel), Tb_at 574 (by decide +kernel) (by decide +kernel)⟩
theorem lk_L_144 : LV "TrackRowsLaw" 144 YX7_fence := ⟨Tb_at 937 (by decide +kernel) (by decide +kernel), Tb_at 938 (by decide +kernel) (by decide +kernel), Tb_at 939 (by decide +kernel) (by decide +kernel)⟩
theorem lk_L_145 : LSt "TrackRowsLaw" 145 YL_corner := ⟨Tb_at 580 (by decide +kernel) (by decide +kernel), Tb_at 581 (by decide +kernel) (by decide +kernel)⟩
theorem lk_L_147 : LV "TrackRowsLaw" 147 YX7_corner := ⟨Tb_at 941 (by decide +kernel) (by decide +kernel), Tb_at 942 (by decide +kernel) (by decide +kernel), Tb_at 943 (by decide +kernel) (by decide +kernel)⟩
theorem lk_L_148 : LSt "TrackRowsLaw" 148 YL_in := ⟨Tb_at 595 (by decide +kernel) (by decide +kernel), Tb_at 596 (by decide +kernel) (by decide +kernel)⟩
theorem lk_L_150 : LV "TrackRowsLaw" 150 YX7_in := ⟨Tb_at 945 (by decide +kernel) (by decide +kernel), Tb_at 946 (by decide +kernel) (by decide +kernel), Tb_at 947 (by decide +kernel) (by decide +kernel)⟩
theorem lk_L_151 : LSt "TrackRowsLaw" 151 YL_port := ⟨Tb_at 616 (by decide +kernel) (by decide +kernel), Tb_at 617 (by decide +kernel) (by decide +kernel)⟩
theorem lk_L_153 : LV "TrackRowsLaw" 153 YX7_port := ⟨Tb_at 953 (by decide +kernel) (by decide +kernel), Tb_at 954 (by decide +kernel) (by decide +kernel), Tb_at 955 (by decide +kernel) (by decide +kernel)⟩
theorem lk_L_154 : LSt "TrackRowsLaw" 154 YL_pack := ⟨Tb_at 623 (by decide +kernel) (by decide +kernel), Tb_at 624 (by decide +kernel) (by decide +kernel)⟩
theorem lk_L_156 : LV "TrackRowsLaw" 156 YX7_pack := ⟨Tb_at 957 (by decide +kernel) (by decide +kernel), Tb_at 958 (by decide +kernel) (by decide +kernel), Tb_at 959 (by decide +kernel) (by decide +kernel)⟩
theorem lk_L_157 : LSt "TrackRowsLaw" 157 YL_byteAt := ⟨Tb_at 642 (by decide +kernel) (by decide +kernel), Tb_at 643 (by decide +kernel) (by decide +kernel)⟩
theorem lk_L_159 : LV "TrackRowsLaw" 159 YX7_byteAt := ⟨Tb_at 965 (by decide +kernel) (by decide +kernel), Tb_at 966 (by decide +kernel) (by decide +kernel), Tb_at 967 (by decide +kernel) (by decide +kernel)⟩
theorem lk_L_160 : LSt "TrackRowsLaw" 160 YL_feed := ⟨Tb_at 649 (by decide +kernel) (by decide +kernel), Tb_at 650 (by decide +kernel) (by decide +kernel)⟩
theorem lk_L_162 : LV "TrackRowsLaw" 162 YX7_feed := ⟨Tb_at 969 (by decide +kernel) (by decide +kernel), Tb_at 970 (by decide +kernel) (by decide +kernel), Tb_at 971 (by decide +kernel) (by decide +kernel)⟩
theorem lk_L_163 : LSt "TrackRowsLaw" 163 YL_read := ⟨Tb_at 657 (by decide +kernel) (by decide +kernel), Tb_at 658 (by decide +kernel) (by decide +kernel)⟩
theorem lk_L_165 : LV "TrackRowsLaw" 165 YX7_read := ⟨Tb_at 974 (by decide +kernel) (by decide +kernel), Tb_at 975 (by decide +kernel) (by decide +kernel), Tb_at 976 (by decide +kernel) (by decide +kernel)⟩
theorem lk_L_166 : LSt "TrackRowsLaw" 166 YL_repeat := ⟨Tb_at 683 (by decide +kernel) (by decide +kernel), Tb_at 684 (by decide +kernel) (by decide +kernel)⟩
theorem lk_L_168 : LV "TrackRowsLaw" 168 YX7_repeat := ⟨Tb_at 985 (by decide +kernel) (by decide +kernel), Tb_at 986 (by decide +kernel) (by decide +kernel), Tb_at 987 (by decide +kernel) (by decide +kernel)⟩
theorem lk_L_169 : LSt "TrackRowsLaw" 169 YL_sight := ⟨Tb_at 702 (by decide +kernel) (by decide +kernel), Tb_at 703 (by decide +kernel) (by decide +kernel)⟩
theorem lk_L_171 : LV "TrackRowsLaw" 171 YX7_sight := ⟨Tb_at 994 (by decide +kernel) (by decide +kernel), Tb_at 995 (by decide +kernel) (by decide +kernel), Tb_at 996 (by decide +kernel) (by decide +kernel)⟩
theorem lk_L_172 : LSt "TrackRowsLaw" 172 YL_weight := ⟨Tb_at 709 (by decide +kernel) (by decide +kernel), Tb_at 710 (by decide +kernel) (by decide +kernel)⟩
theorem lk_L_174 : LV "TrackRowsLaw" 174 YX7_weight := ⟨Tb_at 998 (by decide +kernel) (by decide +kernel), Tb_at 999 (by decide +kernel) (by decide +kernel), Tb_at 1000 (by decide +kernel) (by decide +kernel)⟩
theorem lk_L_175 : LV "TrackRowsLaw" 175 YX6_matched := ⟨Tb_at 234 (by decide +kernel) (by decide +kernel), Tb_at 235 (by decide +kernel) (by decide +kernel), Tb_at 236 (by decide +kernel) (by decide +kernel)⟩
theorem lk_L_179 : LV "TrackRowsLaw" 179 YX7_matched := ⟨Tb_at 1010 (by decide +kernel) (by decide +kernel), Tb_at 1011 (by decide +kernel) (by decide +kernel), Tb_at 1012 (by decide +kernel) (by decide +kernel)⟩
theorem lk_L_180 : LSt "TrackRowsLaw" 180 YL_match := ⟨Tb_at 716 (by decide +kernel) (by decide +kernel), Tb_at 717 (by decide +kernel) (by decide +kernel)⟩
theorem lk_L_182 : LV "TrackRowsLaw" 182 YX7_match := ⟨Tb_at 1022 (by decide +kernel) (by decide +kernel), Tb_at 1023 (by decide +kernel) (by decide +kernel), Tb_at 1024 (by decide +kernel) (by decide +kernel)⟩
theorem lk_L_183 : LSt "TrackRowsLaw" 183 YL_told := ⟨Tb_at 723 (by decide +kernel) (by decide +kernel), Tb_at 724 (by decide +kernel) (by decide +kernel)⟩
theorem lk_L_185 : LV "TrackRowsLaw" 185 YX7_told := ⟨Tb_at 1026 (by decide +kernel) (by decide +kernel), Tb_at 1027 (by decide +kernel) (by decide +kernel), Tb_at 1028 (by decide +kernel) (by decide +kernel)⟩
theorem ob_i : Cond.instanceMethod Lib.objectInit ∈ Tb := Tb_at 58 (by decide +kernel) (by decide +kernel)
theorem ob_c : Cond.code Lib.objectInit ⟨#[0xb1]⟩ 1 none ∈ Tb := Tb_at 59 (by decide +kernel) (by decide +kernel)
theorem k_X6_226 : Cond.constantLong "TrackRows" 226 (Int64.ofInt (-1)) ∈ Tb := Tb_at 269 (by decide +kernel) (by decide +kernel)
theorem k_X4_48 : Cond.constantLong "TrackRows$Matching" 48 (Int64.ofInt (1000000000000)) ∈ Tb := Tb_at 293 (by decide +kernel) (by decide +kernel)
theorem k_X4_46 : Cond.constantLong "TrackRows$Matching" 46 (Int64.ofInt (-1)) ∈ Tb := Tb_at 294 (by decide +kernel) (by decide +kernel)
theorem k_X6_139 : Cond.constant "TrackRows" 139 (Int32.ofInt (1000000)) ∈ Tb := Tb_at 410 (by decide +kernel) (by decide +kernel)
theorem k_X6_178 : Cond.constant "TrackRows" 178 (Int32.ofInt (-100000)) ∈ Tb := Tb_at 411 (by decide +kernel) (by decide +kernel)
theorem k_X6_152 : Cond.constant "TrackRows" 152 (Int32.ofInt (100000)) ∈ Tb := Tb_at 412 (by decide +kernel) (by decide +kernel)
theorem k_X7_94 : Cond.constantLong "TrackRowsModel" 94 (Int64.ofInt (1000000)) ∈ Tb := Tb_at 844 (by decide +kernel) (by decide +kernel)
theorem k_X7_86 : Cond.constantLong "TrackRowsModel" 86 (Int64.ofInt (-100000)) ∈ Tb := Tb_at 851 (by decide +kernel) (by decide +kernel)
theorem k_X7_88 : Cond.constantLong "TrackRowsModel" 88 (Int64.ofInt (100000)) ∈ Tb := Tb_at 852 (by decide +kernel) (by decide +kernel)
theorem k_X7_104 : Cond.constantLong "TrackRowsModel" 104 (Int64.ofInt (4)) ∈ Tb := Tb_at 861 (by decide +kernel) (by decide +kernel)
theorem k_X7_113 : Cond.constantLong "TrackRowsModel" 113 (Int64.ofInt (3)) ∈ Tb := Tb_at 889 (by decide +kernel) (by decide +kernel)
theorem k_X7_118 : Cond.constantLong "TrackRowsModel" 118 (Int64.ofInt (100)) ∈ Tb := Tb_at 902 (by decide +kernel) (by decide +kernel)
theorem k_X7_145 : Cond.constantLong "TrackRowsModel" 145 (Int64.ofInt (-200)) ∈ Tb := Tb_at 923 (by decide +kernel) (by decide +kernel)
theorem k_X7_147 : Cond.constantLong "TrackRowsModel" 147 (Int64.ofInt (200)) ∈ Tb := Tb_at 924 (by decide +kernel) (by decide +kernel)
theorem k_X7_136 : Cond.constantLong "TrackRowsModel" 136 (Int64.ofInt (2)) ∈ Tb := Tb_at 936 (by decide +kernel) (by decide +kernel)
theorem k_X7_166 : Cond.constantLong "TrackRowsModel" 166 (Int64.ofInt (255)) ∈ Tb := Tb_at 973 (by decide +kernel) (by decide +kernel)
theorem k_X7_174 : Cond.constantLong "TrackRowsModel" 174 (Int64.ofInt (128)) ∈ Tb := Tb_at 982 (by decide +kernel) (by decide +kernel)
theorem k_X7_176 : Cond.constant "TrackRowsModel" 176 (Int32.ofInt (100000000)) ∈ Tb := Tb_at 983 (by decide +kernel) (by decide +kernel)
theorem k_X7_177 : Cond.constantLong "TrackRowsModel" 177 (Int64.ofInt (20000000)) ∈ Tb := Tb_at 984 (by decide +kernel) (by decide +kernel)
theorem k_X7_183 : Cond.constantLong "TrackRowsModel" 183 (Int64.ofInt (30)) ∈ Tb := Tb_at 989 (by decide +kernel) (by decide +kernel)
theorem k_X7_195 : Cond.constantLong "TrackRowsModel" 195 (Int64.ofInt (-1)) ∈ Tb := Tb_at 1009 (by decide +kernel) (by decide +kernel)
theorem k_X7_212 : Cond.constantLong "TrackRowsModel" 212 (Int64.ofInt (6)) ∈ Tb := Tb_at 1030 (by decide +kernel) (by decide +kernel)
theorem cl_X6_9 : Cond.classLink "TrackRows" 9 "TrackRows$Device" ∈ Tb := Tb_at 60 (by decide +kernel) (by decide +kernel)
theorem cl_X6_15 : Cond.classLink "TrackRows" 15 "TrackRows$Fence" ∈ Tb := Tb_at 62 (by decide +kernel) (by decide +kernel)
theorem ac_int : Cond.arrayClass .int ∈ Tb := Tb_at 98 (by decide +kernel) (by decide +kernel)
theorem cl_X4_9 : Cond.classLink "TrackRows$Matching" 9 "[[J" ∈ Tb := Tb_at 105 (by decide +kernel) (by decide +kernel)
theorem ac_long : Cond.arrayClass .long ∈ Tb := Tb_at 125 (by decide +kernel) (by decide +kernel)
theorem nw_L_8 : NW "TrackRowsLaw" 8 6 [vN, vN, vN, vN, vN, vN, vN, vI 0, vI 0, vI 0, vI 0] := ⟨RX6, TX6, tyX6, rfl, in_X6, tyX6_ok, Tb_at 52 (by decide +kernel) (by decide +kernel), Tb_at 53 (by decide +kernel) (by decide +kernel), Tb_at 37 (by decide +kernel) (by decide +kernel), by decide +kernel, by simp [dfl, okV, iR, lR]⟩
theorem nw_X6_9 : NW "TrackRows" 9 2 [vN, vN, vI 0] := ⟨RX2, TX2, tyX2, rfl, in_X2, tyX2_ok, Tb_at 60 (by decide +kernel) (by decide +kernel), Tb_at 147 (by decide +kernel) (by decide +kernel), Tb_at 41 (by decide +kernel) (by decide +kernel), by decide +kernel, by simp [dfl, okV, iR, lR]⟩
theorem nw_X6_15 : NW "TrackRows" 15 3 [vN, vN, vI 0] := ⟨RX3, TX3, tyX3, rfl, in_X3, tyX3_ok, Tb_at 62 (by decide +kernel) (by decide +kernel), Tb_at 184 (by decide +kernel) (by decide +kernel), Tb_at 43 (by decide +kernel) (by decide +kernel), by decide +kernel, by simp [dfl, okV, iR, lR]⟩
theorem nw_X6_21 : NW "TrackRows" 21 5 [vI 0, vN, vN, vN, vI 0] := ⟨RX5, TX5, tyX5, rfl, in_X5, tyX5_ok, Tb_at 64 (by decide +kernel) (by decide +kernel), Tb_at 65 (by decide +kernel) (by decide +kernel), Tb_at 38 (by decide +kernel) (by decide +kernel), by decide +kernel, by simp [dfl, okV, iR, lR]⟩
theorem nw_X6_30 : NW "TrackRows" 30 4 [vN, vN, vN, vI 0, vI 0] := ⟨RX4, TX4, tyX4, rfl, in_X4, tyX4_ok, Tb_at 99 (by decide +kernel) (by decide +kernel), Tb_at 100 (by decide +kernel) (by decide +kernel), Tb_at 39 (by decide +kernel) (by decide +kernel), by decide +kernel, by simp [dfl, okV, iR, lR]⟩
theorem nw_X6_37 : NW "TrackRows" 37 0 [vN, vI 0, vI 0, vI 0] := ⟨RX0, TX0, tyX0, rfl, in_X0, tyX0_ok, Tb_at 126 (by decide +kernel) (by decide +kernel), Tb_at 127 (by decide +kernel) (by decide +kernel), Tb_at 40 (by decide +kernel) (by decide +kernel), by decide +kernel, by simp [dfl, okV, iR, lR]⟩
theorem nw_X2_9 : NW "TrackRows$Device" 9 5 [vI 0, vN, vN, vN, vI 0] := ⟨RX5, TX5, tyX5, rfl, in_X5, tyX5_ok, Tb_at 152 (by decide +kernel) (by decide +kernel), Tb_at 65 (by decide +kernel) (by decide +kernel), Tb_at 38 (by decide +kernel) (by decide +kernel), by decide +kernel, by simp [dfl, okV, iR, lR]⟩
theorem nw_X2_20 : NW "TrackRows$Device" 20 1 [vN, vN, vI 0] := ⟨RX1, TX1, tyX1, rfl, in_X1, tyX1_ok, Tb_at 154 (by decide +kernel) (by decide +kernel), Tb_at 155 (by decide +kernel) (by decide +kernel), Tb_at 42 (by decide +kernel) (by decide +kernel), by decide +kernel, by simp [dfl, okV, iR, lR]⟩
theorem nw_L_96 : NW "TrackRowsLaw" 96 7 [vI 0, vI 0, vN, vN, vN, vN, vN, vN, vN, vN, vI 0, vI 0, vI 0, vN, vN, vN, vI 0, vN, vI 0, vN, vI 0, vN, vI 0, vN, vN, vN, vN, vL 0, vI 0] := ⟨RX7, TX7, tyX7, rfl, in_X7, tyX7_ok, Tb_at 730 (by decide +kernel) (by decide +kernel), Tb_at 731 (by decide +kernel) (by decide +kernel), Tb_at 44 (by decide +kernel) (by decide +kernel), by decide +kernel, by simp [dfl, okV, iR, lR]⟩
