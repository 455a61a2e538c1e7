/-! THE SITES: methods as data, links by their places in the tables (by program) -/
/-- the room of a method at a depth -/
abbrev jR (d mc ms : Nat) : Room := { frames := d, cells := mc, slots := ms, locals := 36 * d }
/-- the kinds of the objects -/
abbrev kChoice : jK := .inl (0, [.inl 0, .inl 0, .inl 0])
abbrev kMarks (a b : Nat) : jK := .inl (1, [.inr (some a), .inr (some b)])
abbrev kReel (a b c d e f : Nat) : jK := .inl (2, [.inr (some a), .inr (some b), .inr (some c), .inr (some d), .inr (some e), .inr (some f)])
abbrev kRow (a : Nat) : jK := .inl (3, [.inr (some a), .inl 0])
abbrev kReader (a b c d : Nat) : jK := .inl (4, [.inr (some a), .inr (some b), .inr (some c), .inr (some d), .inl 0])
abbrev kState (a b c d e f : Nat) : jK := .inl (5, [.inr (some a), .inr (some b), .inr (some c), .inr (some d), .inr (some e), .inr (some f), .inl 0, .inl 0])
abbrev kTiming (a b c d e f g : Nat) : jK := .inl (6, [.inr (some a), .inr (some b), .inr (some c), .inr (some d), .inr (some e), .inr (some f), .inr (some g), .inl 0, .inl 0, .inl 0, .inl 0, .inl 0, .inl 0, .inl 0])
abbrev kCue (a b c d e f g : Nat) : jK := .inl (7, [.inr (some a), .inr (some b), .inl 0, .inl 0, .inr (some c), .inr (some d), .inr (some e), .inr (some f), .inr (some g)])
abbrev kI (n : Nat) : jK := .inr (.inl (0, n))
abbrev kJ (n : Nat) : jK := .inr (.inl (1, n))
abbrev kDb (n : Nat) : jK := .inr (.inl (2, n))
abbrev kQ (n : Nat) (f : Nat → Option Nat) : jK := .inr (.inr (n, f))

theorem cw_0 : ∀ w ∈ u_ws RX0 TX0 3, w ∈ lw_tbl ∧ goodWord w = true := by decide +kernel
theorem cp_0 : ∀ k, k < 3 → ∃ t, parseFieldDescriptor (TX0 k).2.2.1 = some t := fun k hk => ⟨_, tyX0_ok k hk⟩
theorem cw_1 : ∀ w ∈ u_ws RX1 TX1 2, w ∈ lw_tbl ∧ goodWord w = true := by decide +kernel
theorem cp_1 : ∀ k, k < 2 → ∃ t, parseFieldDescriptor (TX1 k).2.2.1 = some t := fun k hk => ⟨_, tyX1_ok k hk⟩
theorem cw_2 : ∀ w ∈ u_ws RX2 TX2 6, w ∈ lw_tbl ∧ goodWord w = true := by decide +kernel
theorem cp_2 : ∀ k, k < 6 → ∃ t, parseFieldDescriptor (TX2 k).2.2.1 = some t := fun k hk => ⟨_, tyX2_ok k hk⟩
theorem cw_3 : ∀ w ∈ u_ws RX3 TX3 2, w ∈ lw_tbl ∧ goodWord w = true := by decide +kernel
theorem cp_3 : ∀ k, k < 2 → ∃ t, parseFieldDescriptor (TX3 k).2.2.1 = some t := fun k hk => ⟨_, tyX3_ok k hk⟩
theorem cw_4 : ∀ w ∈ u_ws RX4 TX4 5, w ∈ lw_tbl ∧ goodWord w = true := by decide +kernel
theorem cp_4 : ∀ k, k < 5 → ∃ t, parseFieldDescriptor (TX4 k).2.2.1 = some t := fun k hk => ⟨_, tyX4_ok k hk⟩
theorem cw_5 : ∀ w ∈ u_ws RX5 TX5 8, w ∈ lw_tbl ∧ goodWord w = true := by decide +kernel
theorem cp_5 : ∀ k, k < 8 → ∃ t, parseFieldDescriptor (TX5 k).2.2.1 = some t := fun k hk => ⟨_, tyX5_ok k hk⟩
theorem cw_6 : ∀ w ∈ u_ws RX6 TX6 14, w ∈ lw_tbl ∧ goodWord w = true := by decide +kernel
theorem cp_6 : ∀ k, k < 14 → ∃ t, parseFieldDescriptor (TX6 k).2.2.1 = some t := fun k hk => ⟨_, tyX6_ok k hk⟩
theorem cw_7 : ∀ w ∈ u_ws RX7 TX7 9, w ∈ lw_tbl ∧ goodWord w = true := by decide +kernel
theorem cp_7 : ∀ k, k < 9 → ∃ t, parseFieldDescriptor (TX7 k).2.2.1 = some t := fun k hk => ⟨_, tyX7_ok k hk⟩
abbrev kX0_init : jM := (yX0_init, cX0_init, 1, none, [])
theorem pn_X0_init : plainName (kX0_init : jM).1.cls = true := by decide +kernel
theorem mo_X0_init : jmI kX0_init 0 := ⟨rfl, j_tb (List.mem_of_getElem? (i := 262) (by decide +kernel)), rfl, rfl, j_tb (List.mem_of_getElem? (i := 261) (by decide +kernel)), j_tb (List.mem_of_getElem? (i := 8) (by decide +kernel)), by decide +kernel, by decide +kernel⟩
abbrev kX0_search : jM := (yX0_search, cX0_search, 7, none, [])
theorem pn_X0_search : plainName (kX0_search : jM).1.cls = true := by decide +kernel
theorem mo_X0_search : jmV kX0_search 3 := ⟨rfl, j_tb (List.mem_of_getElem? (i := 645) (by decide +kernel)), j_tb (List.mem_of_getElem? (i := 643) (by decide +kernel)), j_tb (List.mem_of_getElem? (i := 644) (by decide +kernel)), j_tb (List.mem_of_getElem? (i := 8) (by decide +kernel)), by decide +kernel, by decide +kernel⟩
abbrev kX0_tryPaces : jM := (yX0_tryPaces, cX0_tryPaces, 8, none, [])
theorem pn_X0_tryPaces : plainName (kX0_tryPaces : jM).1.cls = true := by decide +kernel
theorem mo_X0_tryPaces : jmV kX0_tryPaces 4 := ⟨rfl, j_tb (List.mem_of_getElem? (i := 651) (by decide +kernel)), j_tb (List.mem_of_getElem? (i := 650) (by decide +kernel)), List.mem_append_left _ (by decide +kernel), j_tb (List.mem_of_getElem? (i := 8) (by decide +kernel)), by decide +kernel, by decide +kernel⟩
abbrev kX0_consider : jM := (yX0_consider, cX0_consider, 4, none, [])
theorem pn_X0_consider : plainName (kX0_consider : jM).1.cls = true := by decide +kernel
theorem mo_X0_consider : jmV kX0_consider 3 := ⟨rfl, j_tb (List.mem_of_getElem? (i := 656) (by decide +kernel)), j_tb (List.mem_of_getElem? (i := 655) (by decide +kernel)), List.mem_append_left _ (by decide +kernel), j_tb (List.mem_of_getElem? (i := 8) (by decide +kernel)), by decide +kernel, by decide +kernel⟩
abbrev kX1_init : jM := (yX1_init, cX1_init, 1, none, [])
theorem pn_X1_init : plainName (kX1_init : jM).1.cls = true := by decide +kernel
theorem mo_X1_init : jmI kX1_init 0 := ⟨rfl, j_tb (List.mem_of_getElem? (i := 54) (by decide +kernel)), rfl, rfl, j_tb (List.mem_of_getElem? (i := 53) (by decide +kernel)), j_tb (List.mem_of_getElem? (i := 5) (by decide +kernel)), by decide +kernel, by decide +kernel⟩
abbrev kX1_size : jM := (yX1_size, cX1_size, 1, some .int, [])
theorem pn_X1_size : plainName (kX1_size : jM).1.cls = true := by decide +kernel
theorem mo_X1_size : jmV kX1_size 0 := ⟨rfl, j_tb (List.mem_of_getElem? (i := 553) (by decide +kernel)), j_tb (List.mem_of_getElem? (i := 551) (by decide +kernel)), j_tb (List.mem_of_getElem? (i := 552) (by decide +kernel)), j_tb (List.mem_of_getElem? (i := 5) (by decide +kernel)), by decide +kernel, by decide +kernel⟩
abbrev kX1_placeOf : jM := (yX1_placeOf, cX1_placeOf, 3, some .int, [])
theorem pn_X1_placeOf : plainName (kX1_placeOf : jM).1.cls = true := by decide +kernel
theorem mo_X1_placeOf : jmV kX1_placeOf 1 := ⟨rfl, j_tb (List.mem_of_getElem? (i := 74) (by decide +kernel)), j_tb (List.mem_of_getElem? (i := 73) (by decide +kernel)), List.mem_append_left _ (by decide +kernel), j_tb (List.mem_of_getElem? (i := 5) (by decide +kernel)), by decide +kernel, by decide +kernel⟩
abbrev kX1_isAt : jM := (yX1_isAt, cX1_isAt, 3, some .boolean, [])
theorem pn_X1_isAt : plainName (kX1_isAt : jM).1.cls = true := by decide +kernel
theorem mo_X1_isAt : jmV kX1_isAt 2 := ⟨rfl, j_tb (List.mem_of_getElem? (i := 86) (by decide +kernel)), j_tb (List.mem_of_getElem? (i := 85) (by decide +kernel)), List.mem_append_left _ (by decide +kernel), j_tb (List.mem_of_getElem? (i := 5) (by decide +kernel)), by decide +kernel, by decide +kernel⟩
abbrev kX1_hasRoomFor : jM := (yX1_hasRoomFor, cX1_hasRoomFor, 2, some .boolean, [])
theorem pn_X1_hasRoomFor : plainName (kX1_hasRoomFor : jM).1.cls = true := by decide +kernel
theorem mo_X1_hasRoomFor : jmV kX1_hasRoomFor 1 := ⟨rfl, j_tb (List.mem_of_getElem? (i := 735) (by decide +kernel)), j_tb (List.mem_of_getElem? (i := 733) (by decide +kernel)), j_tb (List.mem_of_getElem? (i := 734) (by decide +kernel)), j_tb (List.mem_of_getElem? (i := 5) (by decide +kernel)), by decide +kernel, by decide +kernel⟩
abbrev kX1_mark : jM := (yX1_mark, cX1_mark, 4, none, [])
theorem pn_X1_mark : plainName (kX1_mark : jM).1.cls = true := by decide +kernel
theorem mo_X1_mark : jmV kX1_mark 2 := ⟨rfl, j_tb (List.mem_of_getElem? (i := 70) (by decide +kernel)), j_tb (List.mem_of_getElem? (i := 68) (by decide +kernel)), j_tb (List.mem_of_getElem? (i := 69) (by decide +kernel)), j_tb (List.mem_of_getElem? (i := 5) (by decide +kernel)), by decide +kernel, by decide +kernel⟩
abbrev kX1_unmark : jM := (yX1_unmark, cX1_unmark, 3, none, [])
theorem pn_X1_unmark : plainName (kX1_unmark : jM).1.cls = true := by decide +kernel
theorem mo_X1_unmark : jmV kX1_unmark 1 := ⟨rfl, j_tb (List.mem_of_getElem? (i := 746) (by decide +kernel)), j_tb (List.mem_of_getElem? (i := 744) (by decide +kernel)), j_tb (List.mem_of_getElem? (i := 745) (by decide +kernel)), j_tb (List.mem_of_getElem? (i := 5) (by decide +kernel)), by decide +kernel, by decide +kernel⟩
abbrev kX1_valueHoldingAt : jM := (yX1_valueHoldingAt, cX1_valueHoldingAt, 4, some .int, [])
theorem pn_X1_valueHoldingAt : plainName (kX1_valueHoldingAt : jM).1.cls = true := by decide +kernel
theorem mo_X1_valueHoldingAt : jmV kX1_valueHoldingAt 1 := ⟨rfl, j_tb (List.mem_of_getElem? (i := 569) (by decide +kernel)), j_tb (List.mem_of_getElem? (i := 567) (by decide +kernel)), j_tb (List.mem_of_getElem? (i := 568) (by decide +kernel)), j_tb (List.mem_of_getElem? (i := 5) (by decide +kernel)), by decide +kernel, by decide +kernel⟩
abbrev kX1_takeFrom : jM := (yX1_takeFrom, cX1_takeFrom, 2, none, [])
theorem pn_X1_takeFrom : plainName (kX1_takeFrom : jM).1.cls = true := by decide +kernel
theorem mo_X1_takeFrom : jmV kX1_takeFrom 1 := ⟨rfl, j_tb (List.mem_of_getElem? (i := 714) (by decide +kernel)), j_tb (List.mem_of_getElem? (i := 712) (by decide +kernel)), j_tb (List.mem_of_getElem? (i := 713) (by decide +kernel)), j_tb (List.mem_of_getElem? (i := 5) (by decide +kernel)), by decide +kernel, by decide +kernel⟩
abbrev kX2_init : jM := (yX2_init, cX2_init, 1, none, [])
theorem pn_X2_init : plainName (kX2_init : jM).1.cls = true := by decide +kernel
theorem mo_X2_init : jmI kX2_init 0 := ⟨rfl, j_tb (List.mem_of_getElem? (i := 34) (by decide +kernel)), rfl, rfl, j_tb (List.mem_of_getElem? (i := 33) (by decide +kernel)), j_tb (List.mem_of_getElem? (i := 3) (by decide +kernel)), by decide +kernel, by decide +kernel⟩
abbrev kX2_scenes : jM := (yX2_scenes, cX2_scenes, 1, some .int, [])
theorem pn_X2_scenes : plainName (kX2_scenes : jM).1.cls = true := by decide +kernel
theorem mo_X2_scenes : jmV kX2_scenes 0 := ⟨rfl, j_tb (List.mem_of_getElem? (i := 412) (by decide +kernel)), j_tb (List.mem_of_getElem? (i := 410) (by decide +kernel)), j_tb (List.mem_of_getElem? (i := 411) (by decide +kernel)), j_tb (List.mem_of_getElem? (i := 3) (by decide +kernel)), by decide +kernel, by decide +kernel⟩
abbrev kX2_hasCue : jM := (yX2_hasCue, cX2_hasCue, 2, some .boolean, [])
theorem pn_X2_hasCue : plainName (kX2_hasCue : jM).1.cls = true := by decide +kernel
theorem mo_X2_hasCue : jmV kX2_hasCue 1 := ⟨rfl, j_tb (List.mem_of_getElem? (i := 443) (by decide +kernel)), j_tb (List.mem_of_getElem? (i := 441) (by decide +kernel)), j_tb (List.mem_of_getElem? (i := 442) (by decide +kernel)), j_tb (List.mem_of_getElem? (i := 3) (by decide +kernel)), by decide +kernel, by decide +kernel⟩
abbrev kX2_extend : jM := (yX2_extend, cX2_extend, 5, none, [])
theorem pn_X2_extend : plainName (kX2_extend : jM).1.cls = true := by decide +kernel
theorem mo_X2_extend : jmV kX2_extend 4 := ⟨rfl, j_tb (List.mem_of_getElem? (i := 720) (by decide +kernel)), j_tb (List.mem_of_getElem? (i := 718) (by decide +kernel)), j_tb (List.mem_of_getElem? (i := 719) (by decide +kernel)), j_tb (List.mem_of_getElem? (i := 3) (by decide +kernel)), by decide +kernel, by decide +kernel⟩
abbrev kX2_cutOut : jM := (yX2_cutOut, cX2_cutOut, 2, none, [])
theorem pn_X2_cutOut : plainName (kX2_cutOut : jM).1.cls = true := by decide +kernel
theorem mo_X2_cutOut : jmV kX2_cutOut 1 := ⟨rfl, j_tb (List.mem_of_getElem? (i := 773) (by decide +kernel)), j_tb (List.mem_of_getElem? (i := 771) (by decide +kernel)), j_tb (List.mem_of_getElem? (i := 772) (by decide +kernel)), j_tb (List.mem_of_getElem? (i := 3) (by decide +kernel)), by decide +kernel, by decide +kernel⟩
abbrev kX2_giveCue : jM := (yX2_giveCue, cX2_giveCue, 5, none, [])
theorem pn_X2_giveCue : plainName (kX2_giveCue : jM).1.cls = true := by decide +kernel
theorem mo_X2_giveCue : jmV kX2_giveCue 4 := ⟨rfl, j_tb (List.mem_of_getElem? (i := 764) (by decide +kernel)), j_tb (List.mem_of_getElem? (i := 762) (by decide +kernel)), j_tb (List.mem_of_getElem? (i := 763) (by decide +kernel)), j_tb (List.mem_of_getElem? (i := 3) (by decide +kernel)), by decide +kernel, by decide +kernel⟩
abbrev kX2_lostBetween : jM := (yX2_lostBetween, cX2_lostBetween, 9, some .int, [])
theorem pn_X2_lostBetween : plainName (kX2_lostBetween : jM).1.cls = true := by decide +kernel
theorem mo_X2_lostBetween : jmV kX2_lostBetween 2 := ⟨rfl, j_tb (List.mem_of_getElem? (i := 418) (by decide +kernel)), j_tb (List.mem_of_getElem? (i := 416) (by decide +kernel)), j_tb (List.mem_of_getElem? (i := 417) (by decide +kernel)), j_tb (List.mem_of_getElem? (i := 3) (by decide +kernel)), by decide +kernel, by decide +kernel⟩
abbrev kX2_footTime : jM := (yX2_footTime, cX2_footTime, 1, some .int, [])
theorem pn_X2_footTime : plainName (kX2_footTime : jM).1.cls = true := by decide +kernel
theorem mo_X2_footTime : jmS kX2_footTime 1 := ⟨rfl, j_tb (List.mem_of_getElem? (i := 433) (by decide +kernel)), j_tb (List.mem_of_getElem? (i := 432) (by decide +kernel)), j_tb (List.mem_of_getElem? (i := 3) (by decide +kernel)), by decide +kernel, by decide +kernel⟩
abbrev kX2_timeBetween : jM := (yX2_timeBetween, cX2_timeBetween, 9, some .int, [])
theorem pn_X2_timeBetween : plainName (kX2_timeBetween : jM).1.cls = true := by decide +kernel
theorem mo_X2_timeBetween : jmV kX2_timeBetween 3 := ⟨rfl, j_tb (List.mem_of_getElem? (i := 429) (by decide +kernel)), j_tb (List.mem_of_getElem? (i := 427) (by decide +kernel)), j_tb (List.mem_of_getElem? (i := 428) (by decide +kernel)), j_tb (List.mem_of_getElem? (i := 3) (by decide +kernel)), by decide +kernel, by decide +kernel⟩
abbrev kX2_takeFrom : jM := (yX2_takeFrom, cX2_takeFrom, 2, none, [])
theorem pn_X2_takeFrom : plainName (kX2_takeFrom : jM).1.cls = true := by decide +kernel
theorem mo_X2_takeFrom : jmV kX2_takeFrom 1 := ⟨rfl, j_tb (List.mem_of_getElem? (i := 705) (by decide +kernel)), j_tb (List.mem_of_getElem? (i := 703) (by decide +kernel)), j_tb (List.mem_of_getElem? (i := 704) (by decide +kernel)), j_tb (List.mem_of_getElem? (i := 3) (by decide +kernel)), by decide +kernel, by decide +kernel⟩
abbrev kX3_init : jM := (yX3_init, cX3_init, 2, none, [])
theorem pn_X3_init : plainName (kX3_init : jM).1.cls = true := by decide +kernel
theorem mo_X3_init : jmI kX3_init 1 := ⟨rfl, j_tb (List.mem_of_getElem? (i := 40) (by decide +kernel)), rfl, rfl, j_tb (List.mem_of_getElem? (i := 39) (by decide +kernel)), j_tb (List.mem_of_getElem? (i := 4) (by decide +kernel)), by decide +kernel, by decide +kernel⟩
abbrev kX3_size : jM := (yX3_size, cX3_size, 1, some .int, [])
theorem pn_X3_size : plainName (kX3_size : jM).1.cls = true := by decide +kernel
theorem mo_X3_size : jmV kX3_size 0 := ⟨rfl, j_tb (List.mem_of_getElem? (i := 78) (by decide +kernel)), j_tb (List.mem_of_getElem? (i := 76) (by decide +kernel)), j_tb (List.mem_of_getElem? (i := 77) (by decide +kernel)), j_tb (List.mem_of_getElem? (i := 4) (by decide +kernel)), by decide +kernel, by decide +kernel⟩
abbrev kX3_at : jM := (yX3_at, cX3_at, 2, some .int, [])
theorem pn_X3_at : plainName (kX3_at : jM).1.cls = true := by decide +kernel
theorem mo_X3_at : jmV kX3_at 1 := ⟨rfl, j_tb (List.mem_of_getElem? (i := 82) (by decide +kernel)), j_tb (List.mem_of_getElem? (i := 80) (by decide +kernel)), j_tb (List.mem_of_getElem? (i := 81) (by decide +kernel)), j_tb (List.mem_of_getElem? (i := 4) (by decide +kernel)), by decide +kernel, by decide +kernel⟩
abbrev kX3_put : jM := (yX3_put, cX3_put, 3, none, [])
theorem pn_X3_put : plainName (kX3_put : jM).1.cls = true := by decide +kernel
theorem mo_X3_put : jmV kX3_put 2 := ⟨rfl, j_tb (List.mem_of_getElem? (i := 90) (by decide +kernel)), j_tb (List.mem_of_getElem? (i := 88) (by decide +kernel)), j_tb (List.mem_of_getElem? (i := 89) (by decide +kernel)), j_tb (List.mem_of_getElem? (i := 4) (by decide +kernel)), by decide +kernel, by decide +kernel⟩
abbrev kX3_add : jM := (yX3_add, cX3_add, 2, none, [])
theorem pn_X3_add : plainName (kX3_add : jM).1.cls = true := by decide +kernel
theorem mo_X3_add : jmV kX3_add 1 := ⟨rfl, j_tb (List.mem_of_getElem? (i := 98) (by decide +kernel)), j_tb (List.mem_of_getElem? (i := 96) (by decide +kernel)), j_tb (List.mem_of_getElem? (i := 97) (by decide +kernel)), j_tb (List.mem_of_getElem? (i := 4) (by decide +kernel)), by decide +kernel, by decide +kernel⟩
abbrev kX3_insert : jM := (yX3_insert, cX3_insert, 4, none, [])
theorem pn_X3_insert : plainName (kX3_insert : jM).1.cls = true := by decide +kernel
theorem mo_X3_insert : jmV kX3_insert 2 := ⟨rfl, j_tb (List.mem_of_getElem? (i := 94) (by decide +kernel)), j_tb (List.mem_of_getElem? (i := 92) (by decide +kernel)), j_tb (List.mem_of_getElem? (i := 93) (by decide +kernel)), j_tb (List.mem_of_getElem? (i := 4) (by decide +kernel)), by decide +kernel, by decide +kernel⟩
abbrev kX3_remove : jM := (yX3_remove, cX3_remove, 3, none, [])
theorem pn_X3_remove : plainName (kX3_remove : jM).1.cls = true := by decide +kernel
theorem mo_X3_remove : jmV kX3_remove 1 := ⟨rfl, j_tb (List.mem_of_getElem? (i := 750) (by decide +kernel)), j_tb (List.mem_of_getElem? (i := 748) (by decide +kernel)), j_tb (List.mem_of_getElem? (i := 749) (by decide +kernel)), j_tb (List.mem_of_getElem? (i := 4) (by decide +kernel)), by decide +kernel, by decide +kernel⟩
abbrev kX3_clear : jM := (yX3_clear, cX3_clear, 1, none, [])
theorem pn_X3_clear : plainName (kX3_clear : jM).1.cls = true := by decide +kernel
theorem mo_X3_clear : jmV kX3_clear 0 := ⟨rfl, j_tb (List.mem_of_getElem? (i := 408) (by decide +kernel)), j_tb (List.mem_of_getElem? (i := 406) (by decide +kernel)), j_tb (List.mem_of_getElem? (i := 407) (by decide +kernel)), j_tb (List.mem_of_getElem? (i := 4) (by decide +kernel)), by decide +kernel, by decide +kernel⟩
abbrev kX3_takeFrom : jM := (yX3_takeFrom, cX3_takeFrom, 3, none, [])
theorem pn_X3_takeFrom : plainName (kX3_takeFrom : jM).1.cls = true := by decide +kernel
theorem mo_X3_takeFrom : jmV kX3_takeFrom 1 := ⟨rfl, j_tb (List.mem_of_getElem? (i := 709) (by decide +kernel)), j_tb (List.mem_of_getElem? (i := 707) (by decide +kernel)), j_tb (List.mem_of_getElem? (i := 708) (by decide +kernel)), j_tb (List.mem_of_getElem? (i := 4) (by decide +kernel)), by decide +kernel, by decide +kernel⟩
abbrev kX4_init : jM := (yX4_init, cX4_init, 1, none, [])
theorem pn_X4_init : plainName (kX4_init : jM).1.cls = true := by decide +kernel
theorem mo_X4_init : jmI kX4_init 0 := ⟨rfl, j_tb (List.mem_of_getElem? (i := 174) (by decide +kernel)), rfl, rfl, j_tb (List.mem_of_getElem? (i := 173) (by decide +kernel)), j_tb (List.mem_of_getElem? (i := 6) (by decide +kernel)), by decide +kernel, by decide +kernel⟩
abbrev kX5_init : jM := (yX5_init, cX5_init, 1, none, [])
theorem pn_X5_init : plainName (kX5_init : jM).1.cls = true := by decide +kernel
theorem mo_X5_init : jmI kX5_init 0 := ⟨rfl, j_tb (List.mem_of_getElem? (i := 28) (by decide +kernel)), rfl, rfl, j_tb (List.mem_of_getElem? (i := 27) (by decide +kernel)), j_tb (List.mem_of_getElem? (i := 2) (by decide +kernel)), by decide +kernel, by decide +kernel⟩
abbrev kX5_reelAt : jM := (yX5_reelAt, cX5_reelAt, 2, some (.object "CueSheets$Reel"), [])
theorem pn_X5_reelAt : plainName (kX5_reelAt : jM).1.cls = true := by decide +kernel
theorem mo_X5_reelAt : jmV kX5_reelAt 1 := ⟨rfl, j_tb (List.mem_of_getElem? (i := 396) (by decide +kernel)), j_tb (List.mem_of_getElem? (i := 394) (by decide +kernel)), j_tb (List.mem_of_getElem? (i := 395) (by decide +kernel)), j_tb (List.mem_of_getElem? (i := 2) (by decide +kernel)), by decide +kernel, by decide +kernel⟩
abbrev kX5_pieces : jM := (yX5_pieces, cX5_pieces, 1, some .int, [])
theorem pn_X5_pieces : plainName (kX5_pieces : jM).1.cls = true := by decide +kernel
theorem mo_X5_pieces : jmV kX5_pieces 0 := ⟨rfl, j_tb (List.mem_of_getElem? (i := 387) (by decide +kernel)), j_tb (List.mem_of_getElem? (i := 385) (by decide +kernel)), j_tb (List.mem_of_getElem? (i := 386) (by decide +kernel)), j_tb (List.mem_of_getElem? (i := 2) (by decide +kernel)), by decide +kernel, by decide +kernel⟩
abbrev kX5_hasPiece : jM := (yX5_hasPiece, cX5_hasPiece, 2, some .boolean, [])
theorem pn_X5_hasPiece : plainName (kX5_hasPiece : jM).1.cls = true := by decide +kernel
theorem mo_X5_hasPiece : jmV kX5_hasPiece 1 := ⟨rfl, j_tb (List.mem_of_getElem? (i := 600) (by decide +kernel)), j_tb (List.mem_of_getElem? (i := 598) (by decide +kernel)), j_tb (List.mem_of_getElem? (i := 599) (by decide +kernel)), j_tb (List.mem_of_getElem? (i := 2) (by decide +kernel)), by decide +kernel, by decide +kernel⟩
abbrev kX5_cuesWith : jM := (yX5_cuesWith, cX5_cuesWith, 6, some .int, [])
theorem pn_X5_cuesWith : plainName (kX5_cuesWith : jM).1.cls = true := by decide +kernel
theorem mo_X5_cuesWith : jmV kX5_cuesWith 1 := ⟨rfl, j_tb (List.mem_of_getElem? (i := 610) (by decide +kernel)), j_tb (List.mem_of_getElem? (i := 608) (by decide +kernel)), j_tb (List.mem_of_getElem? (i := 609) (by decide +kernel)), j_tb (List.mem_of_getElem? (i := 2) (by decide +kernel)), by decide +kernel, by decide +kernel⟩
abbrev kX5_playTime : jM := (yX5_playTime, cX5_playTime, 4, some .int, [])
theorem pn_X5_playTime : plainName (kX5_playTime : jM).1.cls = true := by decide +kernel
theorem mo_X5_playTime : jmV kX5_playTime 3 := ⟨rfl, j_tb (List.mem_of_getElem? (i := 448) (by decide +kernel)), j_tb (List.mem_of_getElem? (i := 446) (by decide +kernel)), j_tb (List.mem_of_getElem? (i := 447) (by decide +kernel)), j_tb (List.mem_of_getElem? (i := 2) (by decide +kernel)), by decide +kernel, by decide +kernel⟩
abbrev kX5_timeAtPace : jM := (yX5_timeAtPace, cX5_timeAtPace, 2, some .int, [])
theorem pn_X5_timeAtPace : plainName (kX5_timeAtPace : jM).1.cls = true := by decide +kernel
theorem mo_X5_timeAtPace : jmS kX5_timeAtPace 2 := ⟨rfl, j_tb (List.mem_of_getElem? (i := 452) (by decide +kernel)), j_tb (List.mem_of_getElem? (i := 451) (by decide +kernel)), j_tb (List.mem_of_getElem? (i := 2) (by decide +kernel)), by decide +kernel, by decide +kernel⟩
abbrev kX5_isBad : jM := (yX5_isBad, cX5_isBad, 2, some .boolean, [])
theorem pn_X5_isBad : plainName (kX5_isBad : jM).1.cls = true := by decide +kernel
theorem mo_X5_isBad : jmV kX5_isBad 1 := ⟨rfl, j_tb (List.mem_of_getElem? (i := 459) (by decide +kernel)), j_tb (List.mem_of_getElem? (i := 457) (by decide +kernel)), j_tb (List.mem_of_getElem? (i := 458) (by decide +kernel)), j_tb (List.mem_of_getElem? (i := 2) (by decide +kernel)), by decide +kernel, by decide +kernel⟩
abbrev kX5_takeFrom : jM := (yX5_takeFrom, cX5_takeFrom, 2, none, [])
theorem pn_X5_takeFrom : plainName (kX5_takeFrom : jM).1.cls = true := by decide +kernel
theorem mo_X5_takeFrom : jmV kX5_takeFrom 1 := ⟨rfl, j_tb (List.mem_of_getElem? (i := 701) (by decide +kernel)), j_tb (List.mem_of_getElem? (i := 699) (by decide +kernel)), j_tb (List.mem_of_getElem? (i := 700) (by decide +kernel)), j_tb (List.mem_of_getElem? (i := 2) (by decide +kernel)), by decide +kernel, by decide +kernel⟩
abbrev kX6_init : jM := (yX6_init, cX6_init, 1, none, [])
theorem pn_X6_init : plainName (kX6_init : jM).1.cls = true := by decide +kernel
theorem mo_X6_init : jmI kX6_init 0 := ⟨rfl, j_tb (List.mem_of_getElem? (i := 197) (by decide +kernel)), rfl, rfl, j_tb (List.mem_of_getElem? (i := 196) (by decide +kernel)), j_tb (List.mem_of_getElem? (i := 7) (by decide +kernel)), by decide +kernel, by decide +kernel⟩
abbrev kX6_measure : jM := (yX6_measure, cX6_measure, 8, none, [])
theorem pn_X6_measure : plainName (kX6_measure : jM).1.cls = true := by decide +kernel
theorem mo_X6_measure : jmV kX6_measure 3 := ⟨rfl, j_tb (List.mem_of_getElem? (i := 400) (by decide +kernel)), j_tb (List.mem_of_getElem? (i := 398) (by decide +kernel)), j_tb (List.mem_of_getElem? (i := 399) (by decide +kernel)), j_tb (List.mem_of_getElem? (i := 7) (by decide +kernel)), by decide +kernel, by decide +kernel⟩
abbrev kX6_clear : jM := (yX6_clear, cX6_clear, 1, none, [])
theorem pn_X6_clear : plainName (kX6_clear : jM).1.cls = true := by decide +kernel
theorem mo_X6_clear : jmV kX6_clear 0 := ⟨rfl, j_tb (List.mem_of_getElem? (i := 404) (by decide +kernel)), j_tb (List.mem_of_getElem? (i := 403) (by decide +kernel)), List.mem_append_left _ (by decide +kernel), j_tb (List.mem_of_getElem? (i := 7) (by decide +kernel)), by decide +kernel, by decide +kernel⟩
abbrev kX6_measureCue : jM := (yX6_measureCue, cX6_measureCue, 6, none, [])
theorem pn_X6_measureCue : plainName (kX6_measureCue : jM).1.cls = true := by decide +kernel
theorem mo_X6_measureCue : jmV kX6_measureCue 3 := ⟨rfl, j_tb (List.mem_of_getElem? (i := 438) (by decide +kernel)), j_tb (List.mem_of_getElem? (i := 437) (by decide +kernel)), List.mem_append_left _ (by decide +kernel), j_tb (List.mem_of_getElem? (i := 7) (by decide +kernel)), by decide +kernel, by decide +kernel⟩
abbrev kX6_roomForCue : jM := (yX6_roomForCue, cX6_roomForCue, 2, some .int, [])
theorem pn_X6_roomForCue : plainName (kX6_roomForCue : jM).1.cls = true := by decide +kernel
theorem mo_X6_roomForCue : jmV kX6_roomForCue 1 := ⟨rfl, j_tb (List.mem_of_getElem? (i := 641) (by decide +kernel)), j_tb (List.mem_of_getElem? (i := 639) (by decide +kernel)), j_tb (List.mem_of_getElem? (i := 640) (by decide +kernel)), j_tb (List.mem_of_getElem? (i := 7) (by decide +kernel)), by decide +kernel, by decide +kernel⟩
abbrev kX6_silence : jM := (yX6_silence, cX6_silence, 4, some .int, [])
theorem pn_X6_silence : plainName (kX6_silence : jM).1.cls = true := by decide +kernel
theorem mo_X6_silence : jmV kX6_silence 1 := ⟨rfl, j_tb (List.mem_of_getElem? (i := 557) (by decide +kernel)), j_tb (List.mem_of_getElem? (i := 555) (by decide +kernel)), j_tb (List.mem_of_getElem? (i := 556) (by decide +kernel)), j_tb (List.mem_of_getElem? (i := 7) (by decide +kernel)), by decide +kernel, by decide +kernel⟩
abbrev kX7_init : jM := (yX7_init, cX7_init, 2, none, [])
theorem pn_X7_init : plainName (kX7_init : jM).1.cls = true := by decide +kernel
theorem mo_X7_init : jmI kX7_init 0 := ⟨rfl, j_tb (List.mem_of_getElem? (i := 20) (by decide +kernel)), rfl, rfl, j_tb (List.mem_of_getElem? (i := 19) (by decide +kernel)), j_tb (List.mem_of_getElem? (i := 1) (by decide +kernel)), by decide +kernel, by decide +kernel⟩
abbrev kX7_addScene : jM := (yX7_addScene, cX7_addScene, 4, some .int, [])
theorem pn_X7_addScene : plainName (kX7_addScene : jM).1.cls = true := by decide +kernel
theorem mo_X7_addScene : jmV kX7_addScene 2 := ⟨rfl, j_tb (List.mem_of_getElem? (i := 673) (by decide +kernel)), j_tb (List.mem_of_getElem? (i := 671) (by decide +kernel)), j_tb (List.mem_of_getElem? (i := 672) (by decide +kernel)), j_tb (List.mem_of_getElem? (i := 1) (by decide +kernel)), by decide +kernel, by decide +kernel⟩
abbrev kX7_removeScene : jM := (yX7_removeScene, cX7_removeScene, 4, some .int, [])
theorem pn_X7_removeScene : plainName (kX7_removeScene : jM).1.cls = true := by decide +kernel
theorem mo_X7_removeScene : jmV kX7_removeScene 2 := ⟨rfl, j_tb (List.mem_of_getElem? (i := 769) (by decide +kernel)), j_tb (List.mem_of_getElem? (i := 767) (by decide +kernel)), j_tb (List.mem_of_getElem? (i := 768) (by decide +kernel)), j_tb (List.mem_of_getElem? (i := 1) (by decide +kernel)), by decide +kernel, by decide +kernel⟩
abbrev kX7_crank : jM := (yX7_crank, cX7_crank, 5, some .int, [])
theorem pn_X7_crank : plainName (kX7_crank : jM).1.cls = true := by decide +kernel
theorem mo_X7_crank : jmV kX7_crank 3 := ⟨rfl, j_tb (List.mem_of_getElem? (i := 731) (by decide +kernel)), j_tb (List.mem_of_getElem? (i := 729) (by decide +kernel)), j_tb (List.mem_of_getElem? (i := 730) (by decide +kernel)), j_tb (List.mem_of_getElem? (i := 1) (by decide +kernel)), by decide +kernel, by decide +kernel⟩
abbrev kX7_splice : jM := (yX7_splice, cX7_splice, 5, some .int, [])
theorem pn_X7_splice : plainName (kX7_splice : jM).1.cls = true := by decide +kernel
theorem mo_X7_splice : jmV kX7_splice 3 := ⟨rfl, j_tb (List.mem_of_getElem? (i := 741) (by decide +kernel)), j_tb (List.mem_of_getElem? (i := 739) (by decide +kernel)), j_tb (List.mem_of_getElem? (i := 740) (by decide +kernel)), j_tb (List.mem_of_getElem? (i := 1) (by decide +kernel)), by decide +kernel, by decide +kernel⟩
abbrev kX7_addPiece : jM := (yX7_addPiece, cX7_addPiece, 4, some .int, [])
theorem pn_X7_addPiece : plainName (kX7_addPiece : jM).1.cls = true := by decide +kernel
theorem mo_X7_addPiece : jmV kX7_addPiece 3 := ⟨rfl, j_tb (List.mem_of_getElem? (i := 754) (by decide +kernel)), j_tb (List.mem_of_getElem? (i := 752) (by decide +kernel)), j_tb (List.mem_of_getElem? (i := 753) (by decide +kernel)), j_tb (List.mem_of_getElem? (i := 1) (by decide +kernel)), by decide +kernel, by decide +kernel⟩
abbrev kX7_setCue : jM := (yX7_setCue, cX7_setCue, 7, some .int, [])
theorem pn_X7_setCue : plainName (kX7_setCue : jM).1.cls = true := by decide +kernel
theorem mo_X7_setCue : jmV kX7_setCue 5 := ⟨rfl, j_tb (List.mem_of_getElem? (i := 760) (by decide +kernel)), j_tb (List.mem_of_getElem? (i := 758) (by decide +kernel)), j_tb (List.mem_of_getElem? (i := 759) (by decide +kernel)), j_tb (List.mem_of_getElem? (i := 1) (by decide +kernel)), by decide +kernel, by decide +kernel⟩
abbrev kX7_fit : jM := (yX7_fit, cX7_fit, 5, some .int, [])
theorem pn_X7_fit : plainName (kX7_fit : jM).1.cls = true := by decide +kernel
theorem mo_X7_fit : jmV kX7_fit 1 := ⟨rfl, j_tb (List.mem_of_getElem? (i := 782) (by decide +kernel)), j_tb (List.mem_of_getElem? (i := 780) (by decide +kernel)), j_tb (List.mem_of_getElem? (i := 781) (by decide +kernel)), j_tb (List.mem_of_getElem? (i := 1) (by decide +kernel)), by decide +kernel, by decide +kernel⟩
abbrev kX7_set : jM := (yX7_set, cX7_set, 4, some .int, [])
theorem pn_X7_set : plainName (kX7_set : jM).1.cls = true := by decide +kernel
theorem mo_X7_set : jmV kX7_set 2 := ⟨rfl, j_tb (List.mem_of_getElem? (i := 778) (by decide +kernel)), j_tb (List.mem_of_getElem? (i := 776) (by decide +kernel)), j_tb (List.mem_of_getElem? (i := 777) (by decide +kernel)), j_tb (List.mem_of_getElem? (i := 1) (by decide +kernel)), by decide +kernel, by decide +kernel⟩
abbrev kX7_scene : jM := (yX7_scene, cX7_scene, 5, some .int, [])
theorem pn_X7_scene : plainName (kX7_scene : jM).1.cls = true := by decide +kernel
theorem mo_X7_scene : jmV kX7_scene 3 := ⟨rfl, j_tb (List.mem_of_getElem? (i := 503) (by decide +kernel)), j_tb (List.mem_of_getElem? (i := 501) (by decide +kernel)), j_tb (List.mem_of_getElem? (i := 502) (by decide +kernel)), j_tb (List.mem_of_getElem? (i := 1) (by decide +kernel)), by decide +kernel, by decide +kernel⟩
abbrev kX7_reel : jM := (yX7_reel, cX7_reel, 4, some .int, [])
theorem pn_X7_reel : plainName (kX7_reel : jM).1.cls = true := by decide +kernel
theorem mo_X7_reel : jmV kX7_reel 2 := ⟨rfl, j_tb (List.mem_of_getElem? (i := 545) (by decide +kernel)), j_tb (List.mem_of_getElem? (i := 543) (by decide +kernel)), j_tb (List.mem_of_getElem? (i := 544) (by decide +kernel)), j_tb (List.mem_of_getElem? (i := 1) (by decide +kernel)), by decide +kernel, by decide +kernel⟩
abbrev kX7_speedAt : jM := (yX7_speedAt, cX7_speedAt, 3, some .int, [])
theorem pn_X7_speedAt : plainName (kX7_speedAt : jM).1.cls = true := by decide +kernel
theorem mo_X7_speedAt : jmV kX7_speedAt 2 := ⟨rfl, j_tb (List.mem_of_getElem? (i := 565) (by decide +kernel)), j_tb (List.mem_of_getElem? (i := 563) (by decide +kernel)), j_tb (List.mem_of_getElem? (i := 564) (by decide +kernel)), j_tb (List.mem_of_getElem? (i := 1) (by decide +kernel)), by decide +kernel, by decide +kernel⟩
abbrev kX7_piece : jM := (yX7_piece, cX7_piece, 3, some .int, [])
theorem pn_X7_piece : plainName (kX7_piece : jM).1.cls = true := by decide +kernel
theorem mo_X7_piece : jmV kX7_piece 2 := ⟨rfl, j_tb (List.mem_of_getElem? (i := 592) (by decide +kernel)), j_tb (List.mem_of_getElem? (i := 590) (by decide +kernel)), j_tb (List.mem_of_getElem? (i := 591) (by decide +kernel)), j_tb (List.mem_of_getElem? (i := 1) (by decide +kernel)), by decide +kernel, by decide +kernel⟩
abbrev kX7_count : jM := (yX7_count, cX7_count, 2, some .int, [])
theorem pn_X7_count : plainName (kX7_count : jM).1.cls = true := by decide +kernel
theorem mo_X7_count : jmV kX7_count 1 := ⟨rfl, j_tb (List.mem_of_getElem? (i := 308) (by decide +kernel)), j_tb (List.mem_of_getElem? (i := 306) (by decide +kernel)), j_tb (List.mem_of_getElem? (i := 307) (by decide +kernel)), j_tb (List.mem_of_getElem? (i := 1) (by decide +kernel)), by decide +kernel, by decide +kernel⟩
abbrev kX7_bestCue : jM := (yX7_bestCue, cX7_bestCue, 4, some .int, [])
theorem pn_X7_bestCue : plainName (kX7_bestCue : jM).1.cls = true := by decide +kernel
theorem mo_X7_bestCue : jmV kX7_bestCue 3 := ⟨rfl, j_tb (List.mem_of_getElem? (i := 637) (by decide +kernel)), j_tb (List.mem_of_getElem? (i := 635) (by decide +kernel)), j_tb (List.mem_of_getElem? (i := 636) (by decide +kernel)), j_tb (List.mem_of_getElem? (i := 1) (by decide +kernel)), by decide +kernel, by decide +kernel⟩
abbrev kX7_bestPiece : jM := (yX7_bestPiece, cX7_bestPiece, 3, some .int, [])
theorem pn_X7_bestPiece : plainName (kX7_bestPiece : jM).1.cls = true := by decide +kernel
theorem mo_X7_bestPiece : jmV kX7_bestPiece 2 := ⟨rfl, j_tb (List.mem_of_getElem? (i := 661) (by decide +kernel)), j_tb (List.mem_of_getElem? (i := 659) (by decide +kernel)), j_tb (List.mem_of_getElem? (i := 660) (by decide +kernel)), j_tb (List.mem_of_getElem? (i := 1) (by decide +kernel)), by decide +kernel, by decide +kernel⟩
abbrev kX7_ifCranked : jM := (yX7_ifCranked, cX7_ifCranked, 3, some .int, [])
theorem pn_X7_ifCranked : plainName (kX7_ifCranked : jM).1.cls = true := by decide +kernel
theorem mo_X7_ifCranked : jmV kX7_ifCranked 2 := ⟨rfl, j_tb (List.mem_of_getElem? (i := 618) (by decide +kernel)), j_tb (List.mem_of_getElem? (i := 616) (by decide +kernel)), j_tb (List.mem_of_getElem? (i := 617) (by decide +kernel)), j_tb (List.mem_of_getElem? (i := 1) (by decide +kernel)), by decide +kernel, by decide +kernel⟩
abbrev kX7_bestSpeed : jM := (yX7_bestSpeed, cX7_bestSpeed, 2, some .int, [])
theorem pn_X7_bestSpeed : plainName (kX7_bestSpeed : jM).1.cls = true := by decide +kernel
theorem mo_X7_bestSpeed : jmV kX7_bestSpeed 1 := ⟨rfl, j_tb (List.mem_of_getElem? (i := 622) (by decide +kernel)), j_tb (List.mem_of_getElem? (i := 620) (by decide +kernel)), j_tb (List.mem_of_getElem? (i := 621) (by decide +kernel)), j_tb (List.mem_of_getElem? (i := 1) (by decide +kernel)), by decide +kernel, by decide +kernel⟩
abbrev kX7_offShare : jM := (yX7_offShare, cX7_offShare, 2, some .float, [])
theorem pn_X7_offShare : plainName (kX7_offShare : jM).1.cls = true := by decide +kernel
theorem mo_X7_offShare : jmV kX7_offShare 1 := ⟨rfl, j_tb (List.mem_of_getElem? (i := 573) (by decide +kernel)), j_tb (List.mem_of_getElem? (i := 571) (by decide +kernel)), j_tb (List.mem_of_getElem? (i := 572) (by decide +kernel)), j_tb (List.mem_of_getElem? (i := 1) (by decide +kernel)), by decide +kernel, by decide +kernel⟩
abbrev kX7_meanSpeed : jM := (yX7_meanSpeed, cX7_meanSpeed, 2, some .double, [])
theorem pn_X7_meanSpeed : plainName (kX7_meanSpeed : jM).1.cls = true := by decide +kernel
theorem mo_X7_meanSpeed : jmV kX7_meanSpeed 1 := ⟨rfl, j_tb (List.mem_of_getElem? (i := 581) (by decide +kernel)), j_tb (List.mem_of_getElem? (i := 579) (by decide +kernel)), j_tb (List.mem_of_getElem? (i := 580) (by decide +kernel)), j_tb (List.mem_of_getElem? (i := 1) (by decide +kernel)), by decide +kernel, by decide +kernel⟩
abbrev kX7_requireReel : jM := (yX7_requireReel, cX7_requireReel, 2, none, [])
theorem pn_X7_requireReel : plainName (kX7_requireReel : jM).1.cls = true := by decide +kernel
theorem mo_X7_requireReel : jmV kX7_requireReel 1 := ⟨rfl, j_tb (List.mem_of_getElem? (i := 511) (by decide +kernel)), j_tb (List.mem_of_getElem? (i := 510) (by decide +kernel)), List.mem_append_left _ (by decide +kernel), j_tb (List.mem_of_getElem? (i := 1) (by decide +kernel)), by decide +kernel, by decide +kernel⟩
abbrev kX7_requireScene : jM := (yX7_requireScene, cX7_requireScene, 3, none, [])
theorem pn_X7_requireScene : plainName (kX7_requireScene : jM).1.cls = true := by decide +kernel
theorem mo_X7_requireScene : jmV kX7_requireScene 2 := ⟨rfl, j_tb (List.mem_of_getElem? (i := 507) (by decide +kernel)), j_tb (List.mem_of_getElem? (i := 506) (by decide +kernel)), List.mem_append_left _ (by decide +kernel), j_tb (List.mem_of_getElem? (i := 1) (by decide +kernel)), by decide +kernel, by decide +kernel⟩
abbrev kX7_requirePiece : jM := (yX7_requirePiece, cX7_requirePiece, 2, none, [])
theorem pn_X7_requirePiece : plainName (kX7_requirePiece : jM).1.cls = true := by decide +kernel
theorem mo_X7_requirePiece : jmV kX7_requirePiece 1 := ⟨rfl, j_tb (List.mem_of_getElem? (i := 596) (by decide +kernel)), j_tb (List.mem_of_getElem? (i := 595) (by decide +kernel)), List.mem_append_left _ (by decide +kernel), j_tb (List.mem_of_getElem? (i := 1) (by decide +kernel)), by decide +kernel, by decide +kernel⟩
abbrev kX7_requireRange : jM := (yX7_requireRange, cX7_requireRange, 3, none, [])
theorem pn_X7_requireRange : plainName (kX7_requireRange : jM).1.cls = true := by decide +kernel
theorem mo_X7_requireRange : jmS kX7_requireRange 3 := ⟨rfl, j_tb (List.mem_of_getElem? (i := 311) (by decide +kernel)), j_tb (List.mem_of_getElem? (i := 310) (by decide +kernel)), j_tb (List.mem_of_getElem? (i := 1) (by decide +kernel)), by decide +kernel, by decide +kernel⟩
abbrev kX7_save : jM := (yX7_save, cX7_save, 2, none, [])
theorem pn_X7_save : plainName (kX7_save : jM).1.cls = true := by decide +kernel
theorem mo_X7_save : jmV kX7_save 0 := ⟨rfl, j_tb (List.mem_of_getElem? (i := 693) (by decide +kernel)), j_tb (List.mem_of_getElem? (i := 692) (by decide +kernel)), List.mem_append_left _ (by decide +kernel), j_tb (List.mem_of_getElem? (i := 1) (by decide +kernel)), by decide +kernel, by decide +kernel⟩
abbrev kX7_savedAt : jM := (yX7_savedAt, cX7_savedAt, 3, some (.object "CueSheets$State"), [])
theorem pn_X7_savedAt : plainName (kX7_savedAt : jM).1.cls = true := by decide +kernel
theorem mo_X7_savedAt : jmV kX7_savedAt 1 := ⟨rfl, j_tb (List.mem_of_getElem? (i := 697) (by decide +kernel)), j_tb (List.mem_of_getElem? (i := 696) (by decide +kernel)), List.mem_append_left _ (by decide +kernel), j_tb (List.mem_of_getElem? (i := 1) (by decide +kernel)), by decide +kernel, by decide +kernel⟩
abbrev kX7_fitScene : jM := (yX7_fitScene, cX7_fitScene, 5, some .boolean, [])
theorem pn_X7_fitScene : plainName (kX7_fitScene : jM).1.cls = true := by decide +kernel
theorem mo_X7_fitScene : jmV kX7_fitScene 2 := ⟨rfl, j_tb (List.mem_of_getElem? (i := 786) (by decide +kernel)), j_tb (List.mem_of_getElem? (i := 785) (by decide +kernel)), List.mem_append_left _ (by decide +kernel), j_tb (List.mem_of_getElem? (i := 1) (by decide +kernel)), by decide +kernel, by decide +kernel⟩
abbrev kX7_pieceForRoom : jM := (yX7_pieceForRoom, cX7_pieceForRoom, 5, some .int, [])
theorem pn_X7_pieceForRoom : plainName (kX7_pieceForRoom : jM).1.cls = true := by decide +kernel
theorem mo_X7_pieceForRoom : jmV kX7_pieceForRoom 1 := ⟨rfl, j_tb (List.mem_of_getElem? (i := 665) (by decide +kernel)), j_tb (List.mem_of_getElem? (i := 664) (by decide +kernel)), List.mem_append_left _ (by decide +kernel), j_tb (List.mem_of_getElem? (i := 1) (by decide +kernel)), by decide +kernel, by decide +kernel⟩
abbrev kX7_speedForReel : jM := (yX7_speedForReel, cX7_speedForReel, 5, some .int, [])
theorem pn_X7_speedForReel : plainName (kX7_speedForReel : jM).1.cls = true := by decide +kernel
theorem mo_X7_speedForReel : jmV kX7_speedForReel 1 := ⟨rfl, j_tb (List.mem_of_getElem? (i := 626) (by decide +kernel)), j_tb (List.mem_of_getElem? (i := 625) (by decide +kernel)), List.mem_append_left _ (by decide +kernel), j_tb (List.mem_of_getElem? (i := 1) (by decide +kernel)), by decide +kernel, by decide +kernel⟩
abbrev kX7_sceneProperty : jM := (yX7_sceneProperty, cX7_sceneProperty, 4, some .int, [])
theorem pn_X7_sceneProperty : plainName (kX7_sceneProperty : jM).1.cls = true := by decide +kernel
theorem mo_X7_sceneProperty : jmV kX7_sceneProperty 3 := ⟨rfl, j_tb (List.mem_of_getElem? (i := 532) (by decide +kernel)), j_tb (List.mem_of_getElem? (i := 531) (by decide +kernel)), List.mem_append_left _ (by decide +kernel), j_tb (List.mem_of_getElem? (i := 1) (by decide +kernel)), by decide +kernel, by decide +kernel⟩
abbrev kX7_reelProperty : jM := (yX7_reelProperty, cX7_reelProperty, 3, some .int, [])
theorem pn_X7_reelProperty : plainName (kX7_reelProperty : jM).1.cls = true := by decide +kernel
theorem mo_X7_reelProperty : jmV kX7_reelProperty 2 := ⟨rfl, j_tb (List.mem_of_getElem? (i := 549) (by decide +kernel)), j_tb (List.mem_of_getElem? (i := 548) (by decide +kernel)), List.mem_append_left _ (by decide +kernel), j_tb (List.mem_of_getElem? (i := 1) (by decide +kernel)), by decide +kernel, by decide +kernel⟩
abbrev kX7_pieceProperty : jM := (yX7_pieceProperty, cX7_pieceProperty, 3, some .int, [])
theorem pn_X7_pieceProperty : plainName (kX7_pieceProperty : jM).1.cls = true := by decide +kernel
theorem mo_X7_pieceProperty : jmV kX7_pieceProperty 2 := ⟨rfl, j_tb (List.mem_of_getElem? (i := 606) (by decide +kernel)), j_tb (List.mem_of_getElem? (i := 605) (by decide +kernel)), List.mem_append_left _ (by decide +kernel), j_tb (List.mem_of_getElem? (i := 1) (by decide +kernel)), by decide +kernel, by decide +kernel⟩
abbrev kX7_countProperty : jM := (yX7_countProperty, cX7_countProperty, 2, some .int, [])
theorem pn_X7_countProperty : plainName (kX7_countProperty : jM).1.cls = true := by decide +kernel
theorem mo_X7_countProperty : jmV kX7_countProperty 1 := ⟨rfl, j_tb (List.mem_of_getElem? (i := 383) (by decide +kernel)), j_tb (List.mem_of_getElem? (i := 382) (by decide +kernel)), List.mem_append_left _ (by decide +kernel), j_tb (List.mem_of_getElem? (i := 1) (by decide +kernel)), by decide +kernel, by decide +kernel⟩
abbrev kX7_sumOverReels : jM := (yX7_sumOverReels, cX7_sumOverReels, 5, some .int, [])
theorem pn_X7_sumOverReels : plainName (kX7_sumOverReels : jM).1.cls = true := by decide +kernel
theorem mo_X7_sumOverReels : jmV kX7_sumOverReels 1 := ⟨rfl, j_tb (List.mem_of_getElem? (i := 392) (by decide +kernel)), j_tb (List.mem_of_getElem? (i := 391) (by decide +kernel)), List.mem_append_left _ (by decide +kernel), j_tb (List.mem_of_getElem? (i := 1) (by decide +kernel)), by decide +kernel, by decide +kernel⟩
abbrev kX7_measuredOffShare : jM := (yX7_measuredOffShare, cX7_measuredOffShare, 1, some .float, [])
theorem pn_X7_measuredOffShare : plainName (kX7_measuredOffShare : jM).1.cls = true := by decide +kernel
theorem mo_X7_measuredOffShare : jmV kX7_measuredOffShare 0 := ⟨rfl, j_tb (List.mem_of_getElem? (i := 577) (by decide +kernel)), j_tb (List.mem_of_getElem? (i := 576) (by decide +kernel)), List.mem_append_left _ (by decide +kernel), j_tb (List.mem_of_getElem? (i := 1) (by decide +kernel)), by decide +kernel, by decide +kernel⟩
abbrev kX7_measuredMeanSpeed : jM := (yX7_measuredMeanSpeed, cX7_measuredMeanSpeed, 3, some .double, [])
theorem pn_X7_measuredMeanSpeed : plainName (kX7_measuredMeanSpeed : jM).1.cls = true := by decide +kernel
theorem mo_X7_measuredMeanSpeed : jmV kX7_measuredMeanSpeed 0 := ⟨rfl, j_tb (List.mem_of_getElem? (i := 585) (by decide +kernel)), j_tb (List.mem_of_getElem? (i := 584) (by decide +kernel)), List.mem_append_left _ (by decide +kernel), j_tb (List.mem_of_getElem? (i := 1) (by decide +kernel)), by decide +kernel, by decide +kernel⟩
abbrev kJ9_abs_0f7a4 : jM := (yJ9_abs_0f7a4, cJ9_abs_0f7a4, 1, some .int, [])
theorem mo_J9_abs_0f7a4 : jmS kJ9_abs_0f7a4 1 := ⟨rfl, j_tb (List.mem_of_getElem? (i := 455) (by decide +kernel)), j_tb (List.mem_of_getElem? (i := 454) (by decide +kernel)), j_tb (List.mem_of_getElem? (i := 14) (by decide +kernel)), by decide +kernel, by decide +kernel⟩
abbrev kJ9_max_7cf53 : jM := (yJ9_max_7cf53, cJ9_max_7cf53, 2, some .int, [])
theorem mo_J9_max_7cf53 : jmS kJ9_max_7cf53 2 := ⟨rfl, j_tb (List.mem_of_getElem? (i := 422) (by decide +kernel)), j_tb (List.mem_of_getElem? (i := 421) (by decide +kernel)), j_tb (List.mem_of_getElem? (i := 14) (by decide +kernel)), by decide +kernel, by decide +kernel⟩
abbrev kJ9_min_7cf53 : jM := (yJ9_min_7cf53, cJ9_min_7cf53, 2, some .int, [])
theorem mo_J9_min_7cf53 : jmS kJ9_min_7cf53 2 := ⟨rfl, j_tb (List.mem_of_getElem? (i := 425) (by decide +kernel)), j_tb (List.mem_of_getElem? (i := 424) (by decide +kernel)), j_tb (List.mem_of_getElem? (i := 14) (by decide +kernel)), by decide +kernel, by decide +kernel⟩
theorem ml_X7_1 : Cond.methodLink RX7 1 objectInit ∈ lw_tbl := j_tb (List.mem_of_getElem? (i := 21) (by decide +kernel))
theorem ml_X7_9 : Cond.methodLink RX7 9 yX5_init ∈ lw_tbl := j_tb (List.mem_of_getElem? (i := 26) (by decide +kernel))
theorem ml_X5_3 : Cond.methodLink RX5 3 objectInit ∈ lw_tbl := j_tb (List.mem_of_getElem? (i := 29) (by decide +kernel))
theorem ml_X5_11 : Cond.methodLink RX5 11 yX2_init ∈ lw_tbl := j_tb (List.mem_of_getElem? (i := 32) (by decide +kernel))
theorem ml_X2_3 : Cond.methodLink RX2 3 objectInit ∈ lw_tbl := j_tb (List.mem_of_getElem? (i := 35) (by decide +kernel))
theorem ml_X2_11 : Cond.methodLink RX2 11 yX3_init ∈ lw_tbl := j_tb (List.mem_of_getElem? (i := 38) (by decide +kernel))
theorem ml_X3_1 : Cond.methodLink RX3 1 objectInit ∈ lw_tbl := j_tb (List.mem_of_getElem? (i := 41) (by decide +kernel))
theorem ml_X2_31 : Cond.methodLink RX2 31 yX1_init ∈ lw_tbl := j_tb (List.mem_of_getElem? (i := 52) (by decide +kernel))
theorem ml_X1_3 : Cond.methodLink RX1 3 objectInit ∈ lw_tbl := j_tb (List.mem_of_getElem? (i := 55) (by decide +kernel))
theorem ml_X1_11 : Cond.methodLink RX1 11 yX3_init ∈ lw_tbl := j_tb (List.mem_of_getElem? (i := 57) (by decide +kernel))
theorem ml_X2_39 : Cond.methodLink RX2 39 yX1_mark ∈ lw_tbl := j_tb (List.mem_of_getElem? (i := 67) (by decide +kernel))
theorem ml_X1_31 : Cond.methodLink RX1 31 yX1_placeOf ∈ lw_tbl := j_tb (List.mem_of_getElem? (i := 71) (by decide +kernel))
theorem ml_X1_23 : Cond.methodLink RX1 23 yX3_size ∈ lw_tbl := j_tb (List.mem_of_getElem? (i := 75) (by decide +kernel))
theorem ml_X1_27 : Cond.methodLink RX1 27 yX3_at ∈ lw_tbl := j_tb (List.mem_of_getElem? (i := 79) (by decide +kernel))
theorem ml_X1_34 : Cond.methodLink RX1 34 yX1_isAt ∈ lw_tbl := j_tb (List.mem_of_getElem? (i := 83) (by decide +kernel))
theorem ml_X1_38 : Cond.methodLink RX1 38 yX3_put ∈ lw_tbl := j_tb (List.mem_of_getElem? (i := 87) (by decide +kernel))
theorem ml_X1_42 : Cond.methodLink RX1 42 yX3_insert ∈ lw_tbl := j_tb (List.mem_of_getElem? (i := 91) (by decide +kernel))
theorem ml_X3_17 : Cond.methodLink RX3 17 yX3_add ∈ lw_tbl := j_tb (List.mem_of_getElem? (i := 95) (by decide +kernel))
theorem ml_X3_21 : Cond.methodLink RX3 21 yX3_at ∈ lw_tbl := j_tb (List.mem_of_getElem? (i := 99) (by decide +kernel))
theorem ml_X3_25 : Cond.methodLink RX3 25 yX3_put ∈ lw_tbl := j_tb (List.mem_of_getElem? (i := 100) (by decide +kernel))
theorem ml_X5_26 : Cond.methodLink RX5 26 yX3_init ∈ lw_tbl := j_tb (List.mem_of_getElem? (i := 132) (by decide +kernel))
theorem ml_X7_22 : Cond.methodLink RX7 22 yX3_init ∈ lw_tbl := j_tb (List.mem_of_getElem? (i := 169) (by decide +kernel))
theorem ml_X7_31 : Cond.methodLink RX7 31 yX4_init ∈ lw_tbl := j_tb (List.mem_of_getElem? (i := 172) (by decide +kernel))
theorem ml_X4_3 : Cond.methodLink RX4 3 objectInit ∈ lw_tbl := j_tb (List.mem_of_getElem? (i := 175) (by decide +kernel))
theorem ml_X4_11 : Cond.methodLink RX4 11 yX3_init ∈ lw_tbl := j_tb (List.mem_of_getElem? (i := 177) (by decide +kernel))
theorem ml_X7_38 : Cond.methodLink RX7 38 yX6_init ∈ lw_tbl := j_tb (List.mem_of_getElem? (i := 195) (by decide +kernel))
theorem ml_X6_3 : Cond.methodLink RX6 3 objectInit ∈ lw_tbl := j_tb (List.mem_of_getElem? (i := 198) (by decide +kernel))
theorem ml_X6_11 : Cond.methodLink RX6 11 yX3_init ∈ lw_tbl := j_tb (List.mem_of_getElem? (i := 200) (by decide +kernel))
theorem ml_X0_3 : Cond.methodLink RX0 3 objectInit ∈ lw_tbl := j_tb (List.mem_of_getElem? (i := 263) (by decide +kernel))
theorem ml_X7_56 : Cond.methodLink RX7 56 yX7_requireRange ∈ lw_tbl := j_tb (List.mem_of_getElem? (i := 309) (by decide +kernel))
theorem ml_X7_227 : Cond.methodLink RX7 227 yX7_countProperty ∈ lw_tbl := j_tb (List.mem_of_getElem? (i := 380) (by decide +kernel))
theorem ml_X7_118 : Cond.methodLink RX7 118 yX5_pieces ∈ lw_tbl := j_tb (List.mem_of_getElem? (i := 384) (by decide +kernel))
theorem ml_X5_46 : Cond.methodLink RX5 46 yX3_size ∈ lw_tbl := j_tb (List.mem_of_getElem? (i := 388) (by decide +kernel))
theorem ml_X7_344 : Cond.methodLink RX7 344 yX7_sumOverReels ∈ lw_tbl := j_tb (List.mem_of_getElem? (i := 389) (by decide +kernel))
theorem ml_X7_60 : Cond.methodLink RX7 60 yX5_reelAt ∈ lw_tbl := j_tb (List.mem_of_getElem? (i := 393) (by decide +kernel))
theorem ml_X7_141 : Cond.methodLink RX7 141 yX6_measure ∈ lw_tbl := j_tb (List.mem_of_getElem? (i := 397) (by decide +kernel))
theorem ml_X6_38 : Cond.methodLink RX6 38 yX6_clear ∈ lw_tbl := j_tb (List.mem_of_getElem? (i := 401) (by decide +kernel))
theorem ml_X6_79 : Cond.methodLink RX6 79 yX3_clear ∈ lw_tbl := j_tb (List.mem_of_getElem? (i := 405) (by decide +kernel))
theorem ml_X6_41 : Cond.methodLink RX6 41 yX2_scenes ∈ lw_tbl := j_tb (List.mem_of_getElem? (i := 409) (by decide +kernel))
theorem ml_X2_43 : Cond.methodLink RX2 43 yX3_size ∈ lw_tbl := j_tb (List.mem_of_getElem? (i := 413) (by decide +kernel))
theorem ml_X6_54 : Cond.methodLink RX6 54 yX3_at ∈ lw_tbl := j_tb (List.mem_of_getElem? (i := 414) (by decide +kernel))
theorem ml_X6_58 : Cond.methodLink RX6 58 yX2_lostBetween ∈ lw_tbl := j_tb (List.mem_of_getElem? (i := 415) (by decide +kernel))
theorem ml_X2_47 : Cond.methodLink RX2 47 yX3_at ∈ lw_tbl := j_tb (List.mem_of_getElem? (i := 419) (by decide +kernel))
theorem ml_X2_64 : Cond.methodLink RX2 64 Lib.Math.max.name ∈ lw_tbl := j_tb (List.mem_of_getElem? (i := 420) (by decide +kernel))
theorem ml_X2_73 : Cond.methodLink RX2 73 Lib.Math.min.name ∈ lw_tbl := j_tb (List.mem_of_getElem? (i := 423) (by decide +kernel))
theorem ml_X6_62 : Cond.methodLink RX6 62 yX2_timeBetween ∈ lw_tbl := j_tb (List.mem_of_getElem? (i := 426) (by decide +kernel))
theorem ml_X2_76 : Cond.methodLink RX2 76 yX2_lostBetween ∈ lw_tbl := j_tb (List.mem_of_getElem? (i := 430) (by decide +kernel))
theorem ml_X2_79 : Cond.methodLink RX2 79 yX2_footTime ∈ lw_tbl := j_tb (List.mem_of_getElem? (i := 431) (by decide +kernel))
theorem ml_X6_66 : Cond.methodLink RX6 66 yX3_add ∈ lw_tbl := j_tb (List.mem_of_getElem? (i := 434) (by decide +kernel))
theorem ml_X6_75 : Cond.methodLink RX6 75 yX6_measureCue ∈ lw_tbl := j_tb (List.mem_of_getElem? (i := 435) (by decide +kernel))
theorem ml_X6_92 : Cond.methodLink RX6 92 Lib.Math.max.name ∈ lw_tbl := j_tb (List.mem_of_getElem? (i := 439) (by decide +kernel))
theorem ml_X6_97 : Cond.methodLink RX6 97 yX2_hasCue ∈ lw_tbl := j_tb (List.mem_of_getElem? (i := 440) (by decide +kernel))
theorem ml_X6_110 : Cond.methodLink RX6 110 yX5_playTime ∈ lw_tbl := j_tb (List.mem_of_getElem? (i := 445) (by decide +kernel))
theorem ml_X5_59 : Cond.methodLink RX5 59 yX3_at ∈ lw_tbl := j_tb (List.mem_of_getElem? (i := 449) (by decide +kernel))
theorem ml_X5_63 : Cond.methodLink RX5 63 yX5_timeAtPace ∈ lw_tbl := j_tb (List.mem_of_getElem? (i := 450) (by decide +kernel))
theorem ml_X6_115 : Cond.methodLink RX6 115 Lib.Math.abs.name ∈ lw_tbl := j_tb (List.mem_of_getElem? (i := 453) (by decide +kernel))
theorem ml_X6_118 : Cond.methodLink RX6 118 yX5_isBad ∈ lw_tbl := j_tb (List.mem_of_getElem? (i := 456) (by decide +kernel))
theorem ml_X5_67 : Cond.methodLink RX5 67 Lib.Math.abs.name ∈ lw_tbl := j_tb (List.mem_of_getElem? (i := 460) (by decide +kernel))
theorem ml_X7_64 : Cond.methodLink RX7 64 yX2_scenes ∈ lw_tbl := j_tb (List.mem_of_getElem? (i := 461) (by decide +kernel))
theorem ml_X7_85 : Cond.methodLink RX7 85 yX7_requireScene ∈ lw_tbl := j_tb (List.mem_of_getElem? (i := 504) (by decide +kernel))
theorem ml_X7_53 : Cond.methodLink RX7 53 yX7_requireReel ∈ lw_tbl := j_tb (List.mem_of_getElem? (i := 508) (by decide +kernel))
theorem ml_X7_212 : Cond.methodLink RX7 212 yX7_sceneProperty ∈ lw_tbl := j_tb (List.mem_of_getElem? (i := 529) (by decide +kernel))
theorem ml_X7_148 : Cond.methodLink RX7 148 yX3_at ∈ lw_tbl := j_tb (List.mem_of_getElem? (i := 533) (by decide +kernel))
theorem ml_X7_152 : Cond.methodLink RX7 152 yX2_hasCue ∈ lw_tbl := j_tb (List.mem_of_getElem? (i := 534) (by decide +kernel))
theorem ml_X7_320 : Cond.methodLink RX7 320 yX5_isBad ∈ lw_tbl := j_tb (List.mem_of_getElem? (i := 535) (by decide +kernel))
theorem ml_X7_216 : Cond.methodLink RX7 216 yX7_reelProperty ∈ lw_tbl := j_tb (List.mem_of_getElem? (i := 546) (by decide +kernel))
theorem ml_X7_107 : Cond.methodLink RX7 107 yX1_size ∈ lw_tbl := j_tb (List.mem_of_getElem? (i := 550) (by decide +kernel))
theorem ml_X7_335 : Cond.methodLink RX7 335 yX6_silence ∈ lw_tbl := j_tb (List.mem_of_getElem? (i := 554) (by decide +kernel))
theorem ml_X6_121 : Cond.methodLink RX6 121 Lib.Math.min.name ∈ lw_tbl := j_tb (List.mem_of_getElem? (i := 558) (by decide +kernel))
theorem ml_X7_220 : Cond.methodLink RX7 220 yX1_valueHoldingAt ∈ lw_tbl := j_tb (List.mem_of_getElem? (i := 566) (by decide +kernel))
theorem ml_X7_252 : Cond.methodLink RX7 252 yX7_measuredOffShare ∈ lw_tbl := j_tb (List.mem_of_getElem? (i := 574) (by decide +kernel))
theorem ml_X7_256 : Cond.methodLink RX7 256 yX7_measuredMeanSpeed ∈ lw_tbl := j_tb (List.mem_of_getElem? (i := 582) (by decide +kernel))
theorem ml_X7_135 : Cond.methodLink RX7 135 yX7_requirePiece ∈ lw_tbl := j_tb (List.mem_of_getElem? (i := 593) (by decide +kernel))
theorem ml_X7_277 : Cond.methodLink RX7 277 yX5_hasPiece ∈ lw_tbl := j_tb (List.mem_of_getElem? (i := 597) (by decide +kernel))
theorem ml_X5_50 : Cond.methodLink RX5 50 yX5_pieces ∈ lw_tbl := j_tb (List.mem_of_getElem? (i := 601) (by decide +kernel))
theorem ml_X7_223 : Cond.methodLink RX7 223 yX7_pieceProperty ∈ lw_tbl := j_tb (List.mem_of_getElem? (i := 603) (by decide +kernel))
theorem ml_X7_341 : Cond.methodLink RX7 341 yX5_cuesWith ∈ lw_tbl := j_tb (List.mem_of_getElem? (i := 607) (by decide +kernel))
theorem ml_X5_53 : Cond.methodLink RX5 53 yX5_reelAt ∈ lw_tbl := j_tb (List.mem_of_getElem? (i := 611) (by decide +kernel))
theorem ml_X7_248 : Cond.methodLink RX7 248 yX7_speedForReel ∈ lw_tbl := j_tb (List.mem_of_getElem? (i := 623) (by decide +kernel))
theorem ml_X7_230 : Cond.methodLink RX7 230 yX6_roomForCue ∈ lw_tbl := j_tb (List.mem_of_getElem? (i := 638) (by decide +kernel))
theorem ml_X7_233 : Cond.methodLink RX7 233 yX0_search ∈ lw_tbl := j_tb (List.mem_of_getElem? (i := 642) (by decide +kernel))
theorem ml_X0_15 : Cond.methodLink RX0 15 yX3_at ∈ lw_tbl := j_tb (List.mem_of_getElem? (i := 646) (by decide +kernel))
theorem ml_X0_37 : Cond.methodLink RX0 37 yX0_tryPaces ∈ lw_tbl := j_tb (List.mem_of_getElem? (i := 648) (by decide +kernel))
theorem ml_X0_41 : Cond.methodLink RX0 41 yX5_timeAtPace ∈ lw_tbl := j_tb (List.mem_of_getElem? (i := 652) (by decide +kernel))
theorem ml_X0_45 : Cond.methodLink RX0 45 yX0_consider ∈ lw_tbl := j_tb (List.mem_of_getElem? (i := 653) (by decide +kernel))
theorem ml_X0_49 : Cond.methodLink RX0 49 Lib.Math.abs.name ∈ lw_tbl := j_tb (List.mem_of_getElem? (i := 657) (by decide +kernel))
theorem ml_X7_242 : Cond.methodLink RX7 242 yX7_pieceForRoom ∈ lw_tbl := j_tb (List.mem_of_getElem? (i := 662) (by decide +kernel))
theorem ml_X7_77 : Cond.methodLink RX7 77 yX7_save ∈ lw_tbl := j_tb (List.mem_of_getElem? (i := 690) (by decide +kernel))
theorem ml_X7_204 : Cond.methodLink RX7 204 yX7_savedAt ∈ lw_tbl := j_tb (List.mem_of_getElem? (i := 694) (by decide +kernel))
theorem ml_X7_208 : Cond.methodLink RX7 208 yX5_takeFrom ∈ lw_tbl := j_tb (List.mem_of_getElem? (i := 698) (by decide +kernel))
theorem ml_X5_72 : Cond.methodLink RX5 72 yX2_takeFrom ∈ lw_tbl := j_tb (List.mem_of_getElem? (i := 702) (by decide +kernel))
theorem ml_X2_82 : Cond.methodLink RX2 82 yX3_takeFrom ∈ lw_tbl := j_tb (List.mem_of_getElem? (i := 706) (by decide +kernel))
theorem ml_X3_29 : Cond.methodLink RX3 29 yX3_clear ∈ lw_tbl := j_tb (List.mem_of_getElem? (i := 710) (by decide +kernel))
theorem ml_X2_86 : Cond.methodLink RX2 86 yX1_takeFrom ∈ lw_tbl := j_tb (List.mem_of_getElem? (i := 711) (by decide +kernel))
theorem ml_X1_48 : Cond.methodLink RX1 48 yX3_takeFrom ∈ lw_tbl := j_tb (List.mem_of_getElem? (i := 715) (by decide +kernel))
theorem ml_X5_76 : Cond.methodLink RX5 76 yX3_takeFrom ∈ lw_tbl := j_tb (List.mem_of_getElem? (i := 716) (by decide +kernel))
theorem ml_X7_81 : Cond.methodLink RX7 81 yX2_extend ∈ lw_tbl := j_tb (List.mem_of_getElem? (i := 717) (by decide +kernel))
theorem ml_X2_52 : Cond.methodLink RX2 52 yX3_add ∈ lw_tbl := j_tb (List.mem_of_getElem? (i := 721) (by decide +kernel))
theorem ml_X7_96 : Cond.methodLink RX7 96 yX1_hasRoomFor ∈ lw_tbl := j_tb (List.mem_of_getElem? (i := 732) (by decide +kernel))
theorem ml_X7_104 : Cond.methodLink RX7 104 yX1_mark ∈ lw_tbl := j_tb (List.mem_of_getElem? (i := 737) (by decide +kernel))
theorem ml_X7_115 : Cond.methodLink RX7 115 yX1_unmark ∈ lw_tbl := j_tb (List.mem_of_getElem? (i := 743) (by decide +kernel))
theorem ml_X1_45 : Cond.methodLink RX1 45 yX3_remove ∈ lw_tbl := j_tb (List.mem_of_getElem? (i := 747) (by decide +kernel))
theorem ml_X7_126 : Cond.methodLink RX7 126 yX3_add ∈ lw_tbl := j_tb (List.mem_of_getElem? (i := 756) (by decide +kernel))
theorem ml_X7_138 : Cond.methodLink RX7 138 yX2_giveCue ∈ lw_tbl := j_tb (List.mem_of_getElem? (i := 761) (by decide +kernel))
theorem ml_X2_58 : Cond.methodLink RX2 58 yX3_put ∈ lw_tbl := j_tb (List.mem_of_getElem? (i := 765) (by decide +kernel))
theorem ml_X7_89 : Cond.methodLink RX7 89 yX2_cutOut ∈ lw_tbl := j_tb (List.mem_of_getElem? (i := 770) (by decide +kernel))
theorem ml_X2_55 : Cond.methodLink RX2 55 yX3_remove ∈ lw_tbl := j_tb (List.mem_of_getElem? (i := 774) (by decide +kernel))
theorem ml_X7_155 : Cond.methodLink RX7 155 yX7_fitScene ∈ lw_tbl := j_tb (List.mem_of_getElem? (i := 783) (by decide +kernel))
theorem mn_X7_48 : Cond.methodLinkNest RX7 48 yX0_init "CueSheets" ∈ lw_tbl := j_tb (List.mem_of_getElem? (i := 260) (by decide +kernel))
theorem fl_X3_7 : jlf RX3 7 3 0 := ⟨(RX3, TX3, 2), rfl, by decide, cw_3, Or.inl (j_tb (List.mem_of_getElem? (i := 42) (by decide +kernel)))⟩
theorem fl_X3_13 : jlf RX3 13 3 1 := ⟨(RX3, TX3, 2), rfl, by decide, cw_3, Or.inl (j_tb (List.mem_of_getElem? (i := 43) (by decide +kernel)))⟩
theorem fl_X1_14 : jlf RX1 14 1 0 := ⟨(RX1, TX1, 2), rfl, by decide, cw_1, Or.inl (j_tb (List.mem_of_getElem? (i := 58) (by decide +kernel)))⟩
theorem fl_X1_20 : jlf RX1 20 1 1 := ⟨(RX1, TX1, 2), rfl, by decide, cw_1, Or.inl (j_tb (List.mem_of_getElem? (i := 60) (by decide +kernel)))⟩
theorem fl_X2_14 : jlf RX2 14 2 0 := ⟨(RX2, TX2, 6), rfl, by decide, cw_2, Or.inl (j_tb (List.mem_of_getElem? (i := 101) (by decide +kernel)))⟩
theorem fl_X2_20 : jlf RX2 20 2 1 := ⟨(RX2, TX2, 6), rfl, by decide, cw_2, Or.inl (j_tb (List.mem_of_getElem? (i := 104) (by decide +kernel)))⟩
theorem fl_X2_23 : jlf RX2 23 2 2 := ⟨(RX2, TX2, 6), rfl, by decide, cw_2, Or.inl (j_tb (List.mem_of_getElem? (i := 108) (by decide +kernel)))⟩
theorem fl_X2_26 : jlf RX2 26 2 3 := ⟨(RX2, TX2, 6), rfl, by decide, cw_2, Or.inl (j_tb (List.mem_of_getElem? (i := 111) (by decide +kernel)))⟩
theorem fl_X2_32 : jlf RX2 32 2 4 := ⟨(RX2, TX2, 6), rfl, by decide, cw_2, Or.inl (j_tb (List.mem_of_getElem? (i := 114) (by decide +kernel)))⟩
theorem fl_X2_36 : jlf RX2 36 2 5 := ⟨(RX2, TX2, 6), rfl, by decide, cw_2, Or.inl (j_tb (List.mem_of_getElem? (i := 116) (by decide +kernel)))⟩
theorem fl_X5_12 : jlf RX5 12 5 0 := ⟨(RX5, TX5, 8), rfl, by decide, cw_5, Or.inl (j_tb (List.mem_of_getElem? (i := 133) (by decide +kernel)))⟩
theorem fl_X5_18 : jlf RX5 18 5 1 := ⟨(RX5, TX5, 8), rfl, by decide, cw_5, Or.inl (j_tb (List.mem_of_getElem? (i := 134) (by decide +kernel)))⟩
theorem fl_X5_21 : jlf RX5 21 5 2 := ⟨(RX5, TX5, 8), rfl, by decide, cw_5, Or.inl (j_tb (List.mem_of_getElem? (i := 135) (by decide +kernel)))⟩
theorem fl_X5_29 : jlf RX5 29 5 3 := ⟨(RX5, TX5, 8), rfl, by decide, cw_5, Or.inl (j_tb (List.mem_of_getElem? (i := 136) (by decide +kernel)))⟩
theorem fl_X5_33 : jlf RX5 33 5 4 := ⟨(RX5, TX5, 8), rfl, by decide, cw_5, Or.inl (j_tb (List.mem_of_getElem? (i := 139) (by decide +kernel)))⟩
theorem fl_X5_36 : jlf RX5 36 5 5 := ⟨(RX5, TX5, 8), rfl, by decide, cw_5, Or.inl (j_tb (List.mem_of_getElem? (i := 142) (by decide +kernel)))⟩
theorem fl_X5_39 : jlf RX5 39 5 6 := ⟨(RX5, TX5, 8), rfl, by decide, cw_5, Or.inl (j_tb (List.mem_of_getElem? (i := 145) (by decide +kernel)))⟩
theorem fl_X5_43 : jlf RX5 43 5 7 := ⟨(RX5, TX5, 8), rfl, by decide, cw_5, Or.inl (j_tb (List.mem_of_getElem? (i := 147) (by decide +kernel)))⟩
theorem fl_X4_14 : jlf RX4 14 4 0 := ⟨(RX4, TX4, 5), rfl, by decide, cw_4, Or.inl (j_tb (List.mem_of_getElem? (i := 178) (by decide +kernel)))⟩
theorem fl_X4_20 : jlf RX4 20 4 1 := ⟨(RX4, TX4, 5), rfl, by decide, cw_4, Or.inl (j_tb (List.mem_of_getElem? (i := 179) (by decide +kernel)))⟩
theorem fl_X4_23 : jlf RX4 23 4 2 := ⟨(RX4, TX4, 5), rfl, by decide, cw_4, Or.inl (j_tb (List.mem_of_getElem? (i := 180) (by decide +kernel)))⟩
theorem fl_X4_26 : jlf RX4 26 4 3 := ⟨(RX4, TX4, 5), rfl, by decide, cw_4, Or.inl (j_tb (List.mem_of_getElem? (i := 181) (by decide +kernel)))⟩
theorem fl_X6_14 : jlf RX6 14 6 0 := ⟨(RX6, TX6, 14), rfl, by decide, cw_6, Or.inl (j_tb (List.mem_of_getElem? (i := 201) (by decide +kernel)))⟩
theorem fl_X6_20 : jlf RX6 20 6 1 := ⟨(RX6, TX6, 14), rfl, by decide, cw_6, Or.inl (j_tb (List.mem_of_getElem? (i := 203) (by decide +kernel)))⟩
theorem fl_X6_23 : jlf RX6 23 6 2 := ⟨(RX6, TX6, 14), rfl, by decide, cw_6, Or.inl (j_tb (List.mem_of_getElem? (i := 205) (by decide +kernel)))⟩
theorem fl_X6_26 : jlf RX6 26 6 3 := ⟨(RX6, TX6, 14), rfl, by decide, cw_6, Or.inl (j_tb (List.mem_of_getElem? (i := 207) (by decide +kernel)))⟩
theorem fl_X6_29 : jlf RX6 29 6 4 := ⟨(RX6, TX6, 14), rfl, by decide, cw_6, Or.inl (j_tb (List.mem_of_getElem? (i := 209) (by decide +kernel)))⟩
theorem fl_X6_32 : jlf RX6 32 6 5 := ⟨(RX6, TX6, 14), rfl, by decide, cw_6, Or.inl (j_tb (List.mem_of_getElem? (i := 211) (by decide +kernel)))⟩
theorem fl_X6_35 : jlf RX6 35 6 6 := ⟨(RX6, TX6, 14), rfl, by decide, cw_6, Or.inl (j_tb (List.mem_of_getElem? (i := 213) (by decide +kernel)))⟩
theorem fl_X6_47 : jlf RX6 47 6 7 := ⟨(RX6, TX6, 14), rfl, by decide, cw_6, Or.inl (j_tb (List.mem_of_getElem? (i := 215) (by decide +kernel)))⟩
theorem fl_X6_72 : jlf RX6 72 6 8 := ⟨(RX6, TX6, 14), rfl, by decide, cw_6, Or.inl (j_tb (List.mem_of_getElem? (i := 217) (by decide +kernel)))⟩
theorem fl_X6_69 : jlf RX6 69 6 9 := ⟨(RX6, TX6, 14), rfl, by decide, cw_6, Or.inl (j_tb (List.mem_of_getElem? (i := 219) (by decide +kernel)))⟩
theorem fl_X6_80 : jlf RX6 80 6 10 := ⟨(RX6, TX6, 14), rfl, by decide, cw_6, Or.inl (j_tb (List.mem_of_getElem? (i := 221) (by decide +kernel)))⟩
theorem fl_X6_83 : jlf RX6 83 6 11 := ⟨(RX6, TX6, 14), rfl, by decide, cw_6, Or.inl (j_tb (List.mem_of_getElem? (i := 223) (by decide +kernel)))⟩
theorem fl_X6_86 : jlf RX6 86 6 12 := ⟨(RX6, TX6, 14), rfl, by decide, cw_6, Or.inl (j_tb (List.mem_of_getElem? (i := 225) (by decide +kernel)))⟩
theorem fl_X6_89 : jlf RX6 89 6 13 := ⟨(RX6, TX6, 14), rfl, by decide, cw_6, Or.inl (j_tb (List.mem_of_getElem? (i := 227) (by decide +kernel)))⟩
theorem fl_X0_54 : jlf RX0 54 0 0 := ⟨(RX0, TX0, 3), rfl, by decide, cw_0, Or.inl (j_tb (List.mem_of_getElem? (i := 264) (by decide +kernel)))⟩
theorem fl_X0_56 : jlf RX0 56 0 1 := ⟨(RX0, TX0, 3), rfl, by decide, cw_0, Or.inl (j_tb (List.mem_of_getElem? (i := 266) (by decide +kernel)))⟩
theorem fl_X0_28 : jlf RX0 28 0 2 := ⟨(RX0, TX0, 3), rfl, by decide, cw_0, Or.inl (j_tb (List.mem_of_getElem? (i := 268) (by decide +kernel)))⟩
theorem fl_X7_10 : jlf RX7 10 7 0 := ⟨(RX7, TX7, 9), rfl, by decide, cw_7, Or.inl (j_tb (List.mem_of_getElem? (i := 277) (by decide +kernel)))⟩
theorem fl_X7_16 : jlf RX7 16 7 1 := ⟨(RX7, TX7, 9), rfl, by decide, cw_7, Or.inl (j_tb (List.mem_of_getElem? (i := 278) (by decide +kernel)))⟩
theorem fl_X7_284 : jlf RX7 284 7 2 := ⟨(RX7, TX7, 9), rfl, by decide, cw_7, Or.inl (j_tb (List.mem_of_getElem? (i := 279) (by decide +kernel)))⟩
theorem fl_X7_199 : jlf RX7 199 7 3 := ⟨(RX7, TX7, 9), rfl, by decide, cw_7, Or.inl (j_tb (List.mem_of_getElem? (i := 280) (by decide +kernel)))⟩
theorem fl_X7_25 : jlf RX7 25 7 4 := ⟨(RX7, TX7, 9), rfl, by decide, cw_7, Or.inl (j_tb (List.mem_of_getElem? (i := 281) (by decide +kernel)))⟩
theorem fl_X7_32 : jlf RX7 32 7 5 := ⟨(RX7, TX7, 9), rfl, by decide, cw_7, Or.inl (j_tb (List.mem_of_getElem? (i := 282) (by decide +kernel)))⟩
theorem fl_X7_39 : jlf RX7 39 7 6 := ⟨(RX7, TX7, 9), rfl, by decide, cw_7, Or.inl (j_tb (List.mem_of_getElem? (i := 283) (by decide +kernel)))⟩
theorem fl_X7_43 : jlf RX7 43 7 7 := ⟨(RX7, TX7, 9), rfl, by decide, cw_7, Or.inl (j_tb (List.mem_of_getElem? (i := 284) (by decide +kernel)))⟩
theorem fl_X7_49 : jlf RX7 49 7 8 := ⟨(RX7, TX7, 9), rfl, by decide, cw_7, Or.inl (j_tb (List.mem_of_getElem? (i := 285) (by decide +kernel)))⟩
theorem fl_X2_61 : jlf RX2 61 1 0 := ⟨(RX1, TX1, 2), rfl, by decide, cw_1, Or.inr ⟨"CueSheets", j_tb (List.mem_of_getElem? (i := 59) (by decide +kernel))⟩⟩
theorem fl_X2_70 : jlf RX2 70 1 1 := ⟨(RX1, TX1, 2), rfl, by decide, cw_1, Or.inr ⟨"CueSheets", j_tb (List.mem_of_getElem? (i := 61) (by decide +kernel))⟩⟩
theorem fl_X6_51 : jlf RX6 51 2 0 := ⟨(RX2, TX2, 6), rfl, by decide, cw_2, Or.inr ⟨"CueSheets", j_tb (List.mem_of_getElem? (i := 102) (by decide +kernel))⟩⟩
theorem fl_X7_301 : jlf RX7 301 2 0 := ⟨(RX2, TX2, 6), rfl, by decide, cw_2, Or.inr ⟨"CueSheets", j_tb (List.mem_of_getElem? (i := 103) (by decide +kernel))⟩⟩
theorem fl_X6_101 : jlf RX6 101 2 1 := ⟨(RX2, TX2, 6), rfl, by decide, cw_2, Or.inr ⟨"CueSheets", j_tb (List.mem_of_getElem? (i := 105) (by decide +kernel))⟩⟩
theorem fl_X5_57 : jlf RX5 57 2 1 := ⟨(RX2, TX2, 6), rfl, by decide, cw_2, Or.inr ⟨"CueSheets", j_tb (List.mem_of_getElem? (i := 106) (by decide +kernel))⟩⟩
theorem fl_X7_293 : jlf RX7 293 2 1 := ⟨(RX2, TX2, 6), rfl, by decide, cw_2, Or.inr ⟨"CueSheets", j_tb (List.mem_of_getElem? (i := 107) (by decide +kernel))⟩⟩
theorem fl_X6_104 : jlf RX6 104 2 2 := ⟨(RX2, TX2, 6), rfl, by decide, cw_2, Or.inr ⟨"CueSheets", j_tb (List.mem_of_getElem? (i := 109) (by decide +kernel))⟩⟩
theorem fl_X7_294 : jlf RX7 294 2 2 := ⟨(RX2, TX2, 6), rfl, by decide, cw_2, Or.inr ⟨"CueSheets", j_tb (List.mem_of_getElem? (i := 110) (by decide +kernel))⟩⟩
theorem fl_X6_107 : jlf RX6 107 2 3 := ⟨(RX2, TX2, 6), rfl, by decide, cw_2, Or.inr ⟨"CueSheets", j_tb (List.mem_of_getElem? (i := 112) (by decide +kernel))⟩⟩
theorem fl_X7_295 : jlf RX7 295 2 3 := ⟨(RX2, TX2, 6), rfl, by decide, cw_2, Or.inr ⟨"CueSheets", j_tb (List.mem_of_getElem? (i := 113) (by decide +kernel))⟩⟩
theorem fl_X7_92 : jlf RX7 92 2 4 := ⟨(RX2, TX2, 6), rfl, by decide, cw_2, Or.inr ⟨"CueSheets", j_tb (List.mem_of_getElem? (i := 115) (by decide +kernel))⟩⟩
theorem fl_X7_110 : jlf RX7 110 2 5 := ⟨(RX2, TX2, 6), rfl, by decide, cw_2, Or.inr ⟨"CueSheets", j_tb (List.mem_of_getElem? (i := 117) (by decide +kernel))⟩⟩
theorem fl_X0_21 : jlf RX0 21 5 3 := ⟨(RX5, TX5, 8), rfl, by decide, cw_5, Or.inr ⟨"CueSheets", j_tb (List.mem_of_getElem? (i := 137) (by decide +kernel))⟩⟩
theorem fl_X7_123 : jlf RX7 123 5 3 := ⟨(RX5, TX5, 8), rfl, by decide, cw_5, Or.inr ⟨"CueSheets", j_tb (List.mem_of_getElem? (i := 138) (by decide +kernel))⟩⟩
theorem fl_X0_9 : jlf RX0 9 5 4 := ⟨(RX5, TX5, 8), rfl, by decide, cw_5, Or.inr ⟨"CueSheets", j_tb (List.mem_of_getElem? (i := 140) (by decide +kernel))⟩⟩
theorem fl_X7_129 : jlf RX7 129 5 4 := ⟨(RX5, TX5, 8), rfl, by decide, cw_5, Or.inr ⟨"CueSheets", j_tb (List.mem_of_getElem? (i := 141) (by decide +kernel))⟩⟩
theorem fl_X0_24 : jlf RX0 24 5 5 := ⟨(RX5, TX5, 8), rfl, by decide, cw_5, Or.inr ⟨"CueSheets", j_tb (List.mem_of_getElem? (i := 143) (by decide +kernel))⟩⟩
theorem fl_X7_132 : jlf RX7 132 5 5 := ⟨(RX5, TX5, 8), rfl, by decide, cw_5, Or.inr ⟨"CueSheets", j_tb (List.mem_of_getElem? (i := 144) (by decide +kernel))⟩⟩
theorem fl_X7_159 : jlf RX7 159 5 6 := ⟨(RX5, TX5, 8), rfl, by decide, cw_5, Or.inr ⟨"CueSheets", j_tb (List.mem_of_getElem? (i := 146) (by decide +kernel))⟩⟩
theorem fl_X0_34 : jlf RX0 34 5 7 := ⟨(RX5, TX5, 8), rfl, by decide, cw_5, Or.inr ⟨"CueSheets", j_tb (List.mem_of_getElem? (i := 148) (by decide +kernel))⟩⟩
theorem fl_X7_163 : jlf RX7 163 5 7 := ⟨(RX5, TX5, 8), rfl, by decide, cw_5, Or.inr ⟨"CueSheets", j_tb (List.mem_of_getElem? (i := 149) (by decide +kernel))⟩⟩
theorem fl_X7_302 : jlf RX7 302 6 0 := ⟨(RX6, TX6, 14), rfl, by decide, cw_6, Or.inr ⟨"CueSheets", j_tb (List.mem_of_getElem? (i := 202) (by decide +kernel))⟩⟩
theorem fl_X7_305 : jlf RX7 305 6 1 := ⟨(RX6, TX6, 14), rfl, by decide, cw_6, Or.inr ⟨"CueSheets", j_tb (List.mem_of_getElem? (i := 204) (by decide +kernel))⟩⟩
theorem fl_X7_308 : jlf RX7 308 6 2 := ⟨(RX6, TX6, 14), rfl, by decide, cw_6, Or.inr ⟨"CueSheets", j_tb (List.mem_of_getElem? (i := 206) (by decide +kernel))⟩⟩
theorem fl_X7_311 : jlf RX7 311 6 3 := ⟨(RX6, TX6, 14), rfl, by decide, cw_6, Or.inr ⟨"CueSheets", j_tb (List.mem_of_getElem? (i := 208) (by decide +kernel))⟩⟩
theorem fl_X7_314 : jlf RX7 314 6 4 := ⟨(RX6, TX6, 14), rfl, by decide, cw_6, Or.inr ⟨"CueSheets", j_tb (List.mem_of_getElem? (i := 210) (by decide +kernel))⟩⟩
theorem fl_X7_317 : jlf RX7 317 6 5 := ⟨(RX6, TX6, 14), rfl, by decide, cw_6, Or.inr ⟨"CueSheets", j_tb (List.mem_of_getElem? (i := 212) (by decide +kernel))⟩⟩
theorem fl_X7_145 : jlf RX7 145 6 6 := ⟨(RX6, TX6, 14), rfl, by decide, cw_6, Or.inr ⟨"CueSheets", j_tb (List.mem_of_getElem? (i := 214) (by decide +kernel))⟩⟩
theorem fl_X7_323 : jlf RX7 323 6 7 := ⟨(RX6, TX6, 14), rfl, by decide, cw_6, Or.inr ⟨"CueSheets", j_tb (List.mem_of_getElem? (i := 216) (by decide +kernel))⟩⟩
theorem fl_X7_326 : jlf RX7 326 6 8 := ⟨(RX6, TX6, 14), rfl, by decide, cw_6, Or.inr ⟨"CueSheets", j_tb (List.mem_of_getElem? (i := 218) (by decide +kernel))⟩⟩
theorem fl_X7_329 : jlf RX7 329 6 9 := ⟨(RX6, TX6, 14), rfl, by decide, cw_6, Or.inr ⟨"CueSheets", j_tb (List.mem_of_getElem? (i := 220) (by decide +kernel))⟩⟩
theorem fl_X7_332 : jlf RX7 332 6 10 := ⟨(RX6, TX6, 14), rfl, by decide, cw_6, Or.inr ⟨"CueSheets", j_tb (List.mem_of_getElem? (i := 222) (by decide +kernel))⟩⟩
theorem fl_X7_245 : jlf RX7 245 6 11 := ⟨(RX6, TX6, 14), rfl, by decide, cw_6, Or.inr ⟨"CueSheets", j_tb (List.mem_of_getElem? (i := 224) (by decide +kernel))⟩⟩
theorem fl_X7_298 : jlf RX7 298 6 12 := ⟨(RX6, TX6, 14), rfl, by decide, cw_6, Or.inr ⟨"CueSheets", j_tb (List.mem_of_getElem? (i := 226) (by decide +kernel))⟩⟩
theorem fl_X7_338 : jlf RX7 338 6 13 := ⟨(RX6, TX6, 14), rfl, by decide, cw_6, Or.inr ⟨"CueSheets", j_tb (List.mem_of_getElem? (i := 228) (by decide +kernel))⟩⟩
theorem fl_X7_237 : jlf RX7 237 0 0 := ⟨(RX0, TX0, 3), rfl, by decide, cw_0, Or.inr ⟨"CueSheets", j_tb (List.mem_of_getElem? (i := 265) (by decide +kernel))⟩⟩
theorem fl_X7_239 : jlf RX7 239 0 1 := ⟨(RX0, TX0, 3), rfl, by decide, cw_0, Or.inr ⟨"CueSheets", j_tb (List.mem_of_getElem? (i := 267) (by decide +kernel))⟩⟩
theorem fl_X7_296 : jlf RX7 296 0 2 := ⟨(RX0, TX0, 3), rfl, by decide, cw_0, Or.inr ⟨"CueSheets", j_tb (List.mem_of_getElem? (i := 269) (by decide +kernel))⟩⟩
theorem kc_X2_51 : Cond.constant RX2 51 (-2000001 : Int32) ∈ lw_tbl := j_tb (List.mem_of_getElem? (i := 444) (by decide +kernel))
theorem kc_X0_27 : Cond.constant RX0 27 (1000000000 : Int32) ∈ lw_tbl := j_tb (List.mem_of_getElem? (i := 647) (by decide +kernel))
theorem kc_X7_80 : Cond.constant RX7 80 (-2000001 : Int32) ∈ lw_tbl := j_tb (List.mem_of_getElem? (i := 666) (by decide +kernel))
theorem kc_X7_347 : Cond.constantDouble RX7 347 (4621819117588971520 : UInt64) ∈ lw_tbl := j_tb (List.mem_of_getElem? (i := 586) (by decide +kernel))
theorem nw_X7_7 : jln RX7 7 5 [.inr none, .inr none, .inr none, .inr none, .inr none, .inr none, .inl 0, .inl 0] := ⟨(RX5, TX5, 8), rfl, cw_5, j_tb (List.mem_of_getElem? (i := 24) (by decide +kernel)), j_tb (List.mem_of_getElem? (i := 25) (by decide +kernel)), j_tb (List.mem_of_getElem? (i := 2) (by decide +kernel)), rfl, by decide +kernel⟩
theorem nw_X5_9 : jln RX5 9 2 [.inr none, .inr none, .inr none, .inr none, .inr none, .inr none] := ⟨(RX2, TX2, 6), rfl, cw_2, j_tb (List.mem_of_getElem? (i := 30) (by decide +kernel)), j_tb (List.mem_of_getElem? (i := 31) (by decide +kernel)), j_tb (List.mem_of_getElem? (i := 3) (by decide +kernel)), rfl, by decide +kernel⟩
theorem nw_X2_9 : jln RX2 9 3 [.inr none, .inl 0] := ⟨(RX3, TX3, 2), rfl, cw_3, j_tb (List.mem_of_getElem? (i := 36) (by decide +kernel)), j_tb (List.mem_of_getElem? (i := 37) (by decide +kernel)), j_tb (List.mem_of_getElem? (i := 4) (by decide +kernel)), rfl, by decide +kernel⟩
theorem nw_X2_29 : jln RX2 29 1 [.inr none, .inr none] := ⟨(RX1, TX1, 2), rfl, cw_1, j_tb (List.mem_of_getElem? (i := 50) (by decide +kernel)), j_tb (List.mem_of_getElem? (i := 51) (by decide +kernel)), j_tb (List.mem_of_getElem? (i := 5) (by decide +kernel)), rfl, by decide +kernel⟩
theorem nw_X1_9 : jln RX1 9 3 [.inr none, .inl 0] := ⟨(RX3, TX3, 2), rfl, cw_3, j_tb (List.mem_of_getElem? (i := 56) (by decide +kernel)), j_tb (List.mem_of_getElem? (i := 37) (by decide +kernel)), j_tb (List.mem_of_getElem? (i := 4) (by decide +kernel)), rfl, by decide +kernel⟩
theorem nw_X5_24 : jln RX5 24 3 [.inr none, .inl 0] := ⟨(RX3, TX3, 2), rfl, cw_3, j_tb (List.mem_of_getElem? (i := 131) (by decide +kernel)), j_tb (List.mem_of_getElem? (i := 37) (by decide +kernel)), j_tb (List.mem_of_getElem? (i := 4) (by decide +kernel)), rfl, by decide +kernel⟩
theorem nw_X7_20 : jln RX7 20 3 [.inr none, .inl 0] := ⟨(RX3, TX3, 2), rfl, cw_3, j_tb (List.mem_of_getElem? (i := 168) (by decide +kernel)), j_tb (List.mem_of_getElem? (i := 37) (by decide +kernel)), j_tb (List.mem_of_getElem? (i := 4) (by decide +kernel)), rfl, by decide +kernel⟩
theorem nw_X7_29 : jln RX7 29 4 [.inr none, .inr none, .inr none, .inr none, .inl 0] := ⟨(RX4, TX4, 5), rfl, cw_4, j_tb (List.mem_of_getElem? (i := 170) (by decide +kernel)), j_tb (List.mem_of_getElem? (i := 171) (by decide +kernel)), j_tb (List.mem_of_getElem? (i := 6) (by decide +kernel)), rfl, by decide +kernel⟩
theorem nw_X4_9 : jln RX4 9 3 [.inr none, .inl 0] := ⟨(RX3, TX3, 2), rfl, cw_3, j_tb (List.mem_of_getElem? (i := 176) (by decide +kernel)), j_tb (List.mem_of_getElem? (i := 37) (by decide +kernel)), j_tb (List.mem_of_getElem? (i := 4) (by decide +kernel)), rfl, by decide +kernel⟩
theorem nw_X7_36 : jln RX7 36 6 [.inr none, .inr none, .inr none, .inr none, .inr none, .inr none, .inr none, .inl 0, .inl 0, .inl 0, .inl 0, .inl 0, .inl 0, .inl 0] := ⟨(RX6, TX6, 14), rfl, cw_6, j_tb (List.mem_of_getElem? (i := 193) (by decide +kernel)), j_tb (List.mem_of_getElem? (i := 194) (by decide +kernel)), j_tb (List.mem_of_getElem? (i := 7) (by decide +kernel)), rfl, by decide +kernel⟩
theorem nw_X6_9 : jln RX6 9 3 [.inr none, .inl 0] := ⟨(RX3, TX3, 2), rfl, cw_3, j_tb (List.mem_of_getElem? (i := 199) (by decide +kernel)), j_tb (List.mem_of_getElem? (i := 37) (by decide +kernel)), j_tb (List.mem_of_getElem? (i := 4) (by decide +kernel)), rfl, by decide +kernel⟩
theorem nw_X7_46 : jln RX7 46 0 [.inl 0, .inl 0, .inl 0] := ⟨(RX0, TX0, 3), rfl, cw_0, j_tb (List.mem_of_getElem? (i := 258) (by decide +kernel)), j_tb (List.mem_of_getElem? (i := 259) (by decide +kernel)), j_tb (List.mem_of_getElem? (i := 8) (by decide +kernel)), rfl, by decide +kernel⟩
theorem oi_1 : Cond.instanceMethod objectInit ∈ lw_tbl := j_tb (List.mem_of_getElem? (i := 22) (by decide +kernel))
theorem oi_2 : Cond.code objectInit ⟨#[0xb1]⟩ 1 none ∈ lw_tbl := j_tb (List.mem_of_getElem? (i := 23) (by decide +kernel))
theorem ac_int : Cond.arrayClass .int ∈ lw_tbl := j_tb (List.mem_of_getElem? (i := 49) (by decide +kernel))
theorem ao_State : Cond.arrayOver (.object "CueSheets$State") ∈ lw_tbl := j_tb (List.mem_of_getElem? (i := 167) (by decide +kernel))
theorem fp_X0_search_28 : jlp kX0_search 28 0 2 .int := ⟨(RX0, TX0, 3), rfl, by decide, cw_0, Or.inl (j_tb (List.mem_of_getElem? (i := 268) (by decide +kernel))), nmX0, cp_0, Or.inl rfl, by decide +kernel⟩
theorem fp_X0_consider_54 : jlp kX0_consider 54 0 0 .int := ⟨(RX0, TX0, 3), rfl, by decide, cw_0, Or.inl (j_tb (List.mem_of_getElem? (i := 264) (by decide +kernel))), nmX0, cp_0, Or.inl rfl, by decide +kernel⟩
theorem fp_X0_consider_56 : jlp kX0_consider 56 0 1 .int := ⟨(RX0, TX0, 3), rfl, by decide, cw_0, Or.inl (j_tb (List.mem_of_getElem? (i := 266) (by decide +kernel))), nmX0, cp_0, Or.inl rfl, by decide +kernel⟩
theorem fp_X0_consider_28 : jlp kX0_consider 28 0 2 .int := ⟨(RX0, TX0, 3), rfl, by decide, cw_0, Or.inl (j_tb (List.mem_of_getElem? (i := 268) (by decide +kernel))), nmX0, cp_0, Or.inl rfl, by decide +kernel⟩
theorem fp_X1_init_14 : jlp kX1_init 14 1 0 (.object "CueSheets$Row") := ⟨(RX1, TX1, 2), rfl, by decide, cw_1, Or.inl (j_tb (List.mem_of_getElem? (i := 58) (by decide +kernel))), nmX1, cp_1, Or.inr ⟨rfl, rfl, rfl, j_tb (List.mem_of_getElem? (i := 58) (by decide +kernel))⟩, by decide +kernel⟩
theorem fp_X1_init_20 : jlp kX1_init 20 1 1 (.object "CueSheets$Row") := ⟨(RX1, TX1, 2), rfl, by decide, cw_1, Or.inl (j_tb (List.mem_of_getElem? (i := 60) (by decide +kernel))), nmX1, cp_1, Or.inr ⟨rfl, rfl, rfl, j_tb (List.mem_of_getElem? (i := 60) (by decide +kernel))⟩, by decide +kernel⟩
theorem fp_X2_init_14 : jlp kX2_init 14 2 0 (.object "CueSheets$Row") := ⟨(RX2, TX2, 6), rfl, by decide, cw_2, Or.inl (j_tb (List.mem_of_getElem? (i := 101) (by decide +kernel))), nmX2, cp_2, Or.inr ⟨rfl, rfl, rfl, j_tb (List.mem_of_getElem? (i := 101) (by decide +kernel))⟩, by decide +kernel⟩
theorem fp_X2_init_20 : jlp kX2_init 20 2 1 (.object "CueSheets$Row") := ⟨(RX2, TX2, 6), rfl, by decide, cw_2, Or.inl (j_tb (List.mem_of_getElem? (i := 104) (by decide +kernel))), nmX2, cp_2, Or.inr ⟨rfl, rfl, rfl, j_tb (List.mem_of_getElem? (i := 104) (by decide +kernel))⟩, by decide +kernel⟩
theorem fp_X2_init_23 : jlp kX2_init 23 2 2 (.object "CueSheets$Row") := ⟨(RX2, TX2, 6), rfl, by decide, cw_2, Or.inl (j_tb (List.mem_of_getElem? (i := 108) (by decide +kernel))), nmX2, cp_2, Or.inr ⟨rfl, rfl, rfl, j_tb (List.mem_of_getElem? (i := 108) (by decide +kernel))⟩, by decide +kernel⟩
theorem fp_X2_init_26 : jlp kX2_init 26 2 3 (.object "CueSheets$Row") := ⟨(RX2, TX2, 6), rfl, by decide, cw_2, Or.inl (j_tb (List.mem_of_getElem? (i := 111) (by decide +kernel))), nmX2, cp_2, Or.inr ⟨rfl, rfl, rfl, j_tb (List.mem_of_getElem? (i := 111) (by decide +kernel))⟩, by decide +kernel⟩
theorem fp_X2_init_32 : jlp kX2_init 32 2 4 (.object "CueSheets$Marks") := ⟨(RX2, TX2, 6), rfl, by decide, cw_2, Or.inl (j_tb (List.mem_of_getElem? (i := 114) (by decide +kernel))), nmX2, cp_2, Or.inr ⟨rfl, rfl, rfl, j_tb (List.mem_of_getElem? (i := 114) (by decide +kernel))⟩, by decide +kernel⟩
theorem fp_X2_init_36 : jlp kX2_init 36 2 5 (.object "CueSheets$Marks") := ⟨(RX2, TX2, 6), rfl, by decide, cw_2, Or.inl (j_tb (List.mem_of_getElem? (i := 116) (by decide +kernel))), nmX2, cp_2, Or.inr ⟨rfl, rfl, rfl, j_tb (List.mem_of_getElem? (i := 116) (by decide +kernel))⟩, by decide +kernel⟩
theorem fp_X3_init_7 : jlp kX3_init 7 3 0 (.array .int) := ⟨(RX3, TX3, 2), rfl, by decide, cw_3, Or.inl (j_tb (List.mem_of_getElem? (i := 42) (by decide +kernel))), nmX3, cp_3, Or.inr ⟨rfl, rfl, rfl, j_tb (List.mem_of_getElem? (i := 42) (by decide +kernel))⟩, by decide +kernel⟩
theorem fp_X3_add_13 : jlp kX3_add 13 3 1 .int := ⟨(RX3, TX3, 2), rfl, by decide, cw_3, Or.inl (j_tb (List.mem_of_getElem? (i := 43) (by decide +kernel))), nmX3, cp_3, Or.inl rfl, by decide +kernel⟩
theorem fp_X3_remove_13 : jlp kX3_remove 13 3 1 .int := ⟨(RX3, TX3, 2), rfl, by decide, cw_3, Or.inl (j_tb (List.mem_of_getElem? (i := 43) (by decide +kernel))), nmX3, cp_3, Or.inl rfl, by decide +kernel⟩
theorem fp_X3_clear_13 : jlp kX3_clear 13 3 1 .int := ⟨(RX3, TX3, 2), rfl, by decide, cw_3, Or.inl (j_tb (List.mem_of_getElem? (i := 43) (by decide +kernel))), nmX3, cp_3, Or.inl rfl, by decide +kernel⟩
theorem fp_X4_init_14 : jlp kX4_init 14 4 0 (.object "CueSheets$Row") := ⟨(RX4, TX4, 5), rfl, by decide, cw_4, Or.inl (j_tb (List.mem_of_getElem? (i := 178) (by decide +kernel))), nmX4, cp_4, Or.inr ⟨rfl, rfl, rfl, j_tb (List.mem_of_getElem? (i := 178) (by decide +kernel))⟩, by decide +kernel⟩
theorem fp_X4_init_20 : jlp kX4_init 20 4 1 (.object "CueSheets$Row") := ⟨(RX4, TX4, 5), rfl, by decide, cw_4, Or.inl (j_tb (List.mem_of_getElem? (i := 179) (by decide +kernel))), nmX4, cp_4, Or.inr ⟨rfl, rfl, rfl, j_tb (List.mem_of_getElem? (i := 179) (by decide +kernel))⟩, by decide +kernel⟩
theorem fp_X4_init_23 : jlp kX4_init 23 4 2 (.object "CueSheets$Row") := ⟨(RX4, TX4, 5), rfl, by decide, cw_4, Or.inl (j_tb (List.mem_of_getElem? (i := 180) (by decide +kernel))), nmX4, cp_4, Or.inr ⟨rfl, rfl, rfl, j_tb (List.mem_of_getElem? (i := 180) (by decide +kernel))⟩, by decide +kernel⟩
theorem fp_X4_init_26 : jlp kX4_init 26 4 3 (.object "CueSheets$Row") := ⟨(RX4, TX4, 5), rfl, by decide, cw_4, Or.inl (j_tb (List.mem_of_getElem? (i := 181) (by decide +kernel))), nmX4, cp_4, Or.inr ⟨rfl, rfl, rfl, j_tb (List.mem_of_getElem? (i := 181) (by decide +kernel))⟩, by decide +kernel⟩
theorem fp_X5_init_12 : jlp kX5_init 12 5 0 (.object "CueSheets$Reel") := ⟨(RX5, TX5, 8), rfl, by decide, cw_5, Or.inl (j_tb (List.mem_of_getElem? (i := 133) (by decide +kernel))), nmX5, cp_5, Or.inr ⟨rfl, rfl, rfl, j_tb (List.mem_of_getElem? (i := 133) (by decide +kernel))⟩, by decide +kernel⟩
theorem fp_X5_init_18 : jlp kX5_init 18 5 1 (.object "CueSheets$Reel") := ⟨(RX5, TX5, 8), rfl, by decide, cw_5, Or.inl (j_tb (List.mem_of_getElem? (i := 134) (by decide +kernel))), nmX5, cp_5, Or.inr ⟨rfl, rfl, rfl, j_tb (List.mem_of_getElem? (i := 134) (by decide +kernel))⟩, by decide +kernel⟩
theorem fp_X5_init_21 : jlp kX5_init 21 5 2 (.object "CueSheets$Reel") := ⟨(RX5, TX5, 8), rfl, by decide, cw_5, Or.inl (j_tb (List.mem_of_getElem? (i := 135) (by decide +kernel))), nmX5, cp_5, Or.inr ⟨rfl, rfl, rfl, j_tb (List.mem_of_getElem? (i := 135) (by decide +kernel))⟩, by decide +kernel⟩
theorem fp_X5_init_29 : jlp kX5_init 29 5 3 (.object "CueSheets$Row") := ⟨(RX5, TX5, 8), rfl, by decide, cw_5, Or.inl (j_tb (List.mem_of_getElem? (i := 136) (by decide +kernel))), nmX5, cp_5, Or.inr ⟨rfl, rfl, rfl, j_tb (List.mem_of_getElem? (i := 136) (by decide +kernel))⟩, by decide +kernel⟩
theorem fp_X5_init_33 : jlp kX5_init 33 5 4 (.object "CueSheets$Row") := ⟨(RX5, TX5, 8), rfl, by decide, cw_5, Or.inl (j_tb (List.mem_of_getElem? (i := 139) (by decide +kernel))), nmX5, cp_5, Or.inr ⟨rfl, rfl, rfl, j_tb (List.mem_of_getElem? (i := 139) (by decide +kernel))⟩, by decide +kernel⟩
theorem fp_X5_init_36 : jlp kX5_init 36 5 5 (.object "CueSheets$Row") := ⟨(RX5, TX5, 8), rfl, by decide, cw_5, Or.inl (j_tb (List.mem_of_getElem? (i := 142) (by decide +kernel))), nmX5, cp_5, Or.inr ⟨rfl, rfl, rfl, j_tb (List.mem_of_getElem? (i := 142) (by decide +kernel))⟩, by decide +kernel⟩
theorem fp_X5_init_39 : jlp kX5_init 39 5 6 .int := ⟨(RX5, TX5, 8), rfl, by decide, cw_5, Or.inl (j_tb (List.mem_of_getElem? (i := 145) (by decide +kernel))), nmX5, cp_5, Or.inl rfl, by decide +kernel⟩
theorem fp_X5_init_43 : jlp kX5_init 43 5 7 .int := ⟨(RX5, TX5, 8), rfl, by decide, cw_5, Or.inl (j_tb (List.mem_of_getElem? (i := 147) (by decide +kernel))), nmX5, cp_5, Or.inl rfl, by decide +kernel⟩
theorem fp_X5_takeFrom_39 : jlp kX5_takeFrom 39 5 6 .int := ⟨(RX5, TX5, 8), rfl, by decide, cw_5, Or.inl (j_tb (List.mem_of_getElem? (i := 145) (by decide +kernel))), nmX5, cp_5, Or.inl rfl, by decide +kernel⟩
theorem fp_X5_takeFrom_43 : jlp kX5_takeFrom 43 5 7 .int := ⟨(RX5, TX5, 8), rfl, by decide, cw_5, Or.inl (j_tb (List.mem_of_getElem? (i := 147) (by decide +kernel))), nmX5, cp_5, Or.inl rfl, by decide +kernel⟩
theorem fp_X6_init_14 : jlp kX6_init 14 6 0 (.object "CueSheets$Row") := ⟨(RX6, TX6, 14), rfl, by decide, cw_6, Or.inl (j_tb (List.mem_of_getElem? (i := 201) (by decide +kernel))), nmX6, cp_6, Or.inr ⟨rfl, rfl, rfl, j_tb (List.mem_of_getElem? (i := 201) (by decide +kernel))⟩, by decide +kernel⟩
theorem fp_X6_init_20 : jlp kX6_init 20 6 1 (.object "CueSheets$Row") := ⟨(RX6, TX6, 14), rfl, by decide, cw_6, Or.inl (j_tb (List.mem_of_getElem? (i := 203) (by decide +kernel))), nmX6, cp_6, Or.inr ⟨rfl, rfl, rfl, j_tb (List.mem_of_getElem? (i := 203) (by decide +kernel))⟩, by decide +kernel⟩
theorem fp_X6_init_23 : jlp kX6_init 23 6 2 (.object "CueSheets$Row") := ⟨(RX6, TX6, 14), rfl, by decide, cw_6, Or.inl (j_tb (List.mem_of_getElem? (i := 205) (by decide +kernel))), nmX6, cp_6, Or.inr ⟨rfl, rfl, rfl, j_tb (List.mem_of_getElem? (i := 205) (by decide +kernel))⟩, by decide +kernel⟩
theorem fp_X6_init_26 : jlp kX6_init 26 6 3 (.object "CueSheets$Row") := ⟨(RX6, TX6, 14), rfl, by decide, cw_6, Or.inl (j_tb (List.mem_of_getElem? (i := 207) (by decide +kernel))), nmX6, cp_6, Or.inr ⟨rfl, rfl, rfl, j_tb (List.mem_of_getElem? (i := 207) (by decide +kernel))⟩, by decide +kernel⟩
theorem fp_X6_init_29 : jlp kX6_init 29 6 4 (.object "CueSheets$Row") := ⟨(RX6, TX6, 14), rfl, by decide, cw_6, Or.inl (j_tb (List.mem_of_getElem? (i := 209) (by decide +kernel))), nmX6, cp_6, Or.inr ⟨rfl, rfl, rfl, j_tb (List.mem_of_getElem? (i := 209) (by decide +kernel))⟩, by decide +kernel⟩
theorem fp_X6_init_32 : jlp kX6_init 32 6 5 (.object "CueSheets$Row") := ⟨(RX6, TX6, 14), rfl, by decide, cw_6, Or.inl (j_tb (List.mem_of_getElem? (i := 211) (by decide +kernel))), nmX6, cp_6, Or.inr ⟨rfl, rfl, rfl, j_tb (List.mem_of_getElem? (i := 211) (by decide +kernel))⟩, by decide +kernel⟩
theorem fp_X6_init_35 : jlp kX6_init 35 6 6 (.object "CueSheets$Row") := ⟨(RX6, TX6, 14), rfl, by decide, cw_6, Or.inl (j_tb (List.mem_of_getElem? (i := 213) (by decide +kernel))), nmX6, cp_6, Or.inr ⟨rfl, rfl, rfl, j_tb (List.mem_of_getElem? (i := 213) (by decide +kernel))⟩, by decide +kernel⟩
theorem fp_X6_measure_47 : jlp kX6_measure 47 6 7 .int := ⟨(RX6, TX6, 14), rfl, by decide, cw_6, Or.inl (j_tb (List.mem_of_getElem? (i := 215) (by decide +kernel))), nmX6, cp_6, Or.inl rfl, by decide +kernel⟩
theorem fp_X6_measure_72 : jlp kX6_measure 72 6 8 .int := ⟨(RX6, TX6, 14), rfl, by decide, cw_6, Or.inl (j_tb (List.mem_of_getElem? (i := 217) (by decide +kernel))), nmX6, cp_6, Or.inl rfl, by decide +kernel⟩
theorem fp_X6_measure_69 : jlp kX6_measure 69 6 9 .int := ⟨(RX6, TX6, 14), rfl, by decide, cw_6, Or.inl (j_tb (List.mem_of_getElem? (i := 219) (by decide +kernel))), nmX6, cp_6, Or.inl rfl, by decide +kernel⟩
theorem fp_X6_clear_47 : jlp kX6_clear 47 6 7 .int := ⟨(RX6, TX6, 14), rfl, by decide, cw_6, Or.inl (j_tb (List.mem_of_getElem? (i := 215) (by decide +kernel))), nmX6, cp_6, Or.inl rfl, by decide +kernel⟩
theorem fp_X6_clear_72 : jlp kX6_clear 72 6 8 .int := ⟨(RX6, TX6, 14), rfl, by decide, cw_6, Or.inl (j_tb (List.mem_of_getElem? (i := 217) (by decide +kernel))), nmX6, cp_6, Or.inl rfl, by decide +kernel⟩
theorem fp_X6_clear_69 : jlp kX6_clear 69 6 9 .int := ⟨(RX6, TX6, 14), rfl, by decide, cw_6, Or.inl (j_tb (List.mem_of_getElem? (i := 219) (by decide +kernel))), nmX6, cp_6, Or.inl rfl, by decide +kernel⟩
theorem fp_X6_clear_80 : jlp kX6_clear 80 6 10 .int := ⟨(RX6, TX6, 14), rfl, by decide, cw_6, Or.inl (j_tb (List.mem_of_getElem? (i := 221) (by decide +kernel))), nmX6, cp_6, Or.inl rfl, by decide +kernel⟩
theorem fp_X6_clear_83 : jlp kX6_clear 83 6 11 .int := ⟨(RX6, TX6, 14), rfl, by decide, cw_6, Or.inl (j_tb (List.mem_of_getElem? (i := 223) (by decide +kernel))), nmX6, cp_6, Or.inl rfl, by decide +kernel⟩
theorem fp_X6_clear_86 : jlp kX6_clear 86 6 12 .int := ⟨(RX6, TX6, 14), rfl, by decide, cw_6, Or.inl (j_tb (List.mem_of_getElem? (i := 225) (by decide +kernel))), nmX6, cp_6, Or.inl rfl, by decide +kernel⟩
theorem fp_X6_clear_89 : jlp kX6_clear 89 6 13 .int := ⟨(RX6, TX6, 14), rfl, by decide, cw_6, Or.inl (j_tb (List.mem_of_getElem? (i := 227) (by decide +kernel))), nmX6, cp_6, Or.inl rfl, by decide +kernel⟩
theorem fp_X6_measureCue_89 : jlp kX6_measureCue 89 6 13 .int := ⟨(RX6, TX6, 14), rfl, by decide, cw_6, Or.inl (j_tb (List.mem_of_getElem? (i := 227) (by decide +kernel))), nmX6, cp_6, Or.inl rfl, by decide +kernel⟩
theorem fp_X6_measureCue_80 : jlp kX6_measureCue 80 6 10 .int := ⟨(RX6, TX6, 14), rfl, by decide, cw_6, Or.inl (j_tb (List.mem_of_getElem? (i := 221) (by decide +kernel))), nmX6, cp_6, Or.inl rfl, by decide +kernel⟩
theorem fp_X6_measureCue_86 : jlp kX6_measureCue 86 6 12 .int := ⟨(RX6, TX6, 14), rfl, by decide, cw_6, Or.inl (j_tb (List.mem_of_getElem? (i := 225) (by decide +kernel))), nmX6, cp_6, Or.inl rfl, by decide +kernel⟩
theorem fp_X6_measureCue_83 : jlp kX6_measureCue 83 6 11 .int := ⟨(RX6, TX6, 14), rfl, by decide, cw_6, Or.inl (j_tb (List.mem_of_getElem? (i := 223) (by decide +kernel))), nmX6, cp_6, Or.inl rfl, by decide +kernel⟩
theorem fp_X7_init_10 : jlp kX7_init 10 7 0 (.object "CueSheets$State") := ⟨(RX7, TX7, 9), rfl, by decide, cw_7, Or.inl (j_tb (List.mem_of_getElem? (i := 277) (by decide +kernel))), nmX7, cp_7, Or.inr ⟨rfl, rfl, rfl, j_tb (List.mem_of_getElem? (i := 277) (by decide +kernel))⟩, by decide +kernel⟩
theorem fp_X7_init_16 : jlp kX7_init 16 7 1 (.array (.object "CueSheets$State")) := ⟨(RX7, TX7, 9), rfl, by decide, cw_7, Or.inl (j_tb (List.mem_of_getElem? (i := 278) (by decide +kernel))), nmX7, cp_7, Or.inr ⟨rfl, rfl, rfl, j_tb (List.mem_of_getElem? (i := 278) (by decide +kernel))⟩, by decide +kernel⟩
theorem fp_X7_init_25 : jlp kX7_init 25 7 4 (.object "CueSheets$Row") := ⟨(RX7, TX7, 9), rfl, by decide, cw_7, Or.inl (j_tb (List.mem_of_getElem? (i := 281) (by decide +kernel))), nmX7, cp_7, Or.inr ⟨rfl, rfl, rfl, j_tb (List.mem_of_getElem? (i := 281) (by decide +kernel))⟩, by decide +kernel⟩
theorem fp_X7_init_32 : jlp kX7_init 32 7 5 (.object "CueSheets$SheetReader") := ⟨(RX7, TX7, 9), rfl, by decide, cw_7, Or.inl (j_tb (List.mem_of_getElem? (i := 282) (by decide +kernel))), nmX7, cp_7, Or.inr ⟨rfl, rfl, rfl, j_tb (List.mem_of_getElem? (i := 282) (by decide +kernel))⟩, by decide +kernel⟩
theorem fp_X7_init_39 : jlp kX7_init 39 7 6 (.object "CueSheets$Timing") := ⟨(RX7, TX7, 9), rfl, by decide, cw_7, Or.inl (j_tb (List.mem_of_getElem? (i := 283) (by decide +kernel))), nmX7, cp_7, Or.inr ⟨rfl, rfl, rfl, j_tb (List.mem_of_getElem? (i := 283) (by decide +kernel))⟩, by decide +kernel⟩
theorem fp_X7_init_43 : jlp kX7_init 43 7 7 (.object "CueSheets$Timing") := ⟨(RX7, TX7, 9), rfl, by decide, cw_7, Or.inl (j_tb (List.mem_of_getElem? (i := 284) (by decide +kernel))), nmX7, cp_7, Or.inr ⟨rfl, rfl, rfl, j_tb (List.mem_of_getElem? (i := 284) (by decide +kernel))⟩, by decide +kernel⟩
theorem fp_X7_init_49 : jlp kX7_init 49 7 8 (.object "CueSheets$Choice") := ⟨(RX7, TX7, 9), rfl, by decide, cw_7, Or.inl (j_tb (List.mem_of_getElem? (i := 285) (by decide +kernel))), nmX7, cp_7, Or.inr ⟨rfl, rfl, rfl, j_tb (List.mem_of_getElem? (i := 285) (by decide +kernel))⟩, by decide +kernel⟩
theorem fp_X7_set_159 : jlp kX7_set 159 5 6 .int := ⟨(RX5, TX5, 8), rfl, by decide, cw_5, Or.inr ⟨"CueSheets", j_tb (List.mem_of_getElem? (i := 146) (by decide +kernel))⟩, nmX5, cp_5, Or.inl rfl, by decide +kernel⟩
theorem fp_X7_set_163 : jlp kX7_set 163 5 7 .int := ⟨(RX5, TX5, 8), rfl, by decide, cw_5, Or.inr ⟨"CueSheets", j_tb (List.mem_of_getElem? (i := 149) (by decide +kernel))⟩, nmX5, cp_5, Or.inl rfl, by decide +kernel⟩
theorem fp_X7_save_284 : jlp kX7_save 284 7 2 .int := ⟨(RX7, TX7, 9), rfl, by decide, cw_7, Or.inl (j_tb (List.mem_of_getElem? (i := 279) (by decide +kernel))), nmX7, cp_7, Or.inl rfl, by decide +kernel⟩
theorem fp_X7_save_199 : jlp kX7_save 199 7 3 .int := ⟨(RX7, TX7, 9), rfl, by decide, cw_7, Or.inl (j_tb (List.mem_of_getElem? (i := 280) (by decide +kernel))), nmX7, cp_7, Or.inl rfl, by decide +kernel⟩
