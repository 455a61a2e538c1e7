/-! THE SITES: methods as data, links by their places in the tables (by program) -/
/-- the room of a method at a depth -/
abbrev jR (d mc ms : Nat) : Room := { frames := d, cells := mc, slots := ms, locals := 36 * d }
/-- the kinds of the objects -/
abbrev kChoice : jK := .inl (0, [.inl 0, .inl 0, .inl 0])
abbrev kMarks (a b : Nat) : jK := .inl (1, [.inr (some a), .inr (some b)])
abbrev kReel (a b c d e f : Nat) : jK := .inl (2, [.inr (some a), .inr (some b), .inr (some c), .inr (some d), .inr (some e), .inr (some f)])
abbrev kRow (a : Nat) : jK := .inl (3, [.inr (some a), .inl 0])
abbrev kReader (a b c d : Nat) : jK := .inl (4, [.inr (some a), .inr (some b), .inr (some c), .inr (some d), .inl 0])
abbrev kState (a b c d e f : Nat) : jK := .inl (5, [.inr (some a), .inr (some b), .inr (some c), .inr (some d), .inr (some e), .inr (some f), .inl 0, .inl 0])
abbrev kTiming (a b c d e f g : Nat) : jK := .inl (6, [.inr (some a), .inr (some b), .inr (some c), .inr (some d), .inr (some e), .inr (some f), .inr (some g), .inl 0, .inl 0, .inl 0, .inl 0, .inl 0, .inl 0, .inl 0])
abbrev kCue (a b c d e f g : Nat) : jK := .inl (7, [.inr (some a), .inr (some b), .inl 0, .inl 0, .inr (some c), .inr (some d), .inr (some e), .inr (some f), .inr (some g)])
abbrev kModel (z sv tx bg lo cb ce rd : Nat) : jK := .inl (8, [.inl 0, .inr (some z), .inl 0, .inr (some sv), .inl 0, .inr (some tx), .inr (some bg), .inr (some lo), .inr (some cb), .inr (some ce), .inl 0, .inl 0, .inl 0, .inl 0, .inr (some rd), .inl 1])
abbrev kI (n : Nat) : jK := .inr (.inl (0, n))
abbrev kJ (n : Nat) : jK := .inr (.inl (1, n))
abbrev kDb (n : Nat) : jK := .inr (.inl (2, n))
abbrev kQ (n : Nat) (f : Nat → Option Nat) : jK := .inr (.inr (n, f))

theorem cw_0 : ∀ w ∈ u_ws RX0 TX0 3, w ∈ lw_tbl ∧ goodWord w = true := by decide +kernel
theorem cp_0 : ∀ k, k < 3 → ∃ t, parseFieldDescriptor (TX0 k).2.2.1 = some t := fun k hk => ⟨_, tyX0_ok k hk⟩
theorem cw_1 : ∀ w ∈ u_ws RX1 TX1 2, w ∈ lw_tbl ∧ goodWord w = true := by decide +kernel
theorem cp_1 : ∀ k, k < 2 → ∃ t, parseFieldDescriptor (TX1 k).2.2.1 = some t := fun k hk => ⟨_, tyX1_ok k hk⟩
theorem cw_2 : ∀ w ∈ u_ws RX2 TX2 6, w ∈ lw_tbl ∧ goodWord w = true := by decide +kernel
theorem cp_2 : ∀ k, k < 6 → ∃ t, parseFieldDescriptor (TX2 k).2.2.1 = some t := fun k hk => ⟨_, tyX2_ok k hk⟩
theorem cw_3 : ∀ w ∈ u_ws RX3 TX3 2, w ∈ lw_tbl ∧ goodWord w = true := by decide +kernel
theorem cp_3 : ∀ k, k < 2 → ∃ t, parseFieldDescriptor (TX3 k).2.2.1 = some t := fun k hk => ⟨_, tyX3_ok k hk⟩
theorem cw_4 : ∀ w ∈ u_ws RX4 TX4 5, w ∈ lw_tbl ∧ goodWord w = true := by decide +kernel
theorem cp_4 : ∀ k, k < 5 → ∃ t, parseFieldDescriptor (TX4 k).2.2.1 = some t := fun k hk => ⟨_, tyX4_ok k hk⟩
theorem cw_5 : ∀ w ∈ u_ws RX5 TX5 8, w ∈ lw_tbl ∧ goodWord w = true := by decide +kernel
theorem cp_5 : ∀ k, k < 8 → ∃ t, parseFieldDescriptor (TX5 k).2.2.1 = some t := fun k hk => ⟨_, tyX5_ok k hk⟩
theorem cw_6 : ∀ w ∈ u_ws RX6 TX6 14, w ∈ lw_tbl ∧ goodWord w = true := by decide +kernel
theorem cp_6 : ∀ k, k < 14 → ∃ t, parseFieldDescriptor (TX6 k).2.2.1 = some t := fun k hk => ⟨_, tyX6_ok k hk⟩
theorem cw_7 : ∀ w ∈ u_ws RX7 TX7 9, w ∈ lw_tbl ∧ goodWord w = true := by decide +kernel
theorem cp_7 : ∀ k, k < 9 → ∃ t, parseFieldDescriptor (TX7 k).2.2.1 = some t := fun k hk => ⟨_, tyX7_ok k hk⟩
theorem cw_8 : ∀ w ∈ u_ws RX8 TX8 16, w ∈ lw_tbl ∧ goodWord w = true := by decide +kernel
theorem cp_8 : ∀ k, k < 16 → ∃ t, parseFieldDescriptor (TX8 k).2.2.1 = some t := fun k hk => ⟨_, tyX8_ok k hk⟩
abbrev kX0_init : jM := (yX0_init, cX0_init, 1, none, [])
theorem pn_X0_init : plainName (kX0_init : jM).1.cls = true := by decide +kernel
theorem mo_X0_init : jmI kX0_init 0 := ⟨rfl, j_tb (List.mem_of_getElem? (i := 270) (by decide +kernel)), rfl, rfl, j_tb (List.mem_of_getElem? (i := 269) (by decide +kernel)), j_tb (List.mem_of_getElem? (i := 8) (by decide +kernel)), by decide +kernel, by decide +kernel⟩
abbrev kX0_search : jM := (yX0_search, cX0_search, 7, none, [])
theorem pn_X0_search : plainName (kX0_search : jM).1.cls = true := by decide +kernel
theorem mo_X0_search : jmV kX0_search 3 := ⟨rfl, j_tb (List.mem_of_getElem? (i := 509) (by decide +kernel)), j_tb (List.mem_of_getElem? (i := 507) (by decide +kernel)), j_tb (List.mem_of_getElem? (i := 508) (by decide +kernel)), j_tb (List.mem_of_getElem? (i := 8) (by decide +kernel)), by decide +kernel, by decide +kernel⟩
abbrev kX0_tryPaces : jM := (yX0_tryPaces, cX0_tryPaces, 8, none, [])
theorem pn_X0_tryPaces : plainName (kX0_tryPaces : jM).1.cls = true := by decide +kernel
theorem mo_X0_tryPaces : jmV kX0_tryPaces 4 := ⟨rfl, j_tb (List.mem_of_getElem? (i := 515) (by decide +kernel)), j_tb (List.mem_of_getElem? (i := 514) (by decide +kernel)), List.mem_append_left _ (by decide +kernel), j_tb (List.mem_of_getElem? (i := 8) (by decide +kernel)), by decide +kernel, by decide +kernel⟩
abbrev kX0_consider : jM := (yX0_consider, cX0_consider, 4, none, [])
theorem pn_X0_consider : plainName (kX0_consider : jM).1.cls = true := by decide +kernel
theorem mo_X0_consider : jmV kX0_consider 3 := ⟨rfl, j_tb (List.mem_of_getElem? (i := 520) (by decide +kernel)), j_tb (List.mem_of_getElem? (i := 519) (by decide +kernel)), List.mem_append_left _ (by decide +kernel), j_tb (List.mem_of_getElem? (i := 8) (by decide +kernel)), by decide +kernel, by decide +kernel⟩
abbrev kX1_init : jM := (yX1_init, cX1_init, 1, none, [])
theorem pn_X1_init : plainName (kX1_init : jM).1.cls = true := by decide +kernel
theorem mo_X1_init : jmI kX1_init 0 := ⟨rfl, j_tb (List.mem_of_getElem? (i := 57) (by decide +kernel)), rfl, rfl, j_tb (List.mem_of_getElem? (i := 56) (by decide +kernel)), j_tb (List.mem_of_getElem? (i := 5) (by decide +kernel)), by decide +kernel, by decide +kernel⟩
abbrev kX1_size : jM := (yX1_size, cX1_size, 1, some .int, [])
theorem pn_X1_size : plainName (kX1_size : jM).1.cls = true := by decide +kernel
theorem mo_X1_size : jmV kX1_size 0 := ⟨rfl, j_tb (List.mem_of_getElem? (i := 485) (by decide +kernel)), j_tb (List.mem_of_getElem? (i := 483) (by decide +kernel)), j_tb (List.mem_of_getElem? (i := 484) (by decide +kernel)), j_tb (List.mem_of_getElem? (i := 5) (by decide +kernel)), by decide +kernel, by decide +kernel⟩
abbrev kX1_placeOf : jM := (yX1_placeOf, cX1_placeOf, 3, some .int, [])
theorem pn_X1_placeOf : plainName (kX1_placeOf : jM).1.cls = true := by decide +kernel
theorem mo_X1_placeOf : jmV kX1_placeOf 1 := ⟨rfl, j_tb (List.mem_of_getElem? (i := 77) (by decide +kernel)), j_tb (List.mem_of_getElem? (i := 76) (by decide +kernel)), List.mem_append_left _ (by decide +kernel), j_tb (List.mem_of_getElem? (i := 5) (by decide +kernel)), by decide +kernel, by decide +kernel⟩
abbrev kX1_isAt : jM := (yX1_isAt, cX1_isAt, 3, some .boolean, [])
theorem pn_X1_isAt : plainName (kX1_isAt : jM).1.cls = true := by decide +kernel
theorem mo_X1_isAt : jmV kX1_isAt 2 := ⟨rfl, j_tb (List.mem_of_getElem? (i := 89) (by decide +kernel)), j_tb (List.mem_of_getElem? (i := 88) (by decide +kernel)), List.mem_append_left _ (by decide +kernel), j_tb (List.mem_of_getElem? (i := 5) (by decide +kernel)), by decide +kernel, by decide +kernel⟩
abbrev kX1_hasRoomFor : jM := (yX1_hasRoomFor, cX1_hasRoomFor, 2, some .boolean, [])
theorem pn_X1_hasRoomFor : plainName (kX1_hasRoomFor : jM).1.cls = true := by decide +kernel
theorem mo_X1_hasRoomFor : jmV kX1_hasRoomFor 1 := ⟨rfl, j_tb (List.mem_of_getElem? (i := 731) (by decide +kernel)), j_tb (List.mem_of_getElem? (i := 729) (by decide +kernel)), j_tb (List.mem_of_getElem? (i := 730) (by decide +kernel)), j_tb (List.mem_of_getElem? (i := 5) (by decide +kernel)), by decide +kernel, by decide +kernel⟩
abbrev kX1_mark : jM := (yX1_mark, cX1_mark, 4, none, [])
theorem pn_X1_mark : plainName (kX1_mark : jM).1.cls = true := by decide +kernel
theorem mo_X1_mark : jmV kX1_mark 2 := ⟨rfl, j_tb (List.mem_of_getElem? (i := 73) (by decide +kernel)), j_tb (List.mem_of_getElem? (i := 71) (by decide +kernel)), j_tb (List.mem_of_getElem? (i := 72) (by decide +kernel)), j_tb (List.mem_of_getElem? (i := 5) (by decide +kernel)), by decide +kernel, by decide +kernel⟩
abbrev kX1_unmark : jM := (yX1_unmark, cX1_unmark, 3, none, [])
theorem pn_X1_unmark : plainName (kX1_unmark : jM).1.cls = true := by decide +kernel
theorem mo_X1_unmark : jmV kX1_unmark 1 := ⟨rfl, j_tb (List.mem_of_getElem? (i := 745) (by decide +kernel)), j_tb (List.mem_of_getElem? (i := 743) (by decide +kernel)), j_tb (List.mem_of_getElem? (i := 744) (by decide +kernel)), j_tb (List.mem_of_getElem? (i := 5) (by decide +kernel)), by decide +kernel, by decide +kernel⟩
abbrev kX1_valueHoldingAt : jM := (yX1_valueHoldingAt, cX1_valueHoldingAt, 4, some .int, [])
theorem pn_X1_valueHoldingAt : plainName (kX1_valueHoldingAt : jM).1.cls = true := by decide +kernel
theorem mo_X1_valueHoldingAt : jmV kX1_valueHoldingAt 1 := ⟨rfl, j_tb (List.mem_of_getElem? (i := 525) (by decide +kernel)), j_tb (List.mem_of_getElem? (i := 523) (by decide +kernel)), j_tb (List.mem_of_getElem? (i := 524) (by decide +kernel)), j_tb (List.mem_of_getElem? (i := 5) (by decide +kernel)), by decide +kernel, by decide +kernel⟩
abbrev kX1_takeFrom : jM := (yX1_takeFrom, cX1_takeFrom, 2, none, [])
theorem pn_X1_takeFrom : plainName (kX1_takeFrom : jM).1.cls = true := by decide +kernel
theorem mo_X1_takeFrom : jmV kX1_takeFrom 1 := ⟨rfl, j_tb (List.mem_of_getElem? (i := 693) (by decide +kernel)), j_tb (List.mem_of_getElem? (i := 691) (by decide +kernel)), j_tb (List.mem_of_getElem? (i := 692) (by decide +kernel)), j_tb (List.mem_of_getElem? (i := 5) (by decide +kernel)), by decide +kernel, by decide +kernel⟩
abbrev kX2_init : jM := (yX2_init, cX2_init, 1, none, [])
theorem pn_X2_init : plainName (kX2_init : jM).1.cls = true := by decide +kernel
theorem mo_X2_init : jmI kX2_init 0 := ⟨rfl, j_tb (List.mem_of_getElem? (i := 37) (by decide +kernel)), rfl, rfl, j_tb (List.mem_of_getElem? (i := 36) (by decide +kernel)), j_tb (List.mem_of_getElem? (i := 3) (by decide +kernel)), by decide +kernel, by decide +kernel⟩
abbrev kX2_scenes : jM := (yX2_scenes, cX2_scenes, 1, some .int, [])
theorem pn_X2_scenes : plainName (kX2_scenes : jM).1.cls = true := by decide +kernel
theorem mo_X2_scenes : jmV kX2_scenes 0 := ⟨rfl, j_tb (List.mem_of_getElem? (i := 411) (by decide +kernel)), j_tb (List.mem_of_getElem? (i := 409) (by decide +kernel)), j_tb (List.mem_of_getElem? (i := 410) (by decide +kernel)), j_tb (List.mem_of_getElem? (i := 3) (by decide +kernel)), by decide +kernel, by decide +kernel⟩
abbrev kX2_hasCue : jM := (yX2_hasCue, cX2_hasCue, 2, some .boolean, [])
theorem pn_X2_hasCue : plainName (kX2_hasCue : jM).1.cls = true := by decide +kernel
theorem mo_X2_hasCue : jmV kX2_hasCue 1 := ⟨rfl, j_tb (List.mem_of_getElem? (i := 442) (by decide +kernel)), j_tb (List.mem_of_getElem? (i := 440) (by decide +kernel)), j_tb (List.mem_of_getElem? (i := 441) (by decide +kernel)), j_tb (List.mem_of_getElem? (i := 3) (by decide +kernel)), by decide +kernel, by decide +kernel⟩
abbrev kX2_extend : jM := (yX2_extend, cX2_extend, 5, none, [])
theorem pn_X2_extend : plainName (kX2_extend : jM).1.cls = true := by decide +kernel
theorem mo_X2_extend : jmV kX2_extend 4 := ⟨rfl, j_tb (List.mem_of_getElem? (i := 699) (by decide +kernel)), j_tb (List.mem_of_getElem? (i := 697) (by decide +kernel)), j_tb (List.mem_of_getElem? (i := 698) (by decide +kernel)), j_tb (List.mem_of_getElem? (i := 3) (by decide +kernel)), by decide +kernel, by decide +kernel⟩
abbrev kX2_cutOut : jM := (yX2_cutOut, cX2_cutOut, 2, none, [])
theorem pn_X2_cutOut : plainName (kX2_cutOut : jM).1.cls = true := by decide +kernel
theorem mo_X2_cutOut : jmV kX2_cutOut 1 := ⟨rfl, j_tb (List.mem_of_getElem? (i := 716) (by decide +kernel)), j_tb (List.mem_of_getElem? (i := 714) (by decide +kernel)), j_tb (List.mem_of_getElem? (i := 715) (by decide +kernel)), j_tb (List.mem_of_getElem? (i := 3) (by decide +kernel)), by decide +kernel, by decide +kernel⟩
abbrev kX2_giveCue : jM := (yX2_giveCue, cX2_giveCue, 5, none, [])
theorem pn_X2_giveCue : plainName (kX2_giveCue : jM).1.cls = true := by decide +kernel
theorem mo_X2_giveCue : jmV kX2_giveCue 4 := ⟨rfl, j_tb (List.mem_of_getElem? (i := 776) (by decide +kernel)), j_tb (List.mem_of_getElem? (i := 774) (by decide +kernel)), j_tb (List.mem_of_getElem? (i := 775) (by decide +kernel)), j_tb (List.mem_of_getElem? (i := 3) (by decide +kernel)), by decide +kernel, by decide +kernel⟩
abbrev kX2_lostBetween : jM := (yX2_lostBetween, cX2_lostBetween, 9, some .int, [])
theorem pn_X2_lostBetween : plainName (kX2_lostBetween : jM).1.cls = true := by decide +kernel
theorem mo_X2_lostBetween : jmV kX2_lostBetween 2 := ⟨rfl, j_tb (List.mem_of_getElem? (i := 417) (by decide +kernel)), j_tb (List.mem_of_getElem? (i := 415) (by decide +kernel)), j_tb (List.mem_of_getElem? (i := 416) (by decide +kernel)), j_tb (List.mem_of_getElem? (i := 3) (by decide +kernel)), by decide +kernel, by decide +kernel⟩
abbrev kX2_footTime : jM := (yX2_footTime, cX2_footTime, 1, some .int, [])
theorem pn_X2_footTime : plainName (kX2_footTime : jM).1.cls = true := by decide +kernel
theorem mo_X2_footTime : jmS kX2_footTime 1 := ⟨rfl, j_tb (List.mem_of_getElem? (i := 432) (by decide +kernel)), j_tb (List.mem_of_getElem? (i := 431) (by decide +kernel)), j_tb (List.mem_of_getElem? (i := 3) (by decide +kernel)), by decide +kernel, by decide +kernel⟩
abbrev kX2_timeBetween : jM := (yX2_timeBetween, cX2_timeBetween, 9, some .int, [])
theorem pn_X2_timeBetween : plainName (kX2_timeBetween : jM).1.cls = true := by decide +kernel
theorem mo_X2_timeBetween : jmV kX2_timeBetween 3 := ⟨rfl, j_tb (List.mem_of_getElem? (i := 428) (by decide +kernel)), j_tb (List.mem_of_getElem? (i := 426) (by decide +kernel)), j_tb (List.mem_of_getElem? (i := 427) (by decide +kernel)), j_tb (List.mem_of_getElem? (i := 3) (by decide +kernel)), by decide +kernel, by decide +kernel⟩
abbrev kX2_takeFrom : jM := (yX2_takeFrom, cX2_takeFrom, 2, none, [])
theorem pn_X2_takeFrom : plainName (kX2_takeFrom : jM).1.cls = true := by decide +kernel
theorem mo_X2_takeFrom : jmV kX2_takeFrom 1 := ⟨rfl, j_tb (List.mem_of_getElem? (i := 684) (by decide +kernel)), j_tb (List.mem_of_getElem? (i := 682) (by decide +kernel)), j_tb (List.mem_of_getElem? (i := 683) (by decide +kernel)), j_tb (List.mem_of_getElem? (i := 3) (by decide +kernel)), by decide +kernel, by decide +kernel⟩
abbrev kX3_init : jM := (yX3_init, cX3_init, 2, none, [])
theorem pn_X3_init : plainName (kX3_init : jM).1.cls = true := by decide +kernel
theorem mo_X3_init : jmI kX3_init 1 := ⟨rfl, j_tb (List.mem_of_getElem? (i := 43) (by decide +kernel)), rfl, rfl, j_tb (List.mem_of_getElem? (i := 42) (by decide +kernel)), j_tb (List.mem_of_getElem? (i := 4) (by decide +kernel)), by decide +kernel, by decide +kernel⟩
abbrev kX3_size : jM := (yX3_size, cX3_size, 1, some .int, [])
theorem pn_X3_size : plainName (kX3_size : jM).1.cls = true := by decide +kernel
theorem mo_X3_size : jmV kX3_size 0 := ⟨rfl, j_tb (List.mem_of_getElem? (i := 81) (by decide +kernel)), j_tb (List.mem_of_getElem? (i := 79) (by decide +kernel)), j_tb (List.mem_of_getElem? (i := 80) (by decide +kernel)), j_tb (List.mem_of_getElem? (i := 4) (by decide +kernel)), by decide +kernel, by decide +kernel⟩
abbrev kX3_at : jM := (yX3_at, cX3_at, 2, some .int, [])
theorem pn_X3_at : plainName (kX3_at : jM).1.cls = true := by decide +kernel
theorem mo_X3_at : jmV kX3_at 1 := ⟨rfl, j_tb (List.mem_of_getElem? (i := 85) (by decide +kernel)), j_tb (List.mem_of_getElem? (i := 83) (by decide +kernel)), j_tb (List.mem_of_getElem? (i := 84) (by decide +kernel)), j_tb (List.mem_of_getElem? (i := 4) (by decide +kernel)), by decide +kernel, by decide +kernel⟩
abbrev kX3_put : jM := (yX3_put, cX3_put, 3, none, [])
theorem pn_X3_put : plainName (kX3_put : jM).1.cls = true := by decide +kernel
theorem mo_X3_put : jmV kX3_put 2 := ⟨rfl, j_tb (List.mem_of_getElem? (i := 93) (by decide +kernel)), j_tb (List.mem_of_getElem? (i := 91) (by decide +kernel)), j_tb (List.mem_of_getElem? (i := 92) (by decide +kernel)), j_tb (List.mem_of_getElem? (i := 4) (by decide +kernel)), by decide +kernel, by decide +kernel⟩
abbrev kX3_add : jM := (yX3_add, cX3_add, 2, none, [])
theorem pn_X3_add : plainName (kX3_add : jM).1.cls = true := by decide +kernel
theorem mo_X3_add : jmV kX3_add 1 := ⟨rfl, j_tb (List.mem_of_getElem? (i := 101) (by decide +kernel)), j_tb (List.mem_of_getElem? (i := 99) (by decide +kernel)), j_tb (List.mem_of_getElem? (i := 100) (by decide +kernel)), j_tb (List.mem_of_getElem? (i := 4) (by decide +kernel)), by decide +kernel, by decide +kernel⟩
abbrev kX3_insert : jM := (yX3_insert, cX3_insert, 4, none, [])
theorem pn_X3_insert : plainName (kX3_insert : jM).1.cls = true := by decide +kernel
theorem mo_X3_insert : jmV kX3_insert 2 := ⟨rfl, j_tb (List.mem_of_getElem? (i := 97) (by decide +kernel)), j_tb (List.mem_of_getElem? (i := 95) (by decide +kernel)), j_tb (List.mem_of_getElem? (i := 96) (by decide +kernel)), j_tb (List.mem_of_getElem? (i := 4) (by decide +kernel)), by decide +kernel, by decide +kernel⟩
abbrev kX3_remove : jM := (yX3_remove, cX3_remove, 3, none, [])
theorem pn_X3_remove : plainName (kX3_remove : jM).1.cls = true := by decide +kernel
theorem mo_X3_remove : jmV kX3_remove 1 := ⟨rfl, j_tb (List.mem_of_getElem? (i := 720) (by decide +kernel)), j_tb (List.mem_of_getElem? (i := 718) (by decide +kernel)), j_tb (List.mem_of_getElem? (i := 719) (by decide +kernel)), j_tb (List.mem_of_getElem? (i := 4) (by decide +kernel)), by decide +kernel, by decide +kernel⟩
abbrev kX3_clear : jM := (yX3_clear, cX3_clear, 1, none, [])
theorem pn_X3_clear : plainName (kX3_clear : jM).1.cls = true := by decide +kernel
theorem mo_X3_clear : jmV kX3_clear 0 := ⟨rfl, j_tb (List.mem_of_getElem? (i := 321) (by decide +kernel)), j_tb (List.mem_of_getElem? (i := 319) (by decide +kernel)), j_tb (List.mem_of_getElem? (i := 320) (by decide +kernel)), j_tb (List.mem_of_getElem? (i := 4) (by decide +kernel)), by decide +kernel, by decide +kernel⟩
abbrev kX3_takeFrom : jM := (yX3_takeFrom, cX3_takeFrom, 3, none, [])
theorem pn_X3_takeFrom : plainName (kX3_takeFrom : jM).1.cls = true := by decide +kernel
theorem mo_X3_takeFrom : jmV kX3_takeFrom 1 := ⟨rfl, j_tb (List.mem_of_getElem? (i := 688) (by decide +kernel)), j_tb (List.mem_of_getElem? (i := 686) (by decide +kernel)), j_tb (List.mem_of_getElem? (i := 687) (by decide +kernel)), j_tb (List.mem_of_getElem? (i := 4) (by decide +kernel)), by decide +kernel, by decide +kernel⟩
abbrev kX4_init : jM := (yX4_init, cX4_init, 1, none, [])
theorem pn_X4_init : plainName (kX4_init : jM).1.cls = true := by decide +kernel
theorem mo_X4_init : jmI kX4_init 0 := ⟨rfl, j_tb (List.mem_of_getElem? (i := 177) (by decide +kernel)), rfl, rfl, j_tb (List.mem_of_getElem? (i := 176) (by decide +kernel)), j_tb (List.mem_of_getElem? (i := 6) (by decide +kernel)), by decide +kernel, by decide +kernel⟩
abbrev kX4_scenes : jM := (yX4_scenes, cX4_scenes, 1, some .int, [])
theorem pn_X4_scenes : plainName (kX4_scenes : jM).1.cls = true := by decide +kernel
theorem mo_X4_scenes : jmV kX4_scenes 0 := ⟨rfl, j_tb (List.mem_of_getElem? (i := 816) (by decide +kernel)), j_tb (List.mem_of_getElem? (i := 814) (by decide +kernel)), j_tb (List.mem_of_getElem? (i := 815) (by decide +kernel)), j_tb (List.mem_of_getElem? (i := 6) (by decide +kernel)), by decide +kernel, by decide +kernel⟩
abbrev kX4_begin : jM := (yX4_begin, cX4_begin, 1, none, [])
theorem pn_X4_begin : plainName (kX4_begin : jM).1.cls = true := by decide +kernel
theorem mo_X4_begin : jmV kX4_begin 0 := ⟨rfl, j_tb (List.mem_of_getElem? (i := 333) (by decide +kernel)), j_tb (List.mem_of_getElem? (i := 331) (by decide +kernel)), j_tb (List.mem_of_getElem? (i := 332) (by decide +kernel)), j_tb (List.mem_of_getElem? (i := 6) (by decide +kernel)), by decide +kernel, by decide +kernel⟩
abbrev kX4_beginScene : jM := (yX4_beginScene, cX4_beginScene, 1, none, [])
theorem pn_X4_beginScene : plainName (kX4_beginScene : jM).1.cls = true := by decide +kernel
theorem mo_X4_beginScene : jmV kX4_beginScene 0 := ⟨rfl, j_tb (List.mem_of_getElem? (i := 338) (by decide +kernel)), j_tb (List.mem_of_getElem? (i := 337) (by decide +kernel)), List.mem_append_left _ (by decide +kernel), j_tb (List.mem_of_getElem? (i := 6) (by decide +kernel)), by decide +kernel, by decide +kernel⟩
abbrev kX4_latest : jM := (yX4_latest, cX4_latest, 1, some .int, [])
theorem pn_X4_latest : plainName (kX4_latest : jM).1.cls = true := by decide +kernel
theorem mo_X4_latest : jmV kX4_latest 0 := ⟨rfl, j_tb (List.mem_of_getElem? (i := 357) (by decide +kernel)), j_tb (List.mem_of_getElem? (i := 356) (by decide +kernel)), List.mem_append_left _ (by decide +kernel), j_tb (List.mem_of_getElem? (i := 6) (by decide +kernel)), by decide +kernel, by decide +kernel⟩
abbrev kX4_isComplete : jM := (yX4_isComplete, cX4_isComplete, 1, some .boolean, [])
theorem pn_X4_isComplete : plainName (kX4_isComplete : jM).1.cls = true := by decide +kernel
theorem mo_X4_isComplete : jmV kX4_isComplete 0 := ⟨rfl, j_tb (List.mem_of_getElem? (i := 353) (by decide +kernel)), j_tb (List.mem_of_getElem? (i := 351) (by decide +kernel)), j_tb (List.mem_of_getElem? (i := 352) (by decide +kernel)), j_tb (List.mem_of_getElem? (i := 6) (by decide +kernel)), by decide +kernel, by decide +kernel⟩
abbrev kX4_read : jM := (yX4_read, cX4_read, 2, some .boolean, [])
theorem pn_X4_read : plainName (kX4_read : jM).1.cls = true := by decide +kernel
theorem mo_X4_read : jmV kX4_read 1 := ⟨rfl, j_tb (List.mem_of_getElem? (i := 345) (by decide +kernel)), j_tb (List.mem_of_getElem? (i := 343) (by decide +kernel)), j_tb (List.mem_of_getElem? (i := 344) (by decide +kernel)), j_tb (List.mem_of_getElem? (i := 6) (by decide +kernel)), by decide +kernel, by decide +kernel⟩
abbrev kX4_step : jM := (yX4_step, cX4_step, 3, some .boolean, [])
theorem pn_X4_step : plainName (kX4_step : jM).1.cls = true := by decide +kernel
theorem mo_X4_step : jmV kX4_step 2 := ⟨rfl, j_tb (List.mem_of_getElem? (i := 363) (by decide +kernel)), j_tb (List.mem_of_getElem? (i := 362) (by decide +kernel)), List.mem_append_left _ (by decide +kernel), j_tb (List.mem_of_getElem? (i := 6) (by decide +kernel)), by decide +kernel, by decide +kernel⟩
abbrev kX4_readComma : jM := (yX4_readComma, cX4_readComma, 1, some .boolean, [])
theorem pn_X4_readComma : plainName (kX4_readComma : jM).1.cls = true := by decide +kernel
theorem mo_X4_readComma : jmV kX4_readComma 0 := ⟨rfl, j_tb (List.mem_of_getElem? (i := 349) (by decide +kernel)), j_tb (List.mem_of_getElem? (i := 348) (by decide +kernel)), List.mem_append_left _ (by decide +kernel), j_tb (List.mem_of_getElem? (i := 6) (by decide +kernel)), by decide +kernel, by decide +kernel⟩
abbrev kX4_readAtSign : jM := (yX4_readAtSign, cX4_readAtSign, 1, some .boolean, [])
theorem pn_X4_readAtSign : plainName (kX4_readAtSign : jM).1.cls = true := by decide +kernel
theorem mo_X4_readAtSign : jmV kX4_readAtSign 0 := ⟨rfl, j_tb (List.mem_of_getElem? (i := 367) (by decide +kernel)), j_tb (List.mem_of_getElem? (i := 366) (by decide +kernel)), List.mem_append_left _ (by decide +kernel), j_tb (List.mem_of_getElem? (i := 6) (by decide +kernel)), by decide +kernel, by decide +kernel⟩
abbrev kX4_readDigit : jM := (yX4_readDigit, cX4_readDigit, 2, some .boolean, [])
theorem pn_X4_readDigit : plainName (kX4_readDigit : jM).1.cls = true := by decide +kernel
theorem mo_X4_readDigit : jmV kX4_readDigit 1 := ⟨rfl, j_tb (List.mem_of_getElem? (i := 372) (by decide +kernel)), j_tb (List.mem_of_getElem? (i := 371) (by decide +kernel)), List.mem_append_left _ (by decide +kernel), j_tb (List.mem_of_getElem? (i := 6) (by decide +kernel)), by decide +kernel, by decide +kernel⟩
abbrev kX4_grow : jM := (yX4_grow, cX4_grow, 7, some .boolean, [])
theorem pn_X4_grow : plainName (kX4_grow : jM).1.cls = true := by decide +kernel
theorem mo_X4_grow : jmV kX4_grow 4 := ⟨rfl, j_tb (List.mem_of_getElem? (i := 376) (by decide +kernel)), j_tb (List.mem_of_getElem? (i := 375) (by decide +kernel)), List.mem_append_left _ (by decide +kernel), j_tb (List.mem_of_getElem? (i := 6) (by decide +kernel)), by decide +kernel, by decide +kernel⟩
abbrev kX5_init : jM := (yX5_init, cX5_init, 1, none, [])
theorem pn_X5_init : plainName (kX5_init : jM).1.cls = true := by decide +kernel
theorem mo_X5_init : jmI kX5_init 0 := ⟨rfl, j_tb (List.mem_of_getElem? (i := 31) (by decide +kernel)), rfl, rfl, j_tb (List.mem_of_getElem? (i := 30) (by decide +kernel)), j_tb (List.mem_of_getElem? (i := 2) (by decide +kernel)), by decide +kernel, by decide +kernel⟩
abbrev kX5_reelAt : jM := (yX5_reelAt, cX5_reelAt, 2, some (.object "CueSheets$Reel"), [])
theorem pn_X5_reelAt : plainName (kX5_reelAt : jM).1.cls = true := by decide +kernel
theorem mo_X5_reelAt : jmV kX5_reelAt 1 := ⟨rfl, j_tb (List.mem_of_getElem? (i := 398) (by decide +kernel)), j_tb (List.mem_of_getElem? (i := 396) (by decide +kernel)), j_tb (List.mem_of_getElem? (i := 397) (by decide +kernel)), j_tb (List.mem_of_getElem? (i := 2) (by decide +kernel)), by decide +kernel, by decide +kernel⟩
abbrev kX5_pieces : jM := (yX5_pieces, cX5_pieces, 1, some .int, [])
theorem pn_X5_pieces : plainName (kX5_pieces : jM).1.cls = true := by decide +kernel
theorem mo_X5_pieces : jmV kX5_pieces 0 := ⟨rfl, j_tb (List.mem_of_getElem? (i := 389) (by decide +kernel)), j_tb (List.mem_of_getElem? (i := 387) (by decide +kernel)), j_tb (List.mem_of_getElem? (i := 388) (by decide +kernel)), j_tb (List.mem_of_getElem? (i := 2) (by decide +kernel)), by decide +kernel, by decide +kernel⟩
abbrev kX5_hasPiece : jM := (yX5_hasPiece, cX5_hasPiece, 2, some .boolean, [])
theorem pn_X5_hasPiece : plainName (kX5_hasPiece : jM).1.cls = true := by decide +kernel
theorem mo_X5_hasPiece : jmV kX5_hasPiece 1 := ⟨rfl, j_tb (List.mem_of_getElem? (i := 770) (by decide +kernel)), j_tb (List.mem_of_getElem? (i := 768) (by decide +kernel)), j_tb (List.mem_of_getElem? (i := 769) (by decide +kernel)), j_tb (List.mem_of_getElem? (i := 2) (by decide +kernel)), by decide +kernel, by decide +kernel⟩
abbrev kX5_cuesWith : jM := (yX5_cuesWith, cX5_cuesWith, 6, some .int, [])
theorem pn_X5_cuesWith : plainName (kX5_cuesWith : jM).1.cls = true := by decide +kernel
theorem mo_X5_cuesWith : jmV kX5_cuesWith 1 := ⟨rfl, j_tb (List.mem_of_getElem? (i := 472) (by decide +kernel)), j_tb (List.mem_of_getElem? (i := 470) (by decide +kernel)), j_tb (List.mem_of_getElem? (i := 471) (by decide +kernel)), j_tb (List.mem_of_getElem? (i := 2) (by decide +kernel)), by decide +kernel, by decide +kernel⟩
abbrev kX5_playTime : jM := (yX5_playTime, cX5_playTime, 4, some .int, [])
theorem pn_X5_playTime : plainName (kX5_playTime : jM).1.cls = true := by decide +kernel
theorem mo_X5_playTime : jmV kX5_playTime 3 := ⟨rfl, j_tb (List.mem_of_getElem? (i := 447) (by decide +kernel)), j_tb (List.mem_of_getElem? (i := 445) (by decide +kernel)), j_tb (List.mem_of_getElem? (i := 446) (by decide +kernel)), j_tb (List.mem_of_getElem? (i := 2) (by decide +kernel)), by decide +kernel, by decide +kernel⟩
abbrev kX5_timeAtPace : jM := (yX5_timeAtPace, cX5_timeAtPace, 2, some .int, [])
theorem pn_X5_timeAtPace : plainName (kX5_timeAtPace : jM).1.cls = true := by decide +kernel
theorem mo_X5_timeAtPace : jmS kX5_timeAtPace 2 := ⟨rfl, j_tb (List.mem_of_getElem? (i := 451) (by decide +kernel)), j_tb (List.mem_of_getElem? (i := 450) (by decide +kernel)), j_tb (List.mem_of_getElem? (i := 2) (by decide +kernel)), by decide +kernel, by decide +kernel⟩
abbrev kX5_isBad : jM := (yX5_isBad, cX5_isBad, 2, some .boolean, [])
theorem pn_X5_isBad : plainName (kX5_isBad : jM).1.cls = true := by decide +kernel
theorem mo_X5_isBad : jmV kX5_isBad 1 := ⟨rfl, j_tb (List.mem_of_getElem? (i := 458) (by decide +kernel)), j_tb (List.mem_of_getElem? (i := 456) (by decide +kernel)), j_tb (List.mem_of_getElem? (i := 457) (by decide +kernel)), j_tb (List.mem_of_getElem? (i := 2) (by decide +kernel)), by decide +kernel, by decide +kernel⟩
abbrev kX5_takeFrom : jM := (yX5_takeFrom, cX5_takeFrom, 2, none, [])
theorem pn_X5_takeFrom : plainName (kX5_takeFrom : jM).1.cls = true := by decide +kernel
theorem mo_X5_takeFrom : jmV kX5_takeFrom 1 := ⟨rfl, j_tb (List.mem_of_getElem? (i := 680) (by decide +kernel)), j_tb (List.mem_of_getElem? (i := 678) (by decide +kernel)), j_tb (List.mem_of_getElem? (i := 679) (by decide +kernel)), j_tb (List.mem_of_getElem? (i := 2) (by decide +kernel)), by decide +kernel, by decide +kernel⟩
abbrev kX6_init : jM := (yX6_init, cX6_init, 1, none, [])
theorem pn_X6_init : plainName (kX6_init : jM).1.cls = true := by decide +kernel
theorem mo_X6_init : jmI kX6_init 0 := ⟨rfl, j_tb (List.mem_of_getElem? (i := 205) (by decide +kernel)), rfl, rfl, j_tb (List.mem_of_getElem? (i := 204) (by decide +kernel)), j_tb (List.mem_of_getElem? (i := 7) (by decide +kernel)), by decide +kernel, by decide +kernel⟩
abbrev kX6_measure : jM := (yX6_measure, cX6_measure, 8, none, [])
theorem pn_X6_measure : plainName (kX6_measure : jM).1.cls = true := by decide +kernel
theorem mo_X6_measure : jmV kX6_measure 3 := ⟨rfl, j_tb (List.mem_of_getElem? (i := 402) (by decide +kernel)), j_tb (List.mem_of_getElem? (i := 400) (by decide +kernel)), j_tb (List.mem_of_getElem? (i := 401) (by decide +kernel)), j_tb (List.mem_of_getElem? (i := 7) (by decide +kernel)), by decide +kernel, by decide +kernel⟩
abbrev kX6_clear : jM := (yX6_clear, cX6_clear, 1, none, [])
theorem pn_X6_clear : plainName (kX6_clear : jM).1.cls = true := by decide +kernel
theorem mo_X6_clear : jmV kX6_clear 0 := ⟨rfl, j_tb (List.mem_of_getElem? (i := 406) (by decide +kernel)), j_tb (List.mem_of_getElem? (i := 405) (by decide +kernel)), List.mem_append_left _ (by decide +kernel), j_tb (List.mem_of_getElem? (i := 7) (by decide +kernel)), by decide +kernel, by decide +kernel⟩
abbrev kX6_measureCue : jM := (yX6_measureCue, cX6_measureCue, 6, none, [])
theorem pn_X6_measureCue : plainName (kX6_measureCue : jM).1.cls = true := by decide +kernel
theorem mo_X6_measureCue : jmV kX6_measureCue 3 := ⟨rfl, j_tb (List.mem_of_getElem? (i := 437) (by decide +kernel)), j_tb (List.mem_of_getElem? (i := 436) (by decide +kernel)), List.mem_append_left _ (by decide +kernel), j_tb (List.mem_of_getElem? (i := 7) (by decide +kernel)), by decide +kernel, by decide +kernel⟩
abbrev kX6_roomForCue : jM := (yX6_roomForCue, cX6_roomForCue, 2, some .int, [])
theorem pn_X6_roomForCue : plainName (kX6_roomForCue : jM).1.cls = true := by decide +kernel
theorem mo_X6_roomForCue : jmV kX6_roomForCue 1 := ⟨rfl, j_tb (List.mem_of_getElem? (i := 500) (by decide +kernel)), j_tb (List.mem_of_getElem? (i := 498) (by decide +kernel)), j_tb (List.mem_of_getElem? (i := 499) (by decide +kernel)), j_tb (List.mem_of_getElem? (i := 7) (by decide +kernel)), by decide +kernel, by decide +kernel⟩
abbrev kX6_silence : jM := (yX6_silence, cX6_silence, 4, some .int, [])
theorem pn_X6_silence : plainName (kX6_silence : jM).1.cls = true := by decide +kernel
theorem mo_X6_silence : jmV kX6_silence 1 := ⟨rfl, j_tb (List.mem_of_getElem? (i := 489) (by decide +kernel)), j_tb (List.mem_of_getElem? (i := 487) (by decide +kernel)), j_tb (List.mem_of_getElem? (i := 488) (by decide +kernel)), j_tb (List.mem_of_getElem? (i := 7) (by decide +kernel)), by decide +kernel, by decide +kernel⟩
abbrev kX7_init : jM := (yX7_init, cX7_init, 2, none, [])
theorem pn_X7_init : plainName (kX7_init : jM).1.cls = true := by decide +kernel
theorem mo_X7_init : jmI kX7_init 0 := ⟨rfl, j_tb (List.mem_of_getElem? (i := 23) (by decide +kernel)), rfl, rfl, j_tb (List.mem_of_getElem? (i := 22) (by decide +kernel)), j_tb (List.mem_of_getElem? (i := 1) (by decide +kernel)), by decide +kernel, by decide +kernel⟩
abbrev kX7_addScene : jM := (yX7_addScene, cX7_addScene, 4, some .int, [])
theorem pn_X7_addScene : plainName (kX7_addScene : jM).1.cls = true := by decide +kernel
theorem mo_X7_addScene : jmV kX7_addScene 2 := ⟨rfl, j_tb (List.mem_of_getElem? (i := 561) (by decide +kernel)), j_tb (List.mem_of_getElem? (i := 559) (by decide +kernel)), j_tb (List.mem_of_getElem? (i := 560) (by decide +kernel)), j_tb (List.mem_of_getElem? (i := 1) (by decide +kernel)), by decide +kernel, by decide +kernel⟩
abbrev kX7_removeScene : jM := (yX7_removeScene, cX7_removeScene, 4, some .int, [])
theorem pn_X7_removeScene : plainName (kX7_removeScene : jM).1.cls = true := by decide +kernel
theorem mo_X7_removeScene : jmV kX7_removeScene 2 := ⟨rfl, j_tb (List.mem_of_getElem? (i := 707) (by decide +kernel)), j_tb (List.mem_of_getElem? (i := 705) (by decide +kernel)), j_tb (List.mem_of_getElem? (i := 706) (by decide +kernel)), j_tb (List.mem_of_getElem? (i := 1) (by decide +kernel)), by decide +kernel, by decide +kernel⟩
abbrev kX7_crank : jM := (yX7_crank, cX7_crank, 5, some .int, [])
theorem pn_X7_crank : plainName (kX7_crank : jM).1.cls = true := by decide +kernel
theorem mo_X7_crank : jmV kX7_crank 3 := ⟨rfl, j_tb (List.mem_of_getElem? (i := 727) (by decide +kernel)), j_tb (List.mem_of_getElem? (i := 725) (by decide +kernel)), j_tb (List.mem_of_getElem? (i := 726) (by decide +kernel)), j_tb (List.mem_of_getElem? (i := 1) (by decide +kernel)), by decide +kernel, by decide +kernel⟩
abbrev kX7_splice : jM := (yX7_splice, cX7_splice, 5, some .int, [])
theorem pn_X7_splice : plainName (kX7_splice : jM).1.cls = true := by decide +kernel
theorem mo_X7_splice : jmV kX7_splice 3 := ⟨rfl, j_tb (List.mem_of_getElem? (i := 740) (by decide +kernel)), j_tb (List.mem_of_getElem? (i := 738) (by decide +kernel)), j_tb (List.mem_of_getElem? (i := 739) (by decide +kernel)), j_tb (List.mem_of_getElem? (i := 1) (by decide +kernel)), by decide +kernel, by decide +kernel⟩
abbrev kX7_addPiece : jM := (yX7_addPiece, cX7_addPiece, 4, some .int, [])
theorem pn_X7_addPiece : plainName (kX7_addPiece : jM).1.cls = true := by decide +kernel
theorem mo_X7_addPiece : jmV kX7_addPiece 3 := ⟨rfl, j_tb (List.mem_of_getElem? (i := 753) (by decide +kernel)), j_tb (List.mem_of_getElem? (i := 751) (by decide +kernel)), j_tb (List.mem_of_getElem? (i := 752) (by decide +kernel)), j_tb (List.mem_of_getElem? (i := 1) (by decide +kernel)), by decide +kernel, by decide +kernel⟩
abbrev kX7_setCue : jM := (yX7_setCue, cX7_setCue, 7, some .int, [])
theorem pn_X7_setCue : plainName (kX7_setCue : jM).1.cls = true := by decide +kernel
theorem mo_X7_setCue : jmV kX7_setCue 5 := ⟨rfl, j_tb (List.mem_of_getElem? (i := 762) (by decide +kernel)), j_tb (List.mem_of_getElem? (i := 760) (by decide +kernel)), j_tb (List.mem_of_getElem? (i := 761) (by decide +kernel)), j_tb (List.mem_of_getElem? (i := 1) (by decide +kernel)), by decide +kernel, by decide +kernel⟩
abbrev kX7_fit : jM := (yX7_fit, cX7_fit, 5, some .int, [])
theorem pn_X7_fit : plainName (kX7_fit : jM).1.cls = true := by decide +kernel
theorem mo_X7_fit : jmV kX7_fit 1 := ⟨rfl, j_tb (List.mem_of_getElem? (i := 784) (by decide +kernel)), j_tb (List.mem_of_getElem? (i := 782) (by decide +kernel)), j_tb (List.mem_of_getElem? (i := 783) (by decide +kernel)), j_tb (List.mem_of_getElem? (i := 1) (by decide +kernel)), by decide +kernel, by decide +kernel⟩
abbrev kX7_set : jM := (yX7_set, cX7_set, 4, some .int, [])
theorem pn_X7_set : plainName (kX7_set : jM).1.cls = true := by decide +kernel
theorem mo_X7_set : jmV kX7_set 2 := ⟨rfl, j_tb (List.mem_of_getElem? (i := 795) (by decide +kernel)), j_tb (List.mem_of_getElem? (i := 793) (by decide +kernel)), j_tb (List.mem_of_getElem? (i := 794) (by decide +kernel)), j_tb (List.mem_of_getElem? (i := 1) (by decide +kernel)), by decide +kernel, by decide +kernel⟩
abbrev kX7_append : jM := (yX7_append, cX7_append, 2, some .int, [])
theorem pn_X7_append : plainName (kX7_append : jM).1.cls = true := by decide +kernel
theorem mo_X7_append : jmV kX7_append 1 := ⟨rfl, j_tb (List.mem_of_getElem? (i := 802) (by decide +kernel)), j_tb (List.mem_of_getElem? (i := 800) (by decide +kernel)), j_tb (List.mem_of_getElem? (i := 801) (by decide +kernel)), j_tb (List.mem_of_getElem? (i := 1) (by decide +kernel)), by decide +kernel, by decide +kernel⟩
abbrev kX7_clearBuffer : jM := (yX7_clearBuffer, cX7_clearBuffer, 2, some .int, [])
theorem pn_X7_clearBuffer : plainName (kX7_clearBuffer : jM).1.cls = true := by decide +kernel
theorem mo_X7_clearBuffer : jmV kX7_clearBuffer 0 := ⟨rfl, j_tb (List.mem_of_getElem? (i := 316) (by decide +kernel)), j_tb (List.mem_of_getElem? (i := 314) (by decide +kernel)), j_tb (List.mem_of_getElem? (i := 315) (by decide +kernel)), j_tb (List.mem_of_getElem? (i := 1) (by decide +kernel)), by decide +kernel, by decide +kernel⟩
abbrev kX7_firstError : jM := (yX7_firstError, cX7_firstError, 1, some .int, [])
theorem pn_X7_firstError : plainName (kX7_firstError : jM).1.cls = true := by decide +kernel
theorem mo_X7_firstError : jmV kX7_firstError 0 := ⟨rfl, j_tb (List.mem_of_getElem? (i := 325) (by decide +kernel)), j_tb (List.mem_of_getElem? (i := 323) (by decide +kernel)), j_tb (List.mem_of_getElem? (i := 324) (by decide +kernel)), j_tb (List.mem_of_getElem? (i := 1) (by decide +kernel)), by decide +kernel, by decide +kernel⟩
abbrev kX7_load : jM := (yX7_load, cX7_load, 4, some .int, [])
theorem pn_X7_load : plainName (kX7_load : jM).1.cls = true := by decide +kernel
theorem mo_X7_load : jmV kX7_load 1 := ⟨rfl, j_tb (List.mem_of_getElem? (i := 810) (by decide +kernel)), j_tb (List.mem_of_getElem? (i := 808) (by decide +kernel)), j_tb (List.mem_of_getElem? (i := 809) (by decide +kernel)), j_tb (List.mem_of_getElem? (i := 1) (by decide +kernel)), by decide +kernel, by decide +kernel⟩
abbrev kX7_undo : jM := (yX7_undo, cX7_undo, 2, some .int, [])
theorem pn_X7_undo : plainName (kX7_undo : jM).1.cls = true := by decide +kernel
theorem mo_X7_undo : jmV kX7_undo 0 := ⟨rfl, j_tb (List.mem_of_getElem? (i := 828) (by decide +kernel)), j_tb (List.mem_of_getElem? (i := 826) (by decide +kernel)), j_tb (List.mem_of_getElem? (i := 827) (by decide +kernel)), j_tb (List.mem_of_getElem? (i := 1) (by decide +kernel)), by decide +kernel, by decide +kernel⟩
abbrev kX7_scene : jM := (yX7_scene, cX7_scene, 5, some .int, [])
theorem pn_X7_scene : plainName (kX7_scene : jM).1.cls = true := by decide +kernel
theorem mo_X7_scene : jmV kX7_scene 3 := ⟨rfl, j_tb (List.mem_of_getElem? (i := 836) (by decide +kernel)), j_tb (List.mem_of_getElem? (i := 834) (by decide +kernel)), j_tb (List.mem_of_getElem? (i := 835) (by decide +kernel)), j_tb (List.mem_of_getElem? (i := 1) (by decide +kernel)), by decide +kernel, by decide +kernel⟩
abbrev kX7_reel : jM := (yX7_reel, cX7_reel, 4, some .int, [])
theorem pn_X7_reel : plainName (kX7_reel : jM).1.cls = true := by decide +kernel
theorem mo_X7_reel : jmV kX7_reel 2 := ⟨rfl, j_tb (List.mem_of_getElem? (i := 843) (by decide +kernel)), j_tb (List.mem_of_getElem? (i := 841) (by decide +kernel)), j_tb (List.mem_of_getElem? (i := 842) (by decide +kernel)), j_tb (List.mem_of_getElem? (i := 1) (by decide +kernel)), by decide +kernel, by decide +kernel⟩
abbrev kX7_speedAt : jM := (yX7_speedAt, cX7_speedAt, 3, some .int, [])
theorem pn_X7_speedAt : plainName (kX7_speedAt : jM).1.cls = true := by decide +kernel
theorem mo_X7_speedAt : jmV kX7_speedAt 2 := ⟨rfl, j_tb (List.mem_of_getElem? (i := 850) (by decide +kernel)), j_tb (List.mem_of_getElem? (i := 848) (by decide +kernel)), j_tb (List.mem_of_getElem? (i := 849) (by decide +kernel)), j_tb (List.mem_of_getElem? (i := 1) (by decide +kernel)), by decide +kernel, by decide +kernel⟩
abbrev kX7_piece : jM := (yX7_piece, cX7_piece, 3, some .int, [])
theorem pn_X7_piece : plainName (kX7_piece : jM).1.cls = true := by decide +kernel
theorem mo_X7_piece : jmV kX7_piece 2 := ⟨rfl, j_tb (List.mem_of_getElem? (i := 857) (by decide +kernel)), j_tb (List.mem_of_getElem? (i := 855) (by decide +kernel)), j_tb (List.mem_of_getElem? (i := 856) (by decide +kernel)), j_tb (List.mem_of_getElem? (i := 1) (by decide +kernel)), by decide +kernel, by decide +kernel⟩
abbrev kX7_count : jM := (yX7_count, cX7_count, 2, some .int, [])
theorem pn_X7_count : plainName (kX7_count : jM).1.cls = true := by decide +kernel
theorem mo_X7_count : jmV kX7_count 1 := ⟨rfl, j_tb (List.mem_of_getElem? (i := 864) (by decide +kernel)), j_tb (List.mem_of_getElem? (i := 862) (by decide +kernel)), j_tb (List.mem_of_getElem? (i := 863) (by decide +kernel)), j_tb (List.mem_of_getElem? (i := 1) (by decide +kernel)), by decide +kernel, by decide +kernel⟩
abbrev kX7_bestCue : jM := (yX7_bestCue, cX7_bestCue, 4, some .int, [])
theorem pn_X7_bestCue : plainName (kX7_bestCue : jM).1.cls = true := by decide +kernel
theorem mo_X7_bestCue : jmV kX7_bestCue 3 := ⟨rfl, j_tb (List.mem_of_getElem? (i := 871) (by decide +kernel)), j_tb (List.mem_of_getElem? (i := 869) (by decide +kernel)), j_tb (List.mem_of_getElem? (i := 870) (by decide +kernel)), j_tb (List.mem_of_getElem? (i := 1) (by decide +kernel)), by decide +kernel, by decide +kernel⟩
abbrev kX7_bestPiece : jM := (yX7_bestPiece, cX7_bestPiece, 3, some .int, [])
theorem pn_X7_bestPiece : plainName (kX7_bestPiece : jM).1.cls = true := by decide +kernel
theorem mo_X7_bestPiece : jmV kX7_bestPiece 2 := ⟨rfl, j_tb (List.mem_of_getElem? (i := 878) (by decide +kernel)), j_tb (List.mem_of_getElem? (i := 876) (by decide +kernel)), j_tb (List.mem_of_getElem? (i := 877) (by decide +kernel)), j_tb (List.mem_of_getElem? (i := 1) (by decide +kernel)), by decide +kernel, by decide +kernel⟩
abbrev kX7_ifCranked : jM := (yX7_ifCranked, cX7_ifCranked, 3, some .int, [])
theorem pn_X7_ifCranked : plainName (kX7_ifCranked : jM).1.cls = true := by decide +kernel
theorem mo_X7_ifCranked : jmV kX7_ifCranked 2 := ⟨rfl, j_tb (List.mem_of_getElem? (i := 885) (by decide +kernel)), j_tb (List.mem_of_getElem? (i := 883) (by decide +kernel)), j_tb (List.mem_of_getElem? (i := 884) (by decide +kernel)), j_tb (List.mem_of_getElem? (i := 1) (by decide +kernel)), by decide +kernel, by decide +kernel⟩
abbrev kX7_bestSpeed : jM := (yX7_bestSpeed, cX7_bestSpeed, 2, some .int, [])
theorem pn_X7_bestSpeed : plainName (kX7_bestSpeed : jM).1.cls = true := by decide +kernel
theorem mo_X7_bestSpeed : jmV kX7_bestSpeed 1 := ⟨rfl, j_tb (List.mem_of_getElem? (i := 892) (by decide +kernel)), j_tb (List.mem_of_getElem? (i := 890) (by decide +kernel)), j_tb (List.mem_of_getElem? (i := 891) (by decide +kernel)), j_tb (List.mem_of_getElem? (i := 1) (by decide +kernel)), by decide +kernel, by decide +kernel⟩
abbrev kX7_offShare : jM := (yX7_offShare, cX7_offShare, 2, some .float, [])
theorem pn_X7_offShare : plainName (kX7_offShare : jM).1.cls = true := by decide +kernel
theorem mo_X7_offShare : jmV kX7_offShare 1 := ⟨rfl, j_tb (List.mem_of_getElem? (i := 899) (by decide +kernel)), j_tb (List.mem_of_getElem? (i := 897) (by decide +kernel)), j_tb (List.mem_of_getElem? (i := 898) (by decide +kernel)), j_tb (List.mem_of_getElem? (i := 1) (by decide +kernel)), by decide +kernel, by decide +kernel⟩
abbrev kX7_meanSpeed : jM := (yX7_meanSpeed, cX7_meanSpeed, 2, some .double, [])
theorem pn_X7_meanSpeed : plainName (kX7_meanSpeed : jM).1.cls = true := by decide +kernel
theorem mo_X7_meanSpeed : jmV kX7_meanSpeed 1 := ⟨rfl, j_tb (List.mem_of_getElem? (i := 906) (by decide +kernel)), j_tb (List.mem_of_getElem? (i := 904) (by decide +kernel)), j_tb (List.mem_of_getElem? (i := 905) (by decide +kernel)), j_tb (List.mem_of_getElem? (i := 1) (by decide +kernel)), by decide +kernel, by decide +kernel⟩
abbrev kX7_digest : jM := (yX7_digest, cX7_digest, 5, some .long, [])
theorem pn_X7_digest : plainName (kX7_digest : jM).1.cls = true := by decide +kernel
theorem mo_X7_digest : jmV kX7_digest 0 := ⟨rfl, j_tb (List.mem_of_getElem? (i := 380) (by decide +kernel)), j_tb (List.mem_of_getElem? (i := 378) (by decide +kernel)), j_tb (List.mem_of_getElem? (i := 379) (by decide +kernel)), j_tb (List.mem_of_getElem? (i := 1) (by decide +kernel)), by decide +kernel, by decide +kernel⟩
abbrev kX7_requireReel : jM := (yX7_requireReel, cX7_requireReel, 2, none, [])
theorem pn_X7_requireReel : plainName (kX7_requireReel : jM).1.cls = true := by decide +kernel
theorem mo_X7_requireReel : jmV kX7_requireReel 1 := ⟨rfl, j_tb (List.mem_of_getElem? (i := 565) (by decide +kernel)), j_tb (List.mem_of_getElem? (i := 564) (by decide +kernel)), List.mem_append_left _ (by decide +kernel), j_tb (List.mem_of_getElem? (i := 1) (by decide +kernel)), by decide +kernel, by decide +kernel⟩
abbrev kX7_requireScene : jM := (yX7_requireScene, cX7_requireScene, 3, none, [])
theorem pn_X7_requireScene : plainName (kX7_requireScene : jM).1.cls = true := by decide +kernel
theorem mo_X7_requireScene : jmV kX7_requireScene 2 := ⟨rfl, j_tb (List.mem_of_getElem? (i := 711) (by decide +kernel)), j_tb (List.mem_of_getElem? (i := 710) (by decide +kernel)), List.mem_append_left _ (by decide +kernel), j_tb (List.mem_of_getElem? (i := 1) (by decide +kernel)), by decide +kernel, by decide +kernel⟩
abbrev kX7_requirePiece : jM := (yX7_requirePiece, cX7_requirePiece, 2, none, [])
theorem pn_X7_requirePiece : plainName (kX7_requirePiece : jM).1.cls = true := by decide +kernel
theorem mo_X7_requirePiece : jmV kX7_requirePiece 1 := ⟨rfl, j_tb (List.mem_of_getElem? (i := 766) (by decide +kernel)), j_tb (List.mem_of_getElem? (i := 765) (by decide +kernel)), List.mem_append_left _ (by decide +kernel), j_tb (List.mem_of_getElem? (i := 1) (by decide +kernel)), by decide +kernel, by decide +kernel⟩
abbrev kX7_requireRange : jM := (yX7_requireRange, cX7_requireRange, 3, none, [])
theorem pn_X7_requireRange : plainName (kX7_requireRange : jM).1.cls = true := by decide +kernel
theorem mo_X7_requireRange : jmS kX7_requireRange 3 := ⟨rfl, j_tb (List.mem_of_getElem? (i := 636) (by decide +kernel)), j_tb (List.mem_of_getElem? (i := 635) (by decide +kernel)), j_tb (List.mem_of_getElem? (i := 1) (by decide +kernel)), by decide +kernel, by decide +kernel⟩
abbrev kX7_save : jM := (yX7_save, cX7_save, 2, none, [])
theorem pn_X7_save : plainName (kX7_save : jM).1.cls = true := by decide +kernel
theorem mo_X7_save : jmV kX7_save 0 := ⟨rfl, j_tb (List.mem_of_getElem? (i := 672) (by decide +kernel)), j_tb (List.mem_of_getElem? (i := 671) (by decide +kernel)), List.mem_append_left _ (by decide +kernel), j_tb (List.mem_of_getElem? (i := 1) (by decide +kernel)), by decide +kernel, by decide +kernel⟩
abbrev kX7_savedAt : jM := (yX7_savedAt, cX7_savedAt, 3, some (.object "CueSheets$State"), [])
theorem pn_X7_savedAt : plainName (kX7_savedAt : jM).1.cls = true := by decide +kernel
theorem mo_X7_savedAt : jmV kX7_savedAt 1 := ⟨rfl, j_tb (List.mem_of_getElem? (i := 676) (by decide +kernel)), j_tb (List.mem_of_getElem? (i := 675) (by decide +kernel)), List.mem_append_left _ (by decide +kernel), j_tb (List.mem_of_getElem? (i := 1) (by decide +kernel)), by decide +kernel, by decide +kernel⟩
abbrev kX7_readBuffer : jM := (yX7_readBuffer, cX7_readBuffer, 2, some .int, [])
theorem pn_X7_readBuffer : plainName (kX7_readBuffer : jM).1.cls = true := by decide +kernel
theorem mo_X7_readBuffer : jmV kX7_readBuffer 0 := ⟨rfl, j_tb (List.mem_of_getElem? (i := 329) (by decide +kernel)), j_tb (List.mem_of_getElem? (i := 328) (by decide +kernel)), List.mem_append_left _ (by decide +kernel), j_tb (List.mem_of_getElem? (i := 1) (by decide +kernel)), by decide +kernel, by decide +kernel⟩
abbrev kX7_hasPiecesThatWereRead : jM := (yX7_hasPiecesThatWereRead, cX7_hasPiecesThatWereRead, 3, some .boolean, [])
theorem pn_X7_hasPiecesThatWereRead : plainName (kX7_hasPiecesThatWereRead : jM).1.cls = true := by decide +kernel
theorem mo_X7_hasPiecesThatWereRead : jmV kX7_hasPiecesThatWereRead 0 := ⟨rfl, j_tb (List.mem_of_getElem? (i := 820) (by decide +kernel)), j_tb (List.mem_of_getElem? (i := 819) (by decide +kernel)), List.mem_append_left _ (by decide +kernel), j_tb (List.mem_of_getElem? (i := 1) (by decide +kernel)), by decide +kernel, by decide +kernel⟩
abbrev kX7_fitScene : jM := (yX7_fitScene, cX7_fitScene, 5, some .boolean, [])
theorem pn_X7_fitScene : plainName (kX7_fitScene : jM).1.cls = true := by decide +kernel
theorem mo_X7_fitScene : jmV kX7_fitScene 2 := ⟨rfl, j_tb (List.mem_of_getElem? (i := 788) (by decide +kernel)), j_tb (List.mem_of_getElem? (i := 787) (by decide +kernel)), List.mem_append_left _ (by decide +kernel), j_tb (List.mem_of_getElem? (i := 1) (by decide +kernel)), by decide +kernel, by decide +kernel⟩
abbrev kX7_pieceForRoom : jM := (yX7_pieceForRoom, cX7_pieceForRoom, 5, some .int, [])
theorem pn_X7_pieceForRoom : plainName (kX7_pieceForRoom : jM).1.cls = true := by decide +kernel
theorem mo_X7_pieceForRoom : jmV kX7_pieceForRoom 1 := ⟨rfl, j_tb (List.mem_of_getElem? (i := 504) (by decide +kernel)), j_tb (List.mem_of_getElem? (i := 503) (by decide +kernel)), List.mem_append_left _ (by decide +kernel), j_tb (List.mem_of_getElem? (i := 1) (by decide +kernel)), by decide +kernel, by decide +kernel⟩
abbrev kX7_speedForReel : jM := (yX7_speedForReel, cX7_speedForReel, 5, some .int, [])
theorem pn_X7_speedForReel : plainName (kX7_speedForReel : jM).1.cls = true := by decide +kernel
theorem mo_X7_speedForReel : jmV kX7_speedForReel 1 := ⟨rfl, j_tb (List.mem_of_getElem? (i := 529) (by decide +kernel)), j_tb (List.mem_of_getElem? (i := 528) (by decide +kernel)), List.mem_append_left _ (by decide +kernel), j_tb (List.mem_of_getElem? (i := 1) (by decide +kernel)), by decide +kernel, by decide +kernel⟩
abbrev kX7_sceneProperty : jM := (yX7_sceneProperty, cX7_sceneProperty, 4, some .int, [])
theorem pn_X7_sceneProperty : plainName (kX7_sceneProperty : jM).1.cls = true := by decide +kernel
theorem mo_X7_sceneProperty : jmV kX7_sceneProperty 3 := ⟨rfl, j_tb (List.mem_of_getElem? (i := 494) (by decide +kernel)), j_tb (List.mem_of_getElem? (i := 493) (by decide +kernel)), List.mem_append_left _ (by decide +kernel), j_tb (List.mem_of_getElem? (i := 1) (by decide +kernel)), by decide +kernel, by decide +kernel⟩
abbrev kX7_reelProperty : jM := (yX7_reelProperty, cX7_reelProperty, 3, some .int, [])
theorem pn_X7_reelProperty : plainName (kX7_reelProperty : jM).1.cls = true := by decide +kernel
theorem mo_X7_reelProperty : jmV kX7_reelProperty 2 := ⟨rfl, j_tb (List.mem_of_getElem? (i := 481) (by decide +kernel)), j_tb (List.mem_of_getElem? (i := 480) (by decide +kernel)), List.mem_append_left _ (by decide +kernel), j_tb (List.mem_of_getElem? (i := 1) (by decide +kernel)), by decide +kernel, by decide +kernel⟩
abbrev kX7_pieceProperty : jM := (yX7_pieceProperty, cX7_pieceProperty, 3, some .int, [])
theorem pn_X7_pieceProperty : plainName (kX7_pieceProperty : jM).1.cls = true := by decide +kernel
theorem mo_X7_pieceProperty : jmV kX7_pieceProperty 2 := ⟨rfl, j_tb (List.mem_of_getElem? (i := 468) (by decide +kernel)), j_tb (List.mem_of_getElem? (i := 467) (by decide +kernel)), List.mem_append_left _ (by decide +kernel), j_tb (List.mem_of_getElem? (i := 1) (by decide +kernel)), by decide +kernel, by decide +kernel⟩
abbrev kX7_countProperty : jM := (yX7_countProperty, cX7_countProperty, 2, some .int, [])
theorem pn_X7_countProperty : plainName (kX7_countProperty : jM).1.cls = true := by decide +kernel
theorem mo_X7_countProperty : jmV kX7_countProperty 1 := ⟨rfl, j_tb (List.mem_of_getElem? (i := 385) (by decide +kernel)), j_tb (List.mem_of_getElem? (i := 384) (by decide +kernel)), List.mem_append_left _ (by decide +kernel), j_tb (List.mem_of_getElem? (i := 1) (by decide +kernel)), by decide +kernel, by decide +kernel⟩
abbrev kX7_sumOverReels : jM := (yX7_sumOverReels, cX7_sumOverReels, 5, some .int, [])
theorem pn_X7_sumOverReels : plainName (kX7_sumOverReels : jM).1.cls = true := by decide +kernel
theorem mo_X7_sumOverReels : jmV kX7_sumOverReels 1 := ⟨rfl, j_tb (List.mem_of_getElem? (i := 394) (by decide +kernel)), j_tb (List.mem_of_getElem? (i := 393) (by decide +kernel)), List.mem_append_left _ (by decide +kernel), j_tb (List.mem_of_getElem? (i := 1) (by decide +kernel)), by decide +kernel, by decide +kernel⟩
abbrev kX7_measuredOffShare : jM := (yX7_measuredOffShare, cX7_measuredOffShare, 1, some .float, [])
theorem pn_X7_measuredOffShare : plainName (kX7_measuredOffShare : jM).1.cls = true := by decide +kernel
theorem mo_X7_measuredOffShare : jmV kX7_measuredOffShare 0 := ⟨rfl, j_tb (List.mem_of_getElem? (i := 533) (by decide +kernel)), j_tb (List.mem_of_getElem? (i := 532) (by decide +kernel)), List.mem_append_left _ (by decide +kernel), j_tb (List.mem_of_getElem? (i := 1) (by decide +kernel)), by decide +kernel, by decide +kernel⟩
abbrev kX7_measuredMeanSpeed : jM := (yX7_measuredMeanSpeed, cX7_measuredMeanSpeed, 3, some .double, [])
theorem pn_X7_measuredMeanSpeed : plainName (kX7_measuredMeanSpeed : jM).1.cls = true := by decide +kernel
theorem mo_X7_measuredMeanSpeed : jmV kX7_measuredMeanSpeed 0 := ⟨rfl, j_tb (List.mem_of_getElem? (i := 543) (by decide +kernel)), j_tb (List.mem_of_getElem? (i := 542) (by decide +kernel)), List.mem_append_left _ (by decide +kernel), j_tb (List.mem_of_getElem? (i := 1) (by decide +kernel)), by decide +kernel, by decide +kernel⟩
abbrev kX7_mix : jM := (yX7_mix, cX7_mix, 4, some .long, [])
theorem pn_X7_mix : plainName (kX7_mix : jM).1.cls = true := by decide +kernel
theorem mo_X7_mix : jmS kX7_mix 2 := ⟨rfl, j_tb (List.mem_of_getElem? (i := 463) (by decide +kernel)), j_tb (List.mem_of_getElem? (i := 462) (by decide +kernel)), j_tb (List.mem_of_getElem? (i := 1) (by decide +kernel)), by decide +kernel, by decide +kernel⟩
abbrev kX7_mixReel : jM := (yX7_mixReel, cX7_mixReel, 8, some .long, [])
theorem pn_X7_mixReel : plainName (kX7_mixReel : jM).1.cls = true := by decide +kernel
theorem mo_X7_mixReel : jmV kX7_mixReel 2 := ⟨rfl, j_tb (List.mem_of_getElem? (i := 477) (by decide +kernel)), j_tb (List.mem_of_getElem? (i := 476) (by decide +kernel)), List.mem_append_left _ (by decide +kernel), j_tb (List.mem_of_getElem? (i := 1) (by decide +kernel)), by decide +kernel, by decide +kernel⟩
abbrev kX7_floatBits : jM := (yX7_floatBits, cX7_floatBits, 5, some .long, [])
theorem pn_X7_floatBits : plainName (kX7_floatBits : jM).1.cls = true := by decide +kernel
theorem mo_X7_floatBits : jmS kX7_floatBits 1 := ⟨rfl, j_tb (List.mem_of_getElem? (i := 536) (by decide +kernel)), j_tb (List.mem_of_getElem? (i := 535) (by decide +kernel)), j_tb (List.mem_of_getElem? (i := 1) (by decide +kernel)), by decide +kernel, by decide +kernel⟩
abbrev kX7_doubleBits : jM := (yX7_doubleBits, cX7_doubleBits, 7, some .long, [])
theorem pn_X7_doubleBits : plainName (kX7_doubleBits : jM).1.cls = true := by decide +kernel
theorem mo_X7_doubleBits : jmS kX7_doubleBits 1 := ⟨rfl, j_tb (List.mem_of_getElem? (i := 547) (by decide +kernel)), j_tb (List.mem_of_getElem? (i := 546) (by decide +kernel)), j_tb (List.mem_of_getElem? (i := 1) (by decide +kernel)), by decide +kernel, by decide +kernel⟩
abbrev kX8_init : jM := (yX8_init, cX8_init, 2, none, [])
theorem pn_X8_init : plainName (kX8_init : jM).1.cls = true := by decide +kernel
theorem mo_X8_init : jmI kX8_init 0 := ⟨rfl, j_tb (List.mem_of_getElem? (i := 911) (by decide +kernel)), rfl, rfl, j_tb (List.mem_of_getElem? (i := 910) (by decide +kernel)), j_tb (List.mem_of_getElem? (i := 9) (by decide +kernel)), by decide +kernel, by decide +kernel⟩
abbrev kX8_thrown : jM := (yX8_thrown, cX8_thrown, 1, some .int, [])
theorem pn_X8_thrown : plainName (kX8_thrown : jM).1.cls = true := by decide +kernel
theorem mo_X8_thrown : jmV kX8_thrown 0 := ⟨rfl, j_tb (List.mem_of_getElem? (i := 965) (by decide +kernel)), j_tb (List.mem_of_getElem? (i := 963) (by decide +kernel)), j_tb (List.mem_of_getElem? (i := 964) (by decide +kernel)), j_tb (List.mem_of_getElem? (i := 9) (by decide +kernel)), by decide +kernel, by decide +kernel⟩
abbrev kX8_within : jM := (yX8_within, cX8_within, 3, some .boolean, [])
theorem pn_X8_within : plainName (kX8_within : jM).1.cls = true := by decide +kernel
theorem mo_X8_within : jmS kX8_within 3 := ⟨rfl, j_tb (List.mem_of_getElem? (i := 979) (by decide +kernel)), j_tb (List.mem_of_getElem? (i := 978) (by decide +kernel)), j_tb (List.mem_of_getElem? (i := 9) (by decide +kernel)), by decide +kernel, by decide +kernel⟩
abbrev kX8_size : jM := (yX8_size, cX8_size, 1, some .int, [])
theorem pn_X8_size : plainName (kX8_size : jM).1.cls = true := by decide +kernel
theorem mo_X8_size : jmS kX8_size 1 := ⟨rfl, j_tb (List.mem_of_getElem? (i := 1079) (by decide +kernel)), j_tb (List.mem_of_getElem? (i := 1078) (by decide +kernel)), j_tb (List.mem_of_getElem? (i := 9) (by decide +kernel)), by decide +kernel, by decide +kernel⟩
abbrev kX8_isReel : jM := (yX8_isReel, cX8_isReel, 1, some .boolean, [])
theorem pn_X8_isReel : plainName (kX8_isReel : jM).1.cls = true := by decide +kernel
theorem mo_X8_isReel : jmS kX8_isReel 1 := ⟨rfl, j_tb (List.mem_of_getElem? (i := 976) (by decide +kernel)), j_tb (List.mem_of_getElem? (i := 975) (by decide +kernel)), j_tb (List.mem_of_getElem? (i := 9) (by decide +kernel)), by decide +kernel, by decide +kernel⟩
abbrev kX8_scenes : jM := (yX8_scenes, cX8_scenes, 2, some .int, [])
theorem pn_X8_scenes : plainName (kX8_scenes : jM).1.cls = true := by decide +kernel
theorem mo_X8_scenes : jmV kX8_scenes 1 := ⟨rfl, j_tb (List.mem_of_getElem? (i := 983) (by decide +kernel)), j_tb (List.mem_of_getElem? (i := 982) (by decide +kernel)), List.mem_append_left _ (by decide +kernel), j_tb (List.mem_of_getElem? (i := 9) (by decide +kernel)), by decide +kernel, by decide +kernel⟩
abbrev kX8_isScene : jM := (yX8_isScene, cX8_isScene, 3, some .boolean, [])
theorem pn_X8_isScene : plainName (kX8_isScene : jM).1.cls = true := by decide +kernel
theorem mo_X8_isScene : jmV kX8_isScene 2 := ⟨rfl, j_tb (List.mem_of_getElem? (i := 1000) (by decide +kernel)), j_tb (List.mem_of_getElem? (i := 999) (by decide +kernel)), List.mem_append_left _ (by decide +kernel), j_tb (List.mem_of_getElem? (i := 9) (by decide +kernel)), by decide +kernel, by decide +kernel⟩
abbrev kX8_isPiece : jM := (yX8_isPiece, cX8_isPiece, 2, some .boolean, [])
theorem pn_X8_isPiece : plainName (kX8_isPiece : jM).1.cls = true := by decide +kernel
theorem mo_X8_isPiece : jmV kX8_isPiece 1 := ⟨rfl, j_tb (List.mem_of_getElem? (i := 1032) (by decide +kernel)), j_tb (List.mem_of_getElem? (i := 1031) (by decide +kernel)), List.mem_append_left _ (by decide +kernel), j_tb (List.mem_of_getElem? (i := 9) (by decide +kernel)), by decide +kernel, by decide +kernel⟩
abbrev kX8_of : jM := (yX8_of, cX8_of, 4, some .int, [])
theorem pn_X8_of : plainName (kX8_of : jM).1.cls = true := by decide +kernel
theorem mo_X8_of : jmV kX8_of 3 := ⟨rfl, j_tb (List.mem_of_getElem? (i := 1044) (by decide +kernel)), j_tb (List.mem_of_getElem? (i := 1043) (by decide +kernel)), List.mem_append_left _ (by decide +kernel), j_tb (List.mem_of_getElem? (i := 9) (by decide +kernel)), by decide +kernel, by decide +kernel⟩
abbrev kX8_speedOf : jM := (yX8_speedOf, cX8_speedOf, 7, some .int, [])
theorem pn_X8_speedOf : plainName (kX8_speedOf : jM).1.cls = true := by decide +kernel
theorem mo_X8_speedOf : jmV kX8_speedOf 2 := ⟨rfl, j_tb (List.mem_of_getElem? (i := 1052) (by decide +kernel)), j_tb (List.mem_of_getElem? (i := 1051) (by decide +kernel)), List.mem_append_left _ (by decide +kernel), j_tb (List.mem_of_getElem? (i := 9) (by decide +kernel)), by decide +kernel, by decide +kernel⟩
abbrev kX8_isLost : jM := (yX8_isLost, cX8_isLost, 6, some .boolean, [])
theorem pn_X8_isLost : plainName (kX8_isLost : jM).1.cls = true := by decide +kernel
theorem mo_X8_isLost : jmV kX8_isLost 2 := ⟨rfl, j_tb (List.mem_of_getElem? (i := 1048) (by decide +kernel)), j_tb (List.mem_of_getElem? (i := 1047) (by decide +kernel)), List.mem_append_left _ (by decide +kernel), j_tb (List.mem_of_getElem? (i := 9) (by decide +kernel)), by decide +kernel, by decide +kernel⟩
abbrev kX8_firstFoot : jM := (yX8_firstFoot, cX8_firstFoot, 5, some .int, [])
theorem pn_X8_firstFoot : plainName (kX8_firstFoot : jM).1.cls = true := by decide +kernel
theorem mo_X8_firstFoot : jmV kX8_firstFoot 2 := ⟨rfl, j_tb (List.mem_of_getElem? (i := 1147) (by decide +kernel)), j_tb (List.mem_of_getElem? (i := 1146) (by decide +kernel)), List.mem_append_left _ (by decide +kernel), j_tb (List.mem_of_getElem? (i := 9) (by decide +kernel)), by decide +kernel, by decide +kernel⟩
abbrev kX8_layScenes : jM := (yX8_layScenes, cX8_layScenes, 6, none, [])
theorem pn_X8_layScenes : plainName (kX8_layScenes : jM).1.cls = true := by decide +kernel
theorem mo_X8_layScenes : jmV kX8_layScenes 2 := ⟨rfl, j_tb (List.mem_of_getElem? (i := 1040) (by decide +kernel)), j_tb (List.mem_of_getElem? (i := 1039) (by decide +kernel)), List.mem_append_left _ (by decide +kernel), j_tb (List.mem_of_getElem? (i := 9) (by decide +kernel)), by decide +kernel, by decide +kernel⟩
abbrev kX8_playTime : jM := (yX8_playTime, cX8_playTime, 5, some .int, [])
theorem pn_X8_playTime : plainName (kX8_playTime : jM).1.cls = true := by decide +kernel
theorem mo_X8_playTime : jmV kX8_playTime 3 := ⟨rfl, j_tb (List.mem_of_getElem? (i := 1064) (by decide +kernel)), j_tb (List.mem_of_getElem? (i := 1063) (by decide +kernel)), List.mem_append_left _ (by decide +kernel), j_tb (List.mem_of_getElem? (i := 9) (by decide +kernel)), by decide +kernel, by decide +kernel⟩
abbrev kX8_beginOf : jM := (yX8_beginOf, cX8_beginOf, 5, some .int, [])
theorem pn_X8_beginOf : plainName (kX8_beginOf : jM).1.cls = true := by decide +kernel
theorem mo_X8_beginOf : jmV kX8_beginOf 2 := ⟨rfl, j_tb (List.mem_of_getElem? (i := 1060) (by decide +kernel)), j_tb (List.mem_of_getElem? (i := 1059) (by decide +kernel)), List.mem_append_left _ (by decide +kernel), j_tb (List.mem_of_getElem? (i := 9) (by decide +kernel)), by decide +kernel, by decide +kernel⟩
abbrev kX8_layCue : jM := (yX8_layCue, cX8_layCue, 3, none, [])
theorem pn_X8_layCue : plainName (kX8_layCue : jM).1.cls = true := by decide +kernel
theorem mo_X8_layCue : jmV kX8_layCue 2 := ⟨rfl, j_tb (List.mem_of_getElem? (i := 1056) (by decide +kernel)), j_tb (List.mem_of_getElem? (i := 1055) (by decide +kernel)), List.mem_append_left _ (by decide +kernel), j_tb (List.mem_of_getElem? (i := 9) (by decide +kernel)), by decide +kernel, by decide +kernel⟩
abbrev kX8_lay : jM := (yX8_lay, cX8_lay, 4, none, [])
theorem pn_X8_lay : plainName (kX8_lay : jM).1.cls = true := by decide +kernel
theorem mo_X8_lay : jmV kX8_lay 2 := ⟨rfl, j_tb (List.mem_of_getElem? (i := 1036) (by decide +kernel)), j_tb (List.mem_of_getElem? (i := 1035) (by decide +kernel)), List.mem_append_left _ (by decide +kernel), j_tb (List.mem_of_getElem? (i := 9) (by decide +kernel)), by decide +kernel, by decide +kernel⟩
abbrev kX8_drift : jM := (yX8_drift, cX8_drift, 3, some .int, [])
theorem pn_X8_drift : plainName (kX8_drift : jM).1.cls = true := by decide +kernel
theorem mo_X8_drift : jmV kX8_drift 2 := ⟨rfl, j_tb (List.mem_of_getElem? (i := 1068) (by decide +kernel)), j_tb (List.mem_of_getElem? (i := 1067) (by decide +kernel)), List.mem_append_left _ (by decide +kernel), j_tb (List.mem_of_getElem? (i := 9) (by decide +kernel)), by decide +kernel, by decide +kernel⟩
abbrev kX8_isBad : jM := (yX8_isBad, cX8_isBad, 3, some .boolean, [])
theorem pn_X8_isBad : plainName (kX8_isBad : jM).1.cls = true := by decide +kernel
theorem mo_X8_isBad : jmV kX8_isBad 2 := ⟨rfl, j_tb (List.mem_of_getElem? (i := 1151) (by decide +kernel)), j_tb (List.mem_of_getElem? (i := 1150) (by decide +kernel)), List.mem_append_left _ (by decide +kernel), j_tb (List.mem_of_getElem? (i := 9) (by decide +kernel)), by decide +kernel, by decide +kernel⟩
abbrev kX8_bads : jM := (yX8_bads, cX8_bads, 4, some .int, [])
theorem pn_X8_bads : plainName (kX8_bads : jM).1.cls = true := by decide +kernel
theorem mo_X8_bads : jmV kX8_bads 1 := ⟨rfl, j_tb (List.mem_of_getElem? (i := 1171) (by decide +kernel)), j_tb (List.mem_of_getElem? (i := 1170) (by decide +kernel)), List.mem_append_left _ (by decide +kernel), j_tb (List.mem_of_getElem? (i := 9) (by decide +kernel)), by decide +kernel, by decide +kernel⟩
abbrev kX8_drifts : jM := (yX8_drifts, cX8_drifts, 4, some .int, [])
theorem pn_X8_drifts : plainName (kX8_drifts : jM).1.cls = true := by decide +kernel
theorem mo_X8_drifts : jmV kX8_drifts 1 := ⟨rfl, j_tb (List.mem_of_getElem? (i := 1175) (by decide +kernel)), j_tb (List.mem_of_getElem? (i := 1174) (by decide +kernel)), List.mem_append_left _ (by decide +kernel), j_tb (List.mem_of_getElem? (i := 9) (by decide +kernel)), by decide +kernel, by decide +kernel⟩
abbrev kX8_bestOf : jM := (yX8_bestOf, cX8_bestOf, 11, some .int, [])
theorem pn_X8_bestOf : plainName (kX8_bestOf : jM).1.cls = true := by decide +kernel
theorem mo_X8_bestOf : jmV kX8_bestOf 3 := ⟨rfl, j_tb (List.mem_of_getElem? (i := 1076) (by decide +kernel)), j_tb (List.mem_of_getElem? (i := 1075) (by decide +kernel)), List.mem_append_left _ (by decide +kernel), j_tb (List.mem_of_getElem? (i := 9) (by decide +kernel)), by decide +kernel, by decide +kernel⟩
abbrev kX8_save : jM := (yX8_save, cX8_save, 2, none, [])
theorem pn_X8_save : plainName (kX8_save : jM).1.cls = true := by decide +kernel
theorem mo_X8_save : jmV kX8_save 0 := ⟨rfl, j_tb (List.mem_of_getElem? (i := 987) (by decide +kernel)), j_tb (List.mem_of_getElem? (i := 986) (by decide +kernel)), List.mem_append_left _ (by decide +kernel), j_tb (List.mem_of_getElem? (i := 9) (by decide +kernel)), by decide +kernel, by decide +kernel⟩
abbrev kX8_undo : jM := (yX8_undo, cX8_undo, 2, some .int, [])
theorem pn_X8_undo : plainName (kX8_undo : jM).1.cls = true := by decide +kernel
theorem mo_X8_undo : jmV kX8_undo 0 := ⟨rfl, j_tb (List.mem_of_getElem? (i := 969) (by decide +kernel)), j_tb (List.mem_of_getElem? (i := 967) (by decide +kernel)), j_tb (List.mem_of_getElem? (i := 968) (by decide +kernel)), j_tb (List.mem_of_getElem? (i := 9) (by decide +kernel)), by decide +kernel, by decide +kernel⟩
abbrev kX8_bring : jM := (yX8_bring, cX8_bring, 7, none, [])
theorem pn_X8_bring : plainName (kX8_bring : jM).1.cls = true := by decide +kernel
theorem mo_X8_bring : jmV kX8_bring 5 := ⟨rfl, j_tb (List.mem_of_getElem? (i := 992) (by decide +kernel)), j_tb (List.mem_of_getElem? (i := 991) (by decide +kernel)), List.mem_append_left _ (by decide +kernel), j_tb (List.mem_of_getElem? (i := 9) (by decide +kernel)), by decide +kernel, by decide +kernel⟩
abbrev kX8_addScene : jM := (yX8_addScene, cX8_addScene, 3, some .int, [])
theorem pn_X8_addScene : plainName (kX8_addScene : jM).1.cls = true := by decide +kernel
theorem mo_X8_addScene : jmV kX8_addScene 2 := ⟨rfl, j_tb (List.mem_of_getElem? (i := 973) (by decide +kernel)), j_tb (List.mem_of_getElem? (i := 971) (by decide +kernel)), j_tb (List.mem_of_getElem? (i := 972) (by decide +kernel)), j_tb (List.mem_of_getElem? (i := 9) (by decide +kernel)), by decide +kernel, by decide +kernel⟩
abbrev kX8_removeScene : jM := (yX8_removeScene, cX8_removeScene, 5, some .int, [])
theorem pn_X8_removeScene : plainName (kX8_removeScene : jM).1.cls = true := by decide +kernel
theorem mo_X8_removeScene : jmV kX8_removeScene 2 := ⟨rfl, j_tb (List.mem_of_getElem? (i := 996) (by decide +kernel)), j_tb (List.mem_of_getElem? (i := 994) (by decide +kernel)), j_tb (List.mem_of_getElem? (i := 995) (by decide +kernel)), j_tb (List.mem_of_getElem? (i := 9) (by decide +kernel)), by decide +kernel, by decide +kernel⟩
abbrev kX8_holdAt : jM := (yX8_holdAt, cX8_holdAt, 4, some .int, [])
theorem pn_X8_holdAt : plainName (kX8_holdAt : jM).1.cls = true := by decide +kernel
theorem mo_X8_holdAt : jmV kX8_holdAt 2 := ⟨rfl, j_tb (List.mem_of_getElem? (i := 1008) (by decide +kernel)), j_tb (List.mem_of_getElem? (i := 1007) (by decide +kernel)), List.mem_append_left _ (by decide +kernel), j_tb (List.mem_of_getElem? (i := 9) (by decide +kernel)), by decide +kernel, by decide +kernel⟩
abbrev kX8_hold : jM := (yX8_hold, cX8_hold, 5, some .int, [])
theorem pn_X8_hold : plainName (kX8_hold : jM).1.cls = true := by decide +kernel
theorem mo_X8_hold : jmV kX8_hold 3 := ⟨rfl, j_tb (List.mem_of_getElem? (i := 1012) (by decide +kernel)), j_tb (List.mem_of_getElem? (i := 1011) (by decide +kernel)), List.mem_append_left _ (by decide +kernel), j_tb (List.mem_of_getElem? (i := 9) (by decide +kernel)), by decide +kernel, by decide +kernel⟩
abbrev kX8_crank : jM := (yX8_crank, cX8_crank, 6, some .int, [])
theorem pn_X8_crank : plainName (kX8_crank : jM).1.cls = true := by decide +kernel
theorem mo_X8_crank : jmV kX8_crank 3 := ⟨rfl, j_tb (List.mem_of_getElem? (i := 1004) (by decide +kernel)), j_tb (List.mem_of_getElem? (i := 1002) (by decide +kernel)), j_tb (List.mem_of_getElem? (i := 1003) (by decide +kernel)), j_tb (List.mem_of_getElem? (i := 9) (by decide +kernel)), by decide +kernel, by decide +kernel⟩
abbrev kX8_drop : jM := (yX8_drop, cX8_drop, 5, some .int, [])
theorem pn_X8_drop : plainName (kX8_drop : jM).1.cls = true := by decide +kernel
theorem mo_X8_drop : jmV kX8_drop 2 := ⟨rfl, j_tb (List.mem_of_getElem? (i := 1020) (by decide +kernel)), j_tb (List.mem_of_getElem? (i := 1019) (by decide +kernel)), List.mem_append_left _ (by decide +kernel), j_tb (List.mem_of_getElem? (i := 9) (by decide +kernel)), by decide +kernel, by decide +kernel⟩
abbrev kX8_splice : jM := (yX8_splice, cX8_splice, 6, some .int, [])
theorem pn_X8_splice : plainName (kX8_splice : jM).1.cls = true := by decide +kernel
theorem mo_X8_splice : jmV kX8_splice 3 := ⟨rfl, j_tb (List.mem_of_getElem? (i := 1016) (by decide +kernel)), j_tb (List.mem_of_getElem? (i := 1014) (by decide +kernel)), j_tb (List.mem_of_getElem? (i := 1015) (by decide +kernel)), j_tb (List.mem_of_getElem? (i := 9) (by decide +kernel)), by decide +kernel, by decide +kernel⟩
abbrev kX8_addPiece : jM := (yX8_addPiece, cX8_addPiece, 6, some .int, [])
theorem pn_X8_addPiece : plainName (kX8_addPiece : jM).1.cls = true := by decide +kernel
theorem mo_X8_addPiece : jmV kX8_addPiece 3 := ⟨rfl, j_tb (List.mem_of_getElem? (i := 1024) (by decide +kernel)), j_tb (List.mem_of_getElem? (i := 1022) (by decide +kernel)), j_tb (List.mem_of_getElem? (i := 1023) (by decide +kernel)), j_tb (List.mem_of_getElem? (i := 9) (by decide +kernel)), by decide +kernel, by decide +kernel⟩
abbrev kX8_setCue : jM := (yX8_setCue, cX8_setCue, 8, some .int, [])
theorem pn_X8_setCue : plainName (kX8_setCue : jM).1.cls = true := by decide +kernel
theorem mo_X8_setCue : jmV kX8_setCue 5 := ⟨rfl, j_tb (List.mem_of_getElem? (i := 1028) (by decide +kernel)), j_tb (List.mem_of_getElem? (i := 1026) (by decide +kernel)), j_tb (List.mem_of_getElem? (i := 1027) (by decide +kernel)), j_tb (List.mem_of_getElem? (i := 9) (by decide +kernel)), by decide +kernel, by decide +kernel⟩
abbrev kX8_fit : jM := (yX8_fit, cX8_fit, 5, some .int, [])
theorem pn_X8_fit : plainName (kX8_fit : jM).1.cls = true := by decide +kernel
theorem mo_X8_fit : jmV kX8_fit 1 := ⟨rfl, j_tb (List.mem_of_getElem? (i := 1072) (by decide +kernel)), j_tb (List.mem_of_getElem? (i := 1070) (by decide +kernel)), j_tb (List.mem_of_getElem? (i := 1071) (by decide +kernel)), j_tb (List.mem_of_getElem? (i := 9) (by decide +kernel)), by decide +kernel, by decide +kernel⟩
abbrev kX8_set : jM := (yX8_set, cX8_set, 4, some .int, [])
theorem pn_X8_set : plainName (kX8_set : jM).1.cls = true := by decide +kernel
theorem mo_X8_set : jmV kX8_set 2 := ⟨rfl, j_tb (List.mem_of_getElem? (i := 1083) (by decide +kernel)), j_tb (List.mem_of_getElem? (i := 1081) (by decide +kernel)), j_tb (List.mem_of_getElem? (i := 1082) (by decide +kernel)), j_tb (List.mem_of_getElem? (i := 9) (by decide +kernel)), by decide +kernel, by decide +kernel⟩
abbrev kX8_append : jM := (yX8_append, cX8_append, 2, some .int, [])
theorem pn_X8_append : plainName (kX8_append : jM).1.cls = true := by decide +kernel
theorem mo_X8_append : jmV kX8_append 1 := ⟨rfl, j_tb (List.mem_of_getElem? (i := 1087) (by decide +kernel)), j_tb (List.mem_of_getElem? (i := 1085) (by decide +kernel)), j_tb (List.mem_of_getElem? (i := 1086) (by decide +kernel)), j_tb (List.mem_of_getElem? (i := 9) (by decide +kernel)), by decide +kernel, by decide +kernel⟩
abbrev kX8_clearBuffer : jM := (yX8_clearBuffer, cX8_clearBuffer, 2, some .int, [])
theorem pn_X8_clearBuffer : plainName (kX8_clearBuffer : jM).1.cls = true := by decide +kernel
theorem mo_X8_clearBuffer : jmV kX8_clearBuffer 0 := ⟨rfl, j_tb (List.mem_of_getElem? (i := 1091) (by decide +kernel)), j_tb (List.mem_of_getElem? (i := 1089) (by decide +kernel)), j_tb (List.mem_of_getElem? (i := 1090) (by decide +kernel)), j_tb (List.mem_of_getElem? (i := 9) (by decide +kernel)), by decide +kernel, by decide +kernel⟩
abbrev kX8_beginEntry : jM := (yX8_beginEntry, cX8_beginEntry, 1, none, [])
theorem pn_X8_beginEntry : plainName (kX8_beginEntry : jM).1.cls = true := by decide +kernel
theorem mo_X8_beginEntry : jmV kX8_beginEntry 0 := ⟨rfl, j_tb (List.mem_of_getElem? (i := 1103) (by decide +kernel)), j_tb (List.mem_of_getElem? (i := 1102) (by decide +kernel)), List.mem_append_left _ (by decide +kernel), j_tb (List.mem_of_getElem? (i := 9) (by decide +kernel)), by decide +kernel, by decide +kernel⟩
abbrev kX8_goes : jM := (yX8_goes, cX8_goes, 3, some .boolean, [])
theorem pn_X8_goes : plainName (kX8_goes : jM).1.cls = true := by decide +kernel
theorem mo_X8_goes : jmV kX8_goes 2 := ⟨rfl, j_tb (List.mem_of_getElem? (i := 1123) (by decide +kernel)), j_tb (List.mem_of_getElem? (i := 1122) (by decide +kernel)), List.mem_append_left _ (by decide +kernel), j_tb (List.mem_of_getElem? (i := 9) (by decide +kernel)), by decide +kernel, by decide +kernel⟩
abbrev kX8_takesLength : jM := (yX8_takesLength, cX8_takesLength, 4, some .boolean, [])
theorem pn_X8_takesLength : plainName (kX8_takesLength : jM).1.cls = true := by decide +kernel
theorem mo_X8_takesLength : jmV kX8_takesLength 1 := ⟨rfl, j_tb (List.mem_of_getElem? (i := 1119) (by decide +kernel)), j_tb (List.mem_of_getElem? (i := 1118) (by decide +kernel)), List.mem_append_left _ (by decide +kernel), j_tb (List.mem_of_getElem? (i := 9) (by decide +kernel)), by decide +kernel, by decide +kernel⟩
abbrev kX8_takesPace : jM := (yX8_takesPace, cX8_takesPace, 6, some .boolean, [])
theorem pn_X8_takesPace : plainName (kX8_takesPace : jM).1.cls = true := by decide +kernel
theorem mo_X8_takesPace : jmV kX8_takesPace 1 := ⟨rfl, j_tb (List.mem_of_getElem? (i := 1127) (by decide +kernel)), j_tb (List.mem_of_getElem? (i := 1126) (by decide +kernel)), List.mem_append_left _ (by decide +kernel), j_tb (List.mem_of_getElem? (i := 9) (by decide +kernel)), by decide +kernel, by decide +kernel⟩
abbrev kX8_isOver : jM := (yX8_isOver, cX8_isOver, 1, some .boolean, [])
theorem pn_X8_isOver : plainName (kX8_isOver : jM).1.cls = true := by decide +kernel
theorem mo_X8_isOver : jmV kX8_isOver 0 := ⟨rfl, j_tb (List.mem_of_getElem? (i := 1111) (by decide +kernel)), j_tb (List.mem_of_getElem? (i := 1110) (by decide +kernel)), List.mem_append_left _ (by decide +kernel), j_tb (List.mem_of_getElem? (i := 9) (by decide +kernel)), by decide +kernel, by decide +kernel⟩
abbrev kX8_takesPart : jM := (yX8_takesPart, cX8_takesPart, 2, some .boolean, [])
theorem pn_X8_takesPart : plainName (kX8_takesPart : jM).1.cls = true := by decide +kernel
theorem mo_X8_takesPart : jmV kX8_takesPart 1 := ⟨rfl, j_tb (List.mem_of_getElem? (i := 1115) (by decide +kernel)), j_tb (List.mem_of_getElem? (i := 1114) (by decide +kernel)), List.mem_append_left _ (by decide +kernel), j_tb (List.mem_of_getElem? (i := 9) (by decide +kernel)), by decide +kernel, by decide +kernel⟩
abbrev kX8_takes : jM := (yX8_takes, cX8_takes, 2, some .boolean, [])
theorem pn_X8_takes : plainName (kX8_takes : jM).1.cls = true := by decide +kernel
theorem mo_X8_takes : jmV kX8_takes 1 := ⟨rfl, j_tb (List.mem_of_getElem? (i := 1107) (by decide +kernel)), j_tb (List.mem_of_getElem? (i := 1106) (by decide +kernel)), List.mem_append_left _ (by decide +kernel), j_tb (List.mem_of_getElem? (i := 9) (by decide +kernel)), by decide +kernel, by decide +kernel⟩
abbrev kX8_readText : jM := (yX8_readText, cX8_readText, 2, some .int, [])
theorem pn_X8_readText : plainName (kX8_readText : jM).1.cls = true := by decide +kernel
theorem mo_X8_readText : jmV kX8_readText 0 := ⟨rfl, j_tb (List.mem_of_getElem? (i := 1099) (by decide +kernel)), j_tb (List.mem_of_getElem? (i := 1098) (by decide +kernel)), List.mem_append_left _ (by decide +kernel), j_tb (List.mem_of_getElem? (i := 9) (by decide +kernel)), by decide +kernel, by decide +kernel⟩
abbrev kX8_firstError : jM := (yX8_firstError, cX8_firstError, 1, some .int, [])
theorem pn_X8_firstError : plainName (kX8_firstError : jM).1.cls = true := by decide +kernel
theorem mo_X8_firstError : jmV kX8_firstError 0 := ⟨rfl, j_tb (List.mem_of_getElem? (i := 1095) (by decide +kernel)), j_tb (List.mem_of_getElem? (i := 1093) (by decide +kernel)), j_tb (List.mem_of_getElem? (i := 1094) (by decide +kernel)), j_tb (List.mem_of_getElem? (i := 9) (by decide +kernel)), by decide +kernel, by decide +kernel⟩
abbrev kX8_canBring : jM := (yX8_canBring, cX8_canBring, 4, some .boolean, [])
theorem pn_X8_canBring : plainName (kX8_canBring : jM).1.cls = true := by decide +kernel
theorem mo_X8_canBring : jmV kX8_canBring 1 := ⟨rfl, j_tb (List.mem_of_getElem? (i := 1135) (by decide +kernel)), j_tb (List.mem_of_getElem? (i := 1134) (by decide +kernel)), List.mem_append_left _ (by decide +kernel), j_tb (List.mem_of_getElem? (i := 9) (by decide +kernel)), by decide +kernel, by decide +kernel⟩
abbrev kX8_load : jM := (yX8_load, cX8_load, 4, some .int, [])
theorem pn_X8_load : plainName (kX8_load : jM).1.cls = true := by decide +kernel
theorem mo_X8_load : jmV kX8_load 1 := ⟨rfl, j_tb (List.mem_of_getElem? (i := 1131) (by decide +kernel)), j_tb (List.mem_of_getElem? (i := 1129) (by decide +kernel)), j_tb (List.mem_of_getElem? (i := 1130) (by decide +kernel)), j_tb (List.mem_of_getElem? (i := 9) (by decide +kernel)), by decide +kernel, by decide +kernel⟩
abbrev kX8_sceneNow : jM := (yX8_sceneNow, cX8_sceneNow, 5, some .int, [])
theorem pn_X8_sceneNow : plainName (kX8_sceneNow : jM).1.cls = true := by decide +kernel
theorem mo_X8_sceneNow : jmV kX8_sceneNow 3 := ⟨rfl, j_tb (List.mem_of_getElem? (i := 1143) (by decide +kernel)), j_tb (List.mem_of_getElem? (i := 1142) (by decide +kernel)), List.mem_append_left _ (by decide +kernel), j_tb (List.mem_of_getElem? (i := 9) (by decide +kernel)), by decide +kernel, by decide +kernel⟩
abbrev kX8_scene : jM := (yX8_scene, cX8_scene, 4, some .int, [])
theorem pn_X8_scene : plainName (kX8_scene : jM).1.cls = true := by decide +kernel
theorem mo_X8_scene : jmV kX8_scene 3 := ⟨rfl, j_tb (List.mem_of_getElem? (i := 1139) (by decide +kernel)), j_tb (List.mem_of_getElem? (i := 1137) (by decide +kernel)), j_tb (List.mem_of_getElem? (i := 1138) (by decide +kernel)), j_tb (List.mem_of_getElem? (i := 9) (by decide +kernel)), by decide +kernel, by decide +kernel⟩
abbrev kX8_lostFeet : jM := (yX8_lostFeet, cX8_lostFeet, 4, some .int, [])
theorem pn_X8_lostFeet : plainName (kX8_lostFeet : jM).1.cls = true := by decide +kernel
theorem mo_X8_lostFeet : jmV kX8_lostFeet 1 := ⟨rfl, j_tb (List.mem_of_getElem? (i := 1163) (by decide +kernel)), j_tb (List.mem_of_getElem? (i := 1162) (by decide +kernel)), List.mem_append_left _ (by decide +kernel), j_tb (List.mem_of_getElem? (i := 9) (by decide +kernel)), by decide +kernel, by decide +kernel⟩
abbrev kX8_cues : jM := (yX8_cues, cX8_cues, 4, some .int, [])
theorem pn_X8_cues : plainName (kX8_cues : jM).1.cls = true := by decide +kernel
theorem mo_X8_cues : jmV kX8_cues 1 := ⟨rfl, j_tb (List.mem_of_getElem? (i := 1167) (by decide +kernel)), j_tb (List.mem_of_getElem? (i := 1166) (by decide +kernel)), List.mem_append_left _ (by decide +kernel), j_tb (List.mem_of_getElem? (i := 9) (by decide +kernel)), by decide +kernel, by decide +kernel⟩
abbrev kX8_silence : jM := (yX8_silence, cX8_silence, 5, some .int, [])
theorem pn_X8_silence : plainName (kX8_silence : jM).1.cls = true := by decide +kernel
theorem mo_X8_silence : jmV kX8_silence 1 := ⟨rfl, j_tb (List.mem_of_getElem? (i := 1179) (by decide +kernel)), j_tb (List.mem_of_getElem? (i := 1178) (by decide +kernel)), List.mem_append_left _ (by decide +kernel), j_tb (List.mem_of_getElem? (i := 9) (by decide +kernel)), by decide +kernel, by decide +kernel⟩
abbrev kX8_lastEnd : jM := (yX8_lastEnd, cX8_lastEnd, 4, some .int, [])
theorem pn_X8_lastEnd : plainName (kX8_lastEnd : jM).1.cls = true := by decide +kernel
theorem mo_X8_lastEnd : jmV kX8_lastEnd 1 := ⟨rfl, j_tb (List.mem_of_getElem? (i := 1183) (by decide +kernel)), j_tb (List.mem_of_getElem? (i := 1182) (by decide +kernel)), List.mem_append_left _ (by decide +kernel), j_tb (List.mem_of_getElem? (i := 9) (by decide +kernel)), by decide +kernel, by decide +kernel⟩
abbrev kX8_reelNow : jM := (yX8_reelNow, cX8_reelNow, 3, some .int, [])
theorem pn_X8_reelNow : plainName (kX8_reelNow : jM).1.cls = true := by decide +kernel
theorem mo_X8_reelNow : jmV kX8_reelNow 2 := ⟨rfl, j_tb (List.mem_of_getElem? (i := 1159) (by decide +kernel)), j_tb (List.mem_of_getElem? (i := 1158) (by decide +kernel)), List.mem_append_left _ (by decide +kernel), j_tb (List.mem_of_getElem? (i := 9) (by decide +kernel)), by decide +kernel, by decide +kernel⟩
abbrev kX8_reel : jM := (yX8_reel, cX8_reel, 3, some .int, [])
theorem pn_X8_reel : plainName (kX8_reel : jM).1.cls = true := by decide +kernel
theorem mo_X8_reel : jmV kX8_reel 2 := ⟨rfl, j_tb (List.mem_of_getElem? (i := 1155) (by decide +kernel)), j_tb (List.mem_of_getElem? (i := 1153) (by decide +kernel)), j_tb (List.mem_of_getElem? (i := 1154) (by decide +kernel)), j_tb (List.mem_of_getElem? (i := 9) (by decide +kernel)), by decide +kernel, by decide +kernel⟩
abbrev kX8_speedAt : jM := (yX8_speedAt, cX8_speedAt, 3, some .int, [])
theorem pn_X8_speedAt : plainName (kX8_speedAt : jM).1.cls = true := by decide +kernel
theorem mo_X8_speedAt : jmV kX8_speedAt 2 := ⟨rfl, j_tb (List.mem_of_getElem? (i := 1187) (by decide +kernel)), j_tb (List.mem_of_getElem? (i := 1185) (by decide +kernel)), j_tb (List.mem_of_getElem? (i := 1186) (by decide +kernel)), j_tb (List.mem_of_getElem? (i := 9) (by decide +kernel)), by decide +kernel, by decide +kernel⟩
abbrev kX8_usesOf : jM := (yX8_usesOf, cX8_usesOf, 5, some .int, [])
theorem pn_X8_usesOf : plainName (kX8_usesOf : jM).1.cls = true := by decide +kernel
theorem mo_X8_usesOf : jmV kX8_usesOf 1 := ⟨rfl, j_tb (List.mem_of_getElem? (i := 1199) (by decide +kernel)), j_tb (List.mem_of_getElem? (i := 1198) (by decide +kernel)), List.mem_append_left _ (by decide +kernel), j_tb (List.mem_of_getElem? (i := 9) (by decide +kernel)), by decide +kernel, by decide +kernel⟩
abbrev kX8_pieceNow : jM := (yX8_pieceNow, cX8_pieceNow, 3, some .int, [])
theorem pn_X8_pieceNow : plainName (kX8_pieceNow : jM).1.cls = true := by decide +kernel
theorem mo_X8_pieceNow : jmV kX8_pieceNow 2 := ⟨rfl, j_tb (List.mem_of_getElem? (i := 1195) (by decide +kernel)), j_tb (List.mem_of_getElem? (i := 1194) (by decide +kernel)), List.mem_append_left _ (by decide +kernel), j_tb (List.mem_of_getElem? (i := 9) (by decide +kernel)), by decide +kernel, by decide +kernel⟩
abbrev kX8_piece : jM := (yX8_piece, cX8_piece, 3, some .int, [])
theorem pn_X8_piece : plainName (kX8_piece : jM).1.cls = true := by decide +kernel
theorem mo_X8_piece : jmV kX8_piece 2 := ⟨rfl, j_tb (List.mem_of_getElem? (i := 1191) (by decide +kernel)), j_tb (List.mem_of_getElem? (i := 1189) (by decide +kernel)), j_tb (List.mem_of_getElem? (i := 1190) (by decide +kernel)), j_tb (List.mem_of_getElem? (i := 9) (by decide +kernel)), by decide +kernel, by decide +kernel⟩
abbrev kX8_overReels : jM := (yX8_overReels, cX8_overReels, 4, some .int, [])
theorem pn_X8_overReels : plainName (kX8_overReels : jM).1.cls = true := by decide +kernel
theorem mo_X8_overReels : jmV kX8_overReels 1 := ⟨rfl, j_tb (List.mem_of_getElem? (i := 1211) (by decide +kernel)), j_tb (List.mem_of_getElem? (i := 1210) (by decide +kernel)), List.mem_append_left _ (by decide +kernel), j_tb (List.mem_of_getElem? (i := 9) (by decide +kernel)), by decide +kernel, by decide +kernel⟩
abbrev kX8_counted : jM := (yX8_counted, cX8_counted, 2, some .int, [])
theorem pn_X8_counted : plainName (kX8_counted : jM).1.cls = true := by decide +kernel
theorem mo_X8_counted : jmV kX8_counted 1 := ⟨rfl, j_tb (List.mem_of_getElem? (i := 1207) (by decide +kernel)), j_tb (List.mem_of_getElem? (i := 1206) (by decide +kernel)), List.mem_append_left _ (by decide +kernel), j_tb (List.mem_of_getElem? (i := 9) (by decide +kernel)), by decide +kernel, by decide +kernel⟩
abbrev kX8_count : jM := (yX8_count, cX8_count, 2, some .int, [])
theorem pn_X8_count : plainName (kX8_count : jM).1.cls = true := by decide +kernel
theorem mo_X8_count : jmV kX8_count 1 := ⟨rfl, j_tb (List.mem_of_getElem? (i := 1203) (by decide +kernel)), j_tb (List.mem_of_getElem? (i := 1201) (by decide +kernel)), j_tb (List.mem_of_getElem? (i := 1202) (by decide +kernel)), j_tb (List.mem_of_getElem? (i := 9) (by decide +kernel)), by decide +kernel, by decide +kernel⟩
abbrev kX8_bestCue : jM := (yX8_bestCue, cX8_bestCue, 4, some .int, [])
theorem pn_X8_bestCue : plainName (kX8_bestCue : jM).1.cls = true := by decide +kernel
theorem mo_X8_bestCue : jmV kX8_bestCue 3 := ⟨rfl, j_tb (List.mem_of_getElem? (i := 1215) (by decide +kernel)), j_tb (List.mem_of_getElem? (i := 1213) (by decide +kernel)), j_tb (List.mem_of_getElem? (i := 1214) (by decide +kernel)), j_tb (List.mem_of_getElem? (i := 9) (by decide +kernel)), by decide +kernel, by decide +kernel⟩
abbrev kX8_bestPieceNow : jM := (yX8_bestPieceNow, cX8_bestPieceNow, 6, some .int, [])
theorem pn_X8_bestPieceNow : plainName (kX8_bestPieceNow : jM).1.cls = true := by decide +kernel
theorem mo_X8_bestPieceNow : jmV kX8_bestPieceNow 2 := ⟨rfl, j_tb (List.mem_of_getElem? (i := 1223) (by decide +kernel)), j_tb (List.mem_of_getElem? (i := 1222) (by decide +kernel)), List.mem_append_left _ (by decide +kernel), j_tb (List.mem_of_getElem? (i := 9) (by decide +kernel)), by decide +kernel, by decide +kernel⟩
abbrev kX8_bestPiece : jM := (yX8_bestPiece, cX8_bestPiece, 3, some .int, [])
theorem pn_X8_bestPiece : plainName (kX8_bestPiece : jM).1.cls = true := by decide +kernel
theorem mo_X8_bestPiece : jmV kX8_bestPiece 2 := ⟨rfl, j_tb (List.mem_of_getElem? (i := 1219) (by decide +kernel)), j_tb (List.mem_of_getElem? (i := 1217) (by decide +kernel)), j_tb (List.mem_of_getElem? (i := 1218) (by decide +kernel)), j_tb (List.mem_of_getElem? (i := 9) (by decide +kernel)), by decide +kernel, by decide +kernel⟩
abbrev kX8_ifCranked : jM := (yX8_ifCranked, cX8_ifCranked, 3, some .int, [])
theorem pn_X8_ifCranked : plainName (kX8_ifCranked : jM).1.cls = true := by decide +kernel
theorem mo_X8_ifCranked : jmV kX8_ifCranked 2 := ⟨rfl, j_tb (List.mem_of_getElem? (i := 1227) (by decide +kernel)), j_tb (List.mem_of_getElem? (i := 1225) (by decide +kernel)), j_tb (List.mem_of_getElem? (i := 1226) (by decide +kernel)), j_tb (List.mem_of_getElem? (i := 9) (by decide +kernel)), by decide +kernel, by decide +kernel⟩
abbrev kX8_bestSpeedNow : jM := (yX8_bestSpeedNow, cX8_bestSpeedNow, 6, some .int, [])
theorem pn_X8_bestSpeedNow : plainName (kX8_bestSpeedNow : jM).1.cls = true := by decide +kernel
theorem mo_X8_bestSpeedNow : jmV kX8_bestSpeedNow 1 := ⟨rfl, j_tb (List.mem_of_getElem? (i := 1235) (by decide +kernel)), j_tb (List.mem_of_getElem? (i := 1234) (by decide +kernel)), List.mem_append_left _ (by decide +kernel), j_tb (List.mem_of_getElem? (i := 9) (by decide +kernel)), by decide +kernel, by decide +kernel⟩
abbrev kX8_bestSpeed : jM := (yX8_bestSpeed, cX8_bestSpeed, 2, some .int, [])
theorem pn_X8_bestSpeed : plainName (kX8_bestSpeed : jM).1.cls = true := by decide +kernel
theorem mo_X8_bestSpeed : jmV kX8_bestSpeed 1 := ⟨rfl, j_tb (List.mem_of_getElem? (i := 1231) (by decide +kernel)), j_tb (List.mem_of_getElem? (i := 1229) (by decide +kernel)), j_tb (List.mem_of_getElem? (i := 1230) (by decide +kernel)), j_tb (List.mem_of_getElem? (i := 9) (by decide +kernel)), by decide +kernel, by decide +kernel⟩
abbrev kX8_offNow : jM := (yX8_offNow, cX8_offNow, 3, some .float, [])
theorem pn_X8_offNow : plainName (kX8_offNow : jM).1.cls = true := by decide +kernel
theorem mo_X8_offNow : jmV kX8_offNow 1 := ⟨rfl, j_tb (List.mem_of_getElem? (i := 1243) (by decide +kernel)), j_tb (List.mem_of_getElem? (i := 1242) (by decide +kernel)), List.mem_append_left _ (by decide +kernel), j_tb (List.mem_of_getElem? (i := 9) (by decide +kernel)), by decide +kernel, by decide +kernel⟩
abbrev kX8_offShare : jM := (yX8_offShare, cX8_offShare, 2, some .float, [])
theorem pn_X8_offShare : plainName (kX8_offShare : jM).1.cls = true := by decide +kernel
theorem mo_X8_offShare : jmV kX8_offShare 1 := ⟨rfl, j_tb (List.mem_of_getElem? (i := 1239) (by decide +kernel)), j_tb (List.mem_of_getElem? (i := 1237) (by decide +kernel)), j_tb (List.mem_of_getElem? (i := 1238) (by decide +kernel)), j_tb (List.mem_of_getElem? (i := 9) (by decide +kernel)), by decide +kernel, by decide +kernel⟩
abbrev kX8_meanNow : jM := (yX8_meanNow, cX8_meanNow, 4, some .double, [])
theorem pn_X8_meanNow : plainName (kX8_meanNow : jM).1.cls = true := by decide +kernel
theorem mo_X8_meanNow : jmV kX8_meanNow 1 := ⟨rfl, j_tb (List.mem_of_getElem? (i := 1251) (by decide +kernel)), j_tb (List.mem_of_getElem? (i := 1250) (by decide +kernel)), List.mem_append_left _ (by decide +kernel), j_tb (List.mem_of_getElem? (i := 9) (by decide +kernel)), by decide +kernel, by decide +kernel⟩
abbrev kX8_meanSpeed : jM := (yX8_meanSpeed, cX8_meanSpeed, 2, some .double, [])
theorem pn_X8_meanSpeed : plainName (kX8_meanSpeed : jM).1.cls = true := by decide +kernel
theorem mo_X8_meanSpeed : jmV kX8_meanSpeed 1 := ⟨rfl, j_tb (List.mem_of_getElem? (i := 1247) (by decide +kernel)), j_tb (List.mem_of_getElem? (i := 1245) (by decide +kernel)), j_tb (List.mem_of_getElem? (i := 1246) (by decide +kernel)), j_tb (List.mem_of_getElem? (i := 9) (by decide +kernel)), by decide +kernel, by decide +kernel⟩
abbrev kX8_mix : jM := (yX8_mix, cX8_mix, 3, none, [])
theorem pn_X8_mix : plainName (kX8_mix : jM).1.cls = true := by decide +kernel
theorem mo_X8_mix : jmV kX8_mix 1 := ⟨rfl, j_tb (List.mem_of_getElem? (i := 1261) (by decide +kernel)), j_tb (List.mem_of_getElem? (i := 1260) (by decide +kernel)), List.mem_append_left _ (by decide +kernel), j_tb (List.mem_of_getElem? (i := 9) (by decide +kernel)), by decide +kernel, by decide +kernel⟩
abbrev kX8_mixReel : jM := (yX8_mixReel, cX8_mixReel, 5, none, [])
theorem pn_X8_mixReel : plainName (kX8_mixReel : jM).1.cls = true := by decide +kernel
theorem mo_X8_mixReel : jmV kX8_mixReel 1 := ⟨rfl, j_tb (List.mem_of_getElem? (i := 1266) (by decide +kernel)), j_tb (List.mem_of_getElem? (i := 1265) (by decide +kernel)), List.mem_append_left _ (by decide +kernel), j_tb (List.mem_of_getElem? (i := 9) (by decide +kernel)), by decide +kernel, by decide +kernel⟩
abbrev kX8_digest : jM := (yX8_digest, cX8_digest, 2, some .long, [])
theorem pn_X8_digest : plainName (kX8_digest : jM).1.cls = true := by decide +kernel
theorem mo_X8_digest : jmV kX8_digest 0 := ⟨rfl, j_tb (List.mem_of_getElem? (i := 1256) (by decide +kernel)), j_tb (List.mem_of_getElem? (i := 1254) (by decide +kernel)), j_tb (List.mem_of_getElem? (i := 1255) (by decide +kernel)), j_tb (List.mem_of_getElem? (i := 9) (by decide +kernel)), by decide +kernel, by decide +kernel⟩
abbrev kJxe99ae_isNaN_b9ae7 : jM := (yJxe99ae_isNaN_b9ae7, cJxe99ae_isNaN_b9ae7, 2, some .boolean, [])
theorem mo_Jxe99ae_isNaN_b9ae7 : jmS kJxe99ae_isNaN_b9ae7 1 := ⟨rfl, j_tb (List.mem_of_getElem? (i := 1282) (by decide +kernel)), j_tb (List.mem_of_getElem? (i := 1281) (by decide +kernel)), j_tb (List.mem_of_getElem? (i := 18) (by decide +kernel)), by decide +kernel, by decide +kernel⟩
abbrev kJxe99ae_doubleToLongBits_ccdee : jM := (yJxe99ae_doubleToLongBits_ccdee, cJxe99ae_doubleToLongBits_ccdee, 2, some .long, [])
theorem mo_Jxe99ae_doubleToLongBits_ccdee : jmS kJxe99ae_doubleToLongBits_ccdee 1 := ⟨rfl, j_tb (List.mem_of_getElem? (i := 1279) (by decide +kernel)), j_tb (List.mem_of_getElem? (i := 1278) (by decide +kernel)), j_tb (List.mem_of_getElem? (i := 18) (by decide +kernel)), by decide +kernel, by decide +kernel⟩
abbrev kJxf58ca_isNaN_12338 : jM := (yJxf58ca_isNaN_12338, cJxf58ca_isNaN_12338, 1, some .boolean, [])
theorem mo_Jxf58ca_isNaN_12338 : jmS kJxf58ca_isNaN_12338 1 := ⟨rfl, j_tb (List.mem_of_getElem? (i := 1272) (by decide +kernel)), j_tb (List.mem_of_getElem? (i := 1271) (by decide +kernel)), j_tb (List.mem_of_getElem? (i := 17) (by decide +kernel)), by decide +kernel, by decide +kernel⟩
abbrev kJxf58ca_floatToIntBits_5c35a : jM := (yJxf58ca_floatToIntBits_5c35a, cJxf58ca_floatToIntBits_5c35a, 1, some .int, [])
theorem mo_Jxf58ca_floatToIntBits_5c35a : jmS kJxf58ca_floatToIntBits_5c35a 1 := ⟨rfl, j_tb (List.mem_of_getElem? (i := 1269) (by decide +kernel)), j_tb (List.mem_of_getElem? (i := 1268) (by decide +kernel)), j_tb (List.mem_of_getElem? (i := 17) (by decide +kernel)), by decide +kernel, by decide +kernel⟩
abbrev kJ9_abs_0f7a4 : jM := (yJ9_abs_0f7a4, cJ9_abs_0f7a4, 1, some .int, [])
theorem mo_J9_abs_0f7a4 : jmS kJ9_abs_0f7a4 1 := ⟨rfl, j_tb (List.mem_of_getElem? (i := 454) (by decide +kernel)), j_tb (List.mem_of_getElem? (i := 453) (by decide +kernel)), j_tb (List.mem_of_getElem? (i := 16) (by decide +kernel)), by decide +kernel, by decide +kernel⟩
abbrev kJ9_max_7cf53 : jM := (yJ9_max_7cf53, cJ9_max_7cf53, 2, some .int, [])
theorem mo_J9_max_7cf53 : jmS kJ9_max_7cf53 2 := ⟨rfl, j_tb (List.mem_of_getElem? (i := 421) (by decide +kernel)), j_tb (List.mem_of_getElem? (i := 420) (by decide +kernel)), j_tb (List.mem_of_getElem? (i := 16) (by decide +kernel)), by decide +kernel, by decide +kernel⟩
abbrev kJ9_min_7cf53 : jM := (yJ9_min_7cf53, cJ9_min_7cf53, 2, some .int, [])
theorem mo_J9_min_7cf53 : jmS kJ9_min_7cf53 2 := ⟨rfl, j_tb (List.mem_of_getElem? (i := 424) (by decide +kernel)), j_tb (List.mem_of_getElem? (i := 423) (by decide +kernel)), j_tb (List.mem_of_getElem? (i := 16) (by decide +kernel)), by decide +kernel, by decide +kernel⟩
abbrev kL_addScene : jM := (yL_addScene, cL_addScene, 5, some .int, [(0, 10, 13, 13), (0, 10, 17, 15), (0, 10, 21, 17)])
theorem pn_L_addScene : plainName (kL_addScene : jM).1.cls = true := by decide +kernel
theorem mo_L_addScene : jmH kL_addScene 4 := ⟨j_tb (List.mem_of_getElem? (i := 554) (by decide +kernel)), j_tb (List.mem_of_getElem? (i := 553) (by decide +kernel)), j_tb (List.mem_of_getElem? (i := 0) (by decide +kernel)), by decide +kernel, by decide +kernel⟩
abbrev kL_removeScene : jM := (yL_removeScene, cL_removeScene, 5, some .int, [(0, 10, 13, 13)])
theorem pn_L_removeScene : plainName (kL_removeScene : jM).1.cls = true := by decide +kernel
theorem mo_L_removeScene : jmH kL_removeScene 4 := ⟨j_tb (List.mem_of_getElem? (i := 703) (by decide +kernel)), j_tb (List.mem_of_getElem? (i := 702) (by decide +kernel)), j_tb (List.mem_of_getElem? (i := 0) (by decide +kernel)), by decide +kernel, by decide +kernel⟩
abbrev kL_crank : jM := (yL_crank, cL_crank, 6, some .int, [(0, 12, 15, 13), (0, 12, 19, 15), (0, 12, 23, 17)])
theorem pn_L_crank : plainName (kL_crank : jM).1.cls = true := by decide +kernel
theorem mo_L_crank : jmH kL_crank 5 := ⟨j_tb (List.mem_of_getElem? (i := 723) (by decide +kernel)), j_tb (List.mem_of_getElem? (i := 722) (by decide +kernel)), j_tb (List.mem_of_getElem? (i := 0) (by decide +kernel)), by decide +kernel, by decide +kernel⟩
abbrev kL_splice : jM := (yL_splice, cL_splice, 6, some .int, [(0, 12, 15, 13), (0, 12, 19, 15), (0, 12, 23, 17)])
theorem pn_L_splice : plainName (kL_splice : jM).1.cls = true := by decide +kernel
theorem mo_L_splice : jmH kL_splice 5 := ⟨j_tb (List.mem_of_getElem? (i := 736) (by decide +kernel)), j_tb (List.mem_of_getElem? (i := 735) (by decide +kernel)), j_tb (List.mem_of_getElem? (i := 0) (by decide +kernel)), by decide +kernel, by decide +kernel⟩
abbrev kL_addPiece : jM := (yL_addPiece, cL_addPiece, 6, some .int, [(0, 12, 15, 15), (0, 12, 19, 17)])
theorem pn_L_addPiece : plainName (kL_addPiece : jM).1.cls = true := by decide +kernel
theorem mo_L_addPiece : jmH kL_addPiece 5 := ⟨j_tb (List.mem_of_getElem? (i := 749) (by decide +kernel)), j_tb (List.mem_of_getElem? (i := 748) (by decide +kernel)), j_tb (List.mem_of_getElem? (i := 0) (by decide +kernel)), by decide +kernel, by decide +kernel⟩
abbrev kL_setCue : jM := (yL_setCue, cL_setCue, 8, some .int, [(0, 16, 19, 13), (0, 16, 23, 15)])
theorem pn_L_setCue : plainName (kL_setCue : jM).1.cls = true := by decide +kernel
theorem mo_L_setCue : jmH kL_setCue 7 := ⟨j_tb (List.mem_of_getElem? (i := 758) (by decide +kernel)), j_tb (List.mem_of_getElem? (i := 757) (by decide +kernel)), j_tb (List.mem_of_getElem? (i := 0) (by decide +kernel)), by decide +kernel, by decide +kernel⟩
abbrev kL_fit : jM := (yL_fit, cL_fit, 4, some .int, [(0, 9, 12, 13)])
theorem pn_L_fit : plainName (kL_fit : jM).1.cls = true := by decide +kernel
theorem mo_L_fit : jmH kL_fit 3 := ⟨j_tb (List.mem_of_getElem? (i := 780) (by decide +kernel)), j_tb (List.mem_of_getElem? (i := 779) (by decide +kernel)), j_tb (List.mem_of_getElem? (i := 0) (by decide +kernel)), by decide +kernel, by decide +kernel⟩
abbrev kL_set : jM := (yL_set, cL_set, 5, some .int, [(0, 10, 13, 15)])
theorem pn_L_set : plainName (kL_set : jM).1.cls = true := by decide +kernel
theorem mo_L_set : jmH kL_set 4 := ⟨j_tb (List.mem_of_getElem? (i := 791) (by decide +kernel)), j_tb (List.mem_of_getElem? (i := 790) (by decide +kernel)), j_tb (List.mem_of_getElem? (i := 0) (by decide +kernel)), by decide +kernel, by decide +kernel⟩
abbrev kL_append : jM := (yL_append, cL_append, 4, some .int, [(0, 9, 12, 15), (0, 9, 15, 17)])
theorem pn_L_append : plainName (kL_append : jM).1.cls = true := by decide +kernel
theorem mo_L_append : jmH kL_append 3 := ⟨j_tb (List.mem_of_getElem? (i := 798) (by decide +kernel)), j_tb (List.mem_of_getElem? (i := 797) (by decide +kernel)), j_tb (List.mem_of_getElem? (i := 0) (by decide +kernel)), by decide +kernel, by decide +kernel⟩
abbrev kL_load : jM := (yL_load, cL_load, 4, some .int, [(0, 9, 12, 13), (0, 9, 15, 15), (0, 9, 18, 17)])
theorem pn_L_load : plainName (kL_load : jM).1.cls = true := by decide +kernel
theorem mo_L_load : jmH kL_load 3 := ⟨j_tb (List.mem_of_getElem? (i := 806) (by decide +kernel)), j_tb (List.mem_of_getElem? (i := 805) (by decide +kernel)), j_tb (List.mem_of_getElem? (i := 0) (by decide +kernel)), by decide +kernel, by decide +kernel⟩
abbrev kL_undo : jM := (yL_undo, cL_undo, 3, some .int, [(0, 8, 11, 17)])
theorem pn_L_undo : plainName (kL_undo : jM).1.cls = true := by decide +kernel
theorem mo_L_undo : jmH kL_undo 2 := ⟨j_tb (List.mem_of_getElem? (i := 824) (by decide +kernel)), j_tb (List.mem_of_getElem? (i := 823) (by decide +kernel)), j_tb (List.mem_of_getElem? (i := 0) (by decide +kernel)), by decide +kernel, by decide +kernel⟩
abbrev kL_scene : jM := (yL_scene, cL_scene, 6, some .int, [(0, 12, 15, 13), (0, 12, 19, 15)])
theorem pn_L_scene : plainName (kL_scene : jM).1.cls = true := by decide +kernel
theorem mo_L_scene : jmH kL_scene 5 := ⟨j_tb (List.mem_of_getElem? (i := 832) (by decide +kernel)), j_tb (List.mem_of_getElem? (i := 831) (by decide +kernel)), j_tb (List.mem_of_getElem? (i := 0) (by decide +kernel)), by decide +kernel, by decide +kernel⟩
abbrev kL_reel : jM := (yL_reel, cL_reel, 5, some .int, [(0, 10, 13, 13), (0, 10, 17, 15)])
theorem pn_L_reel : plainName (kL_reel : jM).1.cls = true := by decide +kernel
theorem mo_L_reel : jmH kL_reel 4 := ⟨j_tb (List.mem_of_getElem? (i := 839) (by decide +kernel)), j_tb (List.mem_of_getElem? (i := 838) (by decide +kernel)), j_tb (List.mem_of_getElem? (i := 0) (by decide +kernel)), by decide +kernel, by decide +kernel⟩
abbrev kL_speedAt : jM := (yL_speedAt, cL_speedAt, 5, some .int, [(0, 10, 13, 13), (0, 10, 17, 15)])
theorem pn_L_speedAt : plainName (kL_speedAt : jM).1.cls = true := by decide +kernel
theorem mo_L_speedAt : jmH kL_speedAt 4 := ⟨j_tb (List.mem_of_getElem? (i := 846) (by decide +kernel)), j_tb (List.mem_of_getElem? (i := 845) (by decide +kernel)), j_tb (List.mem_of_getElem? (i := 0) (by decide +kernel)), by decide +kernel, by decide +kernel⟩
abbrev kL_piece : jM := (yL_piece, cL_piece, 5, some .int, [(0, 10, 13, 13), (0, 10, 17, 15)])
theorem pn_L_piece : plainName (kL_piece : jM).1.cls = true := by decide +kernel
theorem mo_L_piece : jmH kL_piece 4 := ⟨j_tb (List.mem_of_getElem? (i := 853) (by decide +kernel)), j_tb (List.mem_of_getElem? (i := 852) (by decide +kernel)), j_tb (List.mem_of_getElem? (i := 0) (by decide +kernel)), by decide +kernel, by decide +kernel⟩
abbrev kL_count : jM := (yL_count, cL_count, 4, some .int, [(0, 9, 12, 15)])
theorem pn_L_count : plainName (kL_count : jM).1.cls = true := by decide +kernel
theorem mo_L_count : jmH kL_count 3 := ⟨j_tb (List.mem_of_getElem? (i := 860) (by decide +kernel)), j_tb (List.mem_of_getElem? (i := 859) (by decide +kernel)), j_tb (List.mem_of_getElem? (i := 0) (by decide +kernel)), by decide +kernel, by decide +kernel⟩
abbrev kL_bestCue : jM := (yL_bestCue, cL_bestCue, 6, some .int, [(0, 12, 15, 13)])
theorem pn_L_bestCue : plainName (kL_bestCue : jM).1.cls = true := by decide +kernel
theorem mo_L_bestCue : jmH kL_bestCue 5 := ⟨j_tb (List.mem_of_getElem? (i := 867) (by decide +kernel)), j_tb (List.mem_of_getElem? (i := 866) (by decide +kernel)), j_tb (List.mem_of_getElem? (i := 0) (by decide +kernel)), by decide +kernel, by decide +kernel⟩
abbrev kL_bestPiece : jM := (yL_bestPiece, cL_bestPiece, 5, some .int, [(0, 10, 13, 13)])
theorem pn_L_bestPiece : plainName (kL_bestPiece : jM).1.cls = true := by decide +kernel
theorem mo_L_bestPiece : jmH kL_bestPiece 4 := ⟨j_tb (List.mem_of_getElem? (i := 874) (by decide +kernel)), j_tb (List.mem_of_getElem? (i := 873) (by decide +kernel)), j_tb (List.mem_of_getElem? (i := 0) (by decide +kernel)), by decide +kernel, by decide +kernel⟩
abbrev kL_ifCranked : jM := (yL_ifCranked, cL_ifCranked, 5, some .int, [(0, 10, 13, 13), (0, 10, 17, 15)])
theorem pn_L_ifCranked : plainName (kL_ifCranked : jM).1.cls = true := by decide +kernel
theorem mo_L_ifCranked : jmH kL_ifCranked 4 := ⟨j_tb (List.mem_of_getElem? (i := 881) (by decide +kernel)), j_tb (List.mem_of_getElem? (i := 880) (by decide +kernel)), j_tb (List.mem_of_getElem? (i := 0) (by decide +kernel)), by decide +kernel, by decide +kernel⟩
abbrev kL_bestSpeed : jM := (yL_bestSpeed, cL_bestSpeed, 4, some .int, [(0, 9, 12, 13)])
theorem pn_L_bestSpeed : plainName (kL_bestSpeed : jM).1.cls = true := by decide +kernel
theorem mo_L_bestSpeed : jmH kL_bestSpeed 3 := ⟨j_tb (List.mem_of_getElem? (i := 888) (by decide +kernel)), j_tb (List.mem_of_getElem? (i := 887) (by decide +kernel)), j_tb (List.mem_of_getElem? (i := 0) (by decide +kernel)), by decide +kernel, by decide +kernel⟩
abbrev kL_offShare : jM := (yL_offShare, cL_offShare, 4, some .int, [(0, 9, 12, 13)])
theorem pn_L_offShare : plainName (kL_offShare : jM).1.cls = true := by decide +kernel
theorem mo_L_offShare : jmH kL_offShare 3 := ⟨j_tb (List.mem_of_getElem? (i := 895) (by decide +kernel)), j_tb (List.mem_of_getElem? (i := 894) (by decide +kernel)), j_tb (List.mem_of_getElem? (i := 0) (by decide +kernel)), by decide +kernel, by decide +kernel⟩
abbrev kL_meanSpeed : jM := (yL_meanSpeed, cL_meanSpeed, 4, some .int, [(0, 8, 11, 13)])
theorem pn_L_meanSpeed : plainName (kL_meanSpeed : jM).1.cls = true := by decide +kernel
theorem mo_L_meanSpeed : jmH kL_meanSpeed 3 := ⟨j_tb (List.mem_of_getElem? (i := 902) (by decide +kernel)), j_tb (List.mem_of_getElem? (i := 901) (by decide +kernel)), j_tb (List.mem_of_getElem? (i := 0) (by decide +kernel)), by decide +kernel, by decide +kernel⟩
theorem ml_L_88 : Cond.methodLink RL 88 yX7_init ∈ lw_tbl := j_tb (List.mem_of_getElem? (i := 21) (by decide +kernel))
theorem ml_X7_1 : Cond.methodLink RX7 1 objectInit ∈ lw_tbl := j_tb (List.mem_of_getElem? (i := 24) (by decide +kernel))
theorem ml_X7_9 : Cond.methodLink RX7 9 yX5_init ∈ lw_tbl := j_tb (List.mem_of_getElem? (i := 29) (by decide +kernel))
theorem ml_X5_3 : Cond.methodLink RX5 3 objectInit ∈ lw_tbl := j_tb (List.mem_of_getElem? (i := 32) (by decide +kernel))
theorem ml_X5_11 : Cond.methodLink RX5 11 yX2_init ∈ lw_tbl := j_tb (List.mem_of_getElem? (i := 35) (by decide +kernel))
theorem ml_X2_3 : Cond.methodLink RX2 3 objectInit ∈ lw_tbl := j_tb (List.mem_of_getElem? (i := 38) (by decide +kernel))
theorem ml_X2_11 : Cond.methodLink RX2 11 yX3_init ∈ lw_tbl := j_tb (List.mem_of_getElem? (i := 41) (by decide +kernel))
theorem ml_X3_1 : Cond.methodLink RX3 1 objectInit ∈ lw_tbl := j_tb (List.mem_of_getElem? (i := 44) (by decide +kernel))
theorem ml_X2_31 : Cond.methodLink RX2 31 yX1_init ∈ lw_tbl := j_tb (List.mem_of_getElem? (i := 55) (by decide +kernel))
theorem ml_X1_3 : Cond.methodLink RX1 3 objectInit ∈ lw_tbl := j_tb (List.mem_of_getElem? (i := 58) (by decide +kernel))
theorem ml_X1_11 : Cond.methodLink RX1 11 yX3_init ∈ lw_tbl := j_tb (List.mem_of_getElem? (i := 60) (by decide +kernel))
theorem ml_X2_39 : Cond.methodLink RX2 39 yX1_mark ∈ lw_tbl := j_tb (List.mem_of_getElem? (i := 70) (by decide +kernel))
theorem ml_X1_31 : Cond.methodLink RX1 31 yX1_placeOf ∈ lw_tbl := j_tb (List.mem_of_getElem? (i := 74) (by decide +kernel))
theorem ml_X1_23 : Cond.methodLink RX1 23 yX3_size ∈ lw_tbl := j_tb (List.mem_of_getElem? (i := 78) (by decide +kernel))
theorem ml_X1_27 : Cond.methodLink RX1 27 yX3_at ∈ lw_tbl := j_tb (List.mem_of_getElem? (i := 82) (by decide +kernel))
theorem ml_X1_34 : Cond.methodLink RX1 34 yX1_isAt ∈ lw_tbl := j_tb (List.mem_of_getElem? (i := 86) (by decide +kernel))
theorem ml_X1_38 : Cond.methodLink RX1 38 yX3_put ∈ lw_tbl := j_tb (List.mem_of_getElem? (i := 90) (by decide +kernel))
theorem ml_X1_42 : Cond.methodLink RX1 42 yX3_insert ∈ lw_tbl := j_tb (List.mem_of_getElem? (i := 94) (by decide +kernel))
theorem ml_X3_17 : Cond.methodLink RX3 17 yX3_add ∈ lw_tbl := j_tb (List.mem_of_getElem? (i := 98) (by decide +kernel))
theorem ml_X3_21 : Cond.methodLink RX3 21 yX3_at ∈ lw_tbl := j_tb (List.mem_of_getElem? (i := 102) (by decide +kernel))
theorem ml_X3_25 : Cond.methodLink RX3 25 yX3_put ∈ lw_tbl := j_tb (List.mem_of_getElem? (i := 103) (by decide +kernel))
theorem ml_X5_26 : Cond.methodLink RX5 26 yX3_init ∈ lw_tbl := j_tb (List.mem_of_getElem? (i := 135) (by decide +kernel))
theorem ml_X7_22 : Cond.methodLink RX7 22 yX3_init ∈ lw_tbl := j_tb (List.mem_of_getElem? (i := 172) (by decide +kernel))
theorem ml_X7_31 : Cond.methodLink RX7 31 yX4_init ∈ lw_tbl := j_tb (List.mem_of_getElem? (i := 175) (by decide +kernel))
theorem ml_X4_3 : Cond.methodLink RX4 3 objectInit ∈ lw_tbl := j_tb (List.mem_of_getElem? (i := 178) (by decide +kernel))
theorem ml_X4_11 : Cond.methodLink RX4 11 yX3_init ∈ lw_tbl := j_tb (List.mem_of_getElem? (i := 180) (by decide +kernel))
theorem ml_X7_38 : Cond.methodLink RX7 38 yX6_init ∈ lw_tbl := j_tb (List.mem_of_getElem? (i := 203) (by decide +kernel))
theorem ml_X6_3 : Cond.methodLink RX6 3 objectInit ∈ lw_tbl := j_tb (List.mem_of_getElem? (i := 206) (by decide +kernel))
theorem ml_X6_11 : Cond.methodLink RX6 11 yX3_init ∈ lw_tbl := j_tb (List.mem_of_getElem? (i := 208) (by decide +kernel))
theorem ml_X0_3 : Cond.methodLink RX0 3 objectInit ∈ lw_tbl := j_tb (List.mem_of_getElem? (i := 271) (by decide +kernel))
theorem ml_L_128 : Cond.methodLink RL 128 yX7_clearBuffer ∈ lw_tbl := j_tb (List.mem_of_getElem? (i := 313) (by decide +kernel))
theorem ml_X7_166 : Cond.methodLink RX7 166 yX3_size ∈ lw_tbl := j_tb (List.mem_of_getElem? (i := 317) (by decide +kernel))
theorem ml_X7_169 : Cond.methodLink RX7 169 yX3_clear ∈ lw_tbl := j_tb (List.mem_of_getElem? (i := 318) (by decide +kernel))
theorem ml_L_132 : Cond.methodLink RL 132 yX7_firstError ∈ lw_tbl := j_tb (List.mem_of_getElem? (i := 322) (by decide +kernel))
theorem ml_X7_172 : Cond.methodLink RX7 172 yX7_readBuffer ∈ lw_tbl := j_tb (List.mem_of_getElem? (i := 326) (by decide +kernel))
theorem ml_X7_287 : Cond.methodLink RX7 287 yX4_begin ∈ lw_tbl := j_tb (List.mem_of_getElem? (i := 330) (by decide +kernel))
theorem ml_X4_33 : Cond.methodLink RX4 33 yX3_clear ∈ lw_tbl := j_tb (List.mem_of_getElem? (i := 334) (by decide +kernel))
theorem ml_X4_36 : Cond.methodLink RX4 36 yX4_beginScene ∈ lw_tbl := j_tb (List.mem_of_getElem? (i := 335) (by decide +kernel))
theorem ml_X4_39 : Cond.methodLink RX4 39 yX3_add ∈ lw_tbl := j_tb (List.mem_of_getElem? (i := 339) (by decide +kernel))
theorem ml_X7_148 : Cond.methodLink RX7 148 yX3_at ∈ lw_tbl := j_tb (List.mem_of_getElem? (i := 341) (by decide +kernel))
theorem ml_X7_290 : Cond.methodLink RX7 290 yX4_read ∈ lw_tbl := j_tb (List.mem_of_getElem? (i := 342) (by decide +kernel))
theorem ml_X4_54 : Cond.methodLink RX4 54 yX4_readComma ∈ lw_tbl := j_tb (List.mem_of_getElem? (i := 346) (by decide +kernel))
theorem ml_X4_58 : Cond.methodLink RX4 58 yX4_isComplete ∈ lw_tbl := j_tb (List.mem_of_getElem? (i := 350) (by decide +kernel))
theorem ml_X4_47 : Cond.methodLink RX4 47 yX4_latest ∈ lw_tbl := j_tb (List.mem_of_getElem? (i := 354) (by decide +kernel))
theorem ml_X4_29 : Cond.methodLink RX4 29 yX3_size ∈ lw_tbl := j_tb (List.mem_of_getElem? (i := 358) (by decide +kernel))
theorem ml_X4_50 : Cond.methodLink RX4 50 yX3_at ∈ lw_tbl := j_tb (List.mem_of_getElem? (i := 359) (by decide +kernel))
theorem ml_X4_61 : Cond.methodLink RX4 61 yX4_step ∈ lw_tbl := j_tb (List.mem_of_getElem? (i := 360) (by decide +kernel))
theorem ml_X4_65 : Cond.methodLink RX4 65 yX4_readAtSign ∈ lw_tbl := j_tb (List.mem_of_getElem? (i := 364) (by decide +kernel))
theorem ml_X4_72 : Cond.methodLink RX4 72 yX3_put ∈ lw_tbl := j_tb (List.mem_of_getElem? (i := 368) (by decide +kernel))
theorem ml_X4_68 : Cond.methodLink RX4 68 yX4_readDigit ∈ lw_tbl := j_tb (List.mem_of_getElem? (i := 369) (by decide +kernel))
theorem ml_X4_76 : Cond.methodLink RX4 76 yX4_grow ∈ lw_tbl := j_tb (List.mem_of_getElem? (i := 373) (by decide +kernel))
theorem ml_L_177 : Cond.methodLink RL 177 yX7_digest ∈ lw_tbl := j_tb (List.mem_of_getElem? (i := 377) (by decide +kernel))
theorem ml_X7_227 : Cond.methodLink RX7 227 yX7_countProperty ∈ lw_tbl := j_tb (List.mem_of_getElem? (i := 382) (by decide +kernel))
theorem ml_X7_118 : Cond.methodLink RX7 118 yX5_pieces ∈ lw_tbl := j_tb (List.mem_of_getElem? (i := 386) (by decide +kernel))
theorem ml_X5_46 : Cond.methodLink RX5 46 yX3_size ∈ lw_tbl := j_tb (List.mem_of_getElem? (i := 390) (by decide +kernel))
theorem ml_X7_344 : Cond.methodLink RX7 344 yX7_sumOverReels ∈ lw_tbl := j_tb (List.mem_of_getElem? (i := 391) (by decide +kernel))
theorem ml_X7_60 : Cond.methodLink RX7 60 yX5_reelAt ∈ lw_tbl := j_tb (List.mem_of_getElem? (i := 395) (by decide +kernel))
theorem ml_X7_141 : Cond.methodLink RX7 141 yX6_measure ∈ lw_tbl := j_tb (List.mem_of_getElem? (i := 399) (by decide +kernel))
theorem ml_X6_38 : Cond.methodLink RX6 38 yX6_clear ∈ lw_tbl := j_tb (List.mem_of_getElem? (i := 403) (by decide +kernel))
theorem ml_X6_79 : Cond.methodLink RX6 79 yX3_clear ∈ lw_tbl := j_tb (List.mem_of_getElem? (i := 407) (by decide +kernel))
theorem ml_X6_41 : Cond.methodLink RX6 41 yX2_scenes ∈ lw_tbl := j_tb (List.mem_of_getElem? (i := 408) (by decide +kernel))
theorem ml_X2_43 : Cond.methodLink RX2 43 yX3_size ∈ lw_tbl := j_tb (List.mem_of_getElem? (i := 412) (by decide +kernel))
theorem ml_X6_54 : Cond.methodLink RX6 54 yX3_at ∈ lw_tbl := j_tb (List.mem_of_getElem? (i := 413) (by decide +kernel))
theorem ml_X6_58 : Cond.methodLink RX6 58 yX2_lostBetween ∈ lw_tbl := j_tb (List.mem_of_getElem? (i := 414) (by decide +kernel))
theorem ml_X2_47 : Cond.methodLink RX2 47 yX3_at ∈ lw_tbl := j_tb (List.mem_of_getElem? (i := 418) (by decide +kernel))
theorem ml_X2_64 : Cond.methodLink RX2 64 Lib.Math.max.name ∈ lw_tbl := j_tb (List.mem_of_getElem? (i := 419) (by decide +kernel))
theorem ml_X2_73 : Cond.methodLink RX2 73 Lib.Math.min.name ∈ lw_tbl := j_tb (List.mem_of_getElem? (i := 422) (by decide +kernel))
theorem ml_X6_62 : Cond.methodLink RX6 62 yX2_timeBetween ∈ lw_tbl := j_tb (List.mem_of_getElem? (i := 425) (by decide +kernel))
theorem ml_X2_76 : Cond.methodLink RX2 76 yX2_lostBetween ∈ lw_tbl := j_tb (List.mem_of_getElem? (i := 429) (by decide +kernel))
theorem ml_X2_79 : Cond.methodLink RX2 79 yX2_footTime ∈ lw_tbl := j_tb (List.mem_of_getElem? (i := 430) (by decide +kernel))
theorem ml_X6_66 : Cond.methodLink RX6 66 yX3_add ∈ lw_tbl := j_tb (List.mem_of_getElem? (i := 433) (by decide +kernel))
theorem ml_X6_75 : Cond.methodLink RX6 75 yX6_measureCue ∈ lw_tbl := j_tb (List.mem_of_getElem? (i := 434) (by decide +kernel))
theorem ml_X6_92 : Cond.methodLink RX6 92 Lib.Math.max.name ∈ lw_tbl := j_tb (List.mem_of_getElem? (i := 438) (by decide +kernel))
theorem ml_X6_97 : Cond.methodLink RX6 97 yX2_hasCue ∈ lw_tbl := j_tb (List.mem_of_getElem? (i := 439) (by decide +kernel))
theorem ml_X6_110 : Cond.methodLink RX6 110 yX5_playTime ∈ lw_tbl := j_tb (List.mem_of_getElem? (i := 444) (by decide +kernel))
theorem ml_X5_59 : Cond.methodLink RX5 59 yX3_at ∈ lw_tbl := j_tb (List.mem_of_getElem? (i := 448) (by decide +kernel))
theorem ml_X5_63 : Cond.methodLink RX5 63 yX5_timeAtPace ∈ lw_tbl := j_tb (List.mem_of_getElem? (i := 449) (by decide +kernel))
theorem ml_X6_115 : Cond.methodLink RX6 115 Lib.Math.abs.name ∈ lw_tbl := j_tb (List.mem_of_getElem? (i := 452) (by decide +kernel))
theorem ml_X6_118 : Cond.methodLink RX6 118 yX5_isBad ∈ lw_tbl := j_tb (List.mem_of_getElem? (i := 455) (by decide +kernel))
theorem ml_X5_67 : Cond.methodLink RX5 67 Lib.Math.abs.name ∈ lw_tbl := j_tb (List.mem_of_getElem? (i := 459) (by decide +kernel))
theorem ml_X7_64 : Cond.methodLink RX7 64 yX2_scenes ∈ lw_tbl := j_tb (List.mem_of_getElem? (i := 460) (by decide +kernel))
theorem ml_X7_262 : Cond.methodLink RX7 262 yX7_mix ∈ lw_tbl := j_tb (List.mem_of_getElem? (i := 461) (by decide +kernel))
theorem ml_X7_223 : Cond.methodLink RX7 223 yX7_pieceProperty ∈ lw_tbl := j_tb (List.mem_of_getElem? (i := 465) (by decide +kernel))
theorem ml_X7_341 : Cond.methodLink RX7 341 yX5_cuesWith ∈ lw_tbl := j_tb (List.mem_of_getElem? (i := 469) (by decide +kernel))
theorem ml_X5_53 : Cond.methodLink RX5 53 yX5_reelAt ∈ lw_tbl := j_tb (List.mem_of_getElem? (i := 473) (by decide +kernel))
theorem ml_X7_266 : Cond.methodLink RX7 266 yX7_mixReel ∈ lw_tbl := j_tb (List.mem_of_getElem? (i := 474) (by decide +kernel))
theorem ml_X7_216 : Cond.methodLink RX7 216 yX7_reelProperty ∈ lw_tbl := j_tb (List.mem_of_getElem? (i := 478) (by decide +kernel))
theorem ml_X7_107 : Cond.methodLink RX7 107 yX1_size ∈ lw_tbl := j_tb (List.mem_of_getElem? (i := 482) (by decide +kernel))
theorem ml_X7_335 : Cond.methodLink RX7 335 yX6_silence ∈ lw_tbl := j_tb (List.mem_of_getElem? (i := 486) (by decide +kernel))
theorem ml_X6_121 : Cond.methodLink RX6 121 Lib.Math.min.name ∈ lw_tbl := j_tb (List.mem_of_getElem? (i := 490) (by decide +kernel))
theorem ml_X7_212 : Cond.methodLink RX7 212 yX7_sceneProperty ∈ lw_tbl := j_tb (List.mem_of_getElem? (i := 491) (by decide +kernel))
theorem ml_X7_152 : Cond.methodLink RX7 152 yX2_hasCue ∈ lw_tbl := j_tb (List.mem_of_getElem? (i := 495) (by decide +kernel))
theorem ml_X7_320 : Cond.methodLink RX7 320 yX5_isBad ∈ lw_tbl := j_tb (List.mem_of_getElem? (i := 496) (by decide +kernel))
theorem ml_X7_230 : Cond.methodLink RX7 230 yX6_roomForCue ∈ lw_tbl := j_tb (List.mem_of_getElem? (i := 497) (by decide +kernel))
theorem ml_X7_242 : Cond.methodLink RX7 242 yX7_pieceForRoom ∈ lw_tbl := j_tb (List.mem_of_getElem? (i := 501) (by decide +kernel))
theorem ml_X7_233 : Cond.methodLink RX7 233 yX0_search ∈ lw_tbl := j_tb (List.mem_of_getElem? (i := 506) (by decide +kernel))
theorem ml_X0_15 : Cond.methodLink RX0 15 yX3_at ∈ lw_tbl := j_tb (List.mem_of_getElem? (i := 510) (by decide +kernel))
theorem ml_X0_37 : Cond.methodLink RX0 37 yX0_tryPaces ∈ lw_tbl := j_tb (List.mem_of_getElem? (i := 512) (by decide +kernel))
theorem ml_X0_41 : Cond.methodLink RX0 41 yX5_timeAtPace ∈ lw_tbl := j_tb (List.mem_of_getElem? (i := 516) (by decide +kernel))
theorem ml_X0_45 : Cond.methodLink RX0 45 yX0_consider ∈ lw_tbl := j_tb (List.mem_of_getElem? (i := 517) (by decide +kernel))
theorem ml_X0_49 : Cond.methodLink RX0 49 Lib.Math.abs.name ∈ lw_tbl := j_tb (List.mem_of_getElem? (i := 521) (by decide +kernel))
theorem ml_X7_220 : Cond.methodLink RX7 220 yX1_valueHoldingAt ∈ lw_tbl := j_tb (List.mem_of_getElem? (i := 522) (by decide +kernel))
theorem ml_X7_248 : Cond.methodLink RX7 248 yX7_speedForReel ∈ lw_tbl := j_tb (List.mem_of_getElem? (i := 526) (by decide +kernel))
theorem ml_X7_252 : Cond.methodLink RX7 252 yX7_measuredOffShare ∈ lw_tbl := j_tb (List.mem_of_getElem? (i := 530) (by decide +kernel))
theorem ml_X7_351 : Cond.methodLink RX7 351 yX7_floatBits ∈ lw_tbl := j_tb (List.mem_of_getElem? (i := 534) (by decide +kernel))
theorem ml_X7_256 : Cond.methodLink RX7 256 yX7_measuredMeanSpeed ∈ lw_tbl := j_tb (List.mem_of_getElem? (i := 540) (by decide +kernel))
theorem ml_X7_355 : Cond.methodLink RX7 355 yX7_doubleBits ∈ lw_tbl := j_tb (List.mem_of_getElem? (i := 545) (by decide +kernel))
theorem ml_L_92 : Cond.methodLink RL 92 yL_addScene ∈ lw_tbl := j_tb (List.mem_of_getElem? (i := 552) (by decide +kernel))
theorem ml_L_7 : Cond.methodLink RL 7 yX7_addScene ∈ lw_tbl := j_tb (List.mem_of_getElem? (i := 558) (by decide +kernel))
theorem ml_X7_53 : Cond.methodLink RX7 53 yX7_requireReel ∈ lw_tbl := j_tb (List.mem_of_getElem? (i := 562) (by decide +kernel))
theorem ml_X7_56 : Cond.methodLink RX7 56 yX7_requireRange ∈ lw_tbl := j_tb (List.mem_of_getElem? (i := 634) (by decide +kernel))
theorem ml_X7_77 : Cond.methodLink RX7 77 yX7_save ∈ lw_tbl := j_tb (List.mem_of_getElem? (i := 669) (by decide +kernel))
theorem ml_X7_204 : Cond.methodLink RX7 204 yX7_savedAt ∈ lw_tbl := j_tb (List.mem_of_getElem? (i := 673) (by decide +kernel))
theorem ml_X7_208 : Cond.methodLink RX7 208 yX5_takeFrom ∈ lw_tbl := j_tb (List.mem_of_getElem? (i := 677) (by decide +kernel))
theorem ml_X5_72 : Cond.methodLink RX5 72 yX2_takeFrom ∈ lw_tbl := j_tb (List.mem_of_getElem? (i := 681) (by decide +kernel))
theorem ml_X2_82 : Cond.methodLink RX2 82 yX3_takeFrom ∈ lw_tbl := j_tb (List.mem_of_getElem? (i := 685) (by decide +kernel))
theorem ml_X3_29 : Cond.methodLink RX3 29 yX3_clear ∈ lw_tbl := j_tb (List.mem_of_getElem? (i := 689) (by decide +kernel))
theorem ml_X2_86 : Cond.methodLink RX2 86 yX1_takeFrom ∈ lw_tbl := j_tb (List.mem_of_getElem? (i := 690) (by decide +kernel))
theorem ml_X1_48 : Cond.methodLink RX1 48 yX3_takeFrom ∈ lw_tbl := j_tb (List.mem_of_getElem? (i := 694) (by decide +kernel))
theorem ml_X5_76 : Cond.methodLink RX5 76 yX3_takeFrom ∈ lw_tbl := j_tb (List.mem_of_getElem? (i := 695) (by decide +kernel))
theorem ml_X7_81 : Cond.methodLink RX7 81 yX2_extend ∈ lw_tbl := j_tb (List.mem_of_getElem? (i := 696) (by decide +kernel))
theorem ml_X2_52 : Cond.methodLink RX2 52 yX3_add ∈ lw_tbl := j_tb (List.mem_of_getElem? (i := 700) (by decide +kernel))
theorem ml_L_101 : Cond.methodLink RL 101 yL_removeScene ∈ lw_tbl := j_tb (List.mem_of_getElem? (i := 701) (by decide +kernel))
theorem ml_L_19 : Cond.methodLink RL 19 yX7_removeScene ∈ lw_tbl := j_tb (List.mem_of_getElem? (i := 704) (by decide +kernel))
theorem ml_X7_85 : Cond.methodLink RX7 85 yX7_requireScene ∈ lw_tbl := j_tb (List.mem_of_getElem? (i := 708) (by decide +kernel))
theorem ml_X7_89 : Cond.methodLink RX7 89 yX2_cutOut ∈ lw_tbl := j_tb (List.mem_of_getElem? (i := 713) (by decide +kernel))
theorem ml_X2_55 : Cond.methodLink RX2 55 yX3_remove ∈ lw_tbl := j_tb (List.mem_of_getElem? (i := 717) (by decide +kernel))
theorem ml_L_104 : Cond.methodLink RL 104 yL_crank ∈ lw_tbl := j_tb (List.mem_of_getElem? (i := 721) (by decide +kernel))
theorem ml_L_22 : Cond.methodLink RL 22 yX7_crank ∈ lw_tbl := j_tb (List.mem_of_getElem? (i := 724) (by decide +kernel))
theorem ml_X7_96 : Cond.methodLink RX7 96 yX1_hasRoomFor ∈ lw_tbl := j_tb (List.mem_of_getElem? (i := 728) (by decide +kernel))
theorem ml_X7_104 : Cond.methodLink RX7 104 yX1_mark ∈ lw_tbl := j_tb (List.mem_of_getElem? (i := 733) (by decide +kernel))
theorem ml_L_108 : Cond.methodLink RL 108 yL_splice ∈ lw_tbl := j_tb (List.mem_of_getElem? (i := 734) (by decide +kernel))
theorem ml_L_26 : Cond.methodLink RL 26 yX7_splice ∈ lw_tbl := j_tb (List.mem_of_getElem? (i := 737) (by decide +kernel))
theorem ml_X7_115 : Cond.methodLink RX7 115 yX1_unmark ∈ lw_tbl := j_tb (List.mem_of_getElem? (i := 742) (by decide +kernel))
theorem ml_X1_45 : Cond.methodLink RX1 45 yX3_remove ∈ lw_tbl := j_tb (List.mem_of_getElem? (i := 746) (by decide +kernel))
theorem ml_L_111 : Cond.methodLink RL 111 yL_addPiece ∈ lw_tbl := j_tb (List.mem_of_getElem? (i := 747) (by decide +kernel))
theorem ml_L_29 : Cond.methodLink RL 29 yX7_addPiece ∈ lw_tbl := j_tb (List.mem_of_getElem? (i := 750) (by decide +kernel))
theorem ml_X7_126 : Cond.methodLink RX7 126 yX3_add ∈ lw_tbl := j_tb (List.mem_of_getElem? (i := 755) (by decide +kernel))
theorem ml_L_114 : Cond.methodLink RL 114 yL_setCue ∈ lw_tbl := j_tb (List.mem_of_getElem? (i := 756) (by decide +kernel))
theorem ml_L_32 : Cond.methodLink RL 32 yX7_setCue ∈ lw_tbl := j_tb (List.mem_of_getElem? (i := 759) (by decide +kernel))
theorem ml_X7_135 : Cond.methodLink RX7 135 yX7_requirePiece ∈ lw_tbl := j_tb (List.mem_of_getElem? (i := 763) (by decide +kernel))
theorem ml_X7_277 : Cond.methodLink RX7 277 yX5_hasPiece ∈ lw_tbl := j_tb (List.mem_of_getElem? (i := 767) (by decide +kernel))
theorem ml_X5_50 : Cond.methodLink RX5 50 yX5_pieces ∈ lw_tbl := j_tb (List.mem_of_getElem? (i := 771) (by decide +kernel))
theorem ml_X7_138 : Cond.methodLink RX7 138 yX2_giveCue ∈ lw_tbl := j_tb (List.mem_of_getElem? (i := 773) (by decide +kernel))
theorem ml_X2_58 : Cond.methodLink RX2 58 yX3_put ∈ lw_tbl := j_tb (List.mem_of_getElem? (i := 777) (by decide +kernel))
theorem ml_L_118 : Cond.methodLink RL 118 yL_fit ∈ lw_tbl := j_tb (List.mem_of_getElem? (i := 778) (by decide +kernel))
theorem ml_L_36 : Cond.methodLink RL 36 yX7_fit ∈ lw_tbl := j_tb (List.mem_of_getElem? (i := 781) (by decide +kernel))
theorem ml_X7_155 : Cond.methodLink RX7 155 yX7_fitScene ∈ lw_tbl := j_tb (List.mem_of_getElem? (i := 785) (by decide +kernel))
theorem ml_L_122 : Cond.methodLink RL 122 yL_set ∈ lw_tbl := j_tb (List.mem_of_getElem? (i := 789) (by decide +kernel))
theorem ml_L_40 : Cond.methodLink RL 40 yX7_set ∈ lw_tbl := j_tb (List.mem_of_getElem? (i := 792) (by decide +kernel))
theorem ml_L_125 : Cond.methodLink RL 125 yL_append ∈ lw_tbl := j_tb (List.mem_of_getElem? (i := 796) (by decide +kernel))
theorem ml_L_43 : Cond.methodLink RL 43 yX7_append ∈ lw_tbl := j_tb (List.mem_of_getElem? (i := 799) (by decide +kernel))
theorem ml_L_136 : Cond.methodLink RL 136 yL_load ∈ lw_tbl := j_tb (List.mem_of_getElem? (i := 804) (by decide +kernel))
theorem ml_L_46 : Cond.methodLink RL 46 yX7_load ∈ lw_tbl := j_tb (List.mem_of_getElem? (i := 807) (by decide +kernel))
theorem ml_X7_175 : Cond.methodLink RX7 175 yX4_isComplete ∈ lw_tbl := j_tb (List.mem_of_getElem? (i := 811) (by decide +kernel))
theorem ml_X7_184 : Cond.methodLink RX7 184 yX4_scenes ∈ lw_tbl := j_tb (List.mem_of_getElem? (i := 813) (by decide +kernel))
theorem ml_X7_185 : Cond.methodLink RX7 185 yX7_hasPiecesThatWereRead ∈ lw_tbl := j_tb (List.mem_of_getElem? (i := 817) (by decide +kernel))
theorem ml_L_139 : Cond.methodLink RL 139 yL_undo ∈ lw_tbl := j_tb (List.mem_of_getElem? (i := 822) (by decide +kernel))
theorem ml_L_49 : Cond.methodLink RL 49 yX7_undo ∈ lw_tbl := j_tb (List.mem_of_getElem? (i := 825) (by decide +kernel))
theorem ml_L_143 : Cond.methodLink RL 143 yL_scene ∈ lw_tbl := j_tb (List.mem_of_getElem? (i := 830) (by decide +kernel))
theorem ml_L_53 : Cond.methodLink RL 53 yX7_scene ∈ lw_tbl := j_tb (List.mem_of_getElem? (i := 833) (by decide +kernel))
theorem ml_L_146 : Cond.methodLink RL 146 yL_reel ∈ lw_tbl := j_tb (List.mem_of_getElem? (i := 837) (by decide +kernel))
theorem ml_L_56 : Cond.methodLink RL 56 yX7_reel ∈ lw_tbl := j_tb (List.mem_of_getElem? (i := 840) (by decide +kernel))
theorem ml_L_149 : Cond.methodLink RL 149 yL_speedAt ∈ lw_tbl := j_tb (List.mem_of_getElem? (i := 844) (by decide +kernel))
theorem ml_L_59 : Cond.methodLink RL 59 yX7_speedAt ∈ lw_tbl := j_tb (List.mem_of_getElem? (i := 847) (by decide +kernel))
theorem ml_L_152 : Cond.methodLink RL 152 yL_piece ∈ lw_tbl := j_tb (List.mem_of_getElem? (i := 851) (by decide +kernel))
theorem ml_L_62 : Cond.methodLink RL 62 yX7_piece ∈ lw_tbl := j_tb (List.mem_of_getElem? (i := 854) (by decide +kernel))
theorem ml_L_155 : Cond.methodLink RL 155 yL_count ∈ lw_tbl := j_tb (List.mem_of_getElem? (i := 858) (by decide +kernel))
theorem ml_L_65 : Cond.methodLink RL 65 yX7_count ∈ lw_tbl := j_tb (List.mem_of_getElem? (i := 861) (by decide +kernel))
theorem ml_L_158 : Cond.methodLink RL 158 yL_bestCue ∈ lw_tbl := j_tb (List.mem_of_getElem? (i := 865) (by decide +kernel))
theorem ml_L_68 : Cond.methodLink RL 68 yX7_bestCue ∈ lw_tbl := j_tb (List.mem_of_getElem? (i := 868) (by decide +kernel))
theorem ml_L_161 : Cond.methodLink RL 161 yL_bestPiece ∈ lw_tbl := j_tb (List.mem_of_getElem? (i := 872) (by decide +kernel))
theorem ml_L_71 : Cond.methodLink RL 71 yX7_bestPiece ∈ lw_tbl := j_tb (List.mem_of_getElem? (i := 875) (by decide +kernel))
theorem ml_L_164 : Cond.methodLink RL 164 yL_ifCranked ∈ lw_tbl := j_tb (List.mem_of_getElem? (i := 879) (by decide +kernel))
theorem ml_L_74 : Cond.methodLink RL 74 yX7_ifCranked ∈ lw_tbl := j_tb (List.mem_of_getElem? (i := 882) (by decide +kernel))
theorem ml_L_167 : Cond.methodLink RL 167 yL_bestSpeed ∈ lw_tbl := j_tb (List.mem_of_getElem? (i := 886) (by decide +kernel))
theorem ml_L_77 : Cond.methodLink RL 77 yX7_bestSpeed ∈ lw_tbl := j_tb (List.mem_of_getElem? (i := 889) (by decide +kernel))
theorem ml_L_170 : Cond.methodLink RL 170 yL_offShare ∈ lw_tbl := j_tb (List.mem_of_getElem? (i := 893) (by decide +kernel))
theorem ml_L_80 : Cond.methodLink RL 80 yX7_offShare ∈ lw_tbl := j_tb (List.mem_of_getElem? (i := 896) (by decide +kernel))
theorem ml_L_174 : Cond.methodLink RL 174 yL_meanSpeed ∈ lw_tbl := j_tb (List.mem_of_getElem? (i := 900) (by decide +kernel))
theorem ml_L_84 : Cond.methodLink RL 84 yX7_meanSpeed ∈ lw_tbl := j_tb (List.mem_of_getElem? (i := 903) (by decide +kernel))
theorem ml_L_91 : Cond.methodLink RL 91 yX8_init ∈ lw_tbl := j_tb (List.mem_of_getElem? (i := 909) (by decide +kernel))
theorem ml_X8_1 : Cond.methodLink RX8 1 objectInit ∈ lw_tbl := j_tb (List.mem_of_getElem? (i := 912) (by decide +kernel))
theorem ml_L_98 : Cond.methodLink RL 98 yX8_thrown ∈ lw_tbl := j_tb (List.mem_of_getElem? (i := 962) (by decide +kernel))
theorem ml_L_142 : Cond.methodLink RL 142 yX8_undo ∈ lw_tbl := j_tb (List.mem_of_getElem? (i := 966) (by decide +kernel))
theorem ml_L_97 : Cond.methodLink RL 97 yX8_addScene ∈ lw_tbl := j_tb (List.mem_of_getElem? (i := 970) (by decide +kernel))
theorem ml_X8_42 : Cond.methodLink RX8 42 yX8_isReel ∈ lw_tbl := j_tb (List.mem_of_getElem? (i := 974) (by decide +kernel))
theorem ml_X8_38 : Cond.methodLink RX8 38 yX8_within ∈ lw_tbl := j_tb (List.mem_of_getElem? (i := 977) (by decide +kernel))
theorem ml_X8_46 : Cond.methodLink RX8 46 yX8_scenes ∈ lw_tbl := j_tb (List.mem_of_getElem? (i := 980) (by decide +kernel))
theorem ml_X8_91 : Cond.methodLink RX8 91 yX8_save ∈ lw_tbl := j_tb (List.mem_of_getElem? (i := 984) (by decide +kernel))
theorem ml_X8_94 : Cond.methodLink RX8 94 yX8_bring ∈ lw_tbl := j_tb (List.mem_of_getElem? (i := 989) (by decide +kernel))
theorem ml_L_103 : Cond.methodLink RL 103 yX8_removeScene ∈ lw_tbl := j_tb (List.mem_of_getElem? (i := 993) (by decide +kernel))
theorem ml_X8_98 : Cond.methodLink RX8 98 yX8_isScene ∈ lw_tbl := j_tb (List.mem_of_getElem? (i := 997) (by decide +kernel))
theorem ml_L_107 : Cond.methodLink RL 107 yX8_crank ∈ lw_tbl := j_tb (List.mem_of_getElem? (i := 1001) (by decide +kernel))
theorem ml_X8_101 : Cond.methodLink RX8 101 yX8_holdAt ∈ lw_tbl := j_tb (List.mem_of_getElem? (i := 1005) (by decide +kernel))
theorem ml_X8_104 : Cond.methodLink RX8 104 yX8_hold ∈ lw_tbl := j_tb (List.mem_of_getElem? (i := 1009) (by decide +kernel))
theorem ml_L_110 : Cond.methodLink RL 110 yX8_splice ∈ lw_tbl := j_tb (List.mem_of_getElem? (i := 1013) (by decide +kernel))
theorem ml_X8_107 : Cond.methodLink RX8 107 yX8_drop ∈ lw_tbl := j_tb (List.mem_of_getElem? (i := 1017) (by decide +kernel))
theorem ml_L_113 : Cond.methodLink RL 113 yX8_addPiece ∈ lw_tbl := j_tb (List.mem_of_getElem? (i := 1021) (by decide +kernel))
theorem ml_L_117 : Cond.methodLink RL 117 yX8_setCue ∈ lw_tbl := j_tb (List.mem_of_getElem? (i := 1025) (by decide +kernel))
theorem ml_X8_110 : Cond.methodLink RX8 110 yX8_isPiece ∈ lw_tbl := j_tb (List.mem_of_getElem? (i := 1029) (by decide +kernel))
theorem ml_X8_113 : Cond.methodLink RX8 113 yX8_lay ∈ lw_tbl := j_tb (List.mem_of_getElem? (i := 1033) (by decide +kernel))
theorem ml_X8_69 : Cond.methodLink RX8 69 yX8_layScenes ∈ lw_tbl := j_tb (List.mem_of_getElem? (i := 1037) (by decide +kernel))
theorem ml_X8_50 : Cond.methodLink RX8 50 yX8_of ∈ lw_tbl := j_tb (List.mem_of_getElem? (i := 1041) (by decide +kernel))
theorem ml_X8_54 : Cond.methodLink RX8 54 yX8_isLost ∈ lw_tbl := j_tb (List.mem_of_getElem? (i := 1045) (by decide +kernel))
theorem ml_X8_58 : Cond.methodLink RX8 58 yX8_speedOf ∈ lw_tbl := j_tb (List.mem_of_getElem? (i := 1049) (by decide +kernel))
theorem ml_X8_73 : Cond.methodLink RX8 73 yX8_layCue ∈ lw_tbl := j_tb (List.mem_of_getElem? (i := 1053) (by decide +kernel))
theorem ml_X8_63 : Cond.methodLink RX8 63 yX8_beginOf ∈ lw_tbl := j_tb (List.mem_of_getElem? (i := 1057) (by decide +kernel))
theorem ml_X8_66 : Cond.methodLink RX8 66 yX8_playTime ∈ lw_tbl := j_tb (List.mem_of_getElem? (i := 1061) (by decide +kernel))
theorem ml_X8_76 : Cond.methodLink RX8 76 yX8_drift ∈ lw_tbl := j_tb (List.mem_of_getElem? (i := 1065) (by decide +kernel))
theorem ml_L_121 : Cond.methodLink RL 121 yX8_fit ∈ lw_tbl := j_tb (List.mem_of_getElem? (i := 1069) (by decide +kernel))
theorem ml_X8_116 : Cond.methodLink RX8 116 yX8_bestOf ∈ lw_tbl := j_tb (List.mem_of_getElem? (i := 1073) (by decide +kernel))
theorem ml_X8_79 : Cond.methodLink RX8 79 yX8_size ∈ lw_tbl := j_tb (List.mem_of_getElem? (i := 1077) (by decide +kernel))
theorem ml_L_124 : Cond.methodLink RL 124 yX8_set ∈ lw_tbl := j_tb (List.mem_of_getElem? (i := 1080) (by decide +kernel))
theorem ml_L_127 : Cond.methodLink RL 127 yX8_append ∈ lw_tbl := j_tb (List.mem_of_getElem? (i := 1084) (by decide +kernel))
theorem ml_L_131 : Cond.methodLink RL 131 yX8_clearBuffer ∈ lw_tbl := j_tb (List.mem_of_getElem? (i := 1088) (by decide +kernel))
theorem ml_L_135 : Cond.methodLink RL 135 yX8_firstError ∈ lw_tbl := j_tb (List.mem_of_getElem? (i := 1092) (by decide +kernel))
theorem ml_X8_154 : Cond.methodLink RX8 154 yX8_readText ∈ lw_tbl := j_tb (List.mem_of_getElem? (i := 1096) (by decide +kernel))
theorem ml_X8_145 : Cond.methodLink RX8 145 yX8_beginEntry ∈ lw_tbl := j_tb (List.mem_of_getElem? (i := 1100) (by decide +kernel))
theorem ml_X8_151 : Cond.methodLink RX8 151 yX8_takes ∈ lw_tbl := j_tb (List.mem_of_getElem? (i := 1104) (by decide +kernel))
theorem ml_X8_141 : Cond.methodLink RX8 141 yX8_isOver ∈ lw_tbl := j_tb (List.mem_of_getElem? (i := 1108) (by decide +kernel))
theorem ml_X8_148 : Cond.methodLink RX8 148 yX8_takesPart ∈ lw_tbl := j_tb (List.mem_of_getElem? (i := 1112) (by decide +kernel))
theorem ml_X8_135 : Cond.methodLink RX8 135 yX8_takesLength ∈ lw_tbl := j_tb (List.mem_of_getElem? (i := 1116) (by decide +kernel))
theorem ml_X8_131 : Cond.methodLink RX8 131 yX8_goes ∈ lw_tbl := j_tb (List.mem_of_getElem? (i := 1120) (by decide +kernel))
theorem ml_X8_138 : Cond.methodLink RX8 138 yX8_takesPace ∈ lw_tbl := j_tb (List.mem_of_getElem? (i := 1124) (by decide +kernel))
theorem ml_L_138 : Cond.methodLink RL 138 yX8_load ∈ lw_tbl := j_tb (List.mem_of_getElem? (i := 1128) (by decide +kernel))
theorem ml_X8_158 : Cond.methodLink RX8 158 yX8_canBring ∈ lw_tbl := j_tb (List.mem_of_getElem? (i := 1132) (by decide +kernel))
theorem ml_L_145 : Cond.methodLink RL 145 yX8_scene ∈ lw_tbl := j_tb (List.mem_of_getElem? (i := 1136) (by decide +kernel))
theorem ml_X8_164 : Cond.methodLink RX8 164 yX8_sceneNow ∈ lw_tbl := j_tb (List.mem_of_getElem? (i := 1140) (by decide +kernel))
theorem ml_X8_161 : Cond.methodLink RX8 161 yX8_firstFoot ∈ lw_tbl := j_tb (List.mem_of_getElem? (i := 1144) (by decide +kernel))
theorem ml_X8_82 : Cond.methodLink RX8 82 yX8_isBad ∈ lw_tbl := j_tb (List.mem_of_getElem? (i := 1148) (by decide +kernel))
theorem ml_L_148 : Cond.methodLink RL 148 yX8_reel ∈ lw_tbl := j_tb (List.mem_of_getElem? (i := 1152) (by decide +kernel))
theorem ml_X8_185 : Cond.methodLink RX8 185 yX8_reelNow ∈ lw_tbl := j_tb (List.mem_of_getElem? (i := 1156) (by decide +kernel))
theorem ml_X8_167 : Cond.methodLink RX8 167 yX8_lostFeet ∈ lw_tbl := j_tb (List.mem_of_getElem? (i := 1160) (by decide +kernel))
theorem ml_X8_170 : Cond.methodLink RX8 170 yX8_cues ∈ lw_tbl := j_tb (List.mem_of_getElem? (i := 1164) (by decide +kernel))
theorem ml_X8_173 : Cond.methodLink RX8 173 yX8_bads ∈ lw_tbl := j_tb (List.mem_of_getElem? (i := 1168) (by decide +kernel))
theorem ml_X8_176 : Cond.methodLink RX8 176 yX8_drifts ∈ lw_tbl := j_tb (List.mem_of_getElem? (i := 1172) (by decide +kernel))
theorem ml_X8_179 : Cond.methodLink RX8 179 yX8_silence ∈ lw_tbl := j_tb (List.mem_of_getElem? (i := 1176) (by decide +kernel))
theorem ml_X8_182 : Cond.methodLink RX8 182 yX8_lastEnd ∈ lw_tbl := j_tb (List.mem_of_getElem? (i := 1180) (by decide +kernel))
theorem ml_L_151 : Cond.methodLink RL 151 yX8_speedAt ∈ lw_tbl := j_tb (List.mem_of_getElem? (i := 1184) (by decide +kernel))
theorem ml_L_154 : Cond.methodLink RL 154 yX8_piece ∈ lw_tbl := j_tb (List.mem_of_getElem? (i := 1188) (by decide +kernel))
theorem ml_X8_191 : Cond.methodLink RX8 191 yX8_pieceNow ∈ lw_tbl := j_tb (List.mem_of_getElem? (i := 1192) (by decide +kernel))
theorem ml_X8_188 : Cond.methodLink RX8 188 yX8_usesOf ∈ lw_tbl := j_tb (List.mem_of_getElem? (i := 1196) (by decide +kernel))
theorem ml_L_157 : Cond.methodLink RL 157 yX8_count ∈ lw_tbl := j_tb (List.mem_of_getElem? (i := 1200) (by decide +kernel))
theorem ml_X8_197 : Cond.methodLink RX8 197 yX8_counted ∈ lw_tbl := j_tb (List.mem_of_getElem? (i := 1204) (by decide +kernel))
theorem ml_X8_194 : Cond.methodLink RX8 194 yX8_overReels ∈ lw_tbl := j_tb (List.mem_of_getElem? (i := 1208) (by decide +kernel))
theorem ml_L_160 : Cond.methodLink RL 160 yX8_bestCue ∈ lw_tbl := j_tb (List.mem_of_getElem? (i := 1212) (by decide +kernel))
theorem ml_L_163 : Cond.methodLink RL 163 yX8_bestPiece ∈ lw_tbl := j_tb (List.mem_of_getElem? (i := 1216) (by decide +kernel))
theorem ml_X8_200 : Cond.methodLink RX8 200 yX8_bestPieceNow ∈ lw_tbl := j_tb (List.mem_of_getElem? (i := 1220) (by decide +kernel))
theorem ml_L_166 : Cond.methodLink RL 166 yX8_ifCranked ∈ lw_tbl := j_tb (List.mem_of_getElem? (i := 1224) (by decide +kernel))
theorem ml_L_169 : Cond.methodLink RL 169 yX8_bestSpeed ∈ lw_tbl := j_tb (List.mem_of_getElem? (i := 1228) (by decide +kernel))
theorem ml_X8_203 : Cond.methodLink RX8 203 yX8_bestSpeedNow ∈ lw_tbl := j_tb (List.mem_of_getElem? (i := 1232) (by decide +kernel))
theorem ml_L_173 : Cond.methodLink RL 173 yX8_offShare ∈ lw_tbl := j_tb (List.mem_of_getElem? (i := 1236) (by decide +kernel))
theorem ml_X8_206 : Cond.methodLink RX8 206 yX8_offNow ∈ lw_tbl := j_tb (List.mem_of_getElem? (i := 1240) (by decide +kernel))
theorem ml_L_176 : Cond.methodLink RL 176 yX8_meanSpeed ∈ lw_tbl := j_tb (List.mem_of_getElem? (i := 1244) (by decide +kernel))
theorem ml_X8_212 : Cond.methodLink RX8 212 yX8_meanNow ∈ lw_tbl := j_tb (List.mem_of_getElem? (i := 1248) (by decide +kernel))
theorem ml_L_181 : Cond.methodLink RL 181 yX8_digest ∈ lw_tbl := j_tb (List.mem_of_getElem? (i := 1253) (by decide +kernel))
theorem ml_X8_222 : Cond.methodLink RX8 222 yX8_mix ∈ lw_tbl := j_tb (List.mem_of_getElem? (i := 1258) (by decide +kernel))
theorem ml_X8_240 : Cond.methodLink RX8 240 yX8_mixReel ∈ lw_tbl := j_tb (List.mem_of_getElem? (i := 1263) (by decide +kernel))
theorem ml_X8_226 : Cond.methodLink RX8 226 yJxf58ca_floatToIntBits_5c35a ∈ lw_tbl := j_tb (List.mem_of_getElem? (i := 1267) (by decide +kernel))
theorem ml_Jxf58ca_59 : Cond.methodLink RJxf58ca 59 yJxf58ca_isNaN_12338 ∈ lw_tbl := j_tb (List.mem_of_getElem? (i := 1270) (by decide +kernel))
theorem ml_X8_232 : Cond.methodLink RX8 232 yJxe99ae_doubleToLongBits_ccdee ∈ lw_tbl := j_tb (List.mem_of_getElem? (i := 1277) (by decide +kernel))
theorem ml_Jxe99ae_122 : Cond.methodLink RJxe99ae 122 yJxe99ae_isNaN_b9ae7 ∈ lw_tbl := j_tb (List.mem_of_getElem? (i := 1280) (by decide +kernel))
theorem mn_X7_48 : Cond.methodLinkNest RX7 48 yX0_init "CueSheets" ∈ lw_tbl := j_tb (List.mem_of_getElem? (i := 268) (by decide +kernel))
theorem fl_X3_7 : jlf RX3 7 3 0 := ⟨(RX3, TX3, 2), rfl, by decide, cw_3, Or.inl (j_tb (List.mem_of_getElem? (i := 45) (by decide +kernel)))⟩
theorem fl_X3_13 : jlf RX3 13 3 1 := ⟨(RX3, TX3, 2), rfl, by decide, cw_3, Or.inl (j_tb (List.mem_of_getElem? (i := 46) (by decide +kernel)))⟩
theorem fl_X1_14 : jlf RX1 14 1 0 := ⟨(RX1, TX1, 2), rfl, by decide, cw_1, Or.inl (j_tb (List.mem_of_getElem? (i := 61) (by decide +kernel)))⟩
theorem fl_X1_20 : jlf RX1 20 1 1 := ⟨(RX1, TX1, 2), rfl, by decide, cw_1, Or.inl (j_tb (List.mem_of_getElem? (i := 63) (by decide +kernel)))⟩
theorem fl_X2_14 : jlf RX2 14 2 0 := ⟨(RX2, TX2, 6), rfl, by decide, cw_2, Or.inl (j_tb (List.mem_of_getElem? (i := 104) (by decide +kernel)))⟩
theorem fl_X2_20 : jlf RX2 20 2 1 := ⟨(RX2, TX2, 6), rfl, by decide, cw_2, Or.inl (j_tb (List.mem_of_getElem? (i := 107) (by decide +kernel)))⟩
theorem fl_X2_23 : jlf RX2 23 2 2 := ⟨(RX2, TX2, 6), rfl, by decide, cw_2, Or.inl (j_tb (List.mem_of_getElem? (i := 111) (by decide +kernel)))⟩
theorem fl_X2_26 : jlf RX2 26 2 3 := ⟨(RX2, TX2, 6), rfl, by decide, cw_2, Or.inl (j_tb (List.mem_of_getElem? (i := 114) (by decide +kernel)))⟩
theorem fl_X2_32 : jlf RX2 32 2 4 := ⟨(RX2, TX2, 6), rfl, by decide, cw_2, Or.inl (j_tb (List.mem_of_getElem? (i := 117) (by decide +kernel)))⟩
theorem fl_X2_36 : jlf RX2 36 2 5 := ⟨(RX2, TX2, 6), rfl, by decide, cw_2, Or.inl (j_tb (List.mem_of_getElem? (i := 119) (by decide +kernel)))⟩
theorem fl_X5_12 : jlf RX5 12 5 0 := ⟨(RX5, TX5, 8), rfl, by decide, cw_5, Or.inl (j_tb (List.mem_of_getElem? (i := 136) (by decide +kernel)))⟩
theorem fl_X5_18 : jlf RX5 18 5 1 := ⟨(RX5, TX5, 8), rfl, by decide, cw_5, Or.inl (j_tb (List.mem_of_getElem? (i := 137) (by decide +kernel)))⟩
theorem fl_X5_21 : jlf RX5 21 5 2 := ⟨(RX5, TX5, 8), rfl, by decide, cw_5, Or.inl (j_tb (List.mem_of_getElem? (i := 138) (by decide +kernel)))⟩
theorem fl_X5_29 : jlf RX5 29 5 3 := ⟨(RX5, TX5, 8), rfl, by decide, cw_5, Or.inl (j_tb (List.mem_of_getElem? (i := 139) (by decide +kernel)))⟩
theorem fl_X5_33 : jlf RX5 33 5 4 := ⟨(RX5, TX5, 8), rfl, by decide, cw_5, Or.inl (j_tb (List.mem_of_getElem? (i := 142) (by decide +kernel)))⟩
theorem fl_X5_36 : jlf RX5 36 5 5 := ⟨(RX5, TX5, 8), rfl, by decide, cw_5, Or.inl (j_tb (List.mem_of_getElem? (i := 145) (by decide +kernel)))⟩
theorem fl_X5_39 : jlf RX5 39 5 6 := ⟨(RX5, TX5, 8), rfl, by decide, cw_5, Or.inl (j_tb (List.mem_of_getElem? (i := 148) (by decide +kernel)))⟩
theorem fl_X5_43 : jlf RX5 43 5 7 := ⟨(RX5, TX5, 8), rfl, by decide, cw_5, Or.inl (j_tb (List.mem_of_getElem? (i := 150) (by decide +kernel)))⟩
theorem fl_X4_14 : jlf RX4 14 4 0 := ⟨(RX4, TX4, 5), rfl, by decide, cw_4, Or.inl (j_tb (List.mem_of_getElem? (i := 181) (by decide +kernel)))⟩
theorem fl_X4_20 : jlf RX4 20 4 1 := ⟨(RX4, TX4, 5), rfl, by decide, cw_4, Or.inl (j_tb (List.mem_of_getElem? (i := 183) (by decide +kernel)))⟩
theorem fl_X4_23 : jlf RX4 23 4 2 := ⟨(RX4, TX4, 5), rfl, by decide, cw_4, Or.inl (j_tb (List.mem_of_getElem? (i := 185) (by decide +kernel)))⟩
theorem fl_X4_26 : jlf RX4 26 4 3 := ⟨(RX4, TX4, 5), rfl, by decide, cw_4, Or.inl (j_tb (List.mem_of_getElem? (i := 187) (by decide +kernel)))⟩
theorem fl_X4_43 : jlf RX4 43 4 4 := ⟨(RX4, TX4, 5), rfl, by decide, cw_4, Or.inl (j_tb (List.mem_of_getElem? (i := 189) (by decide +kernel)))⟩
theorem fl_X6_14 : jlf RX6 14 6 0 := ⟨(RX6, TX6, 14), rfl, by decide, cw_6, Or.inl (j_tb (List.mem_of_getElem? (i := 209) (by decide +kernel)))⟩
theorem fl_X6_20 : jlf RX6 20 6 1 := ⟨(RX6, TX6, 14), rfl, by decide, cw_6, Or.inl (j_tb (List.mem_of_getElem? (i := 211) (by decide +kernel)))⟩
theorem fl_X6_23 : jlf RX6 23 6 2 := ⟨(RX6, TX6, 14), rfl, by decide, cw_6, Or.inl (j_tb (List.mem_of_getElem? (i := 213) (by decide +kernel)))⟩
theorem fl_X6_26 : jlf RX6 26 6 3 := ⟨(RX6, TX6, 14), rfl, by decide, cw_6, Or.inl (j_tb (List.mem_of_getElem? (i := 215) (by decide +kernel)))⟩
theorem fl_X6_29 : jlf RX6 29 6 4 := ⟨(RX6, TX6, 14), rfl, by decide, cw_6, Or.inl (j_tb (List.mem_of_getElem? (i := 217) (by decide +kernel)))⟩
theorem fl_X6_32 : jlf RX6 32 6 5 := ⟨(RX6, TX6, 14), rfl, by decide, cw_6, Or.inl (j_tb (List.mem_of_getElem? (i := 219) (by decide +kernel)))⟩
theorem fl_X6_35 : jlf RX6 35 6 6 := ⟨(RX6, TX6, 14), rfl, by decide, cw_6, Or.inl (j_tb (List.mem_of_getElem? (i := 221) (by decide +kernel)))⟩
theorem fl_X6_47 : jlf RX6 47 6 7 := ⟨(RX6, TX6, 14), rfl, by decide, cw_6, Or.inl (j_tb (List.mem_of_getElem? (i := 223) (by decide +kernel)))⟩
theorem fl_X6_72 : jlf RX6 72 6 8 := ⟨(RX6, TX6, 14), rfl, by decide, cw_6, Or.inl (j_tb (List.mem_of_getElem? (i := 225) (by decide +kernel)))⟩
theorem fl_X6_69 : jlf RX6 69 6 9 := ⟨(RX6, TX6, 14), rfl, by decide, cw_6, Or.inl (j_tb (List.mem_of_getElem? (i := 227) (by decide +kernel)))⟩
theorem fl_X6_80 : jlf RX6 80 6 10 := ⟨(RX6, TX6, 14), rfl, by decide, cw_6, Or.inl (j_tb (List.mem_of_getElem? (i := 229) (by decide +kernel)))⟩
theorem fl_X6_83 : jlf RX6 83 6 11 := ⟨(RX6, TX6, 14), rfl, by decide, cw_6, Or.inl (j_tb (List.mem_of_getElem? (i := 231) (by decide +kernel)))⟩
theorem fl_X6_86 : jlf RX6 86 6 12 := ⟨(RX6, TX6, 14), rfl, by decide, cw_6, Or.inl (j_tb (List.mem_of_getElem? (i := 233) (by decide +kernel)))⟩
theorem fl_X6_89 : jlf RX6 89 6 13 := ⟨(RX6, TX6, 14), rfl, by decide, cw_6, Or.inl (j_tb (List.mem_of_getElem? (i := 235) (by decide +kernel)))⟩
theorem fl_X0_54 : jlf RX0 54 0 0 := ⟨(RX0, TX0, 3), rfl, by decide, cw_0, Or.inl (j_tb (List.mem_of_getElem? (i := 272) (by decide +kernel)))⟩
theorem fl_X0_56 : jlf RX0 56 0 1 := ⟨(RX0, TX0, 3), rfl, by decide, cw_0, Or.inl (j_tb (List.mem_of_getElem? (i := 274) (by decide +kernel)))⟩
theorem fl_X0_28 : jlf RX0 28 0 2 := ⟨(RX0, TX0, 3), rfl, by decide, cw_0, Or.inl (j_tb (List.mem_of_getElem? (i := 276) (by decide +kernel)))⟩
theorem fl_X7_10 : jlf RX7 10 7 0 := ⟨(RX7, TX7, 9), rfl, by decide, cw_7, Or.inl (j_tb (List.mem_of_getElem? (i := 285) (by decide +kernel)))⟩
theorem fl_X7_16 : jlf RX7 16 7 1 := ⟨(RX7, TX7, 9), rfl, by decide, cw_7, Or.inl (j_tb (List.mem_of_getElem? (i := 286) (by decide +kernel)))⟩
theorem fl_X7_284 : jlf RX7 284 7 2 := ⟨(RX7, TX7, 9), rfl, by decide, cw_7, Or.inl (j_tb (List.mem_of_getElem? (i := 287) (by decide +kernel)))⟩
theorem fl_X7_199 : jlf RX7 199 7 3 := ⟨(RX7, TX7, 9), rfl, by decide, cw_7, Or.inl (j_tb (List.mem_of_getElem? (i := 288) (by decide +kernel)))⟩
theorem fl_X7_25 : jlf RX7 25 7 4 := ⟨(RX7, TX7, 9), rfl, by decide, cw_7, Or.inl (j_tb (List.mem_of_getElem? (i := 289) (by decide +kernel)))⟩
theorem fl_X7_32 : jlf RX7 32 7 5 := ⟨(RX7, TX7, 9), rfl, by decide, cw_7, Or.inl (j_tb (List.mem_of_getElem? (i := 290) (by decide +kernel)))⟩
theorem fl_X7_39 : jlf RX7 39 7 6 := ⟨(RX7, TX7, 9), rfl, by decide, cw_7, Or.inl (j_tb (List.mem_of_getElem? (i := 291) (by decide +kernel)))⟩
theorem fl_X7_43 : jlf RX7 43 7 7 := ⟨(RX7, TX7, 9), rfl, by decide, cw_7, Or.inl (j_tb (List.mem_of_getElem? (i := 292) (by decide +kernel)))⟩
theorem fl_X7_49 : jlf RX7 49 7 8 := ⟨(RX7, TX7, 9), rfl, by decide, cw_7, Or.inl (j_tb (List.mem_of_getElem? (i := 293) (by decide +kernel)))⟩
theorem fl_X8_34 : jlf RX8 34 8 0 := ⟨(RX8, TX8, 16), rfl, by decide, cw_8, Or.inl (j_tb (List.mem_of_getElem? (i := 913) (by decide +kernel)))⟩
theorem fl_X8_7 : jlf RX8 7 8 1 := ⟨(RX8, TX8, 16), rfl, by decide, cw_8, Or.inl (j_tb (List.mem_of_getElem? (i := 914) (by decide +kernel)))⟩
theorem fl_X8_88 : jlf RX8 88 8 2 := ⟨(RX8, TX8, 16), rfl, by decide, cw_8, Or.inl (j_tb (List.mem_of_getElem? (i := 915) (by decide +kernel)))⟩
theorem fl_X8_13 : jlf RX8 13 8 3 := ⟨(RX8, TX8, 16), rfl, by decide, cw_8, Or.inl (j_tb (List.mem_of_getElem? (i := 916) (by decide +kernel)))⟩
theorem fl_X8_119 : jlf RX8 119 8 4 := ⟨(RX8, TX8, 16), rfl, by decide, cw_8, Or.inl (j_tb (List.mem_of_getElem? (i := 917) (by decide +kernel)))⟩
theorem fl_X8_16 : jlf RX8 16 8 5 := ⟨(RX8, TX8, 16), rfl, by decide, cw_8, Or.inl (j_tb (List.mem_of_getElem? (i := 918) (by decide +kernel)))⟩
theorem fl_X8_19 : jlf RX8 19 8 6 := ⟨(RX8, TX8, 16), rfl, by decide, cw_8, Or.inl (j_tb (List.mem_of_getElem? (i := 919) (by decide +kernel)))⟩
theorem fl_X8_22 : jlf RX8 22 8 7 := ⟨(RX8, TX8, 16), rfl, by decide, cw_8, Or.inl (j_tb (List.mem_of_getElem? (i := 920) (by decide +kernel)))⟩
theorem fl_X8_25 : jlf RX8 25 8 8 := ⟨(RX8, TX8, 16), rfl, by decide, cw_8, Or.inl (j_tb (List.mem_of_getElem? (i := 921) (by decide +kernel)))⟩
theorem fl_X8_28 : jlf RX8 28 8 9 := ⟨(RX8, TX8, 16), rfl, by decide, cw_8, Or.inl (j_tb (List.mem_of_getElem? (i := 922) (by decide +kernel)))⟩
theorem fl_X8_85 : jlf RX8 85 8 10 := ⟨(RX8, TX8, 16), rfl, by decide, cw_8, Or.inl (j_tb (List.mem_of_getElem? (i := 923) (by decide +kernel)))⟩
theorem fl_X8_122 : jlf RX8 122 8 11 := ⟨(RX8, TX8, 16), rfl, by decide, cw_8, Or.inl (j_tb (List.mem_of_getElem? (i := 924) (by decide +kernel)))⟩
theorem fl_X8_125 : jlf RX8 125 8 12 := ⟨(RX8, TX8, 16), rfl, by decide, cw_8, Or.inl (j_tb (List.mem_of_getElem? (i := 925) (by decide +kernel)))⟩
theorem fl_X8_128 : jlf RX8 128 8 13 := ⟨(RX8, TX8, 16), rfl, by decide, cw_8, Or.inl (j_tb (List.mem_of_getElem? (i := 926) (by decide +kernel)))⟩
theorem fl_X8_31 : jlf RX8 31 8 14 := ⟨(RX8, TX8, 16), rfl, by decide, cw_8, Or.inl (j_tb (List.mem_of_getElem? (i := 927) (by decide +kernel)))⟩
theorem fl_X8_218 : jlf RX8 218 8 15 := ⟨(RX8, TX8, 16), rfl, by decide, cw_8, Or.inl (j_tb (List.mem_of_getElem? (i := 928) (by decide +kernel)))⟩
theorem fl_X2_61 : jlf RX2 61 1 0 := ⟨(RX1, TX1, 2), rfl, by decide, cw_1, Or.inr ⟨"CueSheets", j_tb (List.mem_of_getElem? (i := 62) (by decide +kernel))⟩⟩
theorem fl_X2_70 : jlf RX2 70 1 1 := ⟨(RX1, TX1, 2), rfl, by decide, cw_1, Or.inr ⟨"CueSheets", j_tb (List.mem_of_getElem? (i := 64) (by decide +kernel))⟩⟩
theorem fl_X6_51 : jlf RX6 51 2 0 := ⟨(RX2, TX2, 6), rfl, by decide, cw_2, Or.inr ⟨"CueSheets", j_tb (List.mem_of_getElem? (i := 105) (by decide +kernel))⟩⟩
theorem fl_X7_301 : jlf RX7 301 2 0 := ⟨(RX2, TX2, 6), rfl, by decide, cw_2, Or.inr ⟨"CueSheets", j_tb (List.mem_of_getElem? (i := 106) (by decide +kernel))⟩⟩
theorem fl_X6_101 : jlf RX6 101 2 1 := ⟨(RX2, TX2, 6), rfl, by decide, cw_2, Or.inr ⟨"CueSheets", j_tb (List.mem_of_getElem? (i := 108) (by decide +kernel))⟩⟩
theorem fl_X5_57 : jlf RX5 57 2 1 := ⟨(RX2, TX2, 6), rfl, by decide, cw_2, Or.inr ⟨"CueSheets", j_tb (List.mem_of_getElem? (i := 109) (by decide +kernel))⟩⟩
theorem fl_X7_293 : jlf RX7 293 2 1 := ⟨(RX2, TX2, 6), rfl, by decide, cw_2, Or.inr ⟨"CueSheets", j_tb (List.mem_of_getElem? (i := 110) (by decide +kernel))⟩⟩
theorem fl_X6_104 : jlf RX6 104 2 2 := ⟨(RX2, TX2, 6), rfl, by decide, cw_2, Or.inr ⟨"CueSheets", j_tb (List.mem_of_getElem? (i := 112) (by decide +kernel))⟩⟩
theorem fl_X7_294 : jlf RX7 294 2 2 := ⟨(RX2, TX2, 6), rfl, by decide, cw_2, Or.inr ⟨"CueSheets", j_tb (List.mem_of_getElem? (i := 113) (by decide +kernel))⟩⟩
theorem fl_X6_107 : jlf RX6 107 2 3 := ⟨(RX2, TX2, 6), rfl, by decide, cw_2, Or.inr ⟨"CueSheets", j_tb (List.mem_of_getElem? (i := 115) (by decide +kernel))⟩⟩
theorem fl_X7_295 : jlf RX7 295 2 3 := ⟨(RX2, TX2, 6), rfl, by decide, cw_2, Or.inr ⟨"CueSheets", j_tb (List.mem_of_getElem? (i := 116) (by decide +kernel))⟩⟩
theorem fl_X7_92 : jlf RX7 92 2 4 := ⟨(RX2, TX2, 6), rfl, by decide, cw_2, Or.inr ⟨"CueSheets", j_tb (List.mem_of_getElem? (i := 118) (by decide +kernel))⟩⟩
theorem fl_X7_110 : jlf RX7 110 2 5 := ⟨(RX2, TX2, 6), rfl, by decide, cw_2, Or.inr ⟨"CueSheets", j_tb (List.mem_of_getElem? (i := 120) (by decide +kernel))⟩⟩
theorem fl_X0_21 : jlf RX0 21 5 3 := ⟨(RX5, TX5, 8), rfl, by decide, cw_5, Or.inr ⟨"CueSheets", j_tb (List.mem_of_getElem? (i := 140) (by decide +kernel))⟩⟩
theorem fl_X7_123 : jlf RX7 123 5 3 := ⟨(RX5, TX5, 8), rfl, by decide, cw_5, Or.inr ⟨"CueSheets", j_tb (List.mem_of_getElem? (i := 141) (by decide +kernel))⟩⟩
theorem fl_X0_9 : jlf RX0 9 5 4 := ⟨(RX5, TX5, 8), rfl, by decide, cw_5, Or.inr ⟨"CueSheets", j_tb (List.mem_of_getElem? (i := 143) (by decide +kernel))⟩⟩
theorem fl_X7_129 : jlf RX7 129 5 4 := ⟨(RX5, TX5, 8), rfl, by decide, cw_5, Or.inr ⟨"CueSheets", j_tb (List.mem_of_getElem? (i := 144) (by decide +kernel))⟩⟩
theorem fl_X0_24 : jlf RX0 24 5 5 := ⟨(RX5, TX5, 8), rfl, by decide, cw_5, Or.inr ⟨"CueSheets", j_tb (List.mem_of_getElem? (i := 146) (by decide +kernel))⟩⟩
theorem fl_X7_132 : jlf RX7 132 5 5 := ⟨(RX5, TX5, 8), rfl, by decide, cw_5, Or.inr ⟨"CueSheets", j_tb (List.mem_of_getElem? (i := 147) (by decide +kernel))⟩⟩
theorem fl_X7_159 : jlf RX7 159 5 6 := ⟨(RX5, TX5, 8), rfl, by decide, cw_5, Or.inr ⟨"CueSheets", j_tb (List.mem_of_getElem? (i := 149) (by decide +kernel))⟩⟩
theorem fl_X0_34 : jlf RX0 34 5 7 := ⟨(RX5, TX5, 8), rfl, by decide, cw_5, Or.inr ⟨"CueSheets", j_tb (List.mem_of_getElem? (i := 151) (by decide +kernel))⟩⟩
theorem fl_X7_163 : jlf RX7 163 5 7 := ⟨(RX5, TX5, 8), rfl, by decide, cw_5, Or.inr ⟨"CueSheets", j_tb (List.mem_of_getElem? (i := 152) (by decide +kernel))⟩⟩
theorem fl_X7_190 : jlf RX7 190 4 0 := ⟨(RX4, TX4, 5), rfl, by decide, cw_4, Or.inr ⟨"CueSheets", j_tb (List.mem_of_getElem? (i := 182) (by decide +kernel))⟩⟩
theorem fl_X7_193 : jlf RX7 193 4 1 := ⟨(RX4, TX4, 5), rfl, by decide, cw_4, Or.inr ⟨"CueSheets", j_tb (List.mem_of_getElem? (i := 184) (by decide +kernel))⟩⟩
theorem fl_X7_195 : jlf RX7 195 4 2 := ⟨(RX4, TX4, 5), rfl, by decide, cw_4, Or.inr ⟨"CueSheets", j_tb (List.mem_of_getElem? (i := 186) (by decide +kernel))⟩⟩
theorem fl_X7_196 : jlf RX7 196 4 3 := ⟨(RX4, TX4, 5), rfl, by decide, cw_4, Or.inr ⟨"CueSheets", j_tb (List.mem_of_getElem? (i := 188) (by decide +kernel))⟩⟩
theorem fl_X7_302 : jlf RX7 302 6 0 := ⟨(RX6, TX6, 14), rfl, by decide, cw_6, Or.inr ⟨"CueSheets", j_tb (List.mem_of_getElem? (i := 210) (by decide +kernel))⟩⟩
theorem fl_X7_305 : jlf RX7 305 6 1 := ⟨(RX6, TX6, 14), rfl, by decide, cw_6, Or.inr ⟨"CueSheets", j_tb (List.mem_of_getElem? (i := 212) (by decide +kernel))⟩⟩
theorem fl_X7_308 : jlf RX7 308 6 2 := ⟨(RX6, TX6, 14), rfl, by decide, cw_6, Or.inr ⟨"CueSheets", j_tb (List.mem_of_getElem? (i := 214) (by decide +kernel))⟩⟩
theorem fl_X7_311 : jlf RX7 311 6 3 := ⟨(RX6, TX6, 14), rfl, by decide, cw_6, Or.inr ⟨"CueSheets", j_tb (List.mem_of_getElem? (i := 216) (by decide +kernel))⟩⟩
theorem fl_X7_314 : jlf RX7 314 6 4 := ⟨(RX6, TX6, 14), rfl, by decide, cw_6, Or.inr ⟨"CueSheets", j_tb (List.mem_of_getElem? (i := 218) (by decide +kernel))⟩⟩
theorem fl_X7_317 : jlf RX7 317 6 5 := ⟨(RX6, TX6, 14), rfl, by decide, cw_6, Or.inr ⟨"CueSheets", j_tb (List.mem_of_getElem? (i := 220) (by decide +kernel))⟩⟩
theorem fl_X7_145 : jlf RX7 145 6 6 := ⟨(RX6, TX6, 14), rfl, by decide, cw_6, Or.inr ⟨"CueSheets", j_tb (List.mem_of_getElem? (i := 222) (by decide +kernel))⟩⟩
theorem fl_X7_323 : jlf RX7 323 6 7 := ⟨(RX6, TX6, 14), rfl, by decide, cw_6, Or.inr ⟨"CueSheets", j_tb (List.mem_of_getElem? (i := 224) (by decide +kernel))⟩⟩
theorem fl_X7_326 : jlf RX7 326 6 8 := ⟨(RX6, TX6, 14), rfl, by decide, cw_6, Or.inr ⟨"CueSheets", j_tb (List.mem_of_getElem? (i := 226) (by decide +kernel))⟩⟩
theorem fl_X7_329 : jlf RX7 329 6 9 := ⟨(RX6, TX6, 14), rfl, by decide, cw_6, Or.inr ⟨"CueSheets", j_tb (List.mem_of_getElem? (i := 228) (by decide +kernel))⟩⟩
theorem fl_X7_332 : jlf RX7 332 6 10 := ⟨(RX6, TX6, 14), rfl, by decide, cw_6, Or.inr ⟨"CueSheets", j_tb (List.mem_of_getElem? (i := 230) (by decide +kernel))⟩⟩
theorem fl_X7_245 : jlf RX7 245 6 11 := ⟨(RX6, TX6, 14), rfl, by decide, cw_6, Or.inr ⟨"CueSheets", j_tb (List.mem_of_getElem? (i := 232) (by decide +kernel))⟩⟩
theorem fl_X7_298 : jlf RX7 298 6 12 := ⟨(RX6, TX6, 14), rfl, by decide, cw_6, Or.inr ⟨"CueSheets", j_tb (List.mem_of_getElem? (i := 234) (by decide +kernel))⟩⟩
theorem fl_X7_338 : jlf RX7 338 6 13 := ⟨(RX6, TX6, 14), rfl, by decide, cw_6, Or.inr ⟨"CueSheets", j_tb (List.mem_of_getElem? (i := 236) (by decide +kernel))⟩⟩
theorem fl_X7_237 : jlf RX7 237 0 0 := ⟨(RX0, TX0, 3), rfl, by decide, cw_0, Or.inr ⟨"CueSheets", j_tb (List.mem_of_getElem? (i := 273) (by decide +kernel))⟩⟩
theorem fl_X7_239 : jlf RX7 239 0 1 := ⟨(RX0, TX0, 3), rfl, by decide, cw_0, Or.inr ⟨"CueSheets", j_tb (List.mem_of_getElem? (i := 275) (by decide +kernel))⟩⟩
theorem fl_X7_296 : jlf RX7 296 0 2 := ⟨(RX0, TX0, 3), rfl, by decide, cw_0, Or.inr ⟨"CueSheets", j_tb (List.mem_of_getElem? (i := 277) (by decide +kernel))⟩⟩
theorem kc_X4_42 : Cond.constant RX4 42 (-2000001 : Int32) ∈ lw_tbl := j_tb (List.mem_of_getElem? (i := 340) (by decide +kernel))
theorem kc_X2_51 : Cond.constant RX2 51 (-2000001 : Int32) ∈ lw_tbl := j_tb (List.mem_of_getElem? (i := 443) (by decide +kernel))
theorem kc_X7_80 : Cond.constant RX7 80 (-2000001 : Int32) ∈ lw_tbl := j_tb (List.mem_of_getElem? (i := 505) (by decide +kernel))
theorem kc_X0_27 : Cond.constant RX0 27 (1000000000 : Int32) ∈ lw_tbl := j_tb (List.mem_of_getElem? (i := 511) (by decide +kernel))
theorem kc_X8_62 : Cond.constant RX8 62 (-2000001 : Int32) ∈ lw_tbl := j_tb (List.mem_of_getElem? (i := 988) (by decide +kernel))
theorem kc_Jxf58ca_77 : Cond.constant RJxf58ca 77 (2143289344 : Int32) ∈ lw_tbl := j_tb (List.mem_of_getElem? (i := 1276) (by decide +kernel))
theorem kc_X7_260 : Cond.constantLong RX7 260 (2237 : Int64) ∈ lw_tbl := j_tb (List.mem_of_getElem? (i := 381) (by decide +kernel))
theorem kc_X7_349 : Cond.constantLong RX7 349 (31 : Int64) ∈ lw_tbl := j_tb (List.mem_of_getElem? (i := 464) (by decide +kernel))
theorem kc_X7_359 : Cond.constantLong RX7 359 (150 : Int64) ∈ lw_tbl := j_tb (List.mem_of_getElem? (i := 537) (by decide +kernel))
theorem kc_X7_362 : Cond.constantLong RX7 362 (8388608 : Int64) ∈ lw_tbl := j_tb (List.mem_of_getElem? (i := 539) (by decide +kernel))
theorem kc_X7_364 : Cond.constantLong RX7 364 (1075 : Int64) ∈ lw_tbl := j_tb (List.mem_of_getElem? (i := 548) (by decide +kernel))
theorem kc_X7_370 : Cond.constantLong RX7 370 (4503599627370496 : Int64) ∈ lw_tbl := j_tb (List.mem_of_getElem? (i := 551) (by decide +kernel))
theorem kc_X8_238 : Cond.constantLong RX8 238 (2237 : Int64) ∈ lw_tbl := j_tb (List.mem_of_getElem? (i := 1257) (by decide +kernel))
theorem kc_X8_216 : Cond.constantLong RX8 216 (31 : Int64) ∈ lw_tbl := j_tb (List.mem_of_getElem? (i := 1262) (by decide +kernel))
theorem kc_Jxe99ae_137 : Cond.constantLong RJxe99ae 137 (9221120237041090560 : Int64) ∈ lw_tbl := j_tb (List.mem_of_getElem? (i := 1286) (by decide +kernel))
theorem kc_X7_361 : Cond.constantFloat RX7 361 (1258291200 : UInt32) ∈ lw_tbl := j_tb (List.mem_of_getElem? (i := 538) (by decide +kernel))
theorem kc_X7_347 : Cond.constantDouble RX7 347 (4621819117588971520 : UInt64) ∈ lw_tbl := j_tb (List.mem_of_getElem? (i := 544) (by decide +kernel))
theorem kc_X7_366 : Cond.constantDouble RX7 366 (4841369599423283200 : UInt64) ∈ lw_tbl := j_tb (List.mem_of_getElem? (i := 549) (by decide +kernel))
theorem kc_X7_368 : Cond.constantDouble RX7 368 (4611686018427387904 : UInt64) ∈ lw_tbl := j_tb (List.mem_of_getElem? (i := 550) (by decide +kernel))
theorem kc_X8_210 : Cond.constantDouble RX8 210 (4621819117588971520 : UInt64) ∈ lw_tbl := j_tb (List.mem_of_getElem? (i := 1252) (by decide +kernel))
theorem nw_L_8 : jln RL 8 7 [.inr none, .inr none, .inl 0, .inl 0, .inr none, .inr none, .inr none, .inr none, .inr none] := ⟨(RX7, TX7, 9), rfl, cw_7, j_tb (List.mem_of_getElem? (i := 19) (by decide +kernel)), j_tb (List.mem_of_getElem? (i := 20) (by decide +kernel)), j_tb (List.mem_of_getElem? (i := 1) (by decide +kernel)), rfl, by decide +kernel⟩
theorem nw_X7_7 : jln RX7 7 5 [.inr none, .inr none, .inr none, .inr none, .inr none, .inr none, .inl 0, .inl 0] := ⟨(RX5, TX5, 8), rfl, cw_5, j_tb (List.mem_of_getElem? (i := 27) (by decide +kernel)), j_tb (List.mem_of_getElem? (i := 28) (by decide +kernel)), j_tb (List.mem_of_getElem? (i := 2) (by decide +kernel)), rfl, by decide +kernel⟩
theorem nw_X5_9 : jln RX5 9 2 [.inr none, .inr none, .inr none, .inr none, .inr none, .inr none] := ⟨(RX2, TX2, 6), rfl, cw_2, j_tb (List.mem_of_getElem? (i := 33) (by decide +kernel)), j_tb (List.mem_of_getElem? (i := 34) (by decide +kernel)), j_tb (List.mem_of_getElem? (i := 3) (by decide +kernel)), rfl, by decide +kernel⟩
theorem nw_X2_9 : jln RX2 9 3 [.inr none, .inl 0] := ⟨(RX3, TX3, 2), rfl, cw_3, j_tb (List.mem_of_getElem? (i := 39) (by decide +kernel)), j_tb (List.mem_of_getElem? (i := 40) (by decide +kernel)), j_tb (List.mem_of_getElem? (i := 4) (by decide +kernel)), rfl, by decide +kernel⟩
theorem nw_X2_29 : jln RX2 29 1 [.inr none, .inr none] := ⟨(RX1, TX1, 2), rfl, cw_1, j_tb (List.mem_of_getElem? (i := 53) (by decide +kernel)), j_tb (List.mem_of_getElem? (i := 54) (by decide +kernel)), j_tb (List.mem_of_getElem? (i := 5) (by decide +kernel)), rfl, by decide +kernel⟩
theorem nw_X1_9 : jln RX1 9 3 [.inr none, .inl 0] := ⟨(RX3, TX3, 2), rfl, cw_3, j_tb (List.mem_of_getElem? (i := 59) (by decide +kernel)), j_tb (List.mem_of_getElem? (i := 40) (by decide +kernel)), j_tb (List.mem_of_getElem? (i := 4) (by decide +kernel)), rfl, by decide +kernel⟩
theorem nw_X5_24 : jln RX5 24 3 [.inr none, .inl 0] := ⟨(RX3, TX3, 2), rfl, cw_3, j_tb (List.mem_of_getElem? (i := 134) (by decide +kernel)), j_tb (List.mem_of_getElem? (i := 40) (by decide +kernel)), j_tb (List.mem_of_getElem? (i := 4) (by decide +kernel)), rfl, by decide +kernel⟩
theorem nw_X7_20 : jln RX7 20 3 [.inr none, .inl 0] := ⟨(RX3, TX3, 2), rfl, cw_3, j_tb (List.mem_of_getElem? (i := 171) (by decide +kernel)), j_tb (List.mem_of_getElem? (i := 40) (by decide +kernel)), j_tb (List.mem_of_getElem? (i := 4) (by decide +kernel)), rfl, by decide +kernel⟩
theorem nw_X7_29 : jln RX7 29 4 [.inr none, .inr none, .inr none, .inr none, .inl 0] := ⟨(RX4, TX4, 5), rfl, cw_4, j_tb (List.mem_of_getElem? (i := 173) (by decide +kernel)), j_tb (List.mem_of_getElem? (i := 174) (by decide +kernel)), j_tb (List.mem_of_getElem? (i := 6) (by decide +kernel)), rfl, by decide +kernel⟩
theorem nw_X4_9 : jln RX4 9 3 [.inr none, .inl 0] := ⟨(RX3, TX3, 2), rfl, cw_3, j_tb (List.mem_of_getElem? (i := 179) (by decide +kernel)), j_tb (List.mem_of_getElem? (i := 40) (by decide +kernel)), j_tb (List.mem_of_getElem? (i := 4) (by decide +kernel)), rfl, by decide +kernel⟩
theorem nw_X7_36 : jln RX7 36 6 [.inr none, .inr none, .inr none, .inr none, .inr none, .inr none, .inr none, .inl 0, .inl 0, .inl 0, .inl 0, .inl 0, .inl 0, .inl 0] := ⟨(RX6, TX6, 14), rfl, cw_6, j_tb (List.mem_of_getElem? (i := 201) (by decide +kernel)), j_tb (List.mem_of_getElem? (i := 202) (by decide +kernel)), j_tb (List.mem_of_getElem? (i := 7) (by decide +kernel)), rfl, by decide +kernel⟩
theorem nw_X6_9 : jln RX6 9 3 [.inr none, .inl 0] := ⟨(RX3, TX3, 2), rfl, cw_3, j_tb (List.mem_of_getElem? (i := 207) (by decide +kernel)), j_tb (List.mem_of_getElem? (i := 40) (by decide +kernel)), j_tb (List.mem_of_getElem? (i := 4) (by decide +kernel)), rfl, by decide +kernel⟩
theorem nw_X7_46 : jln RX7 46 0 [.inl 0, .inl 0, .inl 0] := ⟨(RX0, TX0, 3), rfl, cw_0, j_tb (List.mem_of_getElem? (i := 266) (by decide +kernel)), j_tb (List.mem_of_getElem? (i := 267) (by decide +kernel)), j_tb (List.mem_of_getElem? (i := 8) (by decide +kernel)), rfl, by decide +kernel⟩
theorem nw_L_89 : jln RL 89 8 [.inl 0, .inr none, .inl 0, .inr none, .inl 0, .inr none, .inr none, .inr none, .inr none, .inr none, .inl 0, .inl 0, .inl 0, .inl 0, .inr none, .inl 1] := ⟨(RX8, TX8, 16), rfl, cw_8, j_tb (List.mem_of_getElem? (i := 907) (by decide +kernel)), j_tb (List.mem_of_getElem? (i := 908) (by decide +kernel)), j_tb (List.mem_of_getElem? (i := 9) (by decide +kernel)), rfl, by decide +kernel⟩
theorem oi_1 : Cond.instanceMethod objectInit ∈ lw_tbl := j_tb (List.mem_of_getElem? (i := 25) (by decide +kernel))
theorem oi_2 : Cond.code objectInit ⟨#[0xb1]⟩ 1 none ∈ lw_tbl := j_tb (List.mem_of_getElem? (i := 26) (by decide +kernel))
theorem ac_int : Cond.arrayClass .int ∈ lw_tbl := j_tb (List.mem_of_getElem? (i := 52) (by decide +kernel))
theorem ac_long : Cond.arrayClass .long ∈ lw_tbl := j_tb (List.mem_of_getElem? (i := 1287) (by decide +kernel))
theorem ac_double : Cond.arrayClass .double ∈ lw_tbl := j_tb (List.mem_of_getElem? (i := 1288) (by decide +kernel))
theorem ao_State : Cond.arrayOver (.object "CueSheets$State") ∈ lw_tbl := j_tb (List.mem_of_getElem? (i := 170) (by decide +kernel))
theorem fp_X0_search_28 : jlp kX0_search 28 0 2 .int := ⟨(RX0, TX0, 3), rfl, by decide, cw_0, Or.inl (j_tb (List.mem_of_getElem? (i := 276) (by decide +kernel))), nmX0, cp_0, Or.inl rfl, by decide +kernel⟩
theorem fp_X0_consider_54 : jlp kX0_consider 54 0 0 .int := ⟨(RX0, TX0, 3), rfl, by decide, cw_0, Or.inl (j_tb (List.mem_of_getElem? (i := 272) (by decide +kernel))), nmX0, cp_0, Or.inl rfl, by decide +kernel⟩
theorem fp_X0_consider_56 : jlp kX0_consider 56 0 1 .int := ⟨(RX0, TX0, 3), rfl, by decide, cw_0, Or.inl (j_tb (List.mem_of_getElem? (i := 274) (by decide +kernel))), nmX0, cp_0, Or.inl rfl, by decide +kernel⟩
theorem fp_X0_consider_28 : jlp kX0_consider 28 0 2 .int := ⟨(RX0, TX0, 3), rfl, by decide, cw_0, Or.inl (j_tb (List.mem_of_getElem? (i := 276) (by decide +kernel))), nmX0, cp_0, Or.inl rfl, by decide +kernel⟩
theorem fp_X1_init_14 : jlp kX1_init 14 1 0 (.object "CueSheets$Row") := ⟨(RX1, TX1, 2), rfl, by decide, cw_1, Or.inl (j_tb (List.mem_of_getElem? (i := 61) (by decide +kernel))), nmX1, cp_1, Or.inr ⟨rfl, rfl, rfl, j_tb (List.mem_of_getElem? (i := 61) (by decide +kernel))⟩, by decide +kernel⟩
theorem fp_X1_init_20 : jlp kX1_init 20 1 1 (.object "CueSheets$Row") := ⟨(RX1, TX1, 2), rfl, by decide, cw_1, Or.inl (j_tb (List.mem_of_getElem? (i := 63) (by decide +kernel))), nmX1, cp_1, Or.inr ⟨rfl, rfl, rfl, j_tb (List.mem_of_getElem? (i := 63) (by decide +kernel))⟩, by decide +kernel⟩
theorem fp_X2_init_14 : jlp kX2_init 14 2 0 (.object "CueSheets$Row") := ⟨(RX2, TX2, 6), rfl, by decide, cw_2, Or.inl (j_tb (List.mem_of_getElem? (i := 104) (by decide +kernel))), nmX2, cp_2, Or.inr ⟨rfl, rfl, rfl, j_tb (List.mem_of_getElem? (i := 104) (by decide +kernel))⟩, by decide +kernel⟩
theorem fp_X2_init_20 : jlp kX2_init 20 2 1 (.object "CueSheets$Row") := ⟨(RX2, TX2, 6), rfl, by decide, cw_2, Or.inl (j_tb (List.mem_of_getElem? (i := 107) (by decide +kernel))), nmX2, cp_2, Or.inr ⟨rfl, rfl, rfl, j_tb (List.mem_of_getElem? (i := 107) (by decide +kernel))⟩, by decide +kernel⟩
theorem fp_X2_init_23 : jlp kX2_init 23 2 2 (.object "CueSheets$Row") := ⟨(RX2, TX2, 6), rfl, by decide, cw_2, Or.inl (j_tb (List.mem_of_getElem? (i := 111) (by decide +kernel))), nmX2, cp_2, Or.inr ⟨rfl, rfl, rfl, j_tb (List.mem_of_getElem? (i := 111) (by decide +kernel))⟩, by decide +kernel⟩
theorem fp_X2_init_26 : jlp kX2_init 26 2 3 (.object "CueSheets$Row") := ⟨(RX2, TX2, 6), rfl, by decide, cw_2, Or.inl (j_tb (List.mem_of_getElem? (i := 114) (by decide +kernel))), nmX2, cp_2, Or.inr ⟨rfl, rfl, rfl, j_tb (List.mem_of_getElem? (i := 114) (by decide +kernel))⟩, by decide +kernel⟩
theorem fp_X2_init_32 : jlp kX2_init 32 2 4 (.object "CueSheets$Marks") := ⟨(RX2, TX2, 6), rfl, by decide, cw_2, Or.inl (j_tb (List.mem_of_getElem? (i := 117) (by decide +kernel))), nmX2, cp_2, Or.inr ⟨rfl, rfl, rfl, j_tb (List.mem_of_getElem? (i := 117) (by decide +kernel))⟩, by decide +kernel⟩
theorem fp_X2_init_36 : jlp kX2_init 36 2 5 (.object "CueSheets$Marks") := ⟨(RX2, TX2, 6), rfl, by decide, cw_2, Or.inl (j_tb (List.mem_of_getElem? (i := 119) (by decide +kernel))), nmX2, cp_2, Or.inr ⟨rfl, rfl, rfl, j_tb (List.mem_of_getElem? (i := 119) (by decide +kernel))⟩, by decide +kernel⟩
theorem fp_X3_init_7 : jlp kX3_init 7 3 0 (.array .int) := ⟨(RX3, TX3, 2), rfl, by decide, cw_3, Or.inl (j_tb (List.mem_of_getElem? (i := 45) (by decide +kernel))), nmX3, cp_3, Or.inr ⟨rfl, rfl, rfl, j_tb (List.mem_of_getElem? (i := 45) (by decide +kernel))⟩, by decide +kernel⟩
theorem fp_X3_add_13 : jlp kX3_add 13 3 1 .int := ⟨(RX3, TX3, 2), rfl, by decide, cw_3, Or.inl (j_tb (List.mem_of_getElem? (i := 46) (by decide +kernel))), nmX3, cp_3, Or.inl rfl, by decide +kernel⟩
theorem fp_X3_remove_13 : jlp kX3_remove 13 3 1 .int := ⟨(RX3, TX3, 2), rfl, by decide, cw_3, Or.inl (j_tb (List.mem_of_getElem? (i := 46) (by decide +kernel))), nmX3, cp_3, Or.inl rfl, by decide +kernel⟩
theorem fp_X3_clear_13 : jlp kX3_clear 13 3 1 .int := ⟨(RX3, TX3, 2), rfl, by decide, cw_3, Or.inl (j_tb (List.mem_of_getElem? (i := 46) (by decide +kernel))), nmX3, cp_3, Or.inl rfl, by decide +kernel⟩
theorem fp_X4_init_14 : jlp kX4_init 14 4 0 (.object "CueSheets$Row") := ⟨(RX4, TX4, 5), rfl, by decide, cw_4, Or.inl (j_tb (List.mem_of_getElem? (i := 181) (by decide +kernel))), nmX4, cp_4, Or.inr ⟨rfl, rfl, rfl, j_tb (List.mem_of_getElem? (i := 181) (by decide +kernel))⟩, by decide +kernel⟩
theorem fp_X4_init_20 : jlp kX4_init 20 4 1 (.object "CueSheets$Row") := ⟨(RX4, TX4, 5), rfl, by decide, cw_4, Or.inl (j_tb (List.mem_of_getElem? (i := 183) (by decide +kernel))), nmX4, cp_4, Or.inr ⟨rfl, rfl, rfl, j_tb (List.mem_of_getElem? (i := 183) (by decide +kernel))⟩, by decide +kernel⟩
theorem fp_X4_init_23 : jlp kX4_init 23 4 2 (.object "CueSheets$Row") := ⟨(RX4, TX4, 5), rfl, by decide, cw_4, Or.inl (j_tb (List.mem_of_getElem? (i := 185) (by decide +kernel))), nmX4, cp_4, Or.inr ⟨rfl, rfl, rfl, j_tb (List.mem_of_getElem? (i := 185) (by decide +kernel))⟩, by decide +kernel⟩
theorem fp_X4_init_26 : jlp kX4_init 26 4 3 (.object "CueSheets$Row") := ⟨(RX4, TX4, 5), rfl, by decide, cw_4, Or.inl (j_tb (List.mem_of_getElem? (i := 187) (by decide +kernel))), nmX4, cp_4, Or.inr ⟨rfl, rfl, rfl, j_tb (List.mem_of_getElem? (i := 187) (by decide +kernel))⟩, by decide +kernel⟩
theorem fp_X4_beginScene_43 : jlp kX4_beginScene 43 4 4 .int := ⟨(RX4, TX4, 5), rfl, by decide, cw_4, Or.inl (j_tb (List.mem_of_getElem? (i := 189) (by decide +kernel))), nmX4, cp_4, Or.inl rfl, by decide +kernel⟩
theorem fp_X4_step_43 : jlp kX4_step 43 4 4 .int := ⟨(RX4, TX4, 5), rfl, by decide, cw_4, Or.inl (j_tb (List.mem_of_getElem? (i := 189) (by decide +kernel))), nmX4, cp_4, Or.inl rfl, by decide +kernel⟩
theorem fp_X5_init_12 : jlp kX5_init 12 5 0 (.object "CueSheets$Reel") := ⟨(RX5, TX5, 8), rfl, by decide, cw_5, Or.inl (j_tb (List.mem_of_getElem? (i := 136) (by decide +kernel))), nmX5, cp_5, Or.inr ⟨rfl, rfl, rfl, j_tb (List.mem_of_getElem? (i := 136) (by decide +kernel))⟩, by decide +kernel⟩
theorem fp_X5_init_18 : jlp kX5_init 18 5 1 (.object "CueSheets$Reel") := ⟨(RX5, TX5, 8), rfl, by decide, cw_5, Or.inl (j_tb (List.mem_of_getElem? (i := 137) (by decide +kernel))), nmX5, cp_5, Or.inr ⟨rfl, rfl, rfl, j_tb (List.mem_of_getElem? (i := 137) (by decide +kernel))⟩, by decide +kernel⟩
theorem fp_X5_init_21 : jlp kX5_init 21 5 2 (.object "CueSheets$Reel") := ⟨(RX5, TX5, 8), rfl, by decide, cw_5, Or.inl (j_tb (List.mem_of_getElem? (i := 138) (by decide +kernel))), nmX5, cp_5, Or.inr ⟨rfl, rfl, rfl, j_tb (List.mem_of_getElem? (i := 138) (by decide +kernel))⟩, by decide +kernel⟩
theorem fp_X5_init_29 : jlp kX5_init 29 5 3 (.object "CueSheets$Row") := ⟨(RX5, TX5, 8), rfl, by decide, cw_5, Or.inl (j_tb (List.mem_of_getElem? (i := 139) (by decide +kernel))), nmX5, cp_5, Or.inr ⟨rfl, rfl, rfl, j_tb (List.mem_of_getElem? (i := 139) (by decide +kernel))⟩, by decide +kernel⟩
theorem fp_X5_init_33 : jlp kX5_init 33 5 4 (.object "CueSheets$Row") := ⟨(RX5, TX5, 8), rfl, by decide, cw_5, Or.inl (j_tb (List.mem_of_getElem? (i := 142) (by decide +kernel))), nmX5, cp_5, Or.inr ⟨rfl, rfl, rfl, j_tb (List.mem_of_getElem? (i := 142) (by decide +kernel))⟩, by decide +kernel⟩
theorem fp_X5_init_36 : jlp kX5_init 36 5 5 (.object "CueSheets$Row") := ⟨(RX5, TX5, 8), rfl, by decide, cw_5, Or.inl (j_tb (List.mem_of_getElem? (i := 145) (by decide +kernel))), nmX5, cp_5, Or.inr ⟨rfl, rfl, rfl, j_tb (List.mem_of_getElem? (i := 145) (by decide +kernel))⟩, by decide +kernel⟩
theorem fp_X5_init_39 : jlp kX5_init 39 5 6 .int := ⟨(RX5, TX5, 8), rfl, by decide, cw_5, Or.inl (j_tb (List.mem_of_getElem? (i := 148) (by decide +kernel))), nmX5, cp_5, Or.inl rfl, by decide +kernel⟩
theorem fp_X5_init_43 : jlp kX5_init 43 5 7 .int := ⟨(RX5, TX5, 8), rfl, by decide, cw_5, Or.inl (j_tb (List.mem_of_getElem? (i := 150) (by decide +kernel))), nmX5, cp_5, Or.inl rfl, by decide +kernel⟩
theorem fp_X5_takeFrom_39 : jlp kX5_takeFrom 39 5 6 .int := ⟨(RX5, TX5, 8), rfl, by decide, cw_5, Or.inl (j_tb (List.mem_of_getElem? (i := 148) (by decide +kernel))), nmX5, cp_5, Or.inl rfl, by decide +kernel⟩
theorem fp_X5_takeFrom_43 : jlp kX5_takeFrom 43 5 7 .int := ⟨(RX5, TX5, 8), rfl, by decide, cw_5, Or.inl (j_tb (List.mem_of_getElem? (i := 150) (by decide +kernel))), nmX5, cp_5, Or.inl rfl, by decide +kernel⟩
theorem fp_X6_init_14 : jlp kX6_init 14 6 0 (.object "CueSheets$Row") := ⟨(RX6, TX6, 14), rfl, by decide, cw_6, Or.inl (j_tb (List.mem_of_getElem? (i := 209) (by decide +kernel))), nmX6, cp_6, Or.inr ⟨rfl, rfl, rfl, j_tb (List.mem_of_getElem? (i := 209) (by decide +kernel))⟩, by decide +kernel⟩
theorem fp_X6_init_20 : jlp kX6_init 20 6 1 (.object "CueSheets$Row") := ⟨(RX6, TX6, 14), rfl, by decide, cw_6, Or.inl (j_tb (List.mem_of_getElem? (i := 211) (by decide +kernel))), nmX6, cp_6, Or.inr ⟨rfl, rfl, rfl, j_tb (List.mem_of_getElem? (i := 211) (by decide +kernel))⟩, by decide +kernel⟩
theorem fp_X6_init_23 : jlp kX6_init 23 6 2 (.object "CueSheets$Row") := ⟨(RX6, TX6, 14), rfl, by decide, cw_6, Or.inl (j_tb (List.mem_of_getElem? (i := 213) (by decide +kernel))), nmX6, cp_6, Or.inr ⟨rfl, rfl, rfl, j_tb (List.mem_of_getElem? (i := 213) (by decide +kernel))⟩, by decide +kernel⟩
theorem fp_X6_init_26 : jlp kX6_init 26 6 3 (.object "CueSheets$Row") := ⟨(RX6, TX6, 14), rfl, by decide, cw_6, Or.inl (j_tb (List.mem_of_getElem? (i := 215) (by decide +kernel))), nmX6, cp_6, Or.inr ⟨rfl, rfl, rfl, j_tb (List.mem_of_getElem? (i := 215) (by decide +kernel))⟩, by decide +kernel⟩
theorem fp_X6_init_29 : jlp kX6_init 29 6 4 (.object "CueSheets$Row") := ⟨(RX6, TX6, 14), rfl, by decide, cw_6, Or.inl (j_tb (List.mem_of_getElem? (i := 217) (by decide +kernel))), nmX6, cp_6, Or.inr ⟨rfl, rfl, rfl, j_tb (List.mem_of_getElem? (i := 217) (by decide +kernel))⟩, by decide +kernel⟩
theorem fp_X6_init_32 : jlp kX6_init 32 6 5 (.object "CueSheets$Row") := ⟨(RX6, TX6, 14), rfl, by decide, cw_6, Or.inl (j_tb (List.mem_of_getElem? (i := 219) (by decide +kernel))), nmX6, cp_6, Or.inr ⟨rfl, rfl, rfl, j_tb (List.mem_of_getElem? (i := 219) (by decide +kernel))⟩, by decide +kernel⟩
theorem fp_X6_init_35 : jlp kX6_init 35 6 6 (.object "CueSheets$Row") := ⟨(RX6, TX6, 14), rfl, by decide, cw_6, Or.inl (j_tb (List.mem_of_getElem? (i := 221) (by decide +kernel))), nmX6, cp_6, Or.inr ⟨rfl, rfl, rfl, j_tb (List.mem_of_getElem? (i := 221) (by decide +kernel))⟩, by decide +kernel⟩
theorem fp_X6_measure_47 : jlp kX6_measure 47 6 7 .int := ⟨(RX6, TX6, 14), rfl, by decide, cw_6, Or.inl (j_tb (List.mem_of_getElem? (i := 223) (by decide +kernel))), nmX6, cp_6, Or.inl rfl, by decide +kernel⟩
theorem fp_X6_measure_72 : jlp kX6_measure 72 6 8 .int := ⟨(RX6, TX6, 14), rfl, by decide, cw_6, Or.inl (j_tb (List.mem_of_getElem? (i := 225) (by decide +kernel))), nmX6, cp_6, Or.inl rfl, by decide +kernel⟩
theorem fp_X6_measure_69 : jlp kX6_measure 69 6 9 .int := ⟨(RX6, TX6, 14), rfl, by decide, cw_6, Or.inl (j_tb (List.mem_of_getElem? (i := 227) (by decide +kernel))), nmX6, cp_6, Or.inl rfl, by decide +kernel⟩
theorem fp_X6_clear_47 : jlp kX6_clear 47 6 7 .int := ⟨(RX6, TX6, 14), rfl, by decide, cw_6, Or.inl (j_tb (List.mem_of_getElem? (i := 223) (by decide +kernel))), nmX6, cp_6, Or.inl rfl, by decide +kernel⟩
theorem fp_X6_clear_72 : jlp kX6_clear 72 6 8 .int := ⟨(RX6, TX6, 14), rfl, by decide, cw_6, Or.inl (j_tb (List.mem_of_getElem? (i := 225) (by decide +kernel))), nmX6, cp_6, Or.inl rfl, by decide +kernel⟩
theorem fp_X6_clear_69 : jlp kX6_clear 69 6 9 .int := ⟨(RX6, TX6, 14), rfl, by decide, cw_6, Or.inl (j_tb (List.mem_of_getElem? (i := 227) (by decide +kernel))), nmX6, cp_6, Or.inl rfl, by decide +kernel⟩
theorem fp_X6_clear_80 : jlp kX6_clear 80 6 10 .int := ⟨(RX6, TX6, 14), rfl, by decide, cw_6, Or.inl (j_tb (List.mem_of_getElem? (i := 229) (by decide +kernel))), nmX6, cp_6, Or.inl rfl, by decide +kernel⟩
theorem fp_X6_clear_83 : jlp kX6_clear 83 6 11 .int := ⟨(RX6, TX6, 14), rfl, by decide, cw_6, Or.inl (j_tb (List.mem_of_getElem? (i := 231) (by decide +kernel))), nmX6, cp_6, Or.inl rfl, by decide +kernel⟩
theorem fp_X6_clear_86 : jlp kX6_clear 86 6 12 .int := ⟨(RX6, TX6, 14), rfl, by decide, cw_6, Or.inl (j_tb (List.mem_of_getElem? (i := 233) (by decide +kernel))), nmX6, cp_6, Or.inl rfl, by decide +kernel⟩
theorem fp_X6_clear_89 : jlp kX6_clear 89 6 13 .int := ⟨(RX6, TX6, 14), rfl, by decide, cw_6, Or.inl (j_tb (List.mem_of_getElem? (i := 235) (by decide +kernel))), nmX6, cp_6, Or.inl rfl, by decide +kernel⟩
theorem fp_X6_measureCue_89 : jlp kX6_measureCue 89 6 13 .int := ⟨(RX6, TX6, 14), rfl, by decide, cw_6, Or.inl (j_tb (List.mem_of_getElem? (i := 235) (by decide +kernel))), nmX6, cp_6, Or.inl rfl, by decide +kernel⟩
theorem fp_X6_measureCue_80 : jlp kX6_measureCue 80 6 10 .int := ⟨(RX6, TX6, 14), rfl, by decide, cw_6, Or.inl (j_tb (List.mem_of_getElem? (i := 229) (by decide +kernel))), nmX6, cp_6, Or.inl rfl, by decide +kernel⟩
theorem fp_X6_measureCue_86 : jlp kX6_measureCue 86 6 12 .int := ⟨(RX6, TX6, 14), rfl, by decide, cw_6, Or.inl (j_tb (List.mem_of_getElem? (i := 233) (by decide +kernel))), nmX6, cp_6, Or.inl rfl, by decide +kernel⟩
theorem fp_X6_measureCue_83 : jlp kX6_measureCue 83 6 11 .int := ⟨(RX6, TX6, 14), rfl, by decide, cw_6, Or.inl (j_tb (List.mem_of_getElem? (i := 231) (by decide +kernel))), nmX6, cp_6, Or.inl rfl, by decide +kernel⟩
theorem fp_X7_init_10 : jlp kX7_init 10 7 0 (.object "CueSheets$State") := ⟨(RX7, TX7, 9), rfl, by decide, cw_7, Or.inl (j_tb (List.mem_of_getElem? (i := 285) (by decide +kernel))), nmX7, cp_7, Or.inr ⟨rfl, rfl, rfl, j_tb (List.mem_of_getElem? (i := 285) (by decide +kernel))⟩, by decide +kernel⟩
theorem fp_X7_init_16 : jlp kX7_init 16 7 1 (.array (.object "CueSheets$State")) := ⟨(RX7, TX7, 9), rfl, by decide, cw_7, Or.inl (j_tb (List.mem_of_getElem? (i := 286) (by decide +kernel))), nmX7, cp_7, Or.inr ⟨rfl, rfl, rfl, j_tb (List.mem_of_getElem? (i := 286) (by decide +kernel))⟩, by decide +kernel⟩
theorem fp_X7_init_25 : jlp kX7_init 25 7 4 (.object "CueSheets$Row") := ⟨(RX7, TX7, 9), rfl, by decide, cw_7, Or.inl (j_tb (List.mem_of_getElem? (i := 289) (by decide +kernel))), nmX7, cp_7, Or.inr ⟨rfl, rfl, rfl, j_tb (List.mem_of_getElem? (i := 289) (by decide +kernel))⟩, by decide +kernel⟩
theorem fp_X7_init_32 : jlp kX7_init 32 7 5 (.object "CueSheets$SheetReader") := ⟨(RX7, TX7, 9), rfl, by decide, cw_7, Or.inl (j_tb (List.mem_of_getElem? (i := 290) (by decide +kernel))), nmX7, cp_7, Or.inr ⟨rfl, rfl, rfl, j_tb (List.mem_of_getElem? (i := 290) (by decide +kernel))⟩, by decide +kernel⟩
theorem fp_X7_init_39 : jlp kX7_init 39 7 6 (.object "CueSheets$Timing") := ⟨(RX7, TX7, 9), rfl, by decide, cw_7, Or.inl (j_tb (List.mem_of_getElem? (i := 291) (by decide +kernel))), nmX7, cp_7, Or.inr ⟨rfl, rfl, rfl, j_tb (List.mem_of_getElem? (i := 291) (by decide +kernel))⟩, by decide +kernel⟩
theorem fp_X7_init_43 : jlp kX7_init 43 7 7 (.object "CueSheets$Timing") := ⟨(RX7, TX7, 9), rfl, by decide, cw_7, Or.inl (j_tb (List.mem_of_getElem? (i := 292) (by decide +kernel))), nmX7, cp_7, Or.inr ⟨rfl, rfl, rfl, j_tb (List.mem_of_getElem? (i := 292) (by decide +kernel))⟩, by decide +kernel⟩
theorem fp_X7_init_49 : jlp kX7_init 49 7 8 (.object "CueSheets$Choice") := ⟨(RX7, TX7, 9), rfl, by decide, cw_7, Or.inl (j_tb (List.mem_of_getElem? (i := 293) (by decide +kernel))), nmX7, cp_7, Or.inr ⟨rfl, rfl, rfl, j_tb (List.mem_of_getElem? (i := 293) (by decide +kernel))⟩, by decide +kernel⟩
theorem fp_X7_set_159 : jlp kX7_set 159 5 6 .int := ⟨(RX5, TX5, 8), rfl, by decide, cw_5, Or.inr ⟨"CueSheets", j_tb (List.mem_of_getElem? (i := 149) (by decide +kernel))⟩, nmX5, cp_5, Or.inl rfl, by decide +kernel⟩
theorem fp_X7_set_163 : jlp kX7_set 163 5 7 .int := ⟨(RX5, TX5, 8), rfl, by decide, cw_5, Or.inr ⟨"CueSheets", j_tb (List.mem_of_getElem? (i := 152) (by decide +kernel))⟩, nmX5, cp_5, Or.inl rfl, by decide +kernel⟩
theorem fp_X7_undo_199 : jlp kX7_undo 199 7 3 .int := ⟨(RX7, TX7, 9), rfl, by decide, cw_7, Or.inl (j_tb (List.mem_of_getElem? (i := 288) (by decide +kernel))), nmX7, cp_7, Or.inl rfl, by decide +kernel⟩
theorem fp_X7_save_284 : jlp kX7_save 284 7 2 .int := ⟨(RX7, TX7, 9), rfl, by decide, cw_7, Or.inl (j_tb (List.mem_of_getElem? (i := 287) (by decide +kernel))), nmX7, cp_7, Or.inl rfl, by decide +kernel⟩
theorem fp_X7_save_199 : jlp kX7_save 199 7 3 .int := ⟨(RX7, TX7, 9), rfl, by decide, cw_7, Or.inl (j_tb (List.mem_of_getElem? (i := 288) (by decide +kernel))), nmX7, cp_7, Or.inl rfl, by decide +kernel⟩
theorem fp_X8_init_7 : jlp kX8_init 7 8 1 (.array .int) := ⟨(RX8, TX8, 16), rfl, by decide, cw_8, Or.inl (j_tb (List.mem_of_getElem? (i := 914) (by decide +kernel))), nmX8, cp_8, Or.inr ⟨rfl, rfl, rfl, j_tb (List.mem_of_getElem? (i := 914) (by decide +kernel))⟩, by decide +kernel⟩
theorem fp_X8_init_13 : jlp kX8_init 13 8 3 (.array .int) := ⟨(RX8, TX8, 16), rfl, by decide, cw_8, Or.inl (j_tb (List.mem_of_getElem? (i := 916) (by decide +kernel))), nmX8, cp_8, Or.inr ⟨rfl, rfl, rfl, j_tb (List.mem_of_getElem? (i := 916) (by decide +kernel))⟩, by decide +kernel⟩
theorem fp_X8_init_16 : jlp kX8_init 16 8 5 (.array .int) := ⟨(RX8, TX8, 16), rfl, by decide, cw_8, Or.inl (j_tb (List.mem_of_getElem? (i := 918) (by decide +kernel))), nmX8, cp_8, Or.inr ⟨rfl, rfl, rfl, j_tb (List.mem_of_getElem? (i := 918) (by decide +kernel))⟩, by decide +kernel⟩
theorem fp_X8_init_19 : jlp kX8_init 19 8 6 (.array .int) := ⟨(RX8, TX8, 16), rfl, by decide, cw_8, Or.inl (j_tb (List.mem_of_getElem? (i := 919) (by decide +kernel))), nmX8, cp_8, Or.inr ⟨rfl, rfl, rfl, j_tb (List.mem_of_getElem? (i := 919) (by decide +kernel))⟩, by decide +kernel⟩
theorem fp_X8_init_22 : jlp kX8_init 22 8 7 (.array .int) := ⟨(RX8, TX8, 16), rfl, by decide, cw_8, Or.inl (j_tb (List.mem_of_getElem? (i := 920) (by decide +kernel))), nmX8, cp_8, Or.inr ⟨rfl, rfl, rfl, j_tb (List.mem_of_getElem? (i := 920) (by decide +kernel))⟩, by decide +kernel⟩
theorem fp_X8_init_25 : jlp kX8_init 25 8 8 (.array .int) := ⟨(RX8, TX8, 16), rfl, by decide, cw_8, Or.inl (j_tb (List.mem_of_getElem? (i := 921) (by decide +kernel))), nmX8, cp_8, Or.inr ⟨rfl, rfl, rfl, j_tb (List.mem_of_getElem? (i := 921) (by decide +kernel))⟩, by decide +kernel⟩
theorem fp_X8_init_28 : jlp kX8_init 28 8 9 (.array .int) := ⟨(RX8, TX8, 16), rfl, by decide, cw_8, Or.inl (j_tb (List.mem_of_getElem? (i := 922) (by decide +kernel))), nmX8, cp_8, Or.inr ⟨rfl, rfl, rfl, j_tb (List.mem_of_getElem? (i := 922) (by decide +kernel))⟩, by decide +kernel⟩
theorem fp_X8_init_31 : jlp kX8_init 31 8 14 (.array .int) := ⟨(RX8, TX8, 16), rfl, by decide, cw_8, Or.inl (j_tb (List.mem_of_getElem? (i := 927) (by decide +kernel))), nmX8, cp_8, Or.inr ⟨rfl, rfl, rfl, j_tb (List.mem_of_getElem? (i := 927) (by decide +kernel))⟩, by decide +kernel⟩
theorem fp_X8_bestOf_85 : jlp kX8_bestOf 85 8 10 .int := ⟨(RX8, TX8, 16), rfl, by decide, cw_8, Or.inl (j_tb (List.mem_of_getElem? (i := 923) (by decide +kernel))), nmX8, cp_8, Or.inl rfl, by decide +kernel⟩
theorem fp_X8_save_88 : jlp kX8_save 88 8 2 .int := ⟨(RX8, TX8, 16), rfl, by decide, cw_8, Or.inl (j_tb (List.mem_of_getElem? (i := 915) (by decide +kernel))), nmX8, cp_8, Or.inl rfl, by decide +kernel⟩
theorem fp_X8_undo_34 : jlp kX8_undo 34 8 0 .int := ⟨(RX8, TX8, 16), rfl, by decide, cw_8, Or.inl (j_tb (List.mem_of_getElem? (i := 913) (by decide +kernel))), nmX8, cp_8, Or.inl rfl, by decide +kernel⟩
theorem fp_X8_undo_88 : jlp kX8_undo 88 8 2 .int := ⟨(RX8, TX8, 16), rfl, by decide, cw_8, Or.inl (j_tb (List.mem_of_getElem? (i := 915) (by decide +kernel))), nmX8, cp_8, Or.inl rfl, by decide +kernel⟩
theorem fp_X8_addScene_34 : jlp kX8_addScene 34 8 0 .int := ⟨(RX8, TX8, 16), rfl, by decide, cw_8, Or.inl (j_tb (List.mem_of_getElem? (i := 913) (by decide +kernel))), nmX8, cp_8, Or.inl rfl, by decide +kernel⟩
theorem fp_X8_removeScene_34 : jlp kX8_removeScene 34 8 0 .int := ⟨(RX8, TX8, 16), rfl, by decide, cw_8, Or.inl (j_tb (List.mem_of_getElem? (i := 913) (by decide +kernel))), nmX8, cp_8, Or.inl rfl, by decide +kernel⟩
theorem fp_X8_crank_34 : jlp kX8_crank 34 8 0 .int := ⟨(RX8, TX8, 16), rfl, by decide, cw_8, Or.inl (j_tb (List.mem_of_getElem? (i := 913) (by decide +kernel))), nmX8, cp_8, Or.inl rfl, by decide +kernel⟩
theorem fp_X8_splice_34 : jlp kX8_splice 34 8 0 .int := ⟨(RX8, TX8, 16), rfl, by decide, cw_8, Or.inl (j_tb (List.mem_of_getElem? (i := 913) (by decide +kernel))), nmX8, cp_8, Or.inl rfl, by decide +kernel⟩
theorem fp_X8_addPiece_34 : jlp kX8_addPiece 34 8 0 .int := ⟨(RX8, TX8, 16), rfl, by decide, cw_8, Or.inl (j_tb (List.mem_of_getElem? (i := 913) (by decide +kernel))), nmX8, cp_8, Or.inl rfl, by decide +kernel⟩
theorem fp_X8_setCue_34 : jlp kX8_setCue 34 8 0 .int := ⟨(RX8, TX8, 16), rfl, by decide, cw_8, Or.inl (j_tb (List.mem_of_getElem? (i := 913) (by decide +kernel))), nmX8, cp_8, Or.inl rfl, by decide +kernel⟩
theorem fp_X8_fit_34 : jlp kX8_fit 34 8 0 .int := ⟨(RX8, TX8, 16), rfl, by decide, cw_8, Or.inl (j_tb (List.mem_of_getElem? (i := 913) (by decide +kernel))), nmX8, cp_8, Or.inl rfl, by decide +kernel⟩
theorem fp_X8_set_34 : jlp kX8_set 34 8 0 .int := ⟨(RX8, TX8, 16), rfl, by decide, cw_8, Or.inl (j_tb (List.mem_of_getElem? (i := 913) (by decide +kernel))), nmX8, cp_8, Or.inl rfl, by decide +kernel⟩
theorem fp_X8_append_34 : jlp kX8_append 34 8 0 .int := ⟨(RX8, TX8, 16), rfl, by decide, cw_8, Or.inl (j_tb (List.mem_of_getElem? (i := 913) (by decide +kernel))), nmX8, cp_8, Or.inl rfl, by decide +kernel⟩
theorem fp_X8_append_119 : jlp kX8_append 119 8 4 .int := ⟨(RX8, TX8, 16), rfl, by decide, cw_8, Or.inl (j_tb (List.mem_of_getElem? (i := 917) (by decide +kernel))), nmX8, cp_8, Or.inl rfl, by decide +kernel⟩
theorem fp_X8_clearBuffer_34 : jlp kX8_clearBuffer 34 8 0 .int := ⟨(RX8, TX8, 16), rfl, by decide, cw_8, Or.inl (j_tb (List.mem_of_getElem? (i := 913) (by decide +kernel))), nmX8, cp_8, Or.inl rfl, by decide +kernel⟩
theorem fp_X8_clearBuffer_119 : jlp kX8_clearBuffer 119 8 4 .int := ⟨(RX8, TX8, 16), rfl, by decide, cw_8, Or.inl (j_tb (List.mem_of_getElem? (i := 917) (by decide +kernel))), nmX8, cp_8, Or.inl rfl, by decide +kernel⟩
theorem fp_X8_beginEntry_122 : jlp kX8_beginEntry 122 8 11 .int := ⟨(RX8, TX8, 16), rfl, by decide, cw_8, Or.inl (j_tb (List.mem_of_getElem? (i := 924) (by decide +kernel))), nmX8, cp_8, Or.inl rfl, by decide +kernel⟩
theorem fp_X8_beginEntry_125 : jlp kX8_beginEntry 125 8 12 .int := ⟨(RX8, TX8, 16), rfl, by decide, cw_8, Or.inl (j_tb (List.mem_of_getElem? (i := 925) (by decide +kernel))), nmX8, cp_8, Or.inl rfl, by decide +kernel⟩
theorem fp_X8_goes_122 : jlp kX8_goes 122 8 11 .int := ⟨(RX8, TX8, 16), rfl, by decide, cw_8, Or.inl (j_tb (List.mem_of_getElem? (i := 924) (by decide +kernel))), nmX8, cp_8, Or.inl rfl, by decide +kernel⟩
theorem fp_X8_goes_125 : jlp kX8_goes 125 8 12 .int := ⟨(RX8, TX8, 16), rfl, by decide, cw_8, Or.inl (j_tb (List.mem_of_getElem? (i := 925) (by decide +kernel))), nmX8, cp_8, Or.inl rfl, by decide +kernel⟩
theorem fp_X8_takesLength_125 : jlp kX8_takesLength 125 8 12 .int := ⟨(RX8, TX8, 16), rfl, by decide, cw_8, Or.inl (j_tb (List.mem_of_getElem? (i := 925) (by decide +kernel))), nmX8, cp_8, Or.inl rfl, by decide +kernel⟩
theorem fp_X8_takesPace_125 : jlp kX8_takesPace 125 8 12 .int := ⟨(RX8, TX8, 16), rfl, by decide, cw_8, Or.inl (j_tb (List.mem_of_getElem? (i := 925) (by decide +kernel))), nmX8, cp_8, Or.inl rfl, by decide +kernel⟩
theorem fp_X8_takes_128 : jlp kX8_takes 128 8 13 .int := ⟨(RX8, TX8, 16), rfl, by decide, cw_8, Or.inl (j_tb (List.mem_of_getElem? (i := 926) (by decide +kernel))), nmX8, cp_8, Or.inl rfl, by decide +kernel⟩
theorem fp_X8_readText_128 : jlp kX8_readText 128 8 13 .int := ⟨(RX8, TX8, 16), rfl, by decide, cw_8, Or.inl (j_tb (List.mem_of_getElem? (i := 926) (by decide +kernel))), nmX8, cp_8, Or.inl rfl, by decide +kernel⟩
theorem fp_X8_firstError_34 : jlp kX8_firstError 34 8 0 .int := ⟨(RX8, TX8, 16), rfl, by decide, cw_8, Or.inl (j_tb (List.mem_of_getElem? (i := 913) (by decide +kernel))), nmX8, cp_8, Or.inl rfl, by decide +kernel⟩
theorem fp_X8_load_34 : jlp kX8_load 34 8 0 .int := ⟨(RX8, TX8, 16), rfl, by decide, cw_8, Or.inl (j_tb (List.mem_of_getElem? (i := 913) (by decide +kernel))), nmX8, cp_8, Or.inl rfl, by decide +kernel⟩
theorem fp_X8_load_119 : jlp kX8_load 119 8 4 .int := ⟨(RX8, TX8, 16), rfl, by decide, cw_8, Or.inl (j_tb (List.mem_of_getElem? (i := 917) (by decide +kernel))), nmX8, cp_8, Or.inl rfl, by decide +kernel⟩
theorem fp_X8_scene_34 : jlp kX8_scene 34 8 0 .int := ⟨(RX8, TX8, 16), rfl, by decide, cw_8, Or.inl (j_tb (List.mem_of_getElem? (i := 913) (by decide +kernel))), nmX8, cp_8, Or.inl rfl, by decide +kernel⟩
theorem fp_X8_reel_34 : jlp kX8_reel 34 8 0 .int := ⟨(RX8, TX8, 16), rfl, by decide, cw_8, Or.inl (j_tb (List.mem_of_getElem? (i := 913) (by decide +kernel))), nmX8, cp_8, Or.inl rfl, by decide +kernel⟩
theorem fp_X8_speedAt_34 : jlp kX8_speedAt 34 8 0 .int := ⟨(RX8, TX8, 16), rfl, by decide, cw_8, Or.inl (j_tb (List.mem_of_getElem? (i := 913) (by decide +kernel))), nmX8, cp_8, Or.inl rfl, by decide +kernel⟩
theorem fp_X8_piece_34 : jlp kX8_piece 34 8 0 .int := ⟨(RX8, TX8, 16), rfl, by decide, cw_8, Or.inl (j_tb (List.mem_of_getElem? (i := 913) (by decide +kernel))), nmX8, cp_8, Or.inl rfl, by decide +kernel⟩
theorem fp_X8_count_34 : jlp kX8_count 34 8 0 .int := ⟨(RX8, TX8, 16), rfl, by decide, cw_8, Or.inl (j_tb (List.mem_of_getElem? (i := 913) (by decide +kernel))), nmX8, cp_8, Or.inl rfl, by decide +kernel⟩
theorem fp_X8_bestCue_34 : jlp kX8_bestCue 34 8 0 .int := ⟨(RX8, TX8, 16), rfl, by decide, cw_8, Or.inl (j_tb (List.mem_of_getElem? (i := 913) (by decide +kernel))), nmX8, cp_8, Or.inl rfl, by decide +kernel⟩
theorem fp_X8_bestPiece_34 : jlp kX8_bestPiece 34 8 0 .int := ⟨(RX8, TX8, 16), rfl, by decide, cw_8, Or.inl (j_tb (List.mem_of_getElem? (i := 913) (by decide +kernel))), nmX8, cp_8, Or.inl rfl, by decide +kernel⟩
theorem fp_X8_ifCranked_34 : jlp kX8_ifCranked 34 8 0 .int := ⟨(RX8, TX8, 16), rfl, by decide, cw_8, Or.inl (j_tb (List.mem_of_getElem? (i := 913) (by decide +kernel))), nmX8, cp_8, Or.inl rfl, by decide +kernel⟩
theorem fp_X8_bestSpeed_34 : jlp kX8_bestSpeed 34 8 0 .int := ⟨(RX8, TX8, 16), rfl, by decide, cw_8, Or.inl (j_tb (List.mem_of_getElem? (i := 913) (by decide +kernel))), nmX8, cp_8, Or.inl rfl, by decide +kernel⟩
theorem fp_X8_offShare_34 : jlp kX8_offShare 34 8 0 .int := ⟨(RX8, TX8, 16), rfl, by decide, cw_8, Or.inl (j_tb (List.mem_of_getElem? (i := 913) (by decide +kernel))), nmX8, cp_8, Or.inl rfl, by decide +kernel⟩
theorem fp_X8_meanSpeed_34 : jlp kX8_meanSpeed 34 8 0 .int := ⟨(RX8, TX8, 16), rfl, by decide, cw_8, Or.inl (j_tb (List.mem_of_getElem? (i := 913) (by decide +kernel))), nmX8, cp_8, Or.inl rfl, by decide +kernel⟩
theorem fp_X8_mix_218 : jlp kX8_mix 218 8 15 .long := ⟨(RX8, TX8, 16), rfl, by decide, cw_8, Or.inl (j_tb (List.mem_of_getElem? (i := 928) (by decide +kernel))), nmX8, cp_8, Or.inl rfl, by decide +kernel⟩
theorem fp_X8_digest_34 : jlp kX8_digest 34 8 0 .int := ⟨(RX8, TX8, 16), rfl, by decide, cw_8, Or.inl (j_tb (List.mem_of_getElem? (i := 913) (by decide +kernel))), nmX8, cp_8, Or.inl rfl, by decide +kernel⟩
theorem fp_X8_digest_218 : jlp kX8_digest 218 8 15 .long := ⟨(RX8, TX8, 16), rfl, by decide, cw_8, Or.inl (j_tb (List.mem_of_getElem? (i := 928) (by decide +kernel))), nmX8, cp_8, Or.inl rfl, by decide +kernel⟩
