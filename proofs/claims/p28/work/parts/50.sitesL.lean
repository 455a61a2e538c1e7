/-! THE LAW: its methods as data, its links -/
abbrev kL_cell : jM := (yL_cell, cL_cell, 2, some .int, [])
theorem pn_L_cell : plainName (kL_cell : jM).1.cls = true := by decide +kernel
theorem mo_L_cell : jmS kL_cell 2 := ⟨rfl, j_tb (List.mem_of_getElem? (i := 464) (by decide +kernel)), j_tb (List.mem_of_getElem? (i := 463) (by decide +kernel)), j_tb (List.mem_of_getElem? (i := 0) (by decide +kernel)), by decide +kernel, by decide +kernel⟩
abbrev kL_at : jM := (yL_at, cL_at, 2, some .int, [])
theorem pn_L_at : plainName (kL_at : jM).1.cls = true := by decide +kernel
theorem mo_L_at : jmS kL_at 2 := ⟨rfl, j_tb (List.mem_of_getElem? (i := 468) (by decide +kernel)), j_tb (List.mem_of_getElem? (i := 467) (by decide +kernel)), j_tb (List.mem_of_getElem? (i := 0) (by decide +kernel)), by decide +kernel, by decide +kernel⟩
abbrev kL_abs : jM := (yL_abs, cL_abs, 1, some .int, [])
theorem pn_L_abs : plainName (kL_abs : jM).1.cls = true := by decide +kernel
theorem mo_L_abs : jmS kL_abs 1 := ⟨rfl, j_tb (List.mem_of_getElem? (i := 538) (by decide +kernel)), j_tb (List.mem_of_getElem? (i := 537) (by decide +kernel)), j_tb (List.mem_of_getElem? (i := 0) (by decide +kernel)), by decide +kernel, by decide +kernel⟩
abbrev kL_speed : jM := (yL_speed, cL_speed, 4, some .int, [])
theorem pn_L_speed : plainName (kL_speed : jM).1.cls = true := by decide +kernel
theorem mo_L_speed : jmS kL_speed 2 := ⟨rfl, j_tb (List.mem_of_getElem? (i := 496) (by decide +kernel)), j_tb (List.mem_of_getElem? (i := 495) (by decide +kernel)), j_tb (List.mem_of_getElem? (i := 0) (by decide +kernel)), by decide +kernel, by decide +kernel⟩
abbrev kL_lost : jM := (yL_lost, cL_lost, 3, some .boolean, [])
theorem pn_L_lost : plainName (kL_lost : jM).1.cls = true := by decide +kernel
theorem mo_L_lost : jmS kL_lost 2 := ⟨rfl, j_tb (List.mem_of_getElem? (i := 493) (by decide +kernel)), j_tb (List.mem_of_getElem? (i := 492) (by decide +kernel)), j_tb (List.mem_of_getElem? (i := 0) (by decide +kernel)), by decide +kernel, by decide +kernel⟩
abbrev kL_feet : jM := (yL_feet, cL_feet, 7, some .int, [])
theorem pn_L_feet : plainName (kL_feet : jM).1.cls = true := by decide +kernel
theorem mo_L_feet : jmS kL_feet 5 := ⟨rfl, j_tb (List.mem_of_getElem? (i := 490) (by decide +kernel)), j_tb (List.mem_of_getElem? (i := 489) (by decide +kernel)), j_tb (List.mem_of_getElem? (i := 0) (by decide +kernel)), by decide +kernel, by decide +kernel⟩
abbrev kL_start : jM := (yL_start, cL_start, 2, some .int, [])
theorem pn_L_start : plainName (kL_start : jM).1.cls = true := by decide +kernel
theorem mo_L_start : jmS kL_start 2 := ⟨rfl, j_tb (List.mem_of_getElem? (i := 484) (by decide +kernel)), j_tb (List.mem_of_getElem? (i := 483) (by decide +kernel)), j_tb (List.mem_of_getElem? (i := 0) (by decide +kernel)), by decide +kernel, by decide +kernel⟩
abbrev kL_start1 : jM := (yL_start1, cL_start1, 4, some .int, [])
theorem pn_L_start1 : plainName (kL_start1 : jM).1.cls = true := by decide +kernel
theorem mo_L_start1 : jmS kL_start1 2 := ⟨rfl, j_tb (List.mem_of_getElem? (i := 487) (by decide +kernel)), j_tb (List.mem_of_getElem? (i := 486) (by decide +kernel)), j_tb (List.mem_of_getElem? (i := 0) (by decide +kernel)), by decide +kernel, by decide +kernel⟩
abbrev kL_music : jM := (yL_music, cL_music, 4, some .int, [])
theorem pn_L_music : plainName (kL_music : jM).1.cls = true := by decide +kernel
theorem mo_L_music : jmS kL_music 4 := ⟨rfl, j_tb (List.mem_of_getElem? (i := 481) (by decide +kernel)), j_tb (List.mem_of_getElem? (i := 480) (by decide +kernel)), j_tb (List.mem_of_getElem? (i := 0) (by decide +kernel)), by decide +kernel, by decide +kernel⟩
abbrev kL_lay : jM := (yL_lay, cL_lay, 8, none, [])
theorem pn_L_lay : plainName (kL_lay : jM).1.cls = true := by decide +kernel
theorem mo_L_lay : jmS kL_lay 5 := ⟨rfl, j_tb (List.mem_of_getElem? (i := 477) (by decide +kernel)), j_tb (List.mem_of_getElem? (i := 476) (by decide +kernel)), j_tb (List.mem_of_getElem? (i := 0) (by decide +kernel)), by decide +kernel, by decide +kernel⟩
abbrev kL_drift : jM := (yL_drift, cL_drift, 4, some .int, [])
theorem pn_L_drift : plainName (kL_drift : jM).1.cls = true := by decide +kernel
theorem mo_L_drift : jmS kL_drift 4 := ⟨rfl, j_tb (List.mem_of_getElem? (i := 499) (by decide +kernel)), j_tb (List.mem_of_getElem? (i := 498) (by decide +kernel)), j_tb (List.mem_of_getElem? (i := 0) (by decide +kernel)), by decide +kernel, by decide +kernel⟩
abbrev kL_bads : jM := (yL_bads, cL_bads, 6, some .int, [])
theorem pn_L_bads : plainName (kL_bads : jM).1.cls = true := by decide +kernel
theorem mo_L_bads : jmS kL_bads 4 := ⟨rfl, j_tb (List.mem_of_getElem? (i := 561) (by decide +kernel)), j_tb (List.mem_of_getElem? (i := 560) (by decide +kernel)), j_tb (List.mem_of_getElem? (i := 0) (by decide +kernel)), by decide +kernel, by decide +kernel⟩
abbrev kL_drifts : jM := (yL_drifts, cL_drifts, 5, some .int, [])
theorem pn_L_drifts : plainName (kL_drifts : jM).1.cls = true := by decide +kernel
theorem mo_L_drifts : jmS kL_drifts 3 := ⟨rfl, j_tb (List.mem_of_getElem? (i := 541) (by decide +kernel)), j_tb (List.mem_of_getElem? (i := 540) (by decide +kernel)), j_tb (List.mem_of_getElem? (i := 0) (by decide +kernel)), by decide +kernel, by decide +kernel⟩
abbrev kL_best : jM := (yL_best, cL_best, 14, some .int, [])
theorem pn_L_best : plainName (kL_best : jM).1.cls = true := by decide +kernel
theorem mo_L_best : jmS kL_best 7 := ⟨rfl, j_tb (List.mem_of_getElem? (i := 629) (by decide +kernel)), j_tb (List.mem_of_getElem? (i := 628) (by decide +kernel)), j_tb (List.mem_of_getElem? (i := 0) (by decide +kernel)), by decide +kernel, by decide +kernel⟩
abbrev kL_toldReel : jM := (yL_toldReel, cL_toldReel, 19, some .boolean, [])
theorem pn_L_toldReel : plainName (kL_toldReel : jM).1.cls = true := by decide +kernel
set_option maxRecDepth 1000000 in
theorem mo_L_toldReel : jmS kL_toldReel 6 := ⟨rfl, j_tb (List.mem_of_getElem? (i := 474) rfl), j_tb (List.mem_of_getElem? (i := 473) (by decide +kernel)), j_tb (List.mem_of_getElem? (i := 0) (by decide +kernel)), by decide +kernel, by decide +kernel⟩
abbrev kL_told : jM := (yL_told, cL_told, 16, some .boolean, [])
theorem pn_L_told : plainName (kL_told : jM).1.cls = true := by decide +kernel
set_option maxRecDepth 1000000 in
theorem mo_L_told : jmS kL_told 7 := ⟨rfl, j_tb (List.mem_of_getElem? (i := 471) rfl), j_tb (List.mem_of_getElem? (i := 470) (by decide +kernel)), j_tb (List.mem_of_getElem? (i := 0) (by decide +kernel)), by decide +kernel, by decide +kernel⟩
abbrev kL_ahead : jM := (yL_ahead, cL_ahead, 18, some .boolean, [])
theorem pn_L_ahead : plainName (kL_ahead : jM).1.cls = true := by decide +kernel
theorem mo_L_ahead : jmS kL_ahead 7 := ⟨rfl, j_tb (List.mem_of_getElem? (i := 614) (by decide +kernel)), j_tb (List.mem_of_getElem? (i := 613) (by decide +kernel)), j_tb (List.mem_of_getElem? (i := 0) (by decide +kernel)), by decide +kernel, by decide +kernel⟩
abbrev kL_hold : jM := (yL_hold, cL_hold, 5, some .int, [])
theorem pn_L_hold : plainName (kL_hold : jM).1.cls = true := by decide +kernel
theorem mo_L_hold : jmS kL_hold 4 := ⟨rfl, j_tb (List.mem_of_getElem? (i := 727) (by decide +kernel)), j_tb (List.mem_of_getElem? (i := 726) (by decide +kernel)), j_tb (List.mem_of_getElem? (i := 0) (by decide +kernel)), by decide +kernel, by decide +kernel⟩
abbrev kL_isFull : jM := (yL_isFull, cL_isFull, 4, some .boolean, [])
theorem pn_L_isFull : plainName (kL_isFull : jM).1.cls = true := by decide +kernel
theorem mo_L_isFull : jmS kL_isFull 3 := ⟨rfl, j_tb (List.mem_of_getElem? (i := 724) (by decide +kernel)), j_tb (List.mem_of_getElem? (i := 723) (by decide +kernel)), j_tb (List.mem_of_getElem? (i := 0) (by decide +kernel)), by decide +kernel, by decide +kernel⟩
abbrev kL_act : jM := (yL_act, cL_act, 18, some .boolean, [])
theorem pn_L_act : plainName (kL_act : jM).1.cls = true := by decide +kernel
set_option maxRecDepth 1000000 in
theorem mo_L_act : jmS kL_act 9 := ⟨rfl, j_tb (List.mem_of_getElem? (i := 669) rfl), j_tb (List.mem_of_getElem? (i := 668) (by decide +kernel)), j_tb (List.mem_of_getElem? (i := 0) (by decide +kernel)), by decide +kernel, by decide +kernel⟩
theorem ml_L_147 : Cond.methodLink RL 147 yX7_init ∈ lw_tbl := j_tb (List.mem_of_getElem? (i := 18) (by decide +kernel))
theorem ml_L_96 : Cond.methodLink RL 96 yX7_count ∈ lw_tbl := j_tb (List.mem_of_getElem? (i := 305) (by decide +kernel))
theorem ml_L_152 : Cond.methodLink RL 152 yL_cell ∈ lw_tbl := j_tb (List.mem_of_getElem? (i := 462) (by decide +kernel))
theorem ml_L_71 : Cond.methodLink RL 71 yL_at ∈ lw_tbl := j_tb (List.mem_of_getElem? (i := 466) (by decide +kernel))
theorem ml_L_148 : Cond.methodLink RL 148 yL_told ∈ lw_tbl := j_tb (List.mem_of_getElem? (i := 469) (by decide +kernel))
theorem ml_L_89 : Cond.methodLink RL 89 yL_toldReel ∈ lw_tbl := j_tb (List.mem_of_getElem? (i := 472) (by decide +kernel))
theorem ml_L_49 : Cond.methodLink RL 49 yL_lay ∈ lw_tbl := j_tb (List.mem_of_getElem? (i := 475) (by decide +kernel))
theorem ml_L_22 : Cond.methodLink RL 22 yL_music ∈ lw_tbl := j_tb (List.mem_of_getElem? (i := 479) (by decide +kernel))
theorem ml_L_26 : Cond.methodLink RL 26 yL_start ∈ lw_tbl := j_tb (List.mem_of_getElem? (i := 482) (by decide +kernel))
theorem ml_L_18 : Cond.methodLink RL 18 yL_start1 ∈ lw_tbl := j_tb (List.mem_of_getElem? (i := 485) (by decide +kernel))
theorem ml_L_29 : Cond.methodLink RL 29 yL_feet ∈ lw_tbl := j_tb (List.mem_of_getElem? (i := 488) (by decide +kernel))
theorem ml_L_8 : Cond.methodLink RL 8 yL_lost ∈ lw_tbl := j_tb (List.mem_of_getElem? (i := 491) (by decide +kernel))
theorem ml_L_14 : Cond.methodLink RL 14 yL_speed ∈ lw_tbl := j_tb (List.mem_of_getElem? (i := 494) (by decide +kernel))
theorem ml_L_33 : Cond.methodLink RL 33 yL_drift ∈ lw_tbl := j_tb (List.mem_of_getElem? (i := 497) (by decide +kernel))
theorem ml_L_53 : Cond.methodLink RL 53 yX7_scene ∈ lw_tbl := j_tb (List.mem_of_getElem? (i := 500) (by decide +kernel))
theorem ml_L_37 : Cond.methodLink RL 37 yL_abs ∈ lw_tbl := j_tb (List.mem_of_getElem? (i := 536) (by decide +kernel))
theorem ml_L_59 : Cond.methodLink RL 59 yL_drifts ∈ lw_tbl := j_tb (List.mem_of_getElem? (i := 539) (by decide +kernel))
theorem ml_L_63 : Cond.methodLink RL 63 yX7_reel ∈ lw_tbl := j_tb (List.mem_of_getElem? (i := 542) (by decide +kernel))
theorem ml_L_67 : Cond.methodLink RL 67 yL_bads ∈ lw_tbl := j_tb (List.mem_of_getElem? (i := 559) (by decide +kernel))
theorem ml_L_74 : Cond.methodLink RL 74 yX7_speedAt ∈ lw_tbl := j_tb (List.mem_of_getElem? (i := 562) (by decide +kernel))
theorem ml_L_77 : Cond.methodLink RL 77 yX7_offShare ∈ lw_tbl := j_tb (List.mem_of_getElem? (i := 570) (by decide +kernel))
theorem ml_L_81 : Cond.methodLink RL 81 yX7_meanSpeed ∈ lw_tbl := j_tb (List.mem_of_getElem? (i := 578) (by decide +kernel))
theorem ml_L_93 : Cond.methodLink RL 93 yX7_piece ∈ lw_tbl := j_tb (List.mem_of_getElem? (i := 589) (by decide +kernel))
theorem ml_L_161 : Cond.methodLink RL 161 yL_ahead ∈ lw_tbl := j_tb (List.mem_of_getElem? (i := 612) (by decide +kernel))
theorem ml_L_99 : Cond.methodLink RL 99 yX7_ifCranked ∈ lw_tbl := j_tb (List.mem_of_getElem? (i := 615) (by decide +kernel))
theorem ml_L_102 : Cond.methodLink RL 102 yX7_bestSpeed ∈ lw_tbl := j_tb (List.mem_of_getElem? (i := 619) (by decide +kernel))
theorem ml_L_105 : Cond.methodLink RL 105 yL_best ∈ lw_tbl := j_tb (List.mem_of_getElem? (i := 627) (by decide +kernel))
theorem ml_L_109 : Cond.methodLink RL 109 yX7_bestCue ∈ lw_tbl := j_tb (List.mem_of_getElem? (i := 634) (by decide +kernel))
theorem ml_L_112 : Cond.methodLink RL 112 yX7_bestPiece ∈ lw_tbl := j_tb (List.mem_of_getElem? (i := 658) (by decide +kernel))
theorem ml_L_157 : Cond.methodLink RL 157 yL_act ∈ lw_tbl := j_tb (List.mem_of_getElem? (i := 667) (by decide +kernel))
theorem ml_L_115 : Cond.methodLink RL 115 yX7_addScene ∈ lw_tbl := j_tb (List.mem_of_getElem? (i := 670) (by decide +kernel))
theorem ml_L_118 : Cond.methodLink RL 118 yL_isFull ∈ lw_tbl := j_tb (List.mem_of_getElem? (i := 722) (by decide +kernel))
theorem ml_L_122 : Cond.methodLink RL 122 yL_hold ∈ lw_tbl := j_tb (List.mem_of_getElem? (i := 725) (by decide +kernel))
theorem ml_L_125 : Cond.methodLink RL 125 yX7_crank ∈ lw_tbl := j_tb (List.mem_of_getElem? (i := 728) (by decide +kernel))
theorem ml_L_128 : Cond.methodLink RL 128 yX7_splice ∈ lw_tbl := j_tb (List.mem_of_getElem? (i := 738) (by decide +kernel))
theorem ml_L_131 : Cond.methodLink RL 131 yX7_addPiece ∈ lw_tbl := j_tb (List.mem_of_getElem? (i := 751) (by decide +kernel))
theorem ml_L_134 : Cond.methodLink RL 134 yX7_setCue ∈ lw_tbl := j_tb (List.mem_of_getElem? (i := 757) (by decide +kernel))
theorem ml_L_138 : Cond.methodLink RL 138 yX7_removeScene ∈ lw_tbl := j_tb (List.mem_of_getElem? (i := 766) (by decide +kernel))
theorem ml_L_141 : Cond.methodLink RL 141 yX7_set ∈ lw_tbl := j_tb (List.mem_of_getElem? (i := 775) (by decide +kernel))
theorem ml_L_144 : Cond.methodLink RL 144 yX7_fit ∈ lw_tbl := j_tb (List.mem_of_getElem? (i := 779) (by decide +kernel))
theorem kc_L_7 : Cond.constant RL 7 (1065670069 : Int32) ∈ lw_tbl := j_tb (List.mem_of_getElem? (i := 465) (by decide +kernel))
theorem kc_L_21 : Cond.constant RL 21 (-2000001 : Int32) ∈ lw_tbl := j_tb (List.mem_of_getElem? (i := 478) (by decide +kernel))
theorem kc_L_156 : Cond.constant RL 156 (2147483647 : Int32) ∈ lw_tbl := j_tb (List.mem_of_getElem? (i := 787) (by decide +kernel))
theorem kc_L_41 : Cond.constantLong RL 41 (9223372036854775807 : Int64) ∈ lw_tbl := j_tb (List.mem_of_getElem? (i := 630) (by decide +kernel))
theorem kc_L_43 : Cond.constantLong RL 43 (100 : Int64) ∈ lw_tbl := j_tb (List.mem_of_getElem? (i := 631) (by decide +kernel))
theorem kc_L_45 : Cond.constantLong RL 45 (10 : Int64) ∈ lw_tbl := j_tb (List.mem_of_getElem? (i := 632) (by decide +kernel))
theorem kc_L_47 : Cond.constantLong RL 47 (2 : Int64) ∈ lw_tbl := j_tb (List.mem_of_getElem? (i := 633) (by decide +kernel))
theorem kc_L_85 : Cond.constantDouble RL 85 (4625196817309499392 : UInt64) ∈ lw_tbl := j_tb (List.mem_of_getElem? (i := 587) (by decide +kernel))
theorem kc_L_87 : Cond.constantDouble RL 87 (4621819117588971520 : UInt64) ∈ lw_tbl := j_tb (List.mem_of_getElem? (i := 588) (by decide +kernel))
theorem nw_L_54 : jln RL 54 7 [.inr none, .inr none, .inl 0, .inl 0, .inr none, .inr none, .inr none, .inr none, .inr none] := ⟨(RX7, TX7, 9), rfl, cw_7, j_tb (List.mem_of_getElem? (i := 16) (by decide +kernel)), j_tb (List.mem_of_getElem? (i := 17) (by decide +kernel)), j_tb (List.mem_of_getElem? (i := 1) (by decide +kernel)), rfl, by decide +kernel⟩
