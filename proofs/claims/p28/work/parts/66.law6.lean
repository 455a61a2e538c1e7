/-! THE LAW: what a reel tells -/
section JLL
variable {l : Launch} {s0 : State} {D : jD} {T : jT} {V : jV} {X : jX} {sz : Nat}
set_option maxRecDepth 100000 in
set_option maxHeartbeats 4000000 in
theorem tr_body (hB : jB l s0 D) {q ra pa da ca ea : Nat} {x : aX} {r0 x0 : Int32} {z : Nat} {Q : jQ} (hcu : cuIs T V q x) (hW : xW x) (hz0 : r0.toInt = (z : Int)) (z3 : z < 3) (hr : T ra = some (kI 60)) (hpa : T pa = some (kI 12)) (hda : T da = some (kI 3)) (hca : T ca = some (kI 10)) (hea : T ea = some (kI 5)) (dq : dQ q ra pa da ca ea) (hd : ca ≠ ea ∧ ra ≠ ca ∧ ra ≠ ea ∧ pa ≠ ca ∧ pa ≠ ea) (hd2 : da ≠ ca ∧ da ≠ ea) (hz : zRl (V ra) (xR x r0)) (hpz : zPa (V pa) x.1) (hdz : zDd (V da) x.1)
  (K : ∀ (V' : jV) (c' n' : Nat) (L : List (Nat × Value)), tW T V V' q x ra pa da ca ea (xR x r0) 0 → c' ≤ 230 → n' ≤ 1400 → J l s0 D kL_toldReel (jR 9 230 1400) 230 1400 Q 763 L [.int 1] T V' X sz c' n') : J l s0 D kL_toldReel (jR 9 230 1400) 230 1400 Q 11 [(0, .ref q), (1, .int r0), (2, .int x0), (3, .ref ra), (4, .ref pa), (5, .ref da), (6, .ref ca), (7, .ref ea)] [] T V X sz 2 15 := by
  have hrl : rlW x.1 (xR x r0) := hW.r r0
  have hp : pcW x.1 := hW.1.1
  have hsp := hrl.2.2.2.2.2.2.1
  have h5 := hz.2.1
  have bn := aBeg_rng hrl (w := 0) (Or.inl rfl) (xR x r0).1.length (Nat.le_refl _)
  have dq2 := dq
  obtain ⟨dq3, dq4, dq5, dq6, dq7⟩ := dq2
  refine j_iconst (v := 0) dL_toldReel_11 (by decide) ?_
  refine j_aload_n dL_toldReel_12 rfl ?_
  refine j_aload dL_toldReel_13 rfl ?_
  refine j_aload dL_toldReel_15 rfl ?_
  refine j_aload dL_toldReel_17 rfl ?_
  refine j_cSu dL_toldReel_19 hB mo_L_lay ml_L_49 (sp_L_lay hB hr hpa hca hea hd hz hpz hp hrl (iC 0 (by decide)) (Or.inl rfl) (by decide)) rfl rfl ⟨rfl, rfl, by decide, by decide⟩ (Nat.le_of_ble_eq_true rfl) ⟨by show _ ≤ 230; omega, by show _ ≤ 1400; omega⟩ (fun V_19 h_19 => ?_)
  obtain ⟨hF, hO⟩ := h_19
  have w : tW T V V_19 q x ra pa da ca ea (xR x r0) 0 := ⟨fun b _ b1 b2 => hF b b1 b2, hcu.cg (fun a ha hb => ⟨rfl, hF a (by omega) (by omega)⟩), by rw [hF ra hd.2.1 hd.2.2.1]; exact hz, by rw [hF pa hd.2.2.2.1 hd.2.2.2.2]; exact hpz, by rw [hF da hd2.1 hd2.2]; exact hdz, hO⟩
  have rest : ∀ tm : Int32, isI tm (aBeg (xR x r0) 0 (xR x r0).1.length) → J l s0 D kL_toldReel (jR 9 230 1400) 230 1400 Q 49 [(0, .ref q), (1, .int r0), (2, .int x0), (3, .ref ra), (4, .ref pa), (5, .ref da), (6, .ref ca), (7, .ref ea), (8, .int 0), (9, .int 0), (10, .int 0)] [.int tm] T V_19 X sz 2 15 := by
    intro tm htm
    have fin3 : ∀ (lo cs si he la i : Int32) (V1 : jV) (c1 n1 : Nat), isI lo (aSum (aLost (xR x r0)) (xR x r0).1.length) → isI cs (aSum (aCue1 (xR x r0)) (xR x r0).1.length) → isI si (aSil x.1 (xR x r0) 0) → isI la (aMus x.1 (xR x r0) 0 (xR x r0).1.length) → tW T V V1 q x ra pa da ca ea (xR x r0) 0 → c1 ≤ 202 → n1 ≤ 1215 → J l s0 D kL_toldReel (jR 9 230 1400) 230 1400 Q 505 [(0, .ref q), (1, .int r0), (2, .int x0), (3, .ref ra), (4, .ref pa), (5, .ref da), (6, .ref ca), (7, .ref ea), (8, .int lo), (9, .int cs), (10, .int si), (11, .int tm), (12, .int he), (13, .int la), (14, .int i)] [] T V1 X sz c1 n1 := by
      intro lo cs si he la i V1 c1 n1 hlo hcs hsi hla w hc1 hn1
      have sd := ds_rng hp hrl (w := 0) (Or.inl rfl)
      have ll := lost_le hrl (xR x r0).1.length (Nat.le_refl _)
      have fl := aFirst_rng hrl (xR x r0).1.length (Nat.le_refl _)
      refine j_aload_n dL_toldReel_505 rfl ?_
      refine j_aload dL_toldReel_506 rfl ?_
      refine j_aload dL_toldReel_508 rfl ?_
      refine j_cSi dL_toldReel_510 hB mo_L_drifts ml_L_59 (sp_L_drifts hB hr hca hea w.2.2.1 w.2.2.2.2.2 hp hrl (Or.inl rfl)) rfl rfl ⟨rfl, rfl, by decide, by decide⟩ (Nat.le_of_ble_eq_true rfl) ⟨by show _ ≤ 230; omega, by show _ ≤ 1400; omega⟩ (fun r_510 V_510 h_510 => ?_)
      obtain ⟨rfl, h_510⟩ := h_510
      have h_510i : r_510.toInt = _ := h_510
      have d0 : 0 ≤ r_510.toInt := by omega
      have d1 : r_510.toInt < 8388608 := by omega
      refine j_istore (L' := [(0, _), (1, _), (2, _), (3, _), (4, _), (5, _), (6, _), (7, _), (8, _), (9, _), (10, _), (11, _), (12, _), (13, _), (14, _)]) dL_toldReel_513 (by decide) rfl ?_
      refine j_aload_n dL_toldReel_515 rfl ?_
      refine j_iload_n dL_toldReel_516 rfl ?_
      refine j_iconst (v := 0) dL_toldReel_517 (by decide) ?_
      refine j_cCi dL_toldReel_518 hB mo_X7_reel ml_L_63 (sp_X7_reel hB w.2.1 hW) (e_rl0 hz0 z3 (by decide) (by decide)) w.2.1.k rfl rfl rfl rfl ⟨rfl, rfl, by decide, by decide⟩ (Nat.le_of_ble_eq_true rfl) ⟨by show _ ≤ 230; omega, by show _ ≤ 1400; omega⟩ (fun y_518 V_518 h_518 a_518 g_518 => ?_)
      replace w := w.ag a_518 g_518 dq
      replace h_518 := h_518.trans (rl_0 (by decide))
      refine j_aload_n dL_toldReel_521 rfl ?_
      refine j_iconst (v := 0) dL_toldReel_522 (by decide) ?_
      refine m_iald (k := 0) dL_toldReel_523 hB (by assumption) (ixk (iC 0 (by decide)) (by omega)) (by omega) ?_
      refine m_icmp_ne (tgt := 659) dL_toldReel_524 (by decide) (h_518) (w.2.2.1.1) (fun c_524 => ?_) (fun c_524 => ?_)
      · exact absurd rfl c_524
      · refine j_aload_n dL_toldReel_527 rfl ?_
        refine j_iload_n dL_toldReel_528 rfl ?_
        refine j_iconst (v := 1) dL_toldReel_529 (by decide) ?_
        refine j_cCi dL_toldReel_530 hB mo_X7_reel ml_L_63 (sp_X7_reel hB w.2.1 hW) (e_rl0 hz0 z3 (by decide) (by decide)) w.2.1.k rfl rfl rfl rfl ⟨rfl, rfl, by decide, by decide⟩ (Nat.le_of_ble_eq_true rfl) ⟨by show _ ≤ 230; omega, by show _ ≤ 1400; omega⟩ (fun y_530 V_530 h_530 a_530 g_530 => ?_)
        replace w := w.ag a_530 g_530 dq
        replace h_530 := h_530.trans (rl_1 (by decide))
        refine j_aload_n dL_toldReel_533 rfl ?_
        refine j_iconst (v := 0) dL_toldReel_534 (by decide) ?_
        refine m_iald (k := 0) dL_toldReel_535 hB (by assumption) (ixk (iC 0 (by decide)) (by omega)) (by omega) ?_
        refine j_aload_n dL_toldReel_536 rfl ?_
        refine j_cSi dL_toldReel_537 hB mo_L_start ml_L_26 (sp_L_start hB hr w.2.2.1 hrl (w.2.2.1.1) (Nat.le_refl _)) rfl rfl ⟨rfl, rfl, by decide, by decide⟩ (Nat.le_of_ble_eq_true rfl) ⟨by show _ ≤ 230; omega, by show _ ≤ 1400; omega⟩ (fun r_537 V_537 h_537 => ?_)
        obtain ⟨rfl, h_537⟩ := h_537
        refine m_icmp_ne (tgt := 659) dL_toldReel_540 (by decide) (h_530) (h_537) (fun c_540 => ?_) (fun c_540 => ?_)
        · exact absurd rfl c_540
        · refine j_aload_n dL_toldReel_543 rfl ?_
          refine j_iload_n dL_toldReel_544 rfl ?_
          refine j_iconst (v := 2) dL_toldReel_545 (by decide) ?_
          refine j_cCi dL_toldReel_546 hB mo_X7_reel ml_L_63 (sp_X7_reel hB w.2.1 hW) (e_rl0 hz0 z3 (by decide) (by decide)) w.2.1.k rfl rfl rfl rfl ⟨rfl, rfl, by decide, by decide⟩ (Nat.le_of_ble_eq_true rfl) ⟨by show _ ≤ 230; omega, by show _ ≤ 1400; omega⟩ (fun y_546 V_546 h_546 a_546 g_546 => ?_)
          replace w := w.ag a_546 g_546 dq
          replace h_546 := h_546.trans (rl_2 (by decide))
          refine j_iload dL_toldReel_549 rfl ?_
          refine m_icmp_ne (tgt := 659) dL_toldReel_551 (by decide) (h_546) (hlo) (fun c_551 => ?_) (fun c_551 => ?_)
          · exact absurd rfl c_551
          · refine j_aload_n dL_toldReel_554 rfl ?_
            refine j_iload_n dL_toldReel_555 rfl ?_
            refine j_iconst (v := 3) dL_toldReel_556 (by decide) ?_
            refine j_cCi dL_toldReel_557 hB mo_X7_reel ml_L_63 (sp_X7_reel hB w.2.1 hW) (e_rl0 hz0 z3 (by decide) (by decide)) w.2.1.k rfl rfl rfl rfl ⟨rfl, rfl, by decide, by decide⟩ (Nat.le_of_ble_eq_true rfl) ⟨by show _ ≤ 230; omega, by show _ ≤ 1400; omega⟩ (fun y_557 V_557 h_557 a_557 g_557 => ?_)
            replace w := w.ag a_557 g_557 dq
            replace h_557 := h_557.trans (rl_3 (by decide))
            refine j_iload dL_toldReel_560 rfl ?_
            refine m_icmp_ne (tgt := 659) dL_toldReel_562 (by decide) (h_557) (htm) (fun c_562 => ?_) (fun c_562 => ?_)
            · exact absurd rfl c_562
            · refine j_aload_n dL_toldReel_565 rfl ?_
              refine j_iload_n dL_toldReel_566 rfl ?_
              refine j_iconst (v := 4) dL_toldReel_567 (by decide) ?_
              refine j_cCi dL_toldReel_568 hB mo_X7_reel ml_L_63 (sp_X7_reel hB w.2.1 hW) (e_rl0 hz0 z3 (by decide) (by decide)) w.2.1.k rfl rfl rfl rfl ⟨rfl, rfl, by decide, by decide⟩ (Nat.le_of_ble_eq_true rfl) ⟨by show _ ≤ 230; omega, by show _ ≤ 1400; omega⟩ (fun y_568 V_568 h_568 a_568 g_568 => ?_)
              replace w := w.ag a_568 g_568 dq
              replace h_568 := h_568.trans (rl_4 (by decide))
              refine j_aload_n dL_toldReel_571 rfl ?_
              refine j_bipush (v := 30) dL_toldReel_572 (by decide) ?_
              refine m_iald (k := 30) dL_toldReel_574 hB (by assumption) (ixk (iC 30 (by decide)) (by omega)) (by omega) ?_
              refine m_icmp_ne (tgt := 659) dL_toldReel_575 (by decide) (h_568) (w.2.2.1.2.2.2.1.n) (fun c_575 => ?_) (fun c_575 => ?_)
              · exact absurd rfl c_575
              · refine j_aload_n dL_toldReel_578 rfl ?_
                refine j_iload_n dL_toldReel_579 rfl ?_
                refine j_iconst (v := 5) dL_toldReel_580 (by decide) ?_
                refine j_cCi dL_toldReel_581 hB mo_X7_reel ml_L_63 (sp_X7_reel hB w.2.1 hW) (e_rl0 hz0 z3 (by decide) (by decide)) w.2.1.k rfl rfl rfl rfl ⟨rfl, rfl, by decide, by decide⟩ (Nat.le_of_ble_eq_true rfl) ⟨by show _ ≤ 230; omega, by show _ ≤ 1400; omega⟩ (fun y_581 V_581 h_581 a_581 g_581 => ?_)
                replace w := w.ag a_581 g_581 dq
                replace h_581 := h_581.trans (rl_5 (by decide))
                refine j_aload_n dL_toldReel_584 rfl ?_
                refine j_bipush (v := 45) dL_toldReel_585 (by decide) ?_
                refine m_iald (k := 45) dL_toldReel_587 hB (by assumption) (ixk (iC 45 (by decide)) (by omega)) (by omega) ?_
                refine m_icmp_ne (tgt := 659) dL_toldReel_588 (by decide) (h_581) (w.2.2.1.2.2.2.2.n) (fun c_588 => ?_) (fun c_588 => ?_)
                · exact absurd rfl c_588
                · refine j_aload_n dL_toldReel_591 rfl ?_
                  refine j_iload_n dL_toldReel_592 rfl ?_
                  refine j_bipush (v := 6) dL_toldReel_593 (by decide) ?_
                  refine j_cCi dL_toldReel_595 hB mo_X7_reel ml_L_63 (sp_X7_reel hB w.2.1 hW) (e_rl0 hz0 z3 (by decide) (by decide)) w.2.1.k rfl rfl rfl rfl ⟨rfl, rfl, by decide, by decide⟩ (Nat.le_of_ble_eq_true rfl) ⟨by show _ ≤ 230; omega, by show _ ≤ 1400; omega⟩ (fun y_595 V_595 h_595 a_595 g_595 => ?_)
                  replace w := w.ag a_595 g_595 dq
                  replace h_595 := h_595.trans (rl_6 (by decide))
                  refine j_iload dL_toldReel_598 rfl ?_
                  refine m_icmp_ne (tgt := 659) dL_toldReel_600 (by decide) (h_595) (hcs) (fun c_600 => ?_) (fun c_600 => ?_)
                  · exact absurd rfl c_600
                  · refine j_aload_n dL_toldReel_603 rfl ?_
                    refine j_iload_n dL_toldReel_604 rfl ?_
                    refine j_bipush (v := 7) dL_toldReel_605 (by decide) ?_
                    refine j_cCi dL_toldReel_607 hB mo_X7_reel ml_L_63 (sp_X7_reel hB w.2.1 hW) (e_rl0 hz0 z3 (by decide) (by decide)) w.2.1.k rfl rfl rfl rfl ⟨rfl, rfl, by decide, by decide⟩ (Nat.le_of_ble_eq_true rfl) ⟨by show _ ≤ 230; omega, by show _ ≤ 1400; omega⟩ (fun y_607 V_607 h_607 a_607 g_607 => ?_)
                    replace w := w.ag a_607 g_607 dq
                    replace h_607 := h_607.trans (rl_7 (by decide))
                    refine j_aload_n dL_toldReel_610 rfl ?_
                    refine j_aload dL_toldReel_611 rfl ?_
                    refine j_aload dL_toldReel_613 rfl ?_
                    refine j_aload dL_toldReel_615 rfl ?_
                    refine j_cSi dL_toldReel_617 hB mo_L_bads ml_L_67 (sp_L_bads hB hr hca hea w.2.2.1 w.2.2.2.2.2 hp hrl (Or.inl rfl) hda w.2.2.2.2.1) rfl rfl ⟨rfl, rfl, by decide, by decide⟩ (Nat.le_of_ble_eq_true rfl) ⟨by show _ ≤ 230; omega, by show _ ≤ 1400; omega⟩ (fun r_617 V_617 h_617 => ?_)
                    obtain ⟨rfl, h_617⟩ := h_617
                    refine m_icmp_ne (tgt := 659) dL_toldReel_620 (by decide) (h_607) (h_617) (fun c_620 => ?_) (fun c_620 => ?_)
                    · exact absurd rfl c_620
                    · refine j_aload_n dL_toldReel_623 rfl ?_
                      refine j_iload_n dL_toldReel_624 rfl ?_
                      refine j_bipush (v := 8) dL_toldReel_625 (by decide) ?_
                      refine j_cCi dL_toldReel_627 hB mo_X7_reel ml_L_63 (sp_X7_reel hB w.2.1 hW) (e_rl0 hz0 z3 (by decide) (by decide)) w.2.1.k rfl rfl rfl rfl ⟨rfl, rfl, by decide, by decide⟩ (Nat.le_of_ble_eq_true rfl) ⟨by show _ ≤ 230; omega, by show _ ≤ 1400; omega⟩ (fun y_627 V_627 h_627 a_627 g_627 => ?_)
                      replace w := w.ag a_627 g_627 dq
                      replace h_627 := h_627.trans (rl_8 (by decide))
                      refine j_iload dL_toldReel_630 rfl ?_
                      refine m_icmp_ne (tgt := 659) dL_toldReel_632 (by decide) (h_627) (h_510) (fun c_632 => ?_) (fun c_632 => ?_)
                      · exact absurd rfl c_632
                      · refine j_aload_n dL_toldReel_635 rfl ?_
                        refine j_iload_n dL_toldReel_636 rfl ?_
                        refine j_bipush (v := 9) dL_toldReel_637 (by decide) ?_
                        refine j_cCi dL_toldReel_639 hB mo_X7_reel ml_L_63 (sp_X7_reel hB w.2.1 hW) (e_rl0 hz0 z3 (by decide) (by decide)) w.2.1.k rfl rfl rfl rfl ⟨rfl, rfl, by decide, by decide⟩ (Nat.le_of_ble_eq_true rfl) ⟨by show _ ≤ 230; omega, by show _ ≤ 1400; omega⟩ (fun y_639 V_639 h_639 a_639 g_639 => ?_)
                        replace w := w.ag a_639 g_639 dq
                        replace h_639 := h_639.trans (rl_9 (by decide))
                        refine j_iload dL_toldReel_642 rfl ?_
                        refine m_icmp_ne (tgt := 659) dL_toldReel_644 (by decide) (h_639) (hsi) (fun c_644 => ?_) (fun c_644 => ?_)
                        · exact absurd rfl c_644
                        · refine j_aload_n dL_toldReel_647 rfl ?_
                          refine j_iload_n dL_toldReel_648 rfl ?_
                          refine j_bipush (v := 10) dL_toldReel_649 (by decide) ?_
                          refine j_cCi dL_toldReel_651 hB mo_X7_reel ml_L_63 (sp_X7_reel hB w.2.1 hW) (e_rl0 hz0 z3 (by decide) (by decide)) w.2.1.k rfl rfl rfl rfl ⟨rfl, rfl, by decide, by decide⟩ (Nat.le_of_ble_eq_true rfl) ⟨by show _ ≤ 230; omega, by show _ ≤ 1400; omega⟩ (fun y_651 V_651 h_651 a_651 g_651 => ?_)
                          replace w := w.ag a_651 g_651 dq
                          replace h_651 := h_651.trans (rl_10 (by decide))
                          refine j_iload dL_toldReel_654 rfl ?_
                          refine m_icmp_eq (tgt := 661) dL_toldReel_656 (by decide) (h_651) (hla) (fun c_656 => ?_) (fun c_656 => ?_)
                          · refine j_iload_n dL_toldReel_661 rfl ?_
                            refine j_sipush (v := 400) dL_toldReel_662 (by decide) ?_
                            refine j_cSi dL_toldReel_665 hB mo_L_at ml_L_71 (sp_L_at hB (by decide)) rfl rfl ⟨rfl, rfl, by decide, by decide⟩ (Nat.le_of_ble_eq_true rfl) ⟨by show _ ≤ 230; omega, by show _ ≤ 1400; omega⟩ (fun r_665 V_665 h_665 => ?_)
                            obtain ⟨rfl, f0, f1⟩ := h_665
                            rw [show (400 : Int32).toInt = 400 by decide] at f1
                            refine j_istore (L' := [(0, _), (1, _), (2, _), (3, _), (4, _), (5, _), (6, _), (7, _), (8, _), (9, _), (10, _), (11, _), (12, _), (13, _), (14, _), (15, _)]) dL_toldReel_668 (by decide) rfl ?_
                            refine j_aload_n dL_toldReel_670 rfl ?_
                            refine j_iload_n dL_toldReel_671 rfl ?_
                            refine j_iload dL_toldReel_672 rfl ?_
                            refine j_cCi dL_toldReel_674 hB mo_X7_speedAt ml_L_74 (sp_X7_speedAt hB w.2.1 hW) (e_sp0 hz0 z3 f0 (by omega)) w.2.1.k rfl rfl rfl rfl ⟨rfl, rfl, by decide, by decide⟩ (Nat.le_of_ble_eq_true rfl) ⟨by show _ ≤ 230; omega, by show _ ≤ 1400; omega⟩ (fun y_674 V_674 h_674 a_674 g_674 => ?_)
                            replace w := w.ag a_674 g_674 dq
                            replace h_674 := h_674.trans rfl
                            refine j_iload dL_toldReel_677 rfl ?_
                            refine j_aload_n dL_toldReel_679 rfl ?_
                            refine j_cSi dL_toldReel_680 hB mo_L_speed ml_L_14 (sp_L_speed hB hr w.2.2.1.2.2.2.1 hsp f0) rfl rfl ⟨rfl, rfl, by decide, by decide⟩ (Nat.le_of_ble_eq_true rfl) ⟨by show _ ≤ 230; omega, by show _ ≤ 1400; omega⟩ (fun r_680 V_680 h_680 => ?_)
                            obtain ⟨rfl, h_680⟩ := h_680
                            replace h_680 : isI r_680 (pHold (xR x r0).2.2.2.2.1 r_665.toInt).toInt := congrArg Int32.toInt h_680
                            refine m_icmp_eq (tgt := 688) dL_toldReel_683 (by decide) (h_674) (h_680) (fun c_683 => ?_) (fun c_683 => ?_)
                            · refine j_aload_n dL_toldReel_688 rfl ?_
                              refine j_iload_n dL_toldReel_689 rfl ?_
                              refine j_cCf dL_toldReel_690 hB mo_X7_offShare ml_L_77 (sp_X7_offShare hB w.2.1 hW) (e_fit0 hz0 z3) w.2.1.k rfl rfl rfl rfl ⟨rfl, rfl, by decide, by decide⟩ (Nat.le_of_ble_eq_true rfl) ⟨by show _ ≤ 230; omega, by show _ ≤ 1400; omega⟩ (fun V_690 a_690 g_690 => ?_)
                              replace w := w.ag a_690 g_690 dq
                              refine j_iload dL_toldReel_693 rfl ?_
                              refine m_if_ne (tgt := 702) dL_toldReel_695 (by decide) (htm) (fun c_695 => ?_) (fun c_695 => ?_)
                              · have hnz : ¬ aBeg (xR x r0) 0 (xR x r0).1.length = 0 := c_695
                                have hofv : ofV x.1 (xR x r0) = FP.fdiv (FP.i2f r_510) (FP.i2f tm) := by unfold ofV; rw [if_neg hnz, ofI_ti h_510, ofI_ti htm]
                                have hmnv : mnV (xR x r0) = FP.ddiv (FP.i2d (Int32.ofInt ((aFirst (xR x r0) (xR x r0).1.length - aSum (aLost (xR x r0)) (xR x r0).1.length) * 16))) (FP.ddiv (FP.i2d tm) 4621819117588971520) := by unfold mnV; rw [if_neg hnz, ofI_ti htm]
                                refine j_fconst1 dL_toldReel_702 ?_
                                refine j_iload dL_toldReel_703 rfl ?_
                                refine j_i2f dL_toldReel_705 ?_
                                refine j_fmul dL_toldReel_706 (by rw [(fmul_1 d0 d1).1]; exact (fmul_1 d0 d1).2) ?_
                                refine j_iload dL_toldReel_707 rfl ?_
                                refine j_i2f dL_toldReel_709 ?_
                                refine j_fdiv dL_toldReel_710 (by rw [(fmul_1 d0 d1).1, ← hofv]; exact (ofV_V hp hrl).n) ?_
                                refine j_fcmp dL_toldReel_711 ?_
                                refine j_if_eq (tgt := 717) dL_toldReel_712 (by decide) (fun c_712 => ?_) (fun c_712 => ?_)
                                · refine j_aload_n dL_toldReel_717 rfl ?_
                                  refine j_iload_n dL_toldReel_718 rfl ?_
                                  refine j_cCd dL_toldReel_719 hB mo_X7_meanSpeed ml_L_81 (sp_X7_meanSpeed hB w.2.1 hW) (e_fit0 hz0 z3) w.2.1.k rfl rfl rfl rfl ⟨rfl, rfl, by decide, by decide⟩ (Nat.le_of_ble_eq_true rfl) ⟨by show _ ≤ 230; omega, by show _ ≤ 1400; omega⟩ (fun V_719 a_719 g_719 => ?_)
                                  replace w := w.ag a_719 g_719 dq
                                  refine j_iload dL_toldReel_722 rfl ?_
                                  refine m_if_ne (tgt := 731) dL_toldReel_724 (by decide) (htm) (fun c_724 => ?_) (fun c_724 => ?_)
                                  · refine j_ldc2d dL_toldReel_731 hB kc_L_85 ?_
                                    refine j_aload_n dL_toldReel_734 rfl ?_
                                    refine j_iconst (v := 0) dL_toldReel_735 (by decide) ?_
                                    refine m_iald (k := 0) dL_toldReel_736 hB (by assumption) (ixk (iC 0 (by decide)) (by omega)) (by omega) ?_
                                    refine j_aload_n dL_toldReel_737 rfl ?_
                                    refine j_cSi dL_toldReel_738 hB mo_L_start ml_L_26 (sp_L_start hB hr w.2.2.1 hrl (w.2.2.1.1) (Nat.le_refl _)) rfl rfl ⟨rfl, rfl, by decide, by decide⟩ (Nat.le_of_ble_eq_true rfl) ⟨by show _ ≤ 230; omega, by show _ ≤ 1400; omega⟩ (fun r_738 V_738 h_738 => ?_)
                                    obtain ⟨rfl, h_738⟩ := h_738
                                    refine j_iload dL_toldReel_741 rfl ?_
                                    refine j_isub dL_toldReel_743 ?_
                                    have hsub : isI (r_738 - lo) (aFirst (xR x r0) (xR x r0).1.length - aSum (aLost (xR x r0)) (xR x r0).1.length) := iS h_738 hlo (by omega)
                                    have hsubi : (r_738 - lo).toInt = aFirst (xR x r0) (xR x r0).1.length - aSum (aLost (xR x r0)) (xR x r0).1.length := hsub
                                    have hm16 := dmul_16 (x := r_738 - lo) (y := Int32.ofInt ((aFirst (xR x r0) (xR x r0).1.length - aSum (aLost (xR x r0)) (xR x r0).1.length) * 16)) (by omega) (by omega) (by rw [hsubi]; exact ti_ofInt (by omega) (by omega))
                                    refine j_i2d dL_toldReel_744 ?_
                                    refine j_dmul dL_toldReel_745 (by rw [hm16.1]; exact hm16.2) ?_
                                    refine j_iload dL_toldReel_746 rfl ?_
                                    refine j_i2d dL_toldReel_748 ?_
                                    refine j_ldc2d dL_toldReel_749 hB kc_L_87 ?_
                                    refine j_ddiv dL_toldReel_752 (by rw [ofI_ti htm]; exact (mnV_S hrl).2 hnz) ?_
                                    refine j_ddiv dL_toldReel_753 (by rw [hm16.1, ← hmnv]; exact (mnV_V hrl).1.n) ?_
                                    refine j_dcmp dL_toldReel_754 ?_
                                    refine j_if_ne (tgt := 762) dL_toldReel_755 (by decide) (fun c_755 => ?_) (fun c_755 => ?_)
                                    · exact absurd (by rw [hm16.1, ← hmnv, dcmp_self (mnV_V hrl).1]; rfl) c_755
                                    · refine j_iconst (v := 1) dL_toldReel_758 (by decide) ?_
                                      refine j_goto (tgt := 763) dL_toldReel_759 (by decide) ?_
                                      exact K _ _ _ _ w (by omega) (by omega)
                                  · exact absurd c_724 c_695
                                · exact absurd (by rw [(fmul_1 d0 d1).1, ← hofv, fcmp_self (ofV_V hp hrl)]; rfl) c_712
                              · have hof0 : ofV x.1 (xR x r0) = 0 := if_pos c_695
                                have hmn0 : mnV (xR x r0) = 0 := if_pos c_695
                                refine j_fconst0 dL_toldReel_698 ?_
                                refine j_goto (tgt := 711) dL_toldReel_699 (by decide) ?_
                                refine j_fcmp dL_toldReel_711 ?_
                                refine j_if_eq (tgt := 717) dL_toldReel_712 (by decide) (fun c_712 => ?_) (fun c_712 => ?_)
                                · refine j_aload_n dL_toldReel_717 rfl ?_
                                  refine j_iload_n dL_toldReel_718 rfl ?_
                                  refine j_cCd dL_toldReel_719 hB mo_X7_meanSpeed ml_L_81 (sp_X7_meanSpeed hB w.2.1 hW) (e_fit0 hz0 z3) w.2.1.k rfl rfl rfl rfl ⟨rfl, rfl, by decide, by decide⟩ (Nat.le_of_ble_eq_true rfl) ⟨by show _ ≤ 230; omega, by show _ ≤ 1400; omega⟩ (fun V_719 a_719 g_719 => ?_)
                                  replace w := w.ag a_719 g_719 dq
                                  refine j_iload dL_toldReel_722 rfl ?_
                                  refine m_if_ne (tgt := 731) dL_toldReel_724 (by decide) (htm) (fun c_724 => ?_) (fun c_724 => ?_)
                                  · exact absurd c_695 c_724
                                  · refine j_dconst0 dL_toldReel_727 ?_
                                    refine j_goto (tgt := 754) dL_toldReel_728 (by decide) ?_
                                    refine j_dcmp dL_toldReel_754 ?_
                                    refine j_if_ne (tgt := 762) dL_toldReel_755 (by decide) (fun c_755 => ?_) (fun c_755 => ?_)
                                    · exact absurd (by rw [hmn0]; show Op.cmpValue (FP.dcmp 0 0) _ = 0; rw [show FP.dcmp 0 0 = some .eq from cmp_00 f64]; rfl) c_755
                                    · refine j_iconst (v := 1) dL_toldReel_758 (by decide) ?_
                                      refine j_goto (tgt := 763) dL_toldReel_759 (by decide) ?_
                                      exact K _ _ _ _ w (by omega) (by omega)
                                · exact absurd (by rw [hof0]; show Op.cmpValue (FP.fcmp 0 0) _ = 0; rw [show FP.fcmp 0 0 = some .eq from cmp_00 f32]; rfl) c_712
                            · exact absurd rfl c_683
                          · exact absurd rfl c_656
    have fin : ∀ (lo cs si he i : Int32) (hv sv : Int) (V1 : jV) (c1 n1 : Nat), isI lo (aSum (aLost (xR x r0)) (xR x r0).1.length) → isI cs (aSum (aCue1 (xR x r0)) (xR x r0).1.length) → isI si sv → isI he hv → sv = hv - aSum (aMu x.1 (xR x r0) 0) (xR x r0).1.length → 0 ≤ hv → hv ≤ aBeg (xR x r0) 0 (xR x r0).1.length → tW T V V1 q x ra pa da ca ea (xR x r0) 0 → c1 ≤ 202 → n1 ≤ 1215 → J l s0 D kL_toldReel (jR 9 230 1400) 230 1400 Q 446 [(0, .ref q), (1, .int r0), (2, .int x0), (3, .ref ra), (4, .ref pa), (5, .ref da), (6, .ref ca), (7, .ref ea), (8, .int lo), (9, .int cs), (10, .int si), (11, .int tm), (12, .int he), (13, .int i)] [] T V1 X sz c1 n1 := by
      intro lo cs si he i hv sv V1 c1 n1 hlo hcs hsi hhe hsv hv0 hv1 w hc1 hn1
      have mu := aSum_rng (f := aMu x.1 (xR x r0) 0) (B := 300000) (n := (xR x r0).1.length) (fun k hk => aMu_rng hp hrl (Or.inl rfl) hk) (xR x r0).1.length (Nat.le_refl _)
      have bn := aBeg_rng hrl (w := 0) (Or.inl rfl) (xR x r0).1.length (Nat.le_refl _)
      have loop2 : ∀ (N j : Nat) (si la i : Int32), j + N = (xR x r0).1.length → i.toInt = (j : Int) → isI si (aSil x.1 (xR x r0) 0) → isI la (aMus x.1 (xR x r0) 0 j) → J l s0 D kL_toldReel (jR 9 230 1400) 230 1400 Q 462 [(0, .ref q), (1, .int r0), (2, .int x0), (3, .ref ra), (4, .ref pa), (5, .ref da), (6, .ref ca), (7, .ref ea), (8, .int lo), (9, .int cs), (10, .int si), (11, .int tm), (12, .int he), (13, .int la), (14, .int i)] [] T V1 X sz c1 n1 := by
        intro n
        refine Nat.strongRecOn n ?_
        clear n
        intro n ih
        intro j si la i hn hi hsi hla
        refine j_iload dL_toldReel_462 rfl ?_
        refine j_aload_n dL_toldReel_464 rfl ?_
        refine j_iconst (v := 0) dL_toldReel_465 (by decide) ?_
        refine m_iald (k := 0) dL_toldReel_466 hB (by assumption) (ixk (iC 0 (by decide)) (by omega)) (by omega) ?_
        refine m_icmp_ge (tgt := 505) dL_toldReel_467 (by decide) (hi) (w.2.2.1.1) (fun c_467 => ?_) (fun c_467 => ?_)
        · have hj : j = (xR x r0).1.length := by omega
          subst hj
          exact fin3 _ _ _ _ _ _ _ _ _ hlo hcs hsi hla w hc1 hn1
        · have hj : j < (xR x r0).1.length := by omega
          refine j_aload_n dL_toldReel_470 rfl ?_
          refine j_iconst (v := 2) dL_toldReel_471 (by decide) ?_
          refine j_iconst (v := 4) dL_toldReel_472 (by decide) ?_
          refine j_iload dL_toldReel_473 rfl ?_
          refine j_imul dL_toldReel_475 ?_
          refine j_iadd dL_toldReel_476 ?_
          refine m_iald (k := 2 + 4 * j) dL_toldReel_477 hB (by assumption) (ixk (iA (iC 2 (by decide)) (iM (iC 4 (by decide)) (hi) (by omega)) (by omega)) (by omega)) (by omega) ?_
          refine j_ldc dL_toldReel_478 hB kc_L_21 ?_
          refine m_icmp_eq (tgt := 495) dL_toldReel_480 (by decide) ((congrArg Int32.toInt (w.2.2.1.2.2.1 j hj).2.1)) (iC (-2000001) (by decide)) (fun c_480 => ?_) (fun c_480 => ?_)
          · refine j_iload dL_toldReel_495 rfl ?_
            refine j_istore (L' := [(0, _), (1, _), (2, _), (3, _), (4, _), (5, _), (6, _), (7, _), (8, _), (9, _), (10, _), (11, _), (12, _), (13, _), (14, _)]) dL_toldReel_497 (by decide) rfl ?_
            refine j_iinc (v := 1) (L' := [(0, _), (1, _), (2, _), (3, _), (4, _), (5, _), (6, _), (7, _), (8, _), (9, _), (10, _), (11, _), (12, _), (13, _), (14, _)]) dL_toldReel_499 rfl (by decide) (by decide) rfl ?_
            refine j_goto (tgt := 462) dL_toldReel_502 (by decide) ?_
            refine ih (n - 1) (by omega) (j + 1) _ _ _ (by omega) (ixk (k := j + 1) (iA (hi) (iC 1 (by decide)) (by omega)) (by omega)) hsi ?_
            have hc : ¬ isCue (xR x r0) j := fun z9 => isCue_iff.mp z9 c_480
            rw [aMus_f hc]
            exact hla
          · refine j_aload dL_toldReel_483 rfl ?_
            refine j_iconst (v := 2) dL_toldReel_485 (by decide) ?_
            refine j_iload dL_toldReel_486 rfl ?_
            refine j_imul dL_toldReel_488 ?_
            refine j_iconst (v := 1) dL_toldReel_489 (by decide) ?_
            refine j_iadd dL_toldReel_490 ?_
            refine m_iald (k := 2 * j + 1) dL_toldReel_491 hB (by assumption) (ixk (iA (iM (iC 2 (by decide)) (hi) (by omega)) (iC 1 (by decide)) (by omega)) (by omega)) (by omega) ?_
            refine j_goto (tgt := 497) dL_toldReel_492 (by decide) ?_
            refine j_istore (L' := [(0, _), (1, _), (2, _), (3, _), (4, _), (5, _), (6, _), (7, _), (8, _), (9, _), (10, _), (11, _), (12, _), (13, _), (14, _)]) dL_toldReel_497 (by decide) rfl ?_
            refine j_iinc (v := 1) (L' := [(0, _), (1, _), (2, _), (3, _), (4, _), (5, _), (6, _), (7, _), (8, _), (9, _), (10, _), (11, _), (12, _), (13, _), (14, _)]) dL_toldReel_499 rfl (by decide) (by decide) rfl ?_
            refine j_goto (tgt := 462) dL_toldReel_502 (by decide) ?_
            refine ih (n - 1) (by omega) (j + 1) _ _ _ (by omega) (ixk (k := j + 1) (iA (hi) (iC 1 (by decide)) (by omega)) (by omega)) hsi ?_
            exact ((w.2.2.2.2.2 j hj).2.1)
      refine j_iload dL_toldReel_446 rfl ?_
      refine j_iload dL_toldReel_448 rfl ?_
      refine j_iload dL_toldReel_450 rfl ?_
      refine j_isub dL_toldReel_452 ?_
      refine j_iadd dL_toldReel_453 ?_
      refine j_istore (L' := [(0, _), (1, _), (2, _), (3, _), (4, _), (5, _), (6, _), (7, _), (8, _), (9, _), (10, _), (11, _), (12, _), (13, _)]) dL_toldReel_454 (by decide) rfl ?_
      refine j_iconst (v := 0) dL_toldReel_456 (by decide) ?_
      refine j_istore (L' := [(0, _), (1, _), (2, _), (3, _), (4, _), (5, _), (6, _), (7, _), (8, _), (9, _), (10, _), (11, _), (12, _), (13, _)]) dL_toldReel_457 (by decide) rfl ?_
      refine j_iconst (v := 0) dL_toldReel_459 (by decide) ?_
      refine j_istore (L' := [(0, _), (1, _), (2, _), (3, _), (4, _), (5, _), (6, _), (7, _), (8, _), (9, _), (10, _), (11, _), (12, _), (13, _), (14, _)]) dL_toldReel_460 (by decide) rfl ?_
      exact loop2 (xR x r0).1.length 0 _ 0 0 (by omega) rfl (ixz (iA (hsi) (iS (htm) (hhe) (by omega)) (by omega)) (by unfold aSil; omega)) rfl
    have loop : ∀ (N j : Nat) (i lo cs si he : Int32) (hv sv : Int) (V1 : jV) (c1 n1 : Nat), j + N = (xR x r0).1.length → i.toInt = (j : Int) → isI lo (aSum (aLost (xR x r0)) j) → isI cs (aSum (aCue1 (xR x r0)) j) → isI si sv → isI he hv → sv = hv - aSum (aMu x.1 (xR x r0) 0) j → 0 ≤ hv → hv ≤ aBeg (xR x r0) 0 (xR x r0).1.length → tW T V V1 q x ra pa da ca ea (xR x r0) 0 → c1 ≤ 2 + 40 * j → n1 ≤ 15 + 240 * j → J l s0 D kL_toldReel (jR 9 230 1400) 230 1400 Q 57 [(0, .ref q), (1, .int r0), (2, .int x0), (3, .ref ra), (4, .ref pa), (5, .ref da), (6, .ref ca), (7, .ref ea), (8, .int lo), (9, .int cs), (10, .int si), (11, .int tm), (12, .int he), (13, .int i)] [] T V1 X sz c1 n1 := by
      intro n
      refine Nat.strongRecOn n ?_
      clear n
      intro n ih j i lo cs si he hv sv V1 c1 n1 hn hi hlo hcs hsi hhe hsv hv0 hv1 w hc1 hn1
      refine j_iload dL_toldReel_57 rfl ?_
      refine j_aload_n dL_toldReel_59 rfl ?_
      refine j_iconst (v := 0) dL_toldReel_60 (by decide) ?_
      refine m_iald (k := 0) dL_toldReel_61 hB (by assumption) (ixk (iC 0 (by decide)) (by omega)) (by omega) ?_
      refine m_icmp_ge (tgt := 446) dL_toldReel_62 (by decide) (hi) (w.2.2.1.1) (fun c_62 => ?_) (fun c_62 => ?_)
      · have hj : j = (xR x r0).1.length := by omega
        subst hj
        exact fin _ _ _ _ _ hv sv _ _ _ hlo hcs hsi hhe hsv hv0 hv1 w (by omega) (by omega)
      · have hj : j < (xR x r0).1.length := by omega
        have b0 := aBeg_rng hrl (w := 0) (Or.inl rfl) j (by omega)
        have b1 := aTime_rng hrl (w := 0) (Or.inl rfl) hj
        have bS : aBeg (xR x r0) 0 (j + 1) = aBeg (xR x r0) 0 j + aTime (xR x r0) 0 j := rfl
        have bn := aBeg_rng hrl (w := 0) (Or.inl rfl) (xR x r0).1.length (Nat.le_refl _)
        have m0 := aMus_rng hp hrl (w := 0) (Or.inl rfl) j (by omega)
        have m1 := aMus_rng hp hrl (w := 0) (Or.inl rfl) (j + 1) (by omega)
        have f0 := aFirst_rng hrl j (by omega)
        have f1 := len_rng hrl hj
        have dr0 := aDrift_rng hp hrl (w := 0) (Or.inl rfl) hj
        have cb0 : 0 ≤ aCb x.1 (xR x r0) 0 j ∧ aCb x.1 (xR x r0) 0 j ≤ 300000 := by unfold aCb; omega
        have mu := aSum_rng (f := aMu x.1 (xR x r0) 0) (B := 300000) (n := (xR x r0).1.length) (fun k hk => aMu_rng hp hrl (Or.inl rfl) hk) j (by omega)
        have sl := lost_le hrl j (by omega)
        have sl1 := lost_le hrl (j + 1) (by omega)
        have slS : aSum (aLost (xR x r0)) (j + 1) = aSum (aLost (xR x r0)) j + aLost (xR x r0) j := rfl
        have f2 := aFirst_rng hrl (j + 1) (by omega)
        have sc := aSum_rng (f := aCue1 (xR x r0)) (B := 1) (n := (xR x r0).1.length) (fun k _ => by unfold aCue1 cueI; split <;> omega) j (by omega)
        have mid2 : ∀ (lo2 cs2 si2 he2 cz bg go dr : Int32) (hv2 sv2 : Int), isI lo2 (aSum (aLost (xR x r0)) (j + 1)) → isI cs2 (aSum (aCue1 (xR x r0)) (j + 1)) → isI si2 sv2 → isI he2 hv2 → sv2 = hv2 - aSum (aMu x.1 (xR x r0) 0) (j + 1) → 0 ≤ hv2 → hv2 ≤ aBeg (xR x r0) 0 (xR x r0).1.length → bQ cz (isCue (xR x r0) j) → isI bg (aBeg (xR x r0) 0 j) → isI go (aLost (xR x r0) j) → isI dr (aDrift x.1 (xR x r0) 0 j) → J l s0 D kL_toldReel (jR 9 230 1400) 230 1400 Q 221 [(0, .ref q), (1, .int r0), (2, .int x0), (3, .ref ra), (4, .ref pa), (5, .ref da), (6, .ref ca), (7, .ref ea), (8, .int lo2), (9, .int cs2), (10, .int si2), (11, .int tm), (12, .int he2), (13, .int i), (14, .int cz), (15, .int bg), (16, .int go), (17, .int dr)] [] T V1 X sz c1 n1 := by
          intro lo2 cs2 si2 he2 cz bg go dr hv2 sv2 hlo2 hcs2 hsi2 hhe2 hsv2 h20 h21 hcz hbg hgo hdr
          rcases hcz with ⟨rfl, hc⟩ | ⟨rfl, hc⟩
          · skip
            refine j_aload_n dL_toldReel_221 rfl ?_
            refine j_iload_n dL_toldReel_222 rfl ?_
            refine j_iload dL_toldReel_223 rfl ?_
            refine j_iconst (v := 0) dL_toldReel_225 (by decide) ?_
            refine j_cCi dL_toldReel_226 hB mo_X7_scene ml_L_53 (sp_X7_scene hB w.2.1 hW) (e_sc0 hz0 z3 hi hj (by decide) (by decide)) w.2.1.k rfl rfl rfl rfl ⟨rfl, rfl, by decide, by decide⟩ (Nat.le_of_ble_eq_true rfl) ⟨by show _ ≤ 230; omega, by show _ ≤ 1400; omega⟩ (fun y_226 V_226 h_226 a_226 g_226 => ?_)
            replace w := w.ag a_226 g_226 dq
            replace h_226 := h_226.trans (sc_0 hi (by decide))
            refine j_aload_n dL_toldReel_229 rfl ?_
            refine j_iconst (v := 1) dL_toldReel_230 (by decide) ?_
            refine j_iconst (v := 4) dL_toldReel_231 (by decide) ?_
            refine j_iload dL_toldReel_232 rfl ?_
            refine j_imul dL_toldReel_234 ?_
            refine j_iadd dL_toldReel_235 ?_
            refine m_iald (k := 1 + 4 * j) dL_toldReel_236 hB (by assumption) (ixk (iA (iC 1 (by decide)) (iM (iC 4 (by decide)) (hi) (by omega)) (by omega)) (by omega)) (by omega) ?_
            refine m_icmp_ne (tgt := 321) dL_toldReel_237 (by decide) (h_226) ((congrArg Int32.toInt (w.2.2.1.2.2.1 j hj).1)) (fun c_237 => ?_) (fun c_237 => ?_)
            · exact absurd rfl c_237
            · refine j_aload_n dL_toldReel_240 rfl ?_
              refine j_iload_n dL_toldReel_241 rfl ?_
              refine j_iload dL_toldReel_242 rfl ?_
              refine j_iconst (v := 1) dL_toldReel_244 (by decide) ?_
              refine j_cCi dL_toldReel_245 hB mo_X7_scene ml_L_53 (sp_X7_scene hB w.2.1 hW) (e_sc0 hz0 z3 hi hj (by decide) (by decide)) w.2.1.k rfl rfl rfl rfl ⟨rfl, rfl, by decide, by decide⟩ (Nat.le_of_ble_eq_true rfl) ⟨by show _ ≤ 230; omega, by show _ ≤ 1400; omega⟩ (fun y_245 V_245 h_245 a_245 g_245 => ?_)
              replace w := w.ag a_245 g_245 dq
              replace h_245 := h_245.trans (sc_1 hi (by decide))
              refine j_iload dL_toldReel_248 rfl ?_
              refine j_aload_n dL_toldReel_250 rfl ?_
              refine j_cSi dL_toldReel_251 hB mo_L_start ml_L_26 (sp_L_start hB hr w.2.2.1 hrl hi (by omega)) rfl rfl ⟨rfl, rfl, by decide, by decide⟩ (Nat.le_of_ble_eq_true rfl) ⟨by show _ ≤ 230; omega, by show _ ≤ 1400; omega⟩ (fun r_251 V_251 h_251 => ?_)
              obtain ⟨rfl, h_251⟩ := h_251
              refine m_icmp_ne (tgt := 321) dL_toldReel_254 (by decide) (h_245) (h_251) (fun c_254 => ?_) (fun c_254 => ?_)
              · exact absurd rfl c_254
              · refine j_aload_n dL_toldReel_257 rfl ?_
                refine j_iload_n dL_toldReel_258 rfl ?_
                refine j_iload dL_toldReel_259 rfl ?_
                refine j_iconst (v := 2) dL_toldReel_261 (by decide) ?_
                refine j_cCi dL_toldReel_262 hB mo_X7_scene ml_L_53 (sp_X7_scene hB w.2.1 hW) (e_sc0 hz0 z3 hi hj (by decide) (by decide)) w.2.1.k rfl rfl rfl rfl ⟨rfl, rfl, by decide, by decide⟩ (Nat.le_of_ble_eq_true rfl) ⟨by show _ ≤ 230; omega, by show _ ≤ 1400; omega⟩ (fun y_262 V_262 h_262 a_262 g_262 => ?_)
                replace w := w.ag a_262 g_262 dq
                replace h_262 := h_262.trans (sc_2 hi (by decide))
                refine j_iload dL_toldReel_265 rfl ?_
                refine m_icmp_ne (tgt := 321) dL_toldReel_267 (by decide) (h_262) (hgo) (fun c_267 => ?_) (fun c_267 => ?_)
                · exact absurd rfl c_267
                · refine j_aload_n dL_toldReel_270 rfl ?_
                  refine j_iload_n dL_toldReel_271 rfl ?_
                  refine j_iload dL_toldReel_272 rfl ?_
                  refine j_iconst (v := 3) dL_toldReel_274 (by decide) ?_
                  refine j_cCi dL_toldReel_275 hB mo_X7_scene ml_L_53 (sp_X7_scene hB w.2.1 hW) (e_sc0 hz0 z3 hi hj (by decide) (by decide)) w.2.1.k rfl rfl rfl rfl ⟨rfl, rfl, by decide, by decide⟩ (Nat.le_of_ble_eq_true rfl) ⟨by show _ ≤ 230; omega, by show _ ≤ 1400; omega⟩ (fun y_275 V_275 h_275 a_275 g_275 => ?_)
                  replace w := w.ag a_275 g_275 dq
                  replace h_275 := h_275.trans (sc_3 hi (by decide))
                  refine j_aload dL_toldReel_278 rfl ?_
                  refine j_iload dL_toldReel_280 rfl ?_
                  refine m_iald (k := j) dL_toldReel_282 hB (by assumption) (ixk (hi) (by omega)) (by omega) ?_
                  refine j_iload dL_toldReel_283 rfl ?_
                  refine j_isub dL_toldReel_285 ?_
                  refine m_icmp_ne (tgt := 321) dL_toldReel_286 (by decide) (h_275) (iS ((w.2.2.2.2.2 j hj).2.2) (hbg) (by omega)) (fun c_286 => ?_) (fun c_286 => ?_)
                  · exact absurd (by show aTime (xR x r0) 0 j = aBeg (xR x r0) 0 j + aTime (xR x r0) 0 j - aBeg (xR x r0) 0 j; omega) c_286
                  · refine j_aload_n dL_toldReel_289 rfl ?_
                    refine j_iload_n dL_toldReel_290 rfl ?_
                    refine j_iload dL_toldReel_291 rfl ?_
                    refine j_iconst (v := 4) dL_toldReel_293 (by decide) ?_
                    refine j_cCi dL_toldReel_294 hB mo_X7_scene ml_L_53 (sp_X7_scene hB w.2.1 hW) (e_sc0 hz0 z3 hi hj (by decide) (by decide)) w.2.1.k rfl rfl rfl rfl ⟨rfl, rfl, by decide, by decide⟩ (Nat.le_of_ble_eq_true rfl) ⟨by show _ ≤ 230; omega, by show _ ≤ 1400; omega⟩ (fun y_294 V_294 h_294 a_294 g_294 => ?_)
                    replace w := w.ag a_294 g_294 dq
                    replace h_294 := h_294.trans (sc_4 hi (by decide))
                    refine j_iload dL_toldReel_297 rfl ?_
                    refine m_icmp_ne (tgt := 321) dL_toldReel_299 (by decide) (h_294) (hbg) (fun c_299 => ?_) (fun c_299 => ?_)
                    · exact absurd rfl c_299
                    · refine j_aload_n dL_toldReel_302 rfl ?_
                      refine j_iload_n dL_toldReel_303 rfl ?_
                      refine j_iload dL_toldReel_304 rfl ?_
                      refine j_iconst (v := 5) dL_toldReel_306 (by decide) ?_
                      refine j_cCi dL_toldReel_307 hB mo_X7_scene ml_L_53 (sp_X7_scene hB w.2.1 hW) (e_sc0 hz0 z3 hi hj (by decide) (by decide)) w.2.1.k rfl rfl rfl rfl ⟨rfl, rfl, by decide, by decide⟩ (Nat.le_of_ble_eq_true rfl) ⟨by show _ ≤ 230; omega, by show _ ≤ 1400; omega⟩ (fun y_307 V_307 h_307 a_307 g_307 => ?_)
                      replace w := w.ag a_307 g_307 dq
                      replace h_307 := h_307.trans (sc_5 hi (by decide))
                      refine j_aload_n dL_toldReel_310 rfl ?_
                      refine j_iconst (v := 2) dL_toldReel_311 (by decide) ?_
                      refine j_iconst (v := 4) dL_toldReel_312 (by decide) ?_
                      refine j_iload dL_toldReel_313 rfl ?_
                      refine j_imul dL_toldReel_315 ?_
                      refine j_iadd dL_toldReel_316 ?_
                      refine m_iald (k := 2 + 4 * j) dL_toldReel_317 hB (by assumption) (ixk (iA (iC 2 (by decide)) (iM (iC 4 (by decide)) (hi) (by omega)) (by omega)) (by omega)) (by omega) ?_
                      refine m_icmp_eq (tgt := 323) dL_toldReel_318 (by decide) (h_307) ((congrArg Int32.toInt (w.2.2.1.2.2.1 j hj).2.1)) (fun c_318 => ?_) (fun c_318 => ?_)
                      · refine j_bipush (v := 6) dL_toldReel_323 (by decide) ?_
                        refine j_istore (L' := [(0, _), (1, _), (2, _), (3, _), (4, _), (5, _), (6, _), (7, _), (8, _), (9, _), (10, _), (11, _), (12, _), (13, _), (14, _), (15, _), (16, _), (17, _), (18, _)]) dL_toldReel_325 (by decide) rfl ?_
                        refine j_iload dL_toldReel_327 rfl ?_
                        refine j_bipush (v := 11) dL_toldReel_329 (by decide) ?_
                        refine m_icmp_ge (tgt := 409) dL_toldReel_331 (by decide) (iC 6 (by decide)) (iC 11 (by decide)) (fun c_331 => ?_) (fun c_331 => ?_)
                        · exact absurd c_331 (by decide)
                        · refine j_aload_n dL_toldReel_334 rfl ?_
                          refine j_iload_n dL_toldReel_335 rfl ?_
                          refine j_iload dL_toldReel_336 rfl ?_
                          refine j_iload dL_toldReel_338 rfl ?_
                          refine j_cCi dL_toldReel_340 hB mo_X7_scene ml_L_53 (sp_X7_scene hB w.2.1 hW) (e_sc0 hz0 z3 hi hj (by decide) (by decide)) w.2.1.k rfl rfl rfl rfl ⟨rfl, rfl, by decide, by decide⟩ (Nat.le_of_ble_eq_true rfl) ⟨by show _ ≤ 230; omega, by show _ ≤ 1400; omega⟩ (fun y_340 V_340 h_340 a_340 g_340 => ?_)
                          replace w := w.ag a_340 g_340 dq
                          replace h_340 := h_340.trans ((sc_6 hi (by decide)))
                          refine j_iload dL_toldReel_343 rfl ?_
                          refine m_if_ne (tgt := 352) dL_toldReel_345 (by decide) (iC 1 (by decide)) (fun c_345 => ?_) (fun c_345 => ?_)
                          · refine j_iload dL_toldReel_352 rfl ?_
                            refine j_bipush (v := 8) dL_toldReel_354 (by decide) ?_
                            refine m_icmp_ge (tgt := 373) dL_toldReel_356 (by decide) (iC 6 (by decide)) (iC 8 (by decide)) (fun c_356 => ?_) (fun c_356 => ?_)
                            · exact absurd c_356 (by decide)
                            · refine j_aload_n dL_toldReel_359 rfl ?_
                              refine j_iconst (v := 4) dL_toldReel_360 (by decide) ?_
                              refine j_iload dL_toldReel_361 rfl ?_
                              refine j_imul dL_toldReel_363 ?_
                              refine j_iload dL_toldReel_364 rfl ?_
                              refine j_iadd dL_toldReel_366 ?_
                              refine j_iconst (v := 3) dL_toldReel_367 (by decide) ?_
                              refine j_isub dL_toldReel_368 ?_
                              refine m_iald (k := 3 + 4 * j) dL_toldReel_369 hB (by assumption) (ixk (iS (iA (iM (iC 4 (by decide)) (hi) (by omega)) (iC 6 (by decide)) (by omega)) (iC 3 (by decide)) (by omega)) (by omega)) (by omega) ?_
                              refine j_goto (tgt := 398) dL_toldReel_370 (by decide) ?_
                              refine m_icmp_eq (tgt := 403) dL_toldReel_398 (by decide) (h_340) ((congrArg Int32.toInt ((w.2.2.1.2.2.1 j hj).2.2 hc).1)) (fun c_398 => ?_) (fun c_398 => ?_)
                              · refine j_iinc (v := 1) (L' := [(0, _), (1, _), (2, _), (3, _), (4, _), (5, _), (6, _), (7, _), (8, _), (9, _), (10, _), (11, _), (12, _), (13, _), (14, _), (15, _), (16, _), (17, _), (18, _)]) dL_toldReel_403 rfl (by decide) (by decide) rfl ?_
                                refine j_goto (tgt := 327) dL_toldReel_406 (by decide) ?_
                                refine j_iload dL_toldReel_327 rfl ?_
                                refine j_bipush (v := 11) dL_toldReel_329 (by decide) ?_
                                refine m_icmp_ge (tgt := 409) dL_toldReel_331 (by decide) (iC 7 (by decide)) (iC 11 (by decide)) (fun c_331 => ?_) (fun c_331 => ?_)
                                · exact absurd c_331 (by decide)
                                · refine j_aload_n dL_toldReel_334 rfl ?_
                                  refine j_iload_n dL_toldReel_335 rfl ?_
                                  refine j_iload dL_toldReel_336 rfl ?_
                                  refine j_iload dL_toldReel_338 rfl ?_
                                  refine j_cCi dL_toldReel_340 hB mo_X7_scene ml_L_53 (sp_X7_scene hB w.2.1 hW) (e_sc0 hz0 z3 hi hj (by decide) (by decide)) w.2.1.k rfl rfl rfl rfl ⟨rfl, rfl, by decide, by decide⟩ (Nat.le_of_ble_eq_true rfl) ⟨by show _ ≤ 230; omega, by show _ ≤ 1400; omega⟩ (fun y_340 V_340 h_340 a_340 g_340 => ?_)
                                  replace w := w.ag a_340 g_340 dq
                                  replace h_340 := h_340.trans ((sc_7 hi (by decide)))
                                  refine j_iload dL_toldReel_343 rfl ?_
                                  refine m_if_ne (tgt := 352) dL_toldReel_345 (by decide) (iC 1 (by decide)) (fun c_345 => ?_) (fun c_345 => ?_)
                                  · refine j_iload dL_toldReel_352 rfl ?_
                                    refine j_bipush (v := 8) dL_toldReel_354 (by decide) ?_
                                    refine m_icmp_ge (tgt := 373) dL_toldReel_356 (by decide) (iC 7 (by decide)) (iC 8 (by decide)) (fun c_356 => ?_) (fun c_356 => ?_)
                                    · exact absurd c_356 (by decide)
                                    · refine j_aload_n dL_toldReel_359 rfl ?_
                                      refine j_iconst (v := 4) dL_toldReel_360 (by decide) ?_
                                      refine j_iload dL_toldReel_361 rfl ?_
                                      refine j_imul dL_toldReel_363 ?_
                                      refine j_iload dL_toldReel_364 rfl ?_
                                      refine j_iadd dL_toldReel_366 ?_
                                      refine j_iconst (v := 3) dL_toldReel_367 (by decide) ?_
                                      refine j_isub dL_toldReel_368 ?_
                                      refine m_iald (k := 4 + 4 * j) dL_toldReel_369 hB (by assumption) (ixk (iS (iA (iM (iC 4 (by decide)) (hi) (by omega)) (iC 7 (by decide)) (by omega)) (iC 3 (by decide)) (by omega)) (by omega)) (by omega) ?_
                                      refine j_goto (tgt := 398) dL_toldReel_370 (by decide) ?_
                                      refine m_icmp_eq (tgt := 403) dL_toldReel_398 (by decide) (h_340) ((congrArg Int32.toInt ((w.2.2.1.2.2.1 j hj).2.2 hc).2)) (fun c_398 => ?_) (fun c_398 => ?_)
                                      · refine j_iinc (v := 1) (L' := [(0, _), (1, _), (2, _), (3, _), (4, _), (5, _), (6, _), (7, _), (8, _), (9, _), (10, _), (11, _), (12, _), (13, _), (14, _), (15, _), (16, _), (17, _), (18, _)]) dL_toldReel_403 rfl (by decide) (by decide) rfl ?_
                                        refine j_goto (tgt := 327) dL_toldReel_406 (by decide) ?_
                                        refine j_iload dL_toldReel_327 rfl ?_
                                        refine j_bipush (v := 11) dL_toldReel_329 (by decide) ?_
                                        refine m_icmp_ge (tgt := 409) dL_toldReel_331 (by decide) (iC 8 (by decide)) (iC 11 (by decide)) (fun c_331 => ?_) (fun c_331 => ?_)
                                        · exact absurd c_331 (by decide)
                                        · refine j_aload_n dL_toldReel_334 rfl ?_
                                          refine j_iload_n dL_toldReel_335 rfl ?_
                                          refine j_iload dL_toldReel_336 rfl ?_
                                          refine j_iload dL_toldReel_338 rfl ?_
                                          refine j_cCi dL_toldReel_340 hB mo_X7_scene ml_L_53 (sp_X7_scene hB w.2.1 hW) (e_sc0 hz0 z3 hi hj (by decide) (by decide)) w.2.1.k rfl rfl rfl rfl ⟨rfl, rfl, by decide, by decide⟩ (Nat.le_of_ble_eq_true rfl) ⟨by show _ ≤ 230; omega, by show _ ≤ 1400; omega⟩ (fun y_340 V_340 h_340 a_340 g_340 => ?_)
                                          replace w := w.ag a_340 g_340 dq
                                          replace h_340 := h_340.trans ((sc_8 hi (by decide)).trans (cueI_t hc))
                                          refine j_iload dL_toldReel_343 rfl ?_
                                          refine m_if_ne (tgt := 352) dL_toldReel_345 (by decide) (iC 1 (by decide)) (fun c_345 => ?_) (fun c_345 => ?_)
                                          · refine j_iload dL_toldReel_352 rfl ?_
                                            refine j_bipush (v := 8) dL_toldReel_354 (by decide) ?_
                                            refine m_icmp_ge (tgt := 373) dL_toldReel_356 (by decide) (iC 8 (by decide)) (iC 8 (by decide)) (fun c_356 => ?_) (fun c_356 => ?_)
                                            · refine j_iload dL_toldReel_373 rfl ?_
                                              refine j_bipush (v := 10) dL_toldReel_375 (by decide) ?_
                                              refine m_icmp_ge (tgt := 396) dL_toldReel_377 (by decide) (iC 8 (by decide)) (iC 10 (by decide)) (fun c_377 => ?_) (fun c_377 => ?_)
                                              · exact absurd c_377 (by decide)
                                              · refine j_aload dL_toldReel_380 rfl ?_
                                                refine j_iconst (v := 2) dL_toldReel_382 (by decide) ?_
                                                refine j_iload dL_toldReel_383 rfl ?_
                                                refine j_imul dL_toldReel_385 ?_
                                                refine j_iload dL_toldReel_386 rfl ?_
                                                refine j_iadd dL_toldReel_388 ?_
                                                refine j_bipush (v := 8) dL_toldReel_389 (by decide) ?_
                                                refine j_isub dL_toldReel_391 ?_
                                                refine m_iald (k := 2 * j) dL_toldReel_392 hB (by assumption) (ixk (iS (iA (iM (iC 2 (by decide)) (hi) (by omega)) (iC 8 (by decide)) (by omega)) (iC 8 (by decide)) (by omega)) (by omega)) (by omega) ?_
                                                refine j_goto (tgt := 398) dL_toldReel_393 (by decide) ?_
                                                refine m_icmp_eq (tgt := 403) dL_toldReel_398 (by decide) (h_340) ((w.2.2.2.2.2 j hj).1) (fun c_398 => ?_) (fun c_398 => ?_)
                                                · refine j_iinc (v := 1) (L' := [(0, _), (1, _), (2, _), (3, _), (4, _), (5, _), (6, _), (7, _), (8, _), (9, _), (10, _), (11, _), (12, _), (13, _), (14, _), (15, _), (16, _), (17, _), (18, _)]) dL_toldReel_403 rfl (by decide) (by decide) rfl ?_
                                                  refine j_goto (tgt := 327) dL_toldReel_406 (by decide) ?_
                                                  refine j_iload dL_toldReel_327 rfl ?_
                                                  refine j_bipush (v := 11) dL_toldReel_329 (by decide) ?_
                                                  refine m_icmp_ge (tgt := 409) dL_toldReel_331 (by decide) (iC 9 (by decide)) (iC 11 (by decide)) (fun c_331 => ?_) (fun c_331 => ?_)
                                                  · exact absurd c_331 (by decide)
                                                  · refine j_aload_n dL_toldReel_334 rfl ?_
                                                    refine j_iload_n dL_toldReel_335 rfl ?_
                                                    refine j_iload dL_toldReel_336 rfl ?_
                                                    refine j_iload dL_toldReel_338 rfl ?_
                                                    refine j_cCi dL_toldReel_340 hB mo_X7_scene ml_L_53 (sp_X7_scene hB w.2.1 hW) (e_sc0 hz0 z3 hi hj (by decide) (by decide)) w.2.1.k rfl rfl rfl rfl ⟨rfl, rfl, by decide, by decide⟩ (Nat.le_of_ble_eq_true rfl) ⟨by show _ ≤ 230; omega, by show _ ≤ 1400; omega⟩ (fun y_340 V_340 h_340 a_340 g_340 => ?_)
                                                    replace w := w.ag a_340 g_340 dq
                                                    replace h_340 := h_340.trans ((sc_9 hi (by decide)).trans (show aEnd x.1 (xR x r0) 0 j = aMus x.1 (xR x r0) 0 (j + 1) from cueI_t hc))
                                                    refine j_iload dL_toldReel_343 rfl ?_
                                                    refine m_if_ne (tgt := 352) dL_toldReel_345 (by decide) (iC 1 (by decide)) (fun c_345 => ?_) (fun c_345 => ?_)
                                                    · refine j_iload dL_toldReel_352 rfl ?_
                                                      refine j_bipush (v := 8) dL_toldReel_354 (by decide) ?_
                                                      refine m_icmp_ge (tgt := 373) dL_toldReel_356 (by decide) (iC 9 (by decide)) (iC 8 (by decide)) (fun c_356 => ?_) (fun c_356 => ?_)
                                                      · refine j_iload dL_toldReel_373 rfl ?_
                                                        refine j_bipush (v := 10) dL_toldReel_375 (by decide) ?_
                                                        refine m_icmp_ge (tgt := 396) dL_toldReel_377 (by decide) (iC 9 (by decide)) (iC 10 (by decide)) (fun c_377 => ?_) (fun c_377 => ?_)
                                                        · exact absurd c_377 (by decide)
                                                        · refine j_aload dL_toldReel_380 rfl ?_
                                                          refine j_iconst (v := 2) dL_toldReel_382 (by decide) ?_
                                                          refine j_iload dL_toldReel_383 rfl ?_
                                                          refine j_imul dL_toldReel_385 ?_
                                                          refine j_iload dL_toldReel_386 rfl ?_
                                                          refine j_iadd dL_toldReel_388 ?_
                                                          refine j_bipush (v := 8) dL_toldReel_389 (by decide) ?_
                                                          refine j_isub dL_toldReel_391 ?_
                                                          refine m_iald (k := 2 * j + 1) dL_toldReel_392 hB (by assumption) (ixk (iS (iA (iM (iC 2 (by decide)) (hi) (by omega)) (iC 9 (by decide)) (by omega)) (iC 8 (by decide)) (by omega)) (by omega)) (by omega) ?_
                                                          refine j_goto (tgt := 398) dL_toldReel_393 (by decide) ?_
                                                          refine m_icmp_eq (tgt := 403) dL_toldReel_398 (by decide) (h_340) ((w.2.2.2.2.2 j hj).2.1) (fun c_398 => ?_) (fun c_398 => ?_)
                                                          · refine j_iinc (v := 1) (L' := [(0, _), (1, _), (2, _), (3, _), (4, _), (5, _), (6, _), (7, _), (8, _), (9, _), (10, _), (11, _), (12, _), (13, _), (14, _), (15, _), (16, _), (17, _), (18, _)]) dL_toldReel_403 rfl (by decide) (by decide) rfl ?_
                                                            refine j_goto (tgt := 327) dL_toldReel_406 (by decide) ?_
                                                            refine j_iload dL_toldReel_327 rfl ?_
                                                            refine j_bipush (v := 11) dL_toldReel_329 (by decide) ?_
                                                            refine m_icmp_ge (tgt := 409) dL_toldReel_331 (by decide) (iC 10 (by decide)) (iC 11 (by decide)) (fun c_331 => ?_) (fun c_331 => ?_)
                                                            · exact absurd c_331 (by decide)
                                                            · refine j_aload_n dL_toldReel_334 rfl ?_
                                                              refine j_iload_n dL_toldReel_335 rfl ?_
                                                              refine j_iload dL_toldReel_336 rfl ?_
                                                              refine j_iload dL_toldReel_338 rfl ?_
                                                              refine j_cCi dL_toldReel_340 hB mo_X7_scene ml_L_53 (sp_X7_scene hB w.2.1 hW) (e_sc0 hz0 z3 hi hj (by decide) (by decide)) w.2.1.k rfl rfl rfl rfl ⟨rfl, rfl, by decide, by decide⟩ (Nat.le_of_ble_eq_true rfl) ⟨by show _ ≤ 230; omega, by show _ ≤ 1400; omega⟩ (fun y_340 V_340 h_340 a_340 g_340 => ?_)
                                                              replace w := w.ag a_340 g_340 dq
                                                              replace h_340 := h_340.trans ((sc_10 hi (by decide)))
                                                              refine j_iload dL_toldReel_343 rfl ?_
                                                              refine m_if_ne (tgt := 352) dL_toldReel_345 (by decide) (iC 1 (by decide)) (fun c_345 => ?_) (fun c_345 => ?_)
                                                              · refine j_iload dL_toldReel_352 rfl ?_
                                                                refine j_bipush (v := 8) dL_toldReel_354 (by decide) ?_
                                                                refine m_icmp_ge (tgt := 373) dL_toldReel_356 (by decide) (iC 10 (by decide)) (iC 8 (by decide)) (fun c_356 => ?_) (fun c_356 => ?_)
                                                                · refine j_iload dL_toldReel_373 rfl ?_
                                                                  refine j_bipush (v := 10) dL_toldReel_375 (by decide) ?_
                                                                  refine m_icmp_ge (tgt := 396) dL_toldReel_377 (by decide) (iC 10 (by decide)) (iC 10 (by decide)) (fun c_377 => ?_) (fun c_377 => ?_)
                                                                  · refine j_iload dL_toldReel_396 rfl ?_
                                                                    refine m_icmp_eq (tgt := 403) dL_toldReel_398 (by decide) (h_340) (hdr) (fun c_398 => ?_) (fun c_398 => ?_)
                                                                    · refine j_iinc (v := 1) (L' := [(0, _), (1, _), (2, _), (3, _), (4, _), (5, _), (6, _), (7, _), (8, _), (9, _), (10, _), (11, _), (12, _), (13, _), (14, _), (15, _), (16, _), (17, _), (18, _)]) dL_toldReel_403 rfl (by decide) (by decide) rfl ?_
                                                                      refine j_goto (tgt := 327) dL_toldReel_406 (by decide) ?_
                                                                      refine j_iload dL_toldReel_327 rfl ?_
                                                                      refine j_bipush (v := 11) dL_toldReel_329 (by decide) ?_
                                                                      refine m_icmp_ge (tgt := 409) dL_toldReel_331 (by decide) (iC 11 (by decide)) (iC 11 (by decide)) (fun c_331 => ?_) (fun c_331 => ?_)
                                                                      · refine j_aload_n dL_toldReel_409 rfl ?_
                                                                        refine j_iload_n dL_toldReel_410 rfl ?_
                                                                        refine j_iload dL_toldReel_411 rfl ?_
                                                                        refine j_bipush (v := 11) dL_toldReel_413 (by decide) ?_
                                                                        refine j_cCi dL_toldReel_415 hB mo_X7_scene ml_L_53 (sp_X7_scene hB w.2.1 hW) (e_sc0 hz0 z3 hi hj (by decide) (by decide)) w.2.1.k rfl rfl rfl rfl ⟨rfl, rfl, by decide, by decide⟩ (Nat.le_of_ble_eq_true rfl) ⟨by show _ ≤ 230; omega, by show _ ≤ 1400; omega⟩ (fun y_415 V_415 h_415 a_415 g_415 => ?_)
                                                                        replace w := w.ag a_415 g_415 dq
                                                                        replace h_415 := h_415.trans (sc_11 hi (by decide))
                                                                        refine j_iload dL_toldReel_418 rfl ?_
                                                                        refine j_cSi dL_toldReel_420 hB mo_L_abs ml_L_37 (sp_L_abs hB (hdr) (by omega) (by omega)) rfl rfl ⟨rfl, rfl, by decide, by decide⟩ (Nat.le_of_ble_eq_true rfl) ⟨by show _ ≤ 230; omega, by show _ ≤ 1400; omega⟩ (fun r_420 V_420 h_420 => ?_)
                                                                        obtain ⟨rfl, h_420⟩ := h_420
                                                                        refine j_aload dL_toldReel_423 rfl ?_
                                                                        refine j_iconst (v := 1) dL_toldReel_425 (by decide) ?_
                                                                        refine m_iald (k := 1) dL_toldReel_426 hB (by assumption) (ixk (iC 1 (by decide)) (by omega)) (by omega) ?_
                                                                        refine m_icmp_le (tgt := 434) dL_toldReel_427 (by decide) (h_420) ((congrArg Int32.toInt w.2.2.2.2.1.2.1)) (fun c_427 => ?_) (fun c_427 => ?_)
                                                                        · refine j_iconst (v := 0) dL_toldReel_434 (by decide) ?_
                                                                          refine m_icmp_eq (tgt := 440) dL_toldReel_435 (by decide) (h_415) (iC 0 (by decide)) (fun c_435 => ?_) (fun c_435 => ?_)
                                                                          · refine j_iinc (v := 1) (L' := [(0, _), (1, _), (2, _), (3, _), (4, _), (5, _), (6, _), (7, _), (8, _), (9, _), (10, _), (11, _), (12, _), (13, _), (14, _), (15, _), (16, _), (17, _), (18, _)]) dL_toldReel_440 rfl (by decide) (by decide) rfl ?_
                                                                            refine j_goto (tgt := 57) dL_toldReel_443 (by decide) ?_
                                                                            refine j_sub2 (L' := [(0, _), (1, _), (2, _), (3, _), (4, _), (5, _), (6, _), (7, _), (8, _), (9, _), (10, _), (11, _), (12, _), (13, _)]) (List.forall_mem_cons.mpr ⟨rfl, List.forall_mem_cons.mpr ⟨rfl, List.forall_mem_cons.mpr ⟨rfl, List.forall_mem_cons.mpr ⟨rfl, List.forall_mem_cons.mpr ⟨rfl, List.forall_mem_cons.mpr ⟨rfl, List.forall_mem_cons.mpr ⟨rfl, List.forall_mem_cons.mpr ⟨rfl, List.forall_mem_cons.mpr ⟨rfl, List.forall_mem_cons.mpr ⟨rfl, List.forall_mem_cons.mpr ⟨rfl, List.forall_mem_cons.mpr ⟨rfl, List.forall_mem_cons.mpr ⟨rfl, List.forall_mem_cons.mpr ⟨rfl, fun _ h9 => nomatch h9⟩⟩⟩⟩⟩⟩⟩⟩⟩⟩⟩⟩⟩⟩) ?_
                                                                            refine ih (n - 1) (by omega) (j + 1) _ _ _ _ _ hv2 sv2 _ _ _ (by omega) (ixk (k := j + 1) (iA (hi) (iC 1 (by decide)) (by omega)) (by omega)) hlo2 hcs2 hsi2 hhe2 hsv2 h20 h21 w ?_ ?_
                                                                            · omega
                                                                            · omega
                                                                          · exact absurd (by unfold aBad1; rw [if_neg (by omega)]) c_435
                                                                        · refine j_iconst (v := 1) dL_toldReel_430 (by decide) ?_
                                                                          refine j_goto (tgt := 435) dL_toldReel_431 (by decide) ?_
                                                                          refine m_icmp_eq (tgt := 440) dL_toldReel_435 (by decide) (h_415) (iC 1 (by decide)) (fun c_435 => ?_) (fun c_435 => ?_)
                                                                          · refine j_iinc (v := 1) (L' := [(0, _), (1, _), (2, _), (3, _), (4, _), (5, _), (6, _), (7, _), (8, _), (9, _), (10, _), (11, _), (12, _), (13, _), (14, _), (15, _), (16, _), (17, _), (18, _)]) dL_toldReel_440 rfl (by decide) (by decide) rfl ?_
                                                                            refine j_goto (tgt := 57) dL_toldReel_443 (by decide) ?_
                                                                            refine j_sub2 (L' := [(0, _), (1, _), (2, _), (3, _), (4, _), (5, _), (6, _), (7, _), (8, _), (9, _), (10, _), (11, _), (12, _), (13, _)]) (List.forall_mem_cons.mpr ⟨rfl, List.forall_mem_cons.mpr ⟨rfl, List.forall_mem_cons.mpr ⟨rfl, List.forall_mem_cons.mpr ⟨rfl, List.forall_mem_cons.mpr ⟨rfl, List.forall_mem_cons.mpr ⟨rfl, List.forall_mem_cons.mpr ⟨rfl, List.forall_mem_cons.mpr ⟨rfl, List.forall_mem_cons.mpr ⟨rfl, List.forall_mem_cons.mpr ⟨rfl, List.forall_mem_cons.mpr ⟨rfl, List.forall_mem_cons.mpr ⟨rfl, List.forall_mem_cons.mpr ⟨rfl, List.forall_mem_cons.mpr ⟨rfl, fun _ h9 => nomatch h9⟩⟩⟩⟩⟩⟩⟩⟩⟩⟩⟩⟩⟩⟩) ?_
                                                                            refine ih (n - 1) (by omega) (j + 1) _ _ _ _ _ hv2 sv2 _ _ _ (by omega) (ixk (k := j + 1) (iA (hi) (iC 1 (by decide)) (by omega)) (by omega)) hlo2 hcs2 hsi2 hhe2 hsv2 h20 h21 w ?_ ?_
                                                                            · omega
                                                                            · omega
                                                                          · exact absurd (by unfold aBad1; rw [if_pos (by omega)]) c_435
                                                                      · exact absurd c_331 (by decide)
                                                                    · exact absurd rfl c_398
                                                                  · exact absurd c_377 (by decide)
                                                                · exact absurd c_356 (by decide)
                                                              · exact absurd c_345 (by decide)
                                                          · exact absurd rfl c_398
                                                      · exact absurd c_356 (by decide)
                                                    · exact absurd c_345 (by decide)
                                                · exact absurd rfl c_398
                                            · exact absurd c_356 (by decide)
                                          · exact absurd c_345 (by decide)
                                      · exact absurd rfl c_398
                                  · exact absurd c_345 (by decide)
                              · exact absurd rfl c_398
                          · exact absurd c_345 (by decide)
                      · exact absurd rfl c_318
          · have n0 := nc_0 hrl hj hc
            refine j_aload_n dL_toldReel_221 rfl ?_
            refine j_iload_n dL_toldReel_222 rfl ?_
            refine j_iload dL_toldReel_223 rfl ?_
            refine j_iconst (v := 0) dL_toldReel_225 (by decide) ?_
            refine j_cCi dL_toldReel_226 hB mo_X7_scene ml_L_53 (sp_X7_scene hB w.2.1 hW) (e_sc0 hz0 z3 hi hj (by decide) (by decide)) w.2.1.k rfl rfl rfl rfl ⟨rfl, rfl, by decide, by decide⟩ (Nat.le_of_ble_eq_true rfl) ⟨by show _ ≤ 230; omega, by show _ ≤ 1400; omega⟩ (fun y_226 V_226 h_226 a_226 g_226 => ?_)
            replace w := w.ag a_226 g_226 dq
            replace h_226 := h_226.trans (sc_0 hi (by decide))
            refine j_aload_n dL_toldReel_229 rfl ?_
            refine j_iconst (v := 1) dL_toldReel_230 (by decide) ?_
            refine j_iconst (v := 4) dL_toldReel_231 (by decide) ?_
            refine j_iload dL_toldReel_232 rfl ?_
            refine j_imul dL_toldReel_234 ?_
            refine j_iadd dL_toldReel_235 ?_
            refine m_iald (k := 1 + 4 * j) dL_toldReel_236 hB (by assumption) (ixk (iA (iC 1 (by decide)) (iM (iC 4 (by decide)) (hi) (by omega)) (by omega)) (by omega)) (by omega) ?_
            refine m_icmp_ne (tgt := 321) dL_toldReel_237 (by decide) (h_226) ((congrArg Int32.toInt (w.2.2.1.2.2.1 j hj).1)) (fun c_237 => ?_) (fun c_237 => ?_)
            · exact absurd rfl c_237
            · refine j_aload_n dL_toldReel_240 rfl ?_
              refine j_iload_n dL_toldReel_241 rfl ?_
              refine j_iload dL_toldReel_242 rfl ?_
              refine j_iconst (v := 1) dL_toldReel_244 (by decide) ?_
              refine j_cCi dL_toldReel_245 hB mo_X7_scene ml_L_53 (sp_X7_scene hB w.2.1 hW) (e_sc0 hz0 z3 hi hj (by decide) (by decide)) w.2.1.k rfl rfl rfl rfl ⟨rfl, rfl, by decide, by decide⟩ (Nat.le_of_ble_eq_true rfl) ⟨by show _ ≤ 230; omega, by show _ ≤ 1400; omega⟩ (fun y_245 V_245 h_245 a_245 g_245 => ?_)
              replace w := w.ag a_245 g_245 dq
              replace h_245 := h_245.trans (sc_1 hi (by decide))
              refine j_iload dL_toldReel_248 rfl ?_
              refine j_aload_n dL_toldReel_250 rfl ?_
              refine j_cSi dL_toldReel_251 hB mo_L_start ml_L_26 (sp_L_start hB hr w.2.2.1 hrl hi (by omega)) rfl rfl ⟨rfl, rfl, by decide, by decide⟩ (Nat.le_of_ble_eq_true rfl) ⟨by show _ ≤ 230; omega, by show _ ≤ 1400; omega⟩ (fun r_251 V_251 h_251 => ?_)
              obtain ⟨rfl, h_251⟩ := h_251
              refine m_icmp_ne (tgt := 321) dL_toldReel_254 (by decide) (h_245) (h_251) (fun c_254 => ?_) (fun c_254 => ?_)
              · exact absurd rfl c_254
              · refine j_aload_n dL_toldReel_257 rfl ?_
                refine j_iload_n dL_toldReel_258 rfl ?_
                refine j_iload dL_toldReel_259 rfl ?_
                refine j_iconst (v := 2) dL_toldReel_261 (by decide) ?_
                refine j_cCi dL_toldReel_262 hB mo_X7_scene ml_L_53 (sp_X7_scene hB w.2.1 hW) (e_sc0 hz0 z3 hi hj (by decide) (by decide)) w.2.1.k rfl rfl rfl rfl ⟨rfl, rfl, by decide, by decide⟩ (Nat.le_of_ble_eq_true rfl) ⟨by show _ ≤ 230; omega, by show _ ≤ 1400; omega⟩ (fun y_262 V_262 h_262 a_262 g_262 => ?_)
                replace w := w.ag a_262 g_262 dq
                replace h_262 := h_262.trans (sc_2 hi (by decide))
                refine j_iload dL_toldReel_265 rfl ?_
                refine m_icmp_ne (tgt := 321) dL_toldReel_267 (by decide) (h_262) (hgo) (fun c_267 => ?_) (fun c_267 => ?_)
                · exact absurd rfl c_267
                · refine j_aload_n dL_toldReel_270 rfl ?_
                  refine j_iload_n dL_toldReel_271 rfl ?_
                  refine j_iload dL_toldReel_272 rfl ?_
                  refine j_iconst (v := 3) dL_toldReel_274 (by decide) ?_
                  refine j_cCi dL_toldReel_275 hB mo_X7_scene ml_L_53 (sp_X7_scene hB w.2.1 hW) (e_sc0 hz0 z3 hi hj (by decide) (by decide)) w.2.1.k rfl rfl rfl rfl ⟨rfl, rfl, by decide, by decide⟩ (Nat.le_of_ble_eq_true rfl) ⟨by show _ ≤ 230; omega, by show _ ≤ 1400; omega⟩ (fun y_275 V_275 h_275 a_275 g_275 => ?_)
                  replace w := w.ag a_275 g_275 dq
                  replace h_275 := h_275.trans (sc_3 hi (by decide))
                  refine j_aload dL_toldReel_278 rfl ?_
                  refine j_iload dL_toldReel_280 rfl ?_
                  refine m_iald (k := j) dL_toldReel_282 hB (by assumption) (ixk (hi) (by omega)) (by omega) ?_
                  refine j_iload dL_toldReel_283 rfl ?_
                  refine j_isub dL_toldReel_285 ?_
                  refine m_icmp_ne (tgt := 321) dL_toldReel_286 (by decide) (h_275) (iS ((w.2.2.2.2.2 j hj).2.2) (hbg) (by omega)) (fun c_286 => ?_) (fun c_286 => ?_)
                  · exact absurd (by show aTime (xR x r0) 0 j = aBeg (xR x r0) 0 j + aTime (xR x r0) 0 j - aBeg (xR x r0) 0 j; omega) c_286
                  · refine j_aload_n dL_toldReel_289 rfl ?_
                    refine j_iload_n dL_toldReel_290 rfl ?_
                    refine j_iload dL_toldReel_291 rfl ?_
                    refine j_iconst (v := 4) dL_toldReel_293 (by decide) ?_
                    refine j_cCi dL_toldReel_294 hB mo_X7_scene ml_L_53 (sp_X7_scene hB w.2.1 hW) (e_sc0 hz0 z3 hi hj (by decide) (by decide)) w.2.1.k rfl rfl rfl rfl ⟨rfl, rfl, by decide, by decide⟩ (Nat.le_of_ble_eq_true rfl) ⟨by show _ ≤ 230; omega, by show _ ≤ 1400; omega⟩ (fun y_294 V_294 h_294 a_294 g_294 => ?_)
                    replace w := w.ag a_294 g_294 dq
                    replace h_294 := h_294.trans (sc_4 hi (by decide))
                    refine j_iload dL_toldReel_297 rfl ?_
                    refine m_icmp_ne (tgt := 321) dL_toldReel_299 (by decide) (h_294) (hbg) (fun c_299 => ?_) (fun c_299 => ?_)
                    · exact absurd rfl c_299
                    · refine j_aload_n dL_toldReel_302 rfl ?_
                      refine j_iload_n dL_toldReel_303 rfl ?_
                      refine j_iload dL_toldReel_304 rfl ?_
                      refine j_iconst (v := 5) dL_toldReel_306 (by decide) ?_
                      refine j_cCi dL_toldReel_307 hB mo_X7_scene ml_L_53 (sp_X7_scene hB w.2.1 hW) (e_sc0 hz0 z3 hi hj (by decide) (by decide)) w.2.1.k rfl rfl rfl rfl ⟨rfl, rfl, by decide, by decide⟩ (Nat.le_of_ble_eq_true rfl) ⟨by show _ ≤ 230; omega, by show _ ≤ 1400; omega⟩ (fun y_307 V_307 h_307 a_307 g_307 => ?_)
                      replace w := w.ag a_307 g_307 dq
                      replace h_307 := h_307.trans (sc_5 hi (by decide))
                      refine j_aload_n dL_toldReel_310 rfl ?_
                      refine j_iconst (v := 2) dL_toldReel_311 (by decide) ?_
                      refine j_iconst (v := 4) dL_toldReel_312 (by decide) ?_
                      refine j_iload dL_toldReel_313 rfl ?_
                      refine j_imul dL_toldReel_315 ?_
                      refine j_iadd dL_toldReel_316 ?_
                      refine m_iald (k := 2 + 4 * j) dL_toldReel_317 hB (by assumption) (ixk (iA (iC 2 (by decide)) (iM (iC 4 (by decide)) (hi) (by omega)) (by omega)) (by omega)) (by omega) ?_
                      refine m_icmp_eq (tgt := 323) dL_toldReel_318 (by decide) (h_307) ((congrArg Int32.toInt (w.2.2.1.2.2.1 j hj).2.1)) (fun c_318 => ?_) (fun c_318 => ?_)
                      · refine j_bipush (v := 6) dL_toldReel_323 (by decide) ?_
                        refine j_istore (L' := [(0, _), (1, _), (2, _), (3, _), (4, _), (5, _), (6, _), (7, _), (8, _), (9, _), (10, _), (11, _), (12, _), (13, _), (14, _), (15, _), (16, _), (17, _), (18, _)]) dL_toldReel_325 (by decide) rfl ?_
                        refine j_iload dL_toldReel_327 rfl ?_
                        refine j_bipush (v := 11) dL_toldReel_329 (by decide) ?_
                        refine m_icmp_ge (tgt := 409) dL_toldReel_331 (by decide) (iC 6 (by decide)) (iC 11 (by decide)) (fun c_331 => ?_) (fun c_331 => ?_)
                        · exact absurd c_331 (by decide)
                        · refine j_aload_n dL_toldReel_334 rfl ?_
                          refine j_iload_n dL_toldReel_335 rfl ?_
                          refine j_iload dL_toldReel_336 rfl ?_
                          refine j_iload dL_toldReel_338 rfl ?_
                          refine j_cCi dL_toldReel_340 hB mo_X7_scene ml_L_53 (sp_X7_scene hB w.2.1 hW) (e_sc0 hz0 z3 hi hj (by decide) (by decide)) w.2.1.k rfl rfl rfl rfl ⟨rfl, rfl, by decide, by decide⟩ (Nat.le_of_ble_eq_true rfl) ⟨by show _ ≤ 230; omega, by show _ ≤ 1400; omega⟩ (fun y_340 V_340 h_340 a_340 g_340 => ?_)
                          replace w := w.ag a_340 g_340 dq
                          replace h_340 := h_340.trans ((sc_6 hi (by decide)).trans n0.1)
                          refine j_iload dL_toldReel_343 rfl ?_
                          refine m_if_ne (tgt := 352) dL_toldReel_345 (by decide) (iC 0 (by decide)) (fun c_345 => ?_) (fun c_345 => ?_)
                          · exact absurd c_345 (by decide)
                          · refine j_iconst (v := 0) dL_toldReel_348 (by decide) ?_
                            refine j_goto (tgt := 398) dL_toldReel_349 (by decide) ?_
                            refine m_icmp_eq (tgt := 403) dL_toldReel_398 (by decide) (h_340) (iC 0 (by decide)) (fun c_398 => ?_) (fun c_398 => ?_)
                            · refine j_iinc (v := 1) (L' := [(0, _), (1, _), (2, _), (3, _), (4, _), (5, _), (6, _), (7, _), (8, _), (9, _), (10, _), (11, _), (12, _), (13, _), (14, _), (15, _), (16, _), (17, _), (18, _)]) dL_toldReel_403 rfl (by decide) (by decide) rfl ?_
                              refine j_goto (tgt := 327) dL_toldReel_406 (by decide) ?_
                              refine j_iload dL_toldReel_327 rfl ?_
                              refine j_bipush (v := 11) dL_toldReel_329 (by decide) ?_
                              refine m_icmp_ge (tgt := 409) dL_toldReel_331 (by decide) (iC 7 (by decide)) (iC 11 (by decide)) (fun c_331 => ?_) (fun c_331 => ?_)
                              · exact absurd c_331 (by decide)
                              · refine j_aload_n dL_toldReel_334 rfl ?_
                                refine j_iload_n dL_toldReel_335 rfl ?_
                                refine j_iload dL_toldReel_336 rfl ?_
                                refine j_iload dL_toldReel_338 rfl ?_
                                refine j_cCi dL_toldReel_340 hB mo_X7_scene ml_L_53 (sp_X7_scene hB w.2.1 hW) (e_sc0 hz0 z3 hi hj (by decide) (by decide)) w.2.1.k rfl rfl rfl rfl ⟨rfl, rfl, by decide, by decide⟩ (Nat.le_of_ble_eq_true rfl) ⟨by show _ ≤ 230; omega, by show _ ≤ 1400; omega⟩ (fun y_340 V_340 h_340 a_340 g_340 => ?_)
                                replace w := w.ag a_340 g_340 dq
                                replace h_340 := h_340.trans ((sc_7 hi (by decide)).trans n0.2)
                                refine j_iload dL_toldReel_343 rfl ?_
                                refine m_if_ne (tgt := 352) dL_toldReel_345 (by decide) (iC 0 (by decide)) (fun c_345 => ?_) (fun c_345 => ?_)
                                · exact absurd c_345 (by decide)
                                · refine j_iconst (v := 0) dL_toldReel_348 (by decide) ?_
                                  refine j_goto (tgt := 398) dL_toldReel_349 (by decide) ?_
                                  refine m_icmp_eq (tgt := 403) dL_toldReel_398 (by decide) (h_340) (iC 0 (by decide)) (fun c_398 => ?_) (fun c_398 => ?_)
                                  · refine j_iinc (v := 1) (L' := [(0, _), (1, _), (2, _), (3, _), (4, _), (5, _), (6, _), (7, _), (8, _), (9, _), (10, _), (11, _), (12, _), (13, _), (14, _), (15, _), (16, _), (17, _), (18, _)]) dL_toldReel_403 rfl (by decide) (by decide) rfl ?_
                                    refine j_goto (tgt := 327) dL_toldReel_406 (by decide) ?_
                                    refine j_iload dL_toldReel_327 rfl ?_
                                    refine j_bipush (v := 11) dL_toldReel_329 (by decide) ?_
                                    refine m_icmp_ge (tgt := 409) dL_toldReel_331 (by decide) (iC 8 (by decide)) (iC 11 (by decide)) (fun c_331 => ?_) (fun c_331 => ?_)
                                    · exact absurd c_331 (by decide)
                                    · refine j_aload_n dL_toldReel_334 rfl ?_
                                      refine j_iload_n dL_toldReel_335 rfl ?_
                                      refine j_iload dL_toldReel_336 rfl ?_
                                      refine j_iload dL_toldReel_338 rfl ?_
                                      refine j_cCi dL_toldReel_340 hB mo_X7_scene ml_L_53 (sp_X7_scene hB w.2.1 hW) (e_sc0 hz0 z3 hi hj (by decide) (by decide)) w.2.1.k rfl rfl rfl rfl ⟨rfl, rfl, by decide, by decide⟩ (Nat.le_of_ble_eq_true rfl) ⟨by show _ ≤ 230; omega, by show _ ≤ 1400; omega⟩ (fun y_340 V_340 h_340 a_340 g_340 => ?_)
                                      replace w := w.ag a_340 g_340 dq
                                      replace h_340 := h_340.trans ((sc_8 hi (by decide)).trans (cueI_f hc))
                                      refine j_iload dL_toldReel_343 rfl ?_
                                      refine m_if_ne (tgt := 352) dL_toldReel_345 (by decide) (iC 0 (by decide)) (fun c_345 => ?_) (fun c_345 => ?_)
                                      · exact absurd c_345 (by decide)
                                      · refine j_iconst (v := 0) dL_toldReel_348 (by decide) ?_
                                        refine j_goto (tgt := 398) dL_toldReel_349 (by decide) ?_
                                        refine m_icmp_eq (tgt := 403) dL_toldReel_398 (by decide) (h_340) (iC 0 (by decide)) (fun c_398 => ?_) (fun c_398 => ?_)
                                        · refine j_iinc (v := 1) (L' := [(0, _), (1, _), (2, _), (3, _), (4, _), (5, _), (6, _), (7, _), (8, _), (9, _), (10, _), (11, _), (12, _), (13, _), (14, _), (15, _), (16, _), (17, _), (18, _)]) dL_toldReel_403 rfl (by decide) (by decide) rfl ?_
                                          refine j_goto (tgt := 327) dL_toldReel_406 (by decide) ?_
                                          refine j_iload dL_toldReel_327 rfl ?_
                                          refine j_bipush (v := 11) dL_toldReel_329 (by decide) ?_
                                          refine m_icmp_ge (tgt := 409) dL_toldReel_331 (by decide) (iC 9 (by decide)) (iC 11 (by decide)) (fun c_331 => ?_) (fun c_331 => ?_)
                                          · exact absurd c_331 (by decide)
                                          · refine j_aload_n dL_toldReel_334 rfl ?_
                                            refine j_iload_n dL_toldReel_335 rfl ?_
                                            refine j_iload dL_toldReel_336 rfl ?_
                                            refine j_iload dL_toldReel_338 rfl ?_
                                            refine j_cCi dL_toldReel_340 hB mo_X7_scene ml_L_53 (sp_X7_scene hB w.2.1 hW) (e_sc0 hz0 z3 hi hj (by decide) (by decide)) w.2.1.k rfl rfl rfl rfl ⟨rfl, rfl, by decide, by decide⟩ (Nat.le_of_ble_eq_true rfl) ⟨by show _ ≤ 230; omega, by show _ ≤ 1400; omega⟩ (fun y_340 V_340 h_340 a_340 g_340 => ?_)
                                            replace w := w.ag a_340 g_340 dq
                                            replace h_340 := h_340.trans ((sc_9 hi (by decide)).trans (show aEnd x.1 (xR x r0) 0 j = 0 from cueI_f hc))
                                            refine j_iload dL_toldReel_343 rfl ?_
                                            refine m_if_ne (tgt := 352) dL_toldReel_345 (by decide) (iC 0 (by decide)) (fun c_345 => ?_) (fun c_345 => ?_)
                                            · exact absurd c_345 (by decide)
                                            · refine j_iconst (v := 0) dL_toldReel_348 (by decide) ?_
                                              refine j_goto (tgt := 398) dL_toldReel_349 (by decide) ?_
                                              refine m_icmp_eq (tgt := 403) dL_toldReel_398 (by decide) (h_340) (iC 0 (by decide)) (fun c_398 => ?_) (fun c_398 => ?_)
                                              · refine j_iinc (v := 1) (L' := [(0, _), (1, _), (2, _), (3, _), (4, _), (5, _), (6, _), (7, _), (8, _), (9, _), (10, _), (11, _), (12, _), (13, _), (14, _), (15, _), (16, _), (17, _), (18, _)]) dL_toldReel_403 rfl (by decide) (by decide) rfl ?_
                                                refine j_goto (tgt := 327) dL_toldReel_406 (by decide) ?_
                                                refine j_iload dL_toldReel_327 rfl ?_
                                                refine j_bipush (v := 11) dL_toldReel_329 (by decide) ?_
                                                refine m_icmp_ge (tgt := 409) dL_toldReel_331 (by decide) (iC 10 (by decide)) (iC 11 (by decide)) (fun c_331 => ?_) (fun c_331 => ?_)
                                                · exact absurd c_331 (by decide)
                                                · refine j_aload_n dL_toldReel_334 rfl ?_
                                                  refine j_iload_n dL_toldReel_335 rfl ?_
                                                  refine j_iload dL_toldReel_336 rfl ?_
                                                  refine j_iload dL_toldReel_338 rfl ?_
                                                  refine j_cCi dL_toldReel_340 hB mo_X7_scene ml_L_53 (sp_X7_scene hB w.2.1 hW) (e_sc0 hz0 z3 hi hj (by decide) (by decide)) w.2.1.k rfl rfl rfl rfl ⟨rfl, rfl, by decide, by decide⟩ (Nat.le_of_ble_eq_true rfl) ⟨by show _ ≤ 230; omega, by show _ ≤ 1400; omega⟩ (fun y_340 V_340 h_340 a_340 g_340 => ?_)
                                                  replace w := w.ag a_340 g_340 dq
                                                  replace h_340 := h_340.trans ((sc_10 hi (by decide)).trans (show aDrift x.1 (xR x r0) 0 j = 0 from cueI_f hc))
                                                  refine j_iload dL_toldReel_343 rfl ?_
                                                  refine m_if_ne (tgt := 352) dL_toldReel_345 (by decide) (iC 0 (by decide)) (fun c_345 => ?_) (fun c_345 => ?_)
                                                  · exact absurd c_345 (by decide)
                                                  · refine j_iconst (v := 0) dL_toldReel_348 (by decide) ?_
                                                    refine j_goto (tgt := 398) dL_toldReel_349 (by decide) ?_
                                                    refine m_icmp_eq (tgt := 403) dL_toldReel_398 (by decide) (h_340) (iC 0 (by decide)) (fun c_398 => ?_) (fun c_398 => ?_)
                                                    · refine j_iinc (v := 1) (L' := [(0, _), (1, _), (2, _), (3, _), (4, _), (5, _), (6, _), (7, _), (8, _), (9, _), (10, _), (11, _), (12, _), (13, _), (14, _), (15, _), (16, _), (17, _), (18, _)]) dL_toldReel_403 rfl (by decide) (by decide) rfl ?_
                                                      refine j_goto (tgt := 327) dL_toldReel_406 (by decide) ?_
                                                      refine j_iload dL_toldReel_327 rfl ?_
                                                      refine j_bipush (v := 11) dL_toldReel_329 (by decide) ?_
                                                      refine m_icmp_ge (tgt := 409) dL_toldReel_331 (by decide) (iC 11 (by decide)) (iC 11 (by decide)) (fun c_331 => ?_) (fun c_331 => ?_)
                                                      · refine j_aload_n dL_toldReel_409 rfl ?_
                                                        refine j_iload_n dL_toldReel_410 rfl ?_
                                                        refine j_iload dL_toldReel_411 rfl ?_
                                                        refine j_bipush (v := 11) dL_toldReel_413 (by decide) ?_
                                                        refine j_cCi dL_toldReel_415 hB mo_X7_scene ml_L_53 (sp_X7_scene hB w.2.1 hW) (e_sc0 hz0 z3 hi hj (by decide) (by decide)) w.2.1.k rfl rfl rfl rfl ⟨rfl, rfl, by decide, by decide⟩ (Nat.le_of_ble_eq_true rfl) ⟨by show _ ≤ 230; omega, by show _ ≤ 1400; omega⟩ (fun y_415 V_415 h_415 a_415 g_415 => ?_)
                                                        replace w := w.ag a_415 g_415 dq
                                                        replace h_415 := h_415.trans (sc_11 hi (by decide))
                                                        refine j_iload dL_toldReel_418 rfl ?_
                                                        refine j_cSi dL_toldReel_420 hB mo_L_abs ml_L_37 (sp_L_abs hB (hdr) (by omega) (by omega)) rfl rfl ⟨rfl, rfl, by decide, by decide⟩ (Nat.le_of_ble_eq_true rfl) ⟨by show _ ≤ 230; omega, by show _ ≤ 1400; omega⟩ (fun r_420 V_420 h_420 => ?_)
                                                        obtain ⟨rfl, h_420⟩ := h_420
                                                        refine j_aload dL_toldReel_423 rfl ?_
                                                        refine j_iconst (v := 1) dL_toldReel_425 (by decide) ?_
                                                        refine m_iald (k := 1) dL_toldReel_426 hB (by assumption) (ixk (iC 1 (by decide)) (by omega)) (by omega) ?_
                                                        refine m_icmp_le (tgt := 434) dL_toldReel_427 (by decide) (h_420) ((congrArg Int32.toInt w.2.2.2.2.1.2.1)) (fun c_427 => ?_) (fun c_427 => ?_)
                                                        · refine j_iconst (v := 0) dL_toldReel_434 (by decide) ?_
                                                          refine m_icmp_eq (tgt := 440) dL_toldReel_435 (by decide) (h_415) (iC 0 (by decide)) (fun c_435 => ?_) (fun c_435 => ?_)
                                                          · refine j_iinc (v := 1) (L' := [(0, _), (1, _), (2, _), (3, _), (4, _), (5, _), (6, _), (7, _), (8, _), (9, _), (10, _), (11, _), (12, _), (13, _), (14, _), (15, _), (16, _), (17, _), (18, _)]) dL_toldReel_440 rfl (by decide) (by decide) rfl ?_
                                                            refine j_goto (tgt := 57) dL_toldReel_443 (by decide) ?_
                                                            refine j_sub2 (L' := [(0, _), (1, _), (2, _), (3, _), (4, _), (5, _), (6, _), (7, _), (8, _), (9, _), (10, _), (11, _), (12, _), (13, _)]) (List.forall_mem_cons.mpr ⟨rfl, List.forall_mem_cons.mpr ⟨rfl, List.forall_mem_cons.mpr ⟨rfl, List.forall_mem_cons.mpr ⟨rfl, List.forall_mem_cons.mpr ⟨rfl, List.forall_mem_cons.mpr ⟨rfl, List.forall_mem_cons.mpr ⟨rfl, List.forall_mem_cons.mpr ⟨rfl, List.forall_mem_cons.mpr ⟨rfl, List.forall_mem_cons.mpr ⟨rfl, List.forall_mem_cons.mpr ⟨rfl, List.forall_mem_cons.mpr ⟨rfl, List.forall_mem_cons.mpr ⟨rfl, List.forall_mem_cons.mpr ⟨rfl, fun _ h9 => nomatch h9⟩⟩⟩⟩⟩⟩⟩⟩⟩⟩⟩⟩⟩⟩) ?_
                                                            refine ih (n - 1) (by omega) (j + 1) _ _ _ _ _ hv2 sv2 _ _ _ (by omega) (ixk (k := j + 1) (iA (hi) (iC 1 (by decide)) (by omega)) (by omega)) hlo2 hcs2 hsi2 hhe2 hsv2 h20 h21 w ?_ ?_
                                                            · omega
                                                            · omega
                                                          · exact absurd (by unfold aBad1; rw [if_neg (by omega)]) c_435
                                                        · refine j_iconst (v := 1) dL_toldReel_430 (by decide) ?_
                                                          refine j_goto (tgt := 435) dL_toldReel_431 (by decide) ?_
                                                          refine m_icmp_eq (tgt := 440) dL_toldReel_435 (by decide) (h_415) (iC 1 (by decide)) (fun c_435 => ?_) (fun c_435 => ?_)
                                                          · refine j_iinc (v := 1) (L' := [(0, _), (1, _), (2, _), (3, _), (4, _), (5, _), (6, _), (7, _), (8, _), (9, _), (10, _), (11, _), (12, _), (13, _), (14, _), (15, _), (16, _), (17, _), (18, _)]) dL_toldReel_440 rfl (by decide) (by decide) rfl ?_
                                                            refine j_goto (tgt := 57) dL_toldReel_443 (by decide) ?_
                                                            refine j_sub2 (L' := [(0, _), (1, _), (2, _), (3, _), (4, _), (5, _), (6, _), (7, _), (8, _), (9, _), (10, _), (11, _), (12, _), (13, _)]) (List.forall_mem_cons.mpr ⟨rfl, List.forall_mem_cons.mpr ⟨rfl, List.forall_mem_cons.mpr ⟨rfl, List.forall_mem_cons.mpr ⟨rfl, List.forall_mem_cons.mpr ⟨rfl, List.forall_mem_cons.mpr ⟨rfl, List.forall_mem_cons.mpr ⟨rfl, List.forall_mem_cons.mpr ⟨rfl, List.forall_mem_cons.mpr ⟨rfl, List.forall_mem_cons.mpr ⟨rfl, List.forall_mem_cons.mpr ⟨rfl, List.forall_mem_cons.mpr ⟨rfl, List.forall_mem_cons.mpr ⟨rfl, List.forall_mem_cons.mpr ⟨rfl, fun _ h9 => nomatch h9⟩⟩⟩⟩⟩⟩⟩⟩⟩⟩⟩⟩⟩⟩) ?_
                                                            refine ih (n - 1) (by omega) (j + 1) _ _ _ _ _ hv2 sv2 _ _ _ (by omega) (ixk (k := j + 1) (iA (hi) (iC 1 (by decide)) (by omega)) (by omega)) hlo2 hcs2 hsi2 hhe2 hsv2 h20 h21 w ?_ ?_
                                                            · omega
                                                            · omega
                                                          · exact absurd (by unfold aBad1; rw [if_pos (by omega)]) c_435
                                                      · exact absurd c_331 (by decide)
                                                    · exact absurd rfl c_398
                                              · exact absurd rfl c_398
                                        · exact absurd rfl c_398
                                  · exact absurd rfl c_398
                            · exact absurd rfl c_398
                      · exact absurd rfl c_318
        have mid : ∀ cz bg : Int32, bQ cz (isCue (xR x r0) j) → isI bg (aBeg (xR x r0) 0 j) → J l s0 D kL_toldReel (jR 9 230 1400) 230 1400 Q 103 [(0, .ref q), (1, .int r0), (2, .int x0), (3, .ref ra), (4, .ref pa), (5, .ref da), (6, .ref ca), (7, .ref ea), (8, .int lo), (9, .int cs), (10, .int si), (11, .int tm), (12, .int he), (13, .int i), (14, .int cz), (15, .int bg)] [] T V1 X sz c1 n1 := by
          intro cz bg hcz hbg
          refine j_iload dL_toldReel_103 rfl ?_
          refine j_aload_n dL_toldReel_105 rfl ?_
          refine j_cSi dL_toldReel_106 hB mo_L_start ml_L_26 (sp_L_start hB hr w.2.2.1 hrl hi (by omega)) rfl rfl ⟨rfl, rfl, by decide, by decide⟩ (Nat.le_of_ble_eq_true rfl) ⟨by show _ ≤ 230; omega, by show _ ≤ 1400; omega⟩ (fun r_106 V_106 h_106 => ?_)
          obtain ⟨rfl, h_106⟩ := h_106
          refine j_iload dL_toldReel_109 rfl ?_
          refine j_iconst (v := 1) dL_toldReel_111 (by decide) ?_
          refine j_iadd dL_toldReel_112 ?_
          refine j_aload_n dL_toldReel_113 rfl ?_
          refine j_cSi dL_toldReel_114 hB mo_L_start ml_L_26 (sp_L_start hB hr w.2.2.1 hrl (ixk (k := j + 1) (iA (hi) (iC 1 (by decide)) (by omega)) (by omega)) (by omega)) rfl rfl ⟨rfl, rfl, by decide, by decide⟩ (Nat.le_of_ble_eq_true rfl) ⟨by show _ ≤ 230; omega, by show _ ≤ 1400; omega⟩ (fun r_114 V_114 h_114 => ?_)
          obtain ⟨rfl, h_114⟩ := h_114
          refine j_iconst (v := 0) dL_toldReel_117 (by decide) ?_
          refine j_iconst (v := 0) dL_toldReel_118 (by decide) ?_
          refine j_aload_n dL_toldReel_119 rfl ?_
          refine j_cSi dL_toldReel_120 hB mo_L_feet ml_L_29 (sp_L_feet hB (N := (atZ (xR x r0).1 j).toInt.toNat) hr w.2.2.1 hrl h_106 f0.1 (ixz h_114 (by show aFirst (xR x r0) j + (atZ (xR x r0).1 j).toInt = _; omega)) (by omega) (by omega) (iC 0 (by decide)) (Or.inl rfl) (iC 0 (by decide)) (Or.inl rfl) (by decide)) rfl rfl ⟨rfl, rfl, by decide, by decide⟩ (Nat.le_of_ble_eq_true rfl) ⟨by show _ ≤ 230; omega, by show _ ≤ 1400; omega⟩ (fun r_120 V_120 h_120 => ?_)
          obtain ⟨rfl, h_120⟩ := h_120
          rw [tmN_0] at h_120
          replace h_120 : isI r_120 (aLost (xR x r0) j) := h_120
          refine j_istore (L' := [(0, _), (1, _), (2, _), (3, _), (4, _), (5, _), (6, _), (7, _), (8, _), (9, _), (10, _), (11, _), (12, _), (13, _), (14, _), (15, _), (16, _)]) dL_toldReel_123 (by decide) rfl ?_
          refine j_iload dL_toldReel_125 rfl ?_
          refine j_aload_n dL_toldReel_127 rfl ?_
          refine j_aload dL_toldReel_128 rfl ?_
          refine j_aload dL_toldReel_130 rfl ?_
          refine j_cSi dL_toldReel_132 hB mo_L_drift ml_L_33 (sp_L_drift hB hr hca hea w.2.2.1 w.2.2.2.2.2 hp hrl (Or.inl rfl) hi hj) rfl rfl ⟨rfl, rfl, by decide, by decide⟩ (Nat.le_of_ble_eq_true rfl) ⟨by show _ ≤ 230; omega, by show _ ≤ 1400; omega⟩ (fun r_132 V_132 h_132 => ?_)
          obtain ⟨rfl, h_132⟩ := h_132
          refine j_istore (L' := [(0, _), (1, _), (2, _), (3, _), (4, _), (5, _), (6, _), (7, _), (8, _), (9, _), (10, _), (11, _), (12, _), (13, _), (14, _), (15, _), (16, _), (17, _)]) dL_toldReel_135 (by decide) rfl ?_
          refine j_iload dL_toldReel_137 rfl ?_
          refine j_iload dL_toldReel_139 rfl ?_
          refine j_iadd dL_toldReel_141 ?_
          refine j_istore (L' := [(0, _), (1, _), (2, _), (3, _), (4, _), (5, _), (6, _), (7, _), (8, _), (9, _), (10, _), (11, _), (12, _), (13, _), (14, _), (15, _), (16, _), (17, _)]) dL_toldReel_142 (by decide) rfl ?_
          refine j_iload dL_toldReel_144 rfl ?_
          refine j_iload dL_toldReel_146 rfl ?_
          refine m_ifeqB (tgt := 155) dL_toldReel_148 (by decide) hcz (fun c_148 => ?_) (fun c_148 => ?_)
          · refine j_iconst (v := 0) dL_toldReel_155 (by decide) ?_
            refine j_iadd dL_toldReel_156 ?_
            refine j_istore (L' := [(0, _), (1, _), (2, _), (3, _), (4, _), (5, _), (6, _), (7, _), (8, _), (9, _), (10, _), (11, _), (12, _), (13, _), (14, _), (15, _), (16, _), (17, _)]) dL_toldReel_157 (by decide) rfl ?_
            refine j_iload dL_toldReel_159 rfl ?_
            refine m_ifeqB (tgt := 221) dL_toldReel_161 (by decide) hcz (fun c_161 => ?_) (fun c_161 => ?_)
            · refine mid2 _ _ _ _ _ _ _ _ _ _ (ixz (iA (hlo) (h_120) (by omega)) rfl) (ixz (iA (hcs) (iC 0 (by decide)) (by omega)) ?_) (hsi) (hhe) ?_ ?_ ?_ hcz hbg h_120 h_132
              · show _ = aSum (aCue1 (xR x r0)) j + cueI (xR x r0) j 1 0
                rw [cueI_f c_148]
              · show _ = _ - (aSum (aMu x.1 (xR x r0) 0) j + aMu x.1 (xR x r0) 0 j)
                rw [aMu_f c_148]; omega
              · omega
              · omega
            · exact absurd c_161 c_148
          · refine j_iconst (v := 1) dL_toldReel_151 (by decide) ?_
            refine j_goto (tgt := 156) dL_toldReel_152 (by decide) ?_
            refine j_iadd dL_toldReel_156 ?_
            refine j_istore (L' := [(0, _), (1, _), (2, _), (3, _), (4, _), (5, _), (6, _), (7, _), (8, _), (9, _), (10, _), (11, _), (12, _), (13, _), (14, _), (15, _), (16, _), (17, _)]) dL_toldReel_157 (by decide) rfl ?_
            refine j_iload dL_toldReel_159 rfl ?_
            refine m_ifeqB (tgt := 221) dL_toldReel_161 (by decide) hcz (fun c_161 => ?_) (fun c_161 => ?_)
            · exact absurd c_148 c_161
            · refine j_aload dL_toldReel_164 rfl ?_
              refine j_iconst (v := 2) dL_toldReel_166 (by decide) ?_
              refine j_iload dL_toldReel_167 rfl ?_
              refine j_imul dL_toldReel_169 ?_
              refine m_iald (k := 2 * j) dL_toldReel_170 hB (by assumption) (ixk (iM (iC 2 (by decide)) (hi) (by omega)) (by omega)) (by omega) ?_
              refine j_iload dL_toldReel_171 rfl ?_
              refine m_icmp_ge (tgt := 221) dL_toldReel_173 (by decide) ((w.2.2.2.2.2 j hj).1) (htm) (fun c_173 => ?_) (fun c_173 => ?_)
              · refine mid2 _ _ _ _ _ _ _ _ _ _ (ixz (iA (hlo) (h_120) (by omega)) rfl) (ixz (iA (hcs) (iC 1 (by decide)) (by omega)) ?_) (hsi) (hhe) ?_ ?_ ?_ hcz hbg h_120 h_132
                · show _ = aSum (aCue1 (xR x r0)) j + cueI (xR x r0) j 1 0
                  rw [cueI_t c_148]
                · show _ = _ - (aSum (aMu x.1 (xR x r0) 0) j + aMu x.1 (xR x r0) 0 j)
                  have mt := aMu_t (s := x.1) (w := 0) c_148
                  have am := aMus_t (s := x.1) (w := 0) c_148
                  have ap := aPlay_rng hp hrl hj c_148
                  omega
                · omega
                · omega
              · refine j_iload dL_toldReel_176 rfl ?_
                refine j_aload dL_toldReel_178 rfl ?_
                refine j_iconst (v := 2) dL_toldReel_180 (by decide) ?_
                refine j_iload dL_toldReel_181 rfl ?_
                refine j_imul dL_toldReel_183 ?_
                refine m_iald (k := 2 * j) dL_toldReel_184 hB (by assumption) (ixk (iM (iC 2 (by decide)) (hi) (by omega)) (by omega)) (by omega) ?_
                refine j_iload dL_toldReel_185 rfl ?_
                refine j_isub dL_toldReel_187 ?_
                refine j_iadd dL_toldReel_188 ?_
                refine j_istore (L' := [(0, _), (1, _), (2, _), (3, _), (4, _), (5, _), (6, _), (7, _), (8, _), (9, _), (10, _), (11, _), (12, _), (13, _), (14, _), (15, _), (16, _), (17, _)]) dL_toldReel_189 (by decide) rfl ?_
                refine j_aload dL_toldReel_191 rfl ?_
                refine j_iconst (v := 2) dL_toldReel_193 (by decide) ?_
                refine j_iload dL_toldReel_194 rfl ?_
                refine j_imul dL_toldReel_196 ?_
                refine j_iconst (v := 1) dL_toldReel_197 (by decide) ?_
                refine j_iadd dL_toldReel_198 ?_
                refine m_iald (k := 2 * j + 1) dL_toldReel_199 hB (by assumption) (ixk (iA (iM (iC 2 (by decide)) (hi) (by omega)) (iC 1 (by decide)) (by omega)) (by omega)) (by omega) ?_
                refine j_iload dL_toldReel_200 rfl ?_
                refine m_icmp_ge (tgt := 217) dL_toldReel_202 (by decide) ((w.2.2.2.2.2 j hj).2.1) (htm) (fun c_202 => ?_) (fun c_202 => ?_)
                · refine j_iload dL_toldReel_217 rfl ?_
                  refine j_istore (L' := [(0, _), (1, _), (2, _), (3, _), (4, _), (5, _), (6, _), (7, _), (8, _), (9, _), (10, _), (11, _), (12, _), (13, _), (14, _), (15, _), (16, _), (17, _)]) dL_toldReel_219 (by decide) rfl ?_
                  refine mid2 _ _ _ _ _ _ _ _ _ _ (ixz (iA (hlo) (h_120) (by omega)) rfl) (ixz (iA (hcs) (iC 1 (by decide)) (by omega)) ?_) (iA (hsi) (iS ((w.2.2.2.2.2 j hj).1) (hhe) (by omega)) (by omega)) (htm) ?_ ?_ ?_ hcz hbg h_120 h_132
                  · show _ = aSum (aCue1 (xR x r0)) j + cueI (xR x r0) j 1 0
                    rw [cueI_t c_148]
                  · show _ = _ - (aSum (aMu x.1 (xR x r0) 0) j + aMu x.1 (xR x r0) 0 j)
                    have mt := aMu_t (s := x.1) (w := 0) c_148
                    have am := aMus_t (s := x.1) (w := 0) c_148
                    have ap := aPlay_rng hp hrl hj c_148
                    omega
                  · omega
                  · omega
                · refine j_aload dL_toldReel_205 rfl ?_
                  refine j_iconst (v := 2) dL_toldReel_207 (by decide) ?_
                  refine j_iload dL_toldReel_208 rfl ?_
                  refine j_imul dL_toldReel_210 ?_
                  refine j_iconst (v := 1) dL_toldReel_211 (by decide) ?_
                  refine j_iadd dL_toldReel_212 ?_
                  refine m_iald (k := 2 * j + 1) dL_toldReel_213 hB (by assumption) (ixk (iA (iM (iC 2 (by decide)) (hi) (by omega)) (iC 1 (by decide)) (by omega)) (by omega)) (by omega) ?_
                  refine j_goto (tgt := 219) dL_toldReel_214 (by decide) ?_
                  refine j_istore (L' := [(0, _), (1, _), (2, _), (3, _), (4, _), (5, _), (6, _), (7, _), (8, _), (9, _), (10, _), (11, _), (12, _), (13, _), (14, _), (15, _), (16, _), (17, _)]) dL_toldReel_219 (by decide) rfl ?_
                  refine mid2 _ _ _ _ _ _ _ _ _ _ (ixz (iA (hlo) (h_120) (by omega)) rfl) (ixz (iA (hcs) (iC 1 (by decide)) (by omega)) ?_) (iA (hsi) (iS ((w.2.2.2.2.2 j hj).1) (hhe) (by omega)) (by omega)) ((w.2.2.2.2.2 j hj).2.1) ?_ ?_ ?_ hcz hbg h_120 h_132
                  · show _ = aSum (aCue1 (xR x r0)) j + cueI (xR x r0) j 1 0
                    rw [cueI_t c_148]
                  · show _ = _ - (aSum (aMu x.1 (xR x r0) 0) j + aMu x.1 (xR x r0) 0 j)
                    have mt := aMu_t (s := x.1) (w := 0) c_148
                    have am := aMus_t (s := x.1) (w := 0) c_148
                    have ap := aPlay_rng hp hrl hj c_148
                    omega
                  · omega
                  · omega
        refine j_aload_n dL_toldReel_65 rfl ?_
        refine j_iconst (v := 2) dL_toldReel_66 (by decide) ?_
        refine j_iconst (v := 4) dL_toldReel_67 (by decide) ?_
        refine j_iload dL_toldReel_68 rfl ?_
        refine j_imul dL_toldReel_70 ?_
        refine j_iadd dL_toldReel_71 ?_
        refine m_iald (k := 2 + 4 * j) dL_toldReel_72 hB (by assumption) (ixk (iA (iC 2 (by decide)) (iM (iC 4 (by decide)) (hi) (by omega)) (by omega)) (by omega)) (by omega) ?_
        refine j_ldc dL_toldReel_73 hB kc_L_21 ?_
        refine m_icmp_eq (tgt := 82) dL_toldReel_75 (by decide) ((congrArg Int32.toInt (w.2.2.1.2.2.1 j hj).2.1)) (iC (-2000001) (by decide)) (fun c_75 => ?_) (fun c_75 => ?_)
        · refine j_iconst (v := 0) dL_toldReel_82 (by decide) ?_
          refine j_istore (L' := [(0, _), (1, _), (2, _), (3, _), (4, _), (5, _), (6, _), (7, _), (8, _), (9, _), (10, _), (11, _), (12, _), (13, _), (14, _)]) dL_toldReel_83 (by decide) rfl ?_
          refine j_iload dL_toldReel_85 rfl ?_
          refine m_if_ne (tgt := 94) dL_toldReel_87 (by decide) (hi) (fun c_87 => ?_) (fun c_87 => ?_)
          · have e100 : isI (V1 ea (j - 1)) (aBeg (xR x r0) 0 j) := by
              have h9 := (w.2.2.2.2.2 (j - 1) (by omega)).2.2
              rw [show j - 1 + 1 = j by omega] at h9
              exact h9
            refine j_aload dL_toldReel_94 rfl ?_
            refine j_iload dL_toldReel_96 rfl ?_
            refine j_iconst (v := 1) dL_toldReel_98 (by decide) ?_
            refine j_isub dL_toldReel_99 ?_
            refine m_iald (k := j - 1) dL_toldReel_100 hB (by assumption) (ixk (iS (hi) (iC 1 (by decide)) (by omega)) (by omega)) (by omega) ?_
            refine j_istore (L' := [(0, _), (1, _), (2, _), (3, _), (4, _), (5, _), (6, _), (7, _), (8, _), (9, _), (10, _), (11, _), (12, _), (13, _), (14, _), (15, _)]) dL_toldReel_101 (by decide) rfl ?_
            refine mid _ _ (Or.inr ⟨rfl, fun z9 => isCue_iff.mp z9 c_75⟩) (e100)
          · refine j_iconst (v := 0) dL_toldReel_90 (by decide) ?_
            refine j_goto (tgt := 101) dL_toldReel_91 (by decide) ?_
            refine j_istore (L' := [(0, _), (1, _), (2, _), (3, _), (4, _), (5, _), (6, _), (7, _), (8, _), (9, _), (10, _), (11, _), (12, _), (13, _), (14, _), (15, _)]) dL_toldReel_101 (by decide) rfl ?_
            refine mid _ _ (Or.inr ⟨rfl, fun z9 => isCue_iff.mp z9 c_75⟩) (ixz (iC 0 (by decide)) (by rw [show j = 0 by omega]; rfl))
        · refine j_iconst (v := 1) dL_toldReel_78 (by decide) ?_
          refine j_goto (tgt := 83) dL_toldReel_79 (by decide) ?_
          refine j_istore (L' := [(0, _), (1, _), (2, _), (3, _), (4, _), (5, _), (6, _), (7, _), (8, _), (9, _), (10, _), (11, _), (12, _), (13, _), (14, _)]) dL_toldReel_83 (by decide) rfl ?_
          refine j_iload dL_toldReel_85 rfl ?_
          refine m_if_ne (tgt := 94) dL_toldReel_87 (by decide) (hi) (fun c_87 => ?_) (fun c_87 => ?_)
          · have e100 : isI (V1 ea (j - 1)) (aBeg (xR x r0) 0 j) := by
              have h9 := (w.2.2.2.2.2 (j - 1) (by omega)).2.2
              rw [show j - 1 + 1 = j by omega] at h9
              exact h9
            refine j_aload dL_toldReel_94 rfl ?_
            refine j_iload dL_toldReel_96 rfl ?_
            refine j_iconst (v := 1) dL_toldReel_98 (by decide) ?_
            refine j_isub dL_toldReel_99 ?_
            refine m_iald (k := j - 1) dL_toldReel_100 hB (by assumption) (ixk (iS (hi) (iC 1 (by decide)) (by omega)) (by omega)) (by omega) ?_
            refine j_istore (L' := [(0, _), (1, _), (2, _), (3, _), (4, _), (5, _), (6, _), (7, _), (8, _), (9, _), (10, _), (11, _), (12, _), (13, _), (14, _), (15, _)]) dL_toldReel_101 (by decide) rfl ?_
            refine mid _ _ (Or.inl ⟨rfl, isCue_iff.mpr c_75⟩) (e100)
          · refine j_iconst (v := 0) dL_toldReel_90 (by decide) ?_
            refine j_goto (tgt := 101) dL_toldReel_91 (by decide) ?_
            refine j_istore (L' := [(0, _), (1, _), (2, _), (3, _), (4, _), (5, _), (6, _), (7, _), (8, _), (9, _), (10, _), (11, _), (12, _), (13, _), (14, _), (15, _)]) dL_toldReel_101 (by decide) rfl ?_
            refine mid _ _ (Or.inl ⟨rfl, isCue_iff.mpr c_75⟩) (ixz (iC 0 (by decide)) (by rw [show j = 0 by omega]; rfl))
    refine j_istore (L' := [(0, _), (1, _), (2, _), (3, _), (4, _), (5, _), (6, _), (7, _), (8, _), (9, _), (10, _), (11, _)]) dL_toldReel_49 (by decide) rfl ?_
    refine j_iconst (v := 0) dL_toldReel_51 (by decide) ?_
    refine j_istore (L' := [(0, _), (1, _), (2, _), (3, _), (4, _), (5, _), (6, _), (7, _), (8, _), (9, _), (10, _), (11, _), (12, _)]) dL_toldReel_52 (by decide) rfl ?_
    refine j_iconst (v := 0) dL_toldReel_54 (by decide) ?_
    refine j_istore (L' := [(0, _), (1, _), (2, _), (3, _), (4, _), (5, _), (6, _), (7, _), (8, _), (9, _), (10, _), (11, _), (12, _), (13, _)]) dL_toldReel_55 (by decide) rfl ?_
    exact loop (xR x r0).1.length 0 0 0 0 0 0 0 0 V_19 2 15 (by omega) rfl rfl rfl rfl rfl rfl (Int.le_refl 0) bn.1 w (by omega) (by omega)
  refine j_iconst (v := 0) dL_toldReel_22 (by decide) ?_
  refine j_istore (L' := [(0, _), (1, _), (2, _), (3, _), (4, _), (5, _), (6, _), (7, _), (8, _)]) dL_toldReel_23 (by decide) rfl ?_
  refine j_iconst (v := 0) dL_toldReel_25 (by decide) ?_
  refine j_istore (L' := [(0, _), (1, _), (2, _), (3, _), (4, _), (5, _), (6, _), (7, _), (8, _), (9, _)]) dL_toldReel_26 (by decide) rfl ?_
  refine j_iconst (v := 0) dL_toldReel_28 (by decide) ?_
  refine j_istore (L' := [(0, _), (1, _), (2, _), (3, _), (4, _), (5, _), (6, _), (7, _), (8, _), (9, _), (10, _)]) dL_toldReel_29 (by decide) rfl ?_
  refine j_aload_n dL_toldReel_31 rfl ?_
  refine j_iconst (v := 0) dL_toldReel_32 (by decide) ?_
  refine m_iald (k := 0) dL_toldReel_33 hB (by assumption) (ixk (iC 0 (by decide)) (by omega)) (by omega) ?_
  refine m_if_ne (tgt := 41) dL_toldReel_34 (by decide) (w.2.2.1.1) (fun c_34 => ?_) (fun c_34 => ?_)
  · have e48 : isI (V_19 ea ((xR x r0).1.length - 1)) (aBeg (xR x r0) 0 (xR x r0).1.length) := by
      have h9 := (w.2.2.2.2.2 ((xR x r0).1.length - 1) (by omega)).2.2
      rw [show (xR x r0).1.length - 1 + 1 = (xR x r0).1.length by omega] at h9
      exact h9
    refine j_aload dL_toldReel_41 rfl ?_
    refine j_aload_n dL_toldReel_43 rfl ?_
    refine j_iconst (v := 0) dL_toldReel_44 (by decide) ?_
    refine m_iald (k := 0) dL_toldReel_45 hB (by assumption) (ixk (iC 0 (by decide)) (by omega)) (by omega) ?_
    refine j_iconst (v := 1) dL_toldReel_46 (by decide) ?_
    refine j_isub dL_toldReel_47 ?_
    refine m_iald (k := (xR x r0).1.length - 1) dL_toldReel_48 hB (by assumption) (ixk (iS (w.2.2.1.1) (iC 1 (by decide)) (by omega)) (by omega)) (by omega) ?_
    exact rest _ (e48)
  · refine j_iconst (v := 0) dL_toldReel_37 (by decide) ?_
    refine j_goto (tgt := 49) dL_toldReel_38 (by decide) ?_
    exact rest _ (by rw [show (xR x r0).1.length = 0 by omega]; rfl)
end JLL
