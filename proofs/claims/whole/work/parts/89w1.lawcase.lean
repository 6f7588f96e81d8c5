set_option maxRecDepth 100000 in
set_option maxHeartbeats 4000000 in
theorem cs_8 {K : XS} {G : GS} {cells slots : Nat} {Q : State → Prop} {n : Nat} {V : Nat → Int → Int} {R : Nat → Int → Option Nat} {ret0 : Option FieldType} {b L : Nat} {xs : Nat → Int32} (C : Cx K G cL_law RL 4 ret0 room_1) (hX : LawX K G b L xs) (hL : L ≤ 3584) {i : Int} (hi : 0 ≤ i ∧ i + 7 ≤ L) (h : Rel n V R) (hcs : cells + 64 ≤ 600000 ∧ slots + 192 ≤ 7302250) (kk : ∀ n2 V2 R2, Rel n2 V2 R2 → Xw K G (cells + 64) (slots + 192) Q n2 V2 R2 1271 [(0, .ref b), (1, .ref (aG G 0)), (2, .ref (aG G 42)), (3, .int (iI i))] []) : Xw K G cells slots Q n V R 468 [(0, .ref b), (1, .ref (aG G 0)), (2, .ref (aG G 42)), (3, .int (iI i))] [] := by
  refine x_aload_n C 1 dL_law_468 rfl rfl ?_
  refine x_aload_n C 0 dL_law_469 rfl rfl ?_
  refine x_iload_n C 3 dL_law_470 rfl rfl ?_
  refine x_iconst C dL_law_471 ?_
  refine x_iadd C dL_law_472 ?_
  refine x_sld C hX (by omega) (by omega) dL_law_473 ?_
  refine x_aload_n C 0 dL_law_474 rfl rfl ?_
  refine x_iload_n C 3 dL_law_475 rfl rfl ?_
  refine x_iconst C dL_law_476 ?_
  refine x_iadd C dL_law_477 ?_
  refine x_sld C hX (by omega) (by omega) dL_law_478 ?_
  obtain ⟨post1, hc1, hp1⟩ := pr_rule (G := G) (w := scr xs (i + 1)) (v0 := scr xs (i + 2)) h (scr_rg _ _) (scr_rg _ _)
  refine x_runU (r_callV C ok_Class 0 (lt67 h.h67 rfl) rfl (ce_X11_rule) hc1 rfl dL_law_479 q_27_18 q_27_19 q_27_20 rfl rfl ⟨Nat.le_of_ble_eq_true rfl, Nat.le_of_ble_eq_true rfl⟩ ⟨rfl, rfl⟩ ⟨(show cells + 0 ≤ 600000 from by omega), (show slots + 0 ≤ 7302250 from by omega)⟩ (Nat.le_of_ble_eq_true rfl)) (fun v1 u1 hv1 => ?_)
  obtain ⟨r, rfl, h671, post2, hc2, hp2⟩ := hp1 v1 u1 hv1
  obtain ⟨n1, V1, R1⟩ := u1
  show Xw K G (cells + 0) (slots + 0) Q n1 V1 R1 482 [(0, .ref b), (1, .ref (aG G 0)), (2, .ref (aG G 42)), (3, .int (iI i))] [iM r]
  refine x_aload_n C 2 dL_law_482 rfl rfl ?_
  refine x_aload_n C 0 dL_law_483 rfl rfl ?_
  refine x_iload_n C 3 dL_law_484 rfl rfl ?_
  refine x_iconst C dL_law_485 ?_
  refine x_iadd C dL_law_486 ?_
  refine x_sld C hX (by omega) (by omega) dL_law_487 ?_
  refine x_aload_n C 0 dL_law_488 rfl rfl ?_
  refine x_iload_n C 3 dL_law_489 rfl rfl ?_
  refine x_iconst C dL_law_490 ?_
  refine x_iadd C dL_law_491 ?_
  refine x_sld C hX (by omega) (by omega) dL_law_492 ?_
  refine x_runU (r_callV C ok_Model 42 (lt67 h671 rfl) rfl (ce_X12_rule) hc2 rfl dL_law_493 q_28_0 q_28_1 q_28_2 rfl rfl ⟨Nat.le_of_ble_eq_true rfl, Nat.le_of_ble_eq_true rfl⟩ ⟨rfl, rfl⟩ ⟨(show cells + 0 + 0 ≤ 600000 from by omega), (show slots + 0 + 0 ≤ 7302250 from by omega)⟩ (Nat.le_of_ble_eq_true rfl)) (fun v2 u2 hv2 => ?_)
  obtain ⟨rfl, hR⟩ := hp2 v2 u2 hv2
  obtain ⟨n2, V2, R2⟩ := u2
  show Xw K G (cells + 0 + 0) (slots + 0 + 0) Q n2 V2 R2 496 [(0, .ref b), (1, .ref (aG G 0)), (2, .ref (aG G 42)), (3, .int (iI i))] [iM r, iM r]
  refine x_sameI C dL_law_496 (tgt := 1271) (by decide) ?_
  refine x_wid (cells' := cells + 64) (slots' := slots + 192) (by omega) (by omega) ?_
  exact kk _ _ _ hR
set_option maxRecDepth 100000 in
set_option maxHeartbeats 4000000 in
theorem cs_9 {K : XS} {G : GS} {cells slots : Nat} {Q : State → Prop} {n : Nat} {V : Nat → Int → Int} {R : Nat → Int → Option Nat} {ret0 : Option FieldType} {b L : Nat} {xs : Nat → Int32} (C : Cx K G cL_law RL 4 ret0 room_1) (hX : LawX K G b L xs) (hL : L ≤ 3584) {i : Int} (hi : 0 ≤ i ∧ i + 7 ≤ L) (h : Rel n V R) (hcs : cells + 64 ≤ 600000 ∧ slots + 192 ≤ 7302250) (kk : ∀ n2 V2 R2, Rel n2 V2 R2 → Xw K G (cells + 64) (slots + 192) Q n2 V2 R2 1271 [(0, .ref b), (1, .ref (aG G 0)), (2, .ref (aG G 42)), (3, .int (iI i))] []) : Xw K G cells slots Q n V R 501 [(0, .ref b), (1, .ref (aG G 0)), (2, .ref (aG G 42)), (3, .int (iI i))] [] := by
  refine x_aload_n C 1 dL_law_501 rfl rfl ?_
  refine x_aload_n C 0 dL_law_502 rfl rfl ?_
  refine x_iload_n C 3 dL_law_503 rfl rfl ?_
  refine x_iconst C dL_law_504 ?_
  refine x_iadd C dL_law_505 ?_
  refine x_sld C hX (by omega) (by omega) dL_law_506 ?_
  refine x_aload_n C 0 dL_law_507 rfl rfl ?_
  refine x_iload_n C 3 dL_law_508 rfl rfl ?_
  refine x_iconst C dL_law_509 ?_
  refine x_iadd C dL_law_510 ?_
  refine x_sld C hX (by omega) (by omega) dL_law_511 ?_
  refine x_aload_n C 0 dL_law_512 rfl rfl ?_
  refine x_iload_n C 3 dL_law_513 rfl rfl ?_
  refine x_iconst C dL_law_514 ?_
  refine x_iadd C dL_law_515 ?_
  refine x_sld C hX (by omega) (by omega) dL_law_516 ?_
  refine x_aload_n C 0 dL_law_517 rfl rfl ?_
  refine x_iload_n C 3 dL_law_518 rfl rfl ?_
  refine x_iconst C dL_law_519 ?_
  refine x_iadd C dL_law_520 ?_
  refine x_sld C hX (by omega) (by omega) dL_law_521 ?_
  obtain ⟨post1, hc1, hp1⟩ := pr_cell (G := G) (x := scr xs (i + 1)) (y := scr xs (i + 2)) (s := scr xs (i + 3)) (w := scr xs (i + 4)) h (scr_rg _ _) (scr_rg _ _) (scr_rg _ _) (scr_rg _ _)
  refine x_runU (r_callV C ok_Class 0 (lt67 h.h67 rfl) rfl (ce_X11_cell) hc1 rfl dL_law_522 q_28_9 q_28_10 q_28_11 rfl rfl ⟨Nat.le_of_ble_eq_true rfl, Nat.le_of_ble_eq_true rfl⟩ ⟨rfl, rfl⟩ ⟨(show cells + 0 ≤ 600000 from by omega), (show slots + 0 ≤ 7302250 from by omega)⟩ (Nat.le_of_ble_eq_true rfl)) (fun v1 u1 hv1 => ?_)
  obtain ⟨r, rfl, h671, post2, hc2, hp2⟩ := hp1 v1 u1 hv1
  obtain ⟨n1, V1, R1⟩ := u1
  show Xw K G (cells + 0) (slots + 0) Q n1 V1 R1 525 [(0, .ref b), (1, .ref (aG G 0)), (2, .ref (aG G 42)), (3, .int (iI i))] [iM r]
  refine x_aload_n C 2 dL_law_525 rfl rfl ?_
  refine x_aload_n C 0 dL_law_526 rfl rfl ?_
  refine x_iload_n C 3 dL_law_527 rfl rfl ?_
  refine x_iconst C dL_law_528 ?_
  refine x_iadd C dL_law_529 ?_
  refine x_sld C hX (by omega) (by omega) dL_law_530 ?_
  refine x_aload_n C 0 dL_law_531 rfl rfl ?_
  refine x_iload_n C 3 dL_law_532 rfl rfl ?_
  refine x_iconst C dL_law_533 ?_
  refine x_iadd C dL_law_534 ?_
  refine x_sld C hX (by omega) (by omega) dL_law_535 ?_
  refine x_aload_n C 0 dL_law_536 rfl rfl ?_
  refine x_iload_n C 3 dL_law_537 rfl rfl ?_
  refine x_iconst C dL_law_538 ?_
  refine x_iadd C dL_law_539 ?_
  refine x_sld C hX (by omega) (by omega) dL_law_540 ?_
  refine x_aload_n C 0 dL_law_541 rfl rfl ?_
  refine x_iload_n C 3 dL_law_542 rfl rfl ?_
  refine x_iconst C dL_law_543 ?_
  refine x_iadd C dL_law_544 ?_
  refine x_sld C hX (by omega) (by omega) dL_law_545 ?_
  refine x_runU (r_callV C ok_Model 42 (lt67 h671 rfl) rfl (ce_X12_cell) hc2 rfl dL_law_546 q_31_0 q_31_1 q_31_2 rfl rfl ⟨Nat.le_of_ble_eq_true rfl, Nat.le_of_ble_eq_true rfl⟩ ⟨rfl, rfl⟩ ⟨(show cells + 0 + 0 ≤ 600000 from by omega), (show slots + 0 + 0 ≤ 7302250 from by omega)⟩ (Nat.le_of_ble_eq_true rfl)) (fun v2 u2 hv2 => ?_)
  obtain ⟨rfl, hR⟩ := hp2 v2 u2 hv2
  obtain ⟨n2, V2, R2⟩ := u2
  show Xw K G (cells + 0 + 0) (slots + 0 + 0) Q n2 V2 R2 549 [(0, .ref b), (1, .ref (aG G 0)), (2, .ref (aG G 42)), (3, .int (iI i))] [iM r, iM r]
  refine x_sameI C dL_law_549 (tgt := 1271) (by decide) ?_
  refine x_wid (cells' := cells + 64) (slots' := slots + 192) (by omega) (by omega) ?_
  exact kk _ _ _ hR
set_option maxRecDepth 100000 in
set_option maxHeartbeats 4000000 in
theorem cs_10 {K : XS} {G : GS} {cells slots : Nat} {Q : State → Prop} {n : Nat} {V : Nat → Int → Int} {R : Nat → Int → Option Nat} {ret0 : Option FieldType} {b L : Nat} {xs : Nat → Int32} (C : Cx K G cL_law RL 4 ret0 room_1) (hX : LawX K G b L xs) (hL : L ≤ 3584) {i : Int} (hi : 0 ≤ i ∧ i + 7 ≤ L) (h : Rel n V R) (hcs : cells + 64 ≤ 600000 ∧ slots + 192 ≤ 7302250) (kk : ∀ n2 V2 R2, Rel n2 V2 R2 → Xw K G (cells + 64) (slots + 192) Q n2 V2 R2 1271 [(0, .ref b), (1, .ref (aG G 0)), (2, .ref (aG G 42)), (3, .int (iI i))] []) : Xw K G cells slots Q n V R 554 [(0, .ref b), (1, .ref (aG G 0)), (2, .ref (aG G 42)), (3, .int (iI i))] [] := by
  refine x_aload_n C 1 dL_law_554 rfl rfl ?_
  refine x_aload_n C 0 dL_law_555 rfl rfl ?_
  refine x_iload_n C 3 dL_law_556 rfl rfl ?_
  refine x_iconst C dL_law_557 ?_
  refine x_iadd C dL_law_558 ?_
  refine x_sld C hX (by omega) (by omega) dL_law_559 ?_
  refine x_aload_n C 0 dL_law_560 rfl rfl ?_
  refine x_iload_n C 3 dL_law_561 rfl rfl ?_
  refine x_iconst C dL_law_562 ?_
  refine x_iadd C dL_law_563 ?_
  refine x_sld C hX (by omega) (by omega) dL_law_564 ?_
  refine x_aload_n C 0 dL_law_565 rfl rfl ?_
  refine x_iload_n C 3 dL_law_566 rfl rfl ?_
  refine x_iconst C dL_law_567 ?_
  refine x_iadd C dL_law_568 ?_
  refine x_sld C hX (by omega) (by omega) dL_law_569 ?_
  obtain ⟨post1, hc1, hp1⟩ := pr_board (G := G) (y := scr xs (i + 1)) (k := scr xs (i + 2)) (w := scr xs (i + 3)) h (scr_rg _ _) (scr_rg _ _) (scr_rg _ _)
  refine x_runU (r_callV C ok_Class 0 (lt67 h.h67 rfl) rfl (ce_X11_board) hc1 rfl dL_law_570 q_31_15 q_31_16 q_31_17 rfl rfl ⟨Nat.le_of_ble_eq_true rfl, Nat.le_of_ble_eq_true rfl⟩ ⟨rfl, rfl⟩ ⟨(show cells + 0 ≤ 600000 from by omega), (show slots + 0 ≤ 7302250 from by omega)⟩ (Nat.le_of_ble_eq_true rfl)) (fun v1 u1 hv1 => ?_)
  obtain ⟨r, rfl, h671, post2, hc2, hp2⟩ := hp1 v1 u1 hv1
  obtain ⟨n1, V1, R1⟩ := u1
  show Xw K G (cells + 0) (slots + 0) Q n1 V1 R1 573 [(0, .ref b), (1, .ref (aG G 0)), (2, .ref (aG G 42)), (3, .int (iI i))] [iM r]
  refine x_aload_n C 2 dL_law_573 rfl rfl ?_
  refine x_aload_n C 0 dL_law_574 rfl rfl ?_
  refine x_iload_n C 3 dL_law_575 rfl rfl ?_
  refine x_iconst C dL_law_576 ?_
  refine x_iadd C dL_law_577 ?_
  refine x_sld C hX (by omega) (by omega) dL_law_578 ?_
  refine x_aload_n C 0 dL_law_579 rfl rfl ?_
  refine x_iload_n C 3 dL_law_580 rfl rfl ?_
  refine x_iconst C dL_law_581 ?_
  refine x_iadd C dL_law_582 ?_
  refine x_sld C hX (by omega) (by omega) dL_law_583 ?_
  refine x_aload_n C 0 dL_law_584 rfl rfl ?_
  refine x_iload_n C 3 dL_law_585 rfl rfl ?_
  refine x_iconst C dL_law_586 ?_
  refine x_iadd C dL_law_587 ?_
  refine x_sld C hX (by omega) (by omega) dL_law_588 ?_
  refine x_runU (r_callV C ok_Model 42 (lt67 h671 rfl) rfl (ce_X12_board) hc2 rfl dL_law_589 q_33_10 q_33_11 q_33_12 rfl rfl ⟨Nat.le_of_ble_eq_true rfl, Nat.le_of_ble_eq_true rfl⟩ ⟨rfl, rfl⟩ ⟨(show cells + 0 + 0 ≤ 600000 from by omega), (show slots + 0 + 0 ≤ 7302250 from by omega)⟩ (Nat.le_of_ble_eq_true rfl)) (fun v2 u2 hv2 => ?_)
  obtain ⟨rfl, hR⟩ := hp2 v2 u2 hv2
  obtain ⟨n2, V2, R2⟩ := u2
  show Xw K G (cells + 0 + 0) (slots + 0 + 0) Q n2 V2 R2 592 [(0, .ref b), (1, .ref (aG G 0)), (2, .ref (aG G 42)), (3, .int (iI i))] [iM r, iM r]
  refine x_sameI C dL_law_592 (tgt := 1271) (by decide) ?_
  refine x_wid (cells' := cells + 64) (slots' := slots + 192) (by omega) (by omega) ?_
  exact kk _ _ _ hR
set_option maxRecDepth 100000 in
set_option maxHeartbeats 4000000 in
theorem cs_11 {K : XS} {G : GS} {cells slots : Nat} {Q : State → Prop} {n : Nat} {V : Nat → Int → Int} {R : Nat → Int → Option Nat} {ret0 : Option FieldType} {b L : Nat} {xs : Nat → Int32} (C : Cx K G cL_law RL 4 ret0 room_1) (hX : LawX K G b L xs) (hL : L ≤ 3584) {i : Int} (hi : 0 ≤ i ∧ i + 7 ≤ L) (h : Rel n V R) (hcs : cells + 64 ≤ 600000 ∧ slots + 192 ≤ 7302250) (kk : ∀ n2 V2 R2, Rel n2 V2 R2 → Xw K G (cells + 64) (slots + 192) Q n2 V2 R2 1271 [(0, .ref b), (1, .ref (aG G 0)), (2, .ref (aG G 42)), (3, .int (iI i))] []) : Xw K G cells slots Q n V R 597 [(0, .ref b), (1, .ref (aG G 0)), (2, .ref (aG G 42)), (3, .int (iI i))] [] := by
  refine x_aload_n C 1 dL_law_597 rfl rfl ?_
  refine x_aload_n C 0 dL_law_598 rfl rfl ?_
  refine x_iload_n C 3 dL_law_599 rfl rfl ?_
  refine x_iconst C dL_law_600 ?_
  refine x_iadd C dL_law_601 ?_
  refine x_sld C hX (by omega) (by omega) dL_law_602 ?_
  refine x_aload_n C 0 dL_law_603 rfl rfl ?_
  refine x_iload_n C 3 dL_law_604 rfl rfl ?_
  refine x_iconst C dL_law_605 ?_
  refine x_iadd C dL_law_606 ?_
  refine x_sld C hX (by omega) (by omega) dL_law_607 ?_
  refine x_aload_n C 0 dL_law_608 rfl rfl ?_
  refine x_iload_n C 3 dL_law_609 rfl rfl ?_
  refine x_iconst C dL_law_610 ?_
  refine x_iadd C dL_law_611 ?_
  refine x_sld C hX (by omega) (by omega) dL_law_612 ?_
  refine x_aload_n C 0 dL_law_613 rfl rfl ?_
  refine x_iload_n C 3 dL_law_614 rfl rfl ?_
  refine x_iconst C dL_law_615 ?_
  refine x_iadd C dL_law_616 ?_
  refine x_sld C hX (by omega) (by omega) dL_law_617 ?_
  refine x_aload_n C 0 dL_law_618 rfl rfl ?_
  refine x_iload_n C 3 dL_law_619 rfl rfl ?_
  refine x_iconst C dL_law_620 ?_
  refine x_iadd C dL_law_621 ?_
  refine x_sld C hX (by omega) (by omega) dL_law_622 ?_
  obtain ⟨post1, hc1, hp1⟩ := pr_graded (G := G) (y := scr xs (i + 1)) (k := scr xs (i + 2)) (a := scr xs (i + 3)) (b := scr xs (i + 4)) (s := scr xs (i + 5)) h (scr_rg _ _) (scr_rg _ _) (scr_rg _ _) (scr_rg _ _) (scr_rg _ _)
  refine x_runU (r_callV C ok_Class 0 (lt67 h.h67 rfl) rfl (ce_X11_graded) hc1 rfl dL_law_623 q_35_3 q_35_4 q_35_5 rfl rfl ⟨Nat.le_of_ble_eq_true rfl, Nat.le_of_ble_eq_true rfl⟩ ⟨rfl, rfl⟩ ⟨(show cells + 0 ≤ 600000 from by omega), (show slots + 0 ≤ 7302250 from by omega)⟩ (Nat.le_of_ble_eq_true rfl)) (fun v1 u1 hv1 => ?_)
  obtain ⟨r, rfl, h671, post2, hc2, hp2⟩ := hp1 v1 u1 hv1
  obtain ⟨n1, V1, R1⟩ := u1
  show Xw K G (cells + 0) (slots + 0) Q n1 V1 R1 626 [(0, .ref b), (1, .ref (aG G 0)), (2, .ref (aG G 42)), (3, .int (iI i))] [iM r]
  refine x_aload_n C 2 dL_law_626 rfl rfl ?_
  refine x_aload_n C 0 dL_law_627 rfl rfl ?_
  refine x_iload_n C 3 dL_law_628 rfl rfl ?_
  refine x_iconst C dL_law_629 ?_
  refine x_iadd C dL_law_630 ?_
  refine x_sld C hX (by omega) (by omega) dL_law_631 ?_
  refine x_aload_n C 0 dL_law_632 rfl rfl ?_
  refine x_iload_n C 3 dL_law_633 rfl rfl ?_
  refine x_iconst C dL_law_634 ?_
  refine x_iadd C dL_law_635 ?_
  refine x_sld C hX (by omega) (by omega) dL_law_636 ?_
  refine x_aload_n C 0 dL_law_637 rfl rfl ?_
  refine x_iload_n C 3 dL_law_638 rfl rfl ?_
  refine x_iconst C dL_law_639 ?_
  refine x_iadd C dL_law_640 ?_
  refine x_sld C hX (by omega) (by omega) dL_law_641 ?_
  refine x_aload_n C 0 dL_law_642 rfl rfl ?_
  refine x_iload_n C 3 dL_law_643 rfl rfl ?_
  refine x_iconst C dL_law_644 ?_
  refine x_iadd C dL_law_645 ?_
  refine x_sld C hX (by omega) (by omega) dL_law_646 ?_
  refine x_aload_n C 0 dL_law_647 rfl rfl ?_
  refine x_iload_n C 3 dL_law_648 rfl rfl ?_
  refine x_iconst C dL_law_649 ?_
  refine x_iadd C dL_law_650 ?_
  refine x_sld C hX (by omega) (by omega) dL_law_651 ?_
  refine x_runU (r_callV C ok_Model 42 (lt67 h671 rfl) rfl (ce_X12_graded) hc2 rfl dL_law_652 q_35_12 q_35_13 q_35_14 rfl rfl ⟨Nat.le_of_ble_eq_true rfl, Nat.le_of_ble_eq_true rfl⟩ ⟨rfl, rfl⟩ ⟨(show cells + 0 + 0 ≤ 600000 from by omega), (show slots + 0 + 0 ≤ 7302250 from by omega)⟩ (Nat.le_of_ble_eq_true rfl)) (fun v2 u2 hv2 => ?_)
  obtain ⟨rfl, hR⟩ := hp2 v2 u2 hv2
  obtain ⟨n2, V2, R2⟩ := u2
  show Xw K G (cells + 0 + 0) (slots + 0 + 0) Q n2 V2 R2 655 [(0, .ref b), (1, .ref (aG G 0)), (2, .ref (aG G 42)), (3, .int (iI i))] [iM r, iM r]
  refine x_sameI C dL_law_655 (tgt := 1271) (by decide) ?_
  refine x_wid (cells' := cells + 64) (slots' := slots + 192) (by omega) (by omega) ?_
  exact kk _ _ _ hR
set_option maxRecDepth 100000 in
set_option maxHeartbeats 4000000 in
theorem cs_12 {K : XS} {G : GS} {cells slots : Nat} {Q : State → Prop} {n : Nat} {V : Nat → Int → Int} {R : Nat → Int → Option Nat} {ret0 : Option FieldType} {b L : Nat} {xs : Nat → Int32} (C : Cx K G cL_law RL 4 ret0 room_1) (hX : LawX K G b L xs) (hL : L ≤ 3584) {i : Int} (hi : 0 ≤ i ∧ i + 7 ≤ L) (h : Rel n V R) (hcs : cells + 64 ≤ 600000 ∧ slots + 192 ≤ 7302250) (kk : ∀ n2 V2 R2, Rel n2 V2 R2 → Xw K G (cells + 64) (slots + 192) Q n2 V2 R2 1271 [(0, .ref b), (1, .ref (aG G 0)), (2, .ref (aG G 42)), (3, .int (iI i))] []) : Xw K G cells slots Q n V R 660 [(0, .ref b), (1, .ref (aG G 0)), (2, .ref (aG G 42)), (3, .int (iI i))] [] := by
  refine x_aload_n C 1 dL_law_660 rfl rfl ?_
  refine x_aload_n C 0 dL_law_661 rfl rfl ?_
  refine x_iload_n C 3 dL_law_662 rfl rfl ?_
  refine x_iconst C dL_law_663 ?_
  refine x_iadd C dL_law_664 ?_
  refine x_sld C hX (by omega) (by omega) dL_law_665 ?_
  refine x_aload_n C 0 dL_law_666 rfl rfl ?_
  refine x_iload_n C 3 dL_law_667 rfl rfl ?_
  refine x_iconst C dL_law_668 ?_
  refine x_iadd C dL_law_669 ?_
  refine x_sld C hX (by omega) (by omega) dL_law_670 ?_
  obtain ⟨post1, hc1, hp1⟩ := pr_worth (G := G) (y := scr xs (i + 1)) (k := scr xs (i + 2)) h (scr_rg _ _) (scr_rg _ _)
  refine x_runU (r_callV C ok_Class 0 (lt67 h.h67 rfl) rfl (ce_X11_worth) hc1 rfl dL_law_671 q_35_17 q_35_18 q_35_19 rfl rfl ⟨Nat.le_of_ble_eq_true rfl, Nat.le_of_ble_eq_true rfl⟩ ⟨rfl, rfl⟩ ⟨(show cells + 0 ≤ 600000 from by omega), (show slots + 0 ≤ 7302250 from by omega)⟩ (Nat.le_of_ble_eq_true rfl)) (fun v1 u1 hv1 => ?_)
  obtain ⟨r, rfl, h671, post2, hc2, hp2⟩ := hp1 v1 u1 hv1
  obtain ⟨n1, V1, R1⟩ := u1
  show Xw K G (cells + 0) (slots + 0) Q n1 V1 R1 674 [(0, .ref b), (1, .ref (aG G 0)), (2, .ref (aG G 42)), (3, .int (iI i))] [lM r]
  refine x_aload_n C 2 dL_law_674 rfl rfl ?_
  refine x_aload_n C 0 dL_law_675 rfl rfl ?_
  refine x_iload_n C 3 dL_law_676 rfl rfl ?_
  refine x_iconst C dL_law_677 ?_
  refine x_iadd C dL_law_678 ?_
  refine x_sld C hX (by omega) (by omega) dL_law_679 ?_
  refine x_aload_n C 0 dL_law_680 rfl rfl ?_
  refine x_iload_n C 3 dL_law_681 rfl rfl ?_
  refine x_iconst C dL_law_682 ?_
  refine x_iadd C dL_law_683 ?_
  refine x_sld C hX (by omega) (by omega) dL_law_684 ?_
  refine x_runU (r_callV C ok_Model 42 (lt67 h671 rfl) rfl (ce_X12_worth) hc2 rfl dL_law_685 q_35_22 q_35_23 q_36_0 rfl rfl ⟨Nat.le_of_ble_eq_true rfl, Nat.le_of_ble_eq_true rfl⟩ ⟨rfl, rfl⟩ ⟨(show cells + 0 + 0 ≤ 600000 from by omega), (show slots + 0 + 0 ≤ 7302250 from by omega)⟩ (Nat.le_of_ble_eq_true rfl)) (fun v2 u2 hv2 => ?_)
  obtain ⟨rfl, hR⟩ := hp2 v2 u2 hv2
  obtain ⟨n2, V2, R2⟩ := u2
  show Xw K G (cells + 0 + 0) (slots + 0 + 0) Q n2 V2 R2 688 [(0, .ref b), (1, .ref (aG G 0)), (2, .ref (aG G 42)), (3, .int (iI i))] [lM r, lM r]
  refine x_sameL C dL_law_688 dL_law_689 (tgt := 1271) (by decide) ?_
  refine x_wid (cells' := cells + 64) (slots' := slots + 192) (by omega) (by omega) ?_
  exact kk _ _ _ hR
set_option maxRecDepth 100000 in
set_option maxHeartbeats 4000000 in
theorem cs_13 {K : XS} {G : GS} {cells slots : Nat} {Q : State → Prop} {n : Nat} {V : Nat → Int → Int} {R : Nat → Int → Option Nat} {ret0 : Option FieldType} {b L : Nat} {xs : Nat → Int32} (C : Cx K G cL_law RL 4 ret0 room_1) (hX : LawX K G b L xs) (hL : L ≤ 3584) {i : Int} (hi : 0 ≤ i ∧ i + 7 ≤ L) (h : Rel n V R) (hcs : cells + 64 ≤ 600000 ∧ slots + 192 ≤ 7302250) (kk : ∀ n2 V2 R2, Rel n2 V2 R2 → Xw K G (cells + 64) (slots + 192) Q n2 V2 R2 1271 [(0, .ref b), (1, .ref (aG G 0)), (2, .ref (aG G 42)), (3, .int (iI i))] []) : Xw K G cells slots Q n V R 694 [(0, .ref b), (1, .ref (aG G 0)), (2, .ref (aG G 42)), (3, .int (iI i))] [] := by
  refine x_aload_n C 1 dL_law_694 rfl rfl ?_
  refine x_aload_n C 0 dL_law_695 rfl rfl ?_
  refine x_iload_n C 3 dL_law_696 rfl rfl ?_
  refine x_iconst C dL_law_697 ?_
  refine x_iadd C dL_law_698 ?_
  refine x_sld C hX (by omega) (by omega) dL_law_699 ?_
  refine x_aload_n C 0 dL_law_700 rfl rfl ?_
  refine x_iload_n C 3 dL_law_701 rfl rfl ?_
  refine x_iconst C dL_law_702 ?_
  refine x_iadd C dL_law_703 ?_
  refine x_sld C hX (by omega) (by omega) dL_law_704 ?_
  obtain ⟨post1, hc1, hp1⟩ := pr_opening (G := G) (k := scr xs (i + 1)) (w := scr xs (i + 2)) h (scr_rg _ _) (scr_rg _ _)
  refine x_runU (r_callV C ok_Class 0 (lt67 h.h67 rfl) rfl (ce_X11_opening) hc1 rfl dL_law_705 q_36_3 q_36_4 q_36_5 rfl rfl ⟨Nat.le_of_ble_eq_true rfl, Nat.le_of_ble_eq_true rfl⟩ ⟨rfl, rfl⟩ ⟨(show cells + 0 ≤ 600000 from by omega), (show slots + 0 ≤ 7302250 from by omega)⟩ (Nat.le_of_ble_eq_true rfl)) (fun v1 u1 hv1 => ?_)
  obtain ⟨r, rfl, h671, post2, hc2, hp2⟩ := hp1 v1 u1 hv1
  obtain ⟨n1, V1, R1⟩ := u1
  show Xw K G (cells + 0) (slots + 0) Q n1 V1 R1 708 [(0, .ref b), (1, .ref (aG G 0)), (2, .ref (aG G 42)), (3, .int (iI i))] [iM r]
  refine x_aload_n C 2 dL_law_708 rfl rfl ?_
  refine x_aload_n C 0 dL_law_709 rfl rfl ?_
  refine x_iload_n C 3 dL_law_710 rfl rfl ?_
  refine x_iconst C dL_law_711 ?_
  refine x_iadd C dL_law_712 ?_
  refine x_sld C hX (by omega) (by omega) dL_law_713 ?_
  refine x_aload_n C 0 dL_law_714 rfl rfl ?_
  refine x_iload_n C 3 dL_law_715 rfl rfl ?_
  refine x_iconst C dL_law_716 ?_
  refine x_iadd C dL_law_717 ?_
  refine x_sld C hX (by omega) (by omega) dL_law_718 ?_
  refine x_runU (r_callV C ok_Model 42 (lt67 h671 rfl) rfl (ce_X12_opening) hc2 rfl dL_law_719 q_37_13 q_37_14 q_37_15 rfl rfl ⟨Nat.le_of_ble_eq_true rfl, Nat.le_of_ble_eq_true rfl⟩ ⟨rfl, rfl⟩ ⟨(show cells + 0 + 0 ≤ 600000 from by omega), (show slots + 0 + 0 ≤ 7302250 from by omega)⟩ (Nat.le_of_ble_eq_true rfl)) (fun v2 u2 hv2 => ?_)
  obtain ⟨rfl, hR⟩ := hp2 v2 u2 hv2
  obtain ⟨n2, V2, R2⟩ := u2
  show Xw K G (cells + 0 + 0) (slots + 0 + 0) Q n2 V2 R2 722 [(0, .ref b), (1, .ref (aG G 0)), (2, .ref (aG G 42)), (3, .int (iI i))] [iM r, iM r]
  refine x_sameI C dL_law_722 (tgt := 1271) (by decide) ?_
  refine x_wid (cells' := cells + 64) (slots' := slots + 192) (by omega) (by omega) ?_
  exact kk _ _ _ hR
set_option maxRecDepth 100000 in
set_option maxHeartbeats 4000000 in
theorem cs_14 {K : XS} {G : GS} {cells slots : Nat} {Q : State → Prop} {n : Nat} {V : Nat → Int → Int} {R : Nat → Int → Option Nat} {ret0 : Option FieldType} {b L : Nat} {xs : Nat → Int32} (C : Cx K G cL_law RL 4 ret0 room_1) (hX : LawX K G b L xs) (hL : L ≤ 3584) {i : Int} (hi : 0 ≤ i ∧ i + 7 ≤ L) (h : Rel n V R) (hcs : cells + 64 ≤ 600000 ∧ slots + 192 ≤ 7302250) (kk : ∀ n2 V2 R2, Rel n2 V2 R2 → Xw K G (cells + 64) (slots + 192) Q n2 V2 R2 1271 [(0, .ref b), (1, .ref (aG G 0)), (2, .ref (aG G 42)), (3, .int (iI i))] []) : Xw K G cells slots Q n V R 727 [(0, .ref b), (1, .ref (aG G 0)), (2, .ref (aG G 42)), (3, .int (iI i))] [] := by
  refine x_aload_n C 1 dL_law_727 rfl rfl ?_
  refine x_aload_n C 0 dL_law_728 rfl rfl ?_
  refine x_iload_n C 3 dL_law_729 rfl rfl ?_
  refine x_iconst C dL_law_730 ?_
  refine x_iadd C dL_law_731 ?_
  refine x_sld C hX (by omega) (by omega) dL_law_732 ?_
  obtain ⟨post1, hc1, hp1⟩ := pr_best (G := G) (t := scr xs (i + 1)) h (scr_rg _ _)
  refine x_runU (r_callV C ok_Class 0 (lt67 h.h67 rfl) rfl (ce_X11_best) hc1 rfl dL_law_733 q_38_2 q_38_3 q_38_4 rfl rfl ⟨Nat.le_of_ble_eq_true rfl, Nat.le_of_ble_eq_true rfl⟩ ⟨rfl, rfl⟩ ⟨(show cells + 0 ≤ 600000 from by omega), (show slots + 0 ≤ 7302250 from by omega)⟩ (Nat.le_of_ble_eq_true rfl)) (fun v1 u1 hv1 => ?_)
  obtain ⟨r, rfl, h671, post2, hc2, hp2⟩ := hp1 v1 u1 hv1
  obtain ⟨n1, V1, R1⟩ := u1
  show Xw K G (cells + 0) (slots + 0) Q n1 V1 R1 736 [(0, .ref b), (1, .ref (aG G 0)), (2, .ref (aG G 42)), (3, .int (iI i))] [lM r]
  refine x_aload_n C 2 dL_law_736 rfl rfl ?_
  refine x_aload_n C 0 dL_law_737 rfl rfl ?_
  refine x_iload_n C 3 dL_law_738 rfl rfl ?_
  refine x_iconst C dL_law_739 ?_
  refine x_iadd C dL_law_740 ?_
  refine x_sld C hX (by omega) (by omega) dL_law_741 ?_
  refine x_runU (r_callV C ok_Model 42 (lt67 h671 rfl) rfl (ce_X12_best) hc2 rfl dL_law_742 q_38_14 q_38_15 q_38_16 rfl rfl ⟨Nat.le_of_ble_eq_true rfl, Nat.le_of_ble_eq_true rfl⟩ ⟨rfl, rfl⟩ ⟨(show cells + 0 + 0 ≤ 600000 from by omega), (show slots + 0 + 0 ≤ 7302250 from by omega)⟩ (Nat.le_of_ble_eq_true rfl)) (fun v2 u2 hv2 => ?_)
  obtain ⟨rfl, hR⟩ := hp2 v2 u2 hv2
  obtain ⟨n2, V2, R2⟩ := u2
  show Xw K G (cells + 0 + 0) (slots + 0 + 0) Q n2 V2 R2 745 [(0, .ref b), (1, .ref (aG G 0)), (2, .ref (aG G 42)), (3, .int (iI i))] [lM r, lM r]
  refine x_sameL C dL_law_745 dL_law_746 (tgt := 1271) (by decide) ?_
  refine x_wid (cells' := cells + 64) (slots' := slots + 192) (by omega) (by omega) ?_
  exact kk _ _ _ hR
set_option maxRecDepth 100000 in
set_option maxHeartbeats 4000000 in
theorem cs_15 {K : XS} {G : GS} {cells slots : Nat} {Q : State → Prop} {n : Nat} {V : Nat → Int → Int} {R : Nat → Int → Option Nat} {ret0 : Option FieldType} {b L : Nat} {xs : Nat → Int32} (C : Cx K G cL_law RL 4 ret0 room_1) (hX : LawX K G b L xs) (hL : L ≤ 3584) {i : Int} (hi : 0 ≤ i ∧ i + 7 ≤ L) (h : Rel n V R) (hcs : cells + 64 ≤ 600000 ∧ slots + 192 ≤ 7302250) (kk : ∀ n2 V2 R2, Rel n2 V2 R2 → Xw K G (cells + 64) (slots + 192) Q n2 V2 R2 1271 [(0, .ref b), (1, .ref (aG G 0)), (2, .ref (aG G 42)), (3, .int (iI i))] []) : Xw K G cells slots Q n V R 751 [(0, .ref b), (1, .ref (aG G 0)), (2, .ref (aG G 42)), (3, .int (iI i))] [] := by
  refine x_aload_n C 1 dL_law_751 rfl rfl ?_
  obtain ⟨post1, hc1, hp1⟩ := pr_bestTurn (G := G)  h 
  refine x_runU (r_callV C ok_Class 0 (lt67 h.h67 rfl) rfl (ce_X11_bestTurn) hc1 rfl dL_law_752 q_38_23 q_39_0 q_39_1 rfl rfl ⟨Nat.le_of_ble_eq_true rfl, Nat.le_of_ble_eq_true rfl⟩ ⟨rfl, rfl⟩ ⟨(show cells + 0 ≤ 600000 from by omega), (show slots + 0 ≤ 7302250 from by omega)⟩ (Nat.le_of_ble_eq_true rfl)) (fun v1 u1 hv1 => ?_)
  obtain ⟨r, rfl, h671, post2, hc2, hp2⟩ := hp1 v1 u1 hv1
  obtain ⟨n1, V1, R1⟩ := u1
  show Xw K G (cells + 0) (slots + 0) Q n1 V1 R1 755 [(0, .ref b), (1, .ref (aG G 0)), (2, .ref (aG G 42)), (3, .int (iI i))] [iM r]
  refine x_aload_n C 2 dL_law_755 rfl rfl ?_
  refine x_runU (r_callV C ok_Model 42 (lt67 h671 rfl) rfl (ce_X12_bestTurn) hc2 rfl dL_law_756 q_39_3 q_39_4 q_39_5 rfl rfl ⟨Nat.le_of_ble_eq_true rfl, Nat.le_of_ble_eq_true rfl⟩ ⟨rfl, rfl⟩ ⟨(show cells + 0 + 0 ≤ 600000 from by omega), (show slots + 0 + 0 ≤ 7302250 from by omega)⟩ (Nat.le_of_ble_eq_true rfl)) (fun v2 u2 hv2 => ?_)
  obtain ⟨rfl, hR⟩ := hp2 v2 u2 hv2
  obtain ⟨n2, V2, R2⟩ := u2
  show Xw K G (cells + 0 + 0) (slots + 0 + 0) Q n2 V2 R2 759 [(0, .ref b), (1, .ref (aG G 0)), (2, .ref (aG G 42)), (3, .int (iI i))] [iM r, iM r]
  refine x_sameI C dL_law_759 (tgt := 1271) (by decide) ?_
  refine x_wid (cells' := cells + 64) (slots' := slots + 192) (by omega) (by omega) ?_
  exact kk _ _ _ hR
