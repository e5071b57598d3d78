section LW2
variable {G : ZG} {d q : Nat} {A : ZA} {α : AH} {u : Nat × Nat} {post : Option Value → AH → Prop}
theorem la_next (hx : lX G q) (hh : lH A u) (hr : LI A α) (h : lG G d q A u post) : Z G mL_law (d + 101) 451 [some (.ref (G.2 50)), some (.ref (G.1 + 0)), some (.ref (G.1 + 34)), some (.int (nI q))] [] α u post := by
  obtain ⟨hrm, Γ, hrc⟩ := hr
  refine Z_aload_n dL_law_451 rfl rfl ?_
  refine Z_aload_n dL_law_452 rfl rfl ?_
  refine Z_iload_n dL_law_453 rfl rfl ?_
  refine Z_iconst (v := 1) dL_law_454 (by decide) ?_
  refine Z_iadd dL_law_455 ?_
  refine Z_scr dL_law_456 hx.2.1 ?_
  refine Z_aload_n dL_law_457 rfl rfl ?_
  refine Z_iload_n dL_law_458 rfl rfl ?_
  refine Z_iconst (v := 2) dL_law_459 (by decide) ?_
  refine Z_iadd dL_law_460 ?_
  refine Z_scr dL_law_461 hx.2.2.1 ?_
  refine Z_V2z (ci := 11) dL_law_462 to_X11_next lk_L_53 iv_X11_next ⟨rfl, rfl⟩ (cw_i0 hrc.1) (Nat.le_of_ble_eq_true rfl) ⟨rfl, rfl⟩ hh.o ?_
  refine k_next hrc ?_
  have hm := hrm
  have hb := hrc
  refine Z_aload_n dL_law_465 rfl rfl ?_
  refine Z_aload_n dL_law_466 rfl rfl ?_
  refine Z_iload_n dL_law_467 rfl rfl ?_
  refine Z_iconst (v := 1) dL_law_468 (by decide) ?_
  refine Z_iadd dL_law_469 ?_
  refine Z_scr dL_law_470 hx.2.1 ?_
  refine Z_aload_n dL_law_471 rfl rfl ?_
  refine Z_iload_n dL_law_472 rfl rfl ?_
  refine Z_iconst (v := 2) dL_law_473 (by decide) ?_
  refine Z_iadd dL_law_474 ?_
  refine Z_scr dL_law_475 hx.2.2.1 ?_
  refine Z_V2z (ci := 12) dL_law_476 to_X12_next lk_L_57 iv_X12_next ⟨rfl, rfl⟩ (mw_i34 hm.1) (Nat.le_of_ble_eq_true rfl) ⟨rfl, rfl⟩ hh.o ?_
  refine c_mnext hm ?_
  have hc := hb
  have hg := hm
  refine Z_lcmp dL_law_479 ?_
  refine Z_if_eq (tgt := 1188) dL_law_480 (by decide) (fun h480 => ?_) (fun h480 => ?_)
  · skip
    exact h _ _ _ ⟨hg, Γ, hc⟩ (Nat.le_add_right _ _) ⟨Nat.le_add_right _ _, Nat.le_add_right _ _⟩
  · skip
    exact absurd lcmp_self h480
theorem la_run (hx : lX G q) (hh : lH A u) (hr : LI A α) (h : lG G d q A u post) : Z G mL_law (d + 101) 485 [some (.ref (G.2 50)), some (.ref (G.1 + 0)), some (.ref (G.1 + 34)), some (.int (nI q))] [] α u post := by
  obtain ⟨hrm, Γ, hrc⟩ := hr
  refine Z_aload_n dL_law_485 rfl rfl ?_
  refine Z_aload_n dL_law_486 rfl rfl ?_
  refine Z_iload_n dL_law_487 rfl rfl ?_
  refine Z_iconst (v := 1) dL_law_488 (by decide) ?_
  refine Z_iadd dL_law_489 ?_
  refine Z_scr dL_law_490 hx.2.1 ?_
  refine Z_aload_n dL_law_491 rfl rfl ?_
  refine Z_iload_n dL_law_492 rfl rfl ?_
  refine Z_iconst (v := 2) dL_law_493 (by decide) ?_
  refine Z_iadd dL_law_494 ?_
  refine Z_scr dL_law_495 hx.2.2.1 ?_
  refine Z_aload_n dL_law_496 rfl rfl ?_
  refine Z_iload_n dL_law_497 rfl rfl ?_
  refine Z_iconst (v := 3) dL_law_498 (by decide) ?_
  refine Z_iadd dL_law_499 ?_
  refine Z_scr dL_law_500 hx.2.2.2.1 ?_
  refine Z_V3z (ci := 11) dL_law_501 to_X11_run lk_L_58 iv_X11_run ⟨rfl, rfl⟩ (cw_i0 hrc.1) (Nat.le_of_ble_eq_true rfl) ⟨rfl, rfl⟩ hh.o ?_
  refine k_run hrc ?_
  have hm := hrm
  have hb := hrc
  refine Z_aload_n dL_law_504 rfl rfl ?_
  refine Z_aload_n dL_law_505 rfl rfl ?_
  refine Z_iload_n dL_law_506 rfl rfl ?_
  refine Z_iconst (v := 1) dL_law_507 (by decide) ?_
  refine Z_iadd dL_law_508 ?_
  refine Z_scr dL_law_509 hx.2.1 ?_
  refine Z_aload_n dL_law_510 rfl rfl ?_
  refine Z_iload_n dL_law_511 rfl rfl ?_
  refine Z_iconst (v := 2) dL_law_512 (by decide) ?_
  refine Z_iadd dL_law_513 ?_
  refine Z_scr dL_law_514 hx.2.2.1 ?_
  refine Z_aload_n dL_law_515 rfl rfl ?_
  refine Z_iload_n dL_law_516 rfl rfl ?_
  refine Z_iconst (v := 3) dL_law_517 (by decide) ?_
  refine Z_iadd dL_law_518 ?_
  refine Z_scr dL_law_519 hx.2.2.2.1 ?_
  refine Z_V3z (ci := 12) dL_law_520 to_X12_run lk_L_62 iv_X12_run ⟨rfl, rfl⟩ (mw_i34 hm.1) (Nat.le_of_ble_eq_true rfl) ⟨rfl, rfl⟩ hh.o ?_
  refine c_mrun hm ?_
  have hc := hb
  have hg := hm
  refine Z_lcmp dL_law_523 ?_
  refine Z_if_eq (tgt := 1188) dL_law_524 (by decide) (fun h524 => ?_) (fun h524 => ?_)
  · skip
    exact h _ _ _ ⟨hg, Γ, hc⟩ (Nat.le_add_right _ _) ⟨Nat.le_add_right _ _, Nat.le_add_right _ _⟩
  · skip
    exact absurd lcmp_self h524
theorem la_by (hx : lX G q) (hh : lH A u) (hr : LI A α) (h : lG G d q A u post) : Z G mL_law (d + 101) 529 [some (.ref (G.2 50)), some (.ref (G.1 + 0)), some (.ref (G.1 + 34)), some (.int (nI q))] [] α u post := by
  obtain ⟨hrm, Γ, hrc⟩ := hr
  refine Z_aload_n dL_law_529 rfl rfl ?_
  refine Z_aload_n dL_law_530 rfl rfl ?_
  refine Z_iload_n dL_law_531 rfl rfl ?_
  refine Z_iconst (v := 1) dL_law_532 (by decide) ?_
  refine Z_iadd dL_law_533 ?_
  refine Z_scr dL_law_534 hx.2.1 ?_
  refine Z_aload_n dL_law_535 rfl rfl ?_
  refine Z_iload_n dL_law_536 rfl rfl ?_
  refine Z_iconst (v := 2) dL_law_537 (by decide) ?_
  refine Z_iadd dL_law_538 ?_
  refine Z_scr dL_law_539 hx.2.2.1 ?_
  refine Z_aload_n dL_law_540 rfl rfl ?_
  refine Z_iload_n dL_law_541 rfl rfl ?_
  refine Z_iconst (v := 3) dL_law_542 (by decide) ?_
  refine Z_iadd dL_law_543 ?_
  refine Z_scr dL_law_544 hx.2.2.2.1 ?_
  refine Z_aload_n dL_law_545 rfl rfl ?_
  refine Z_iload_n dL_law_546 rfl rfl ?_
  refine Z_iconst (v := 4) dL_law_547 (by decide) ?_
  refine Z_iadd dL_law_548 ?_
  refine Z_scr dL_law_549 hx.2.2.2.2 ?_
  refine Z_V4z (ci := 11) dL_law_550 to_X11_by lk_L_63 iv_X11_by ⟨rfl, rfl⟩ (cw_i0 hrc.1) (Nat.le_of_ble_eq_true rfl) ⟨rfl, rfl⟩ hh.o ?_
  refine k_by hrc ?_
  have hm := hrm
  have hb := hrc
  refine Z_aload_n dL_law_553 rfl rfl ?_
  refine Z_aload_n dL_law_554 rfl rfl ?_
  refine Z_iload_n dL_law_555 rfl rfl ?_
  refine Z_iconst (v := 1) dL_law_556 (by decide) ?_
  refine Z_iadd dL_law_557 ?_
  refine Z_scr dL_law_558 hx.2.1 ?_
  refine Z_aload_n dL_law_559 rfl rfl ?_
  refine Z_iload_n dL_law_560 rfl rfl ?_
  refine Z_iconst (v := 2) dL_law_561 (by decide) ?_
  refine Z_iadd dL_law_562 ?_
  refine Z_scr dL_law_563 hx.2.2.1 ?_
  refine Z_aload_n dL_law_564 rfl rfl ?_
  refine Z_iload_n dL_law_565 rfl rfl ?_
  refine Z_iconst (v := 3) dL_law_566 (by decide) ?_
  refine Z_iadd dL_law_567 ?_
  refine Z_scr dL_law_568 hx.2.2.2.1 ?_
  refine Z_aload_n dL_law_569 rfl rfl ?_
  refine Z_iload_n dL_law_570 rfl rfl ?_
  refine Z_iconst (v := 4) dL_law_571 (by decide) ?_
  refine Z_iadd dL_law_572 ?_
  refine Z_scr dL_law_573 hx.2.2.2.2 ?_
  refine Z_V4z (ci := 12) dL_law_574 to_X12_by lk_L_67 iv_X12_by ⟨rfl, rfl⟩ (mw_i34 hm.1) (Nat.le_of_ble_eq_true rfl) ⟨rfl, rfl⟩ hh.o ?_
  refine c_mby hm ?_
  have hc := hb
  have hg := hm
  refine Z_lcmp dL_law_577 ?_
  refine Z_if_eq (tgt := 1188) dL_law_578 (by decide) (fun h578 => ?_) (fun h578 => ?_)
  · skip
    exact h _ _ _ ⟨hg, Γ, hc⟩ (Nat.le_add_right _ _) ⟨Nat.le_add_right _ _, Nat.le_add_right _ _⟩
  · skip
    exact absurd lcmp_self h578
theorem la_first (hx : lX G q) (hh : lH A u) (hr : LI A α) (h : lG G d q A u post) : Z G mL_law (d + 101) 583 [some (.ref (G.2 50)), some (.ref (G.1 + 0)), some (.ref (G.1 + 34)), some (.int (nI q))] [] α u post := by
  obtain ⟨hrm, Γ, hrc⟩ := hr
  refine Z_aload_n dL_law_583 rfl rfl ?_
  refine Z_aload_n dL_law_584 rfl rfl ?_
  refine Z_iload_n dL_law_585 rfl rfl ?_
  refine Z_iconst (v := 1) dL_law_586 (by decide) ?_
  refine Z_iadd dL_law_587 ?_
  refine Z_scr dL_law_588 hx.2.1 ?_
  refine Z_aload_n dL_law_589 rfl rfl ?_
  refine Z_iload_n dL_law_590 rfl rfl ?_
  refine Z_iconst (v := 2) dL_law_591 (by decide) ?_
  refine Z_iadd dL_law_592 ?_
  refine Z_scr dL_law_593 hx.2.2.1 ?_
  refine Z_V2z (ci := 11) dL_law_594 to_X11_first lk_L_68 iv_X11_first ⟨rfl, rfl⟩ (cw_i0 hrc.1) (Nat.le_of_ble_eq_true rfl) ⟨rfl, rfl⟩ hh.o ?_
  refine k_first hrc ?_
  have hm := hrm
  have hb := hrc
  refine Z_aload_n dL_law_597 rfl rfl ?_
  refine Z_aload_n dL_law_598 rfl rfl ?_
  refine Z_iload_n dL_law_599 rfl rfl ?_
  refine Z_iconst (v := 1) dL_law_600 (by decide) ?_
  refine Z_iadd dL_law_601 ?_
  refine Z_scr dL_law_602 hx.2.1 ?_
  refine Z_aload_n dL_law_603 rfl rfl ?_
  refine Z_iload_n dL_law_604 rfl rfl ?_
  refine Z_iconst (v := 2) dL_law_605 (by decide) ?_
  refine Z_iadd dL_law_606 ?_
  refine Z_scr dL_law_607 hx.2.2.1 ?_
  refine Z_V2z (ci := 12) dL_law_608 to_X12_first lk_L_71 iv_X12_first ⟨rfl, rfl⟩ (mw_i34 hm.1) (Nat.le_of_ble_eq_true rfl) ⟨rfl, rfl⟩ hh.o ?_
  refine c_mfirst hm ?_
  have hc := hb
  have hg := hm
  refine Z_lcmp dL_law_611 ?_
  refine Z_if_eq (tgt := 1188) dL_law_612 (by decide) (fun h612 => ?_) (fun h612 => ?_)
  · skip
    exact h _ _ _ ⟨hg, Γ, hc⟩ (Nat.le_add_right _ _) ⟨Nat.le_add_right _ _, Nat.le_add_right _ _⟩
  · skip
    exact absurd lcmp_self h612
theorem la_before (hx : lX G q) (hh : lH A u) (hr : LI A α) (h : lG G d q A u post) : Z G mL_law (d + 101) 617 [some (.ref (G.2 50)), some (.ref (G.1 + 0)), some (.ref (G.1 + 34)), some (.int (nI q))] [] α u post := by
  obtain ⟨hrm, Γ, hrc⟩ := hr
  refine Z_aload_n dL_law_617 rfl rfl ?_
  refine Z_aload_n dL_law_618 rfl rfl ?_
  refine Z_iload_n dL_law_619 rfl rfl ?_
  refine Z_iconst (v := 1) dL_law_620 (by decide) ?_
  refine Z_iadd dL_law_621 ?_
  refine Z_scr dL_law_622 hx.2.1 ?_
  refine Z_aload_n dL_law_623 rfl rfl ?_
  refine Z_iload_n dL_law_624 rfl rfl ?_
  refine Z_iconst (v := 2) dL_law_625 (by decide) ?_
  refine Z_iadd dL_law_626 ?_
  refine Z_scr dL_law_627 hx.2.2.1 ?_
  refine Z_aload_n dL_law_628 rfl rfl ?_
  refine Z_iload_n dL_law_629 rfl rfl ?_
  refine Z_iconst (v := 3) dL_law_630 (by decide) ?_
  refine Z_iadd dL_law_631 ?_
  refine Z_scr dL_law_632 hx.2.2.2.1 ?_
  refine Z_V3z (ci := 11) dL_law_633 to_X11_before lk_L_72 iv_X11_before ⟨rfl, rfl⟩ (cw_i0 hrc.1) (Nat.le_of_ble_eq_true rfl) ⟨rfl, rfl⟩ hh.o ?_
  refine k_before hrc ?_
  have hm := hrm
  have hb := hrc
  refine Z_aload_n dL_law_636 rfl rfl ?_
  refine Z_aload_n dL_law_637 rfl rfl ?_
  refine Z_iload_n dL_law_638 rfl rfl ?_
  refine Z_iconst (v := 1) dL_law_639 (by decide) ?_
  refine Z_iadd dL_law_640 ?_
  refine Z_scr dL_law_641 hx.2.1 ?_
  refine Z_aload_n dL_law_642 rfl rfl ?_
  refine Z_iload_n dL_law_643 rfl rfl ?_
  refine Z_iconst (v := 2) dL_law_644 (by decide) ?_
  refine Z_iadd dL_law_645 ?_
  refine Z_scr dL_law_646 hx.2.2.1 ?_
  refine Z_aload_n dL_law_647 rfl rfl ?_
  refine Z_iload_n dL_law_648 rfl rfl ?_
  refine Z_iconst (v := 3) dL_law_649 (by decide) ?_
  refine Z_iadd dL_law_650 ?_
  refine Z_scr dL_law_651 hx.2.2.2.1 ?_
  refine Z_V3z (ci := 12) dL_law_652 to_X12_before lk_L_75 iv_X12_before ⟨rfl, rfl⟩ (mw_i34 hm.1) (Nat.le_of_ble_eq_true rfl) ⟨rfl, rfl⟩ hh.o ?_
  refine c_mbefore hm ?_
  have hc := hb
  have hg := hm
  refine Z_lcmp dL_law_655 ?_
  refine Z_if_eq (tgt := 1188) dL_law_656 (by decide) (fun h656 => ?_) (fun h656 => ?_)
  · skip
    exact h _ _ _ ⟨hg, Γ, hc⟩ (Nat.le_add_right _ _) ⟨Nat.le_add_right _ _, Nat.le_add_right _ _⟩
  · skip
    exact absurd lcmp_self h656
theorem la_orders (hx : lX G q) (hh : lH A u) (hr : LI A α) (h : lG G d q A u post) : Z G mL_law (d + 101) 661 [some (.ref (G.2 50)), some (.ref (G.1 + 0)), some (.ref (G.1 + 34)), some (.int (nI q))] [] α u post := by
  obtain ⟨hrm, Γ, hrc⟩ := hr
  refine Z_aload_n dL_law_661 rfl rfl ?_
  refine Z_V0z (ci := 11) dL_law_662 to_X11_orders lk_L_76 iv_X11_orders ⟨rfl, rfl⟩ (cw_i0 hrc.1) (Nat.le_of_ble_eq_true rfl) ⟨rfl, rfl⟩ hh.o ?_
  refine k_orders hrc ?_
  have hm := hrm
  have hb := hrc
  refine Z_aload_n dL_law_665 rfl rfl ?_
  refine Z_V0z (ci := 12) dL_law_666 to_X12_orders lk_L_80 iv_X12_orders ⟨rfl, rfl⟩ (mw_i34 hm.1) (Nat.le_of_ble_eq_true rfl) ⟨rfl, rfl⟩ hh.o ?_
  refine c_orders hm ?_
  have hc := hb
  have hg := hm
  refine Z_lcmp dL_law_669 ?_
  refine Z_if_eq (tgt := 1188) dL_law_670 (by decide) (fun h670 => ?_) (fun h670 => ?_)
  · skip
    exact h _ _ _ ⟨hg, Γ, hc⟩ (Nat.le_add_right _ _) ⟨Nat.le_add_right _ _, Nat.le_add_right _ _⟩
  · skip
    exact absurd lcmp_self h670
theorem la_mean (hx : lX G q) (hh : lH A u) (hr : LI A α) (h : lG G d q A u post) : Z G mL_law (d + 101) 675 [some (.ref (G.2 50)), some (.ref (G.1 + 0)), some (.ref (G.1 + 34)), some (.int (nI q))] [] α u post := by
  obtain ⟨hrm, Γ, hrc⟩ := hr
  refine Z_aload_n dL_law_675 rfl rfl ?_
  refine Z_aload_n dL_law_676 rfl rfl ?_
  refine Z_iload_n dL_law_677 rfl rfl ?_
  refine Z_iconst (v := 1) dL_law_678 (by decide) ?_
  refine Z_iadd dL_law_679 ?_
  refine Z_scr dL_law_680 hx.2.1 ?_
  refine Z_aload_n dL_law_681 rfl rfl ?_
  refine Z_iload_n dL_law_682 rfl rfl ?_
  refine Z_iconst (v := 2) dL_law_683 (by decide) ?_
  refine Z_iadd dL_law_684 ?_
  refine Z_scr dL_law_685 hx.2.2.1 ?_
  refine Z_aload_n dL_law_686 rfl rfl ?_
  refine Z_iload_n dL_law_687 rfl rfl ?_
  refine Z_iconst (v := 3) dL_law_688 (by decide) ?_
  refine Z_iadd dL_law_689 ?_
  refine Z_scr dL_law_690 hx.2.2.2.1 ?_
  refine Z_V3z (ci := 11) dL_law_691 to_X11_mean lk_L_81 iv_X11_mean ⟨rfl, rfl⟩ (cw_i0 hrc.1) (Nat.le_of_ble_eq_true rfl) ⟨rfl, rfl⟩ hh.o ?_
  refine k_mean hrc (fun β hb hf => ?_)
  have hm := hrm.c hf
  refine Z_aload_n dL_law_694 rfl rfl ?_
  refine Z_aload_n dL_law_695 rfl rfl ?_
  refine Z_iload_n dL_law_696 rfl rfl ?_
  refine Z_iconst (v := 1) dL_law_697 (by decide) ?_
  refine Z_iadd dL_law_698 ?_
  refine Z_scr dL_law_699 hx.2.1 ?_
  refine Z_aload_n dL_law_700 rfl rfl ?_
  refine Z_iload_n dL_law_701 rfl rfl ?_
  refine Z_iconst (v := 2) dL_law_702 (by decide) ?_
  refine Z_iadd dL_law_703 ?_
  refine Z_scr dL_law_704 hx.2.2.1 ?_
  refine Z_aload_n dL_law_705 rfl rfl ?_
  refine Z_iload_n dL_law_706 rfl rfl ?_
  refine Z_iconst (v := 3) dL_law_707 (by decide) ?_
  refine Z_iadd dL_law_708 ?_
  refine Z_scr dL_law_709 hx.2.2.2.1 ?_
  refine Z_V3z (ci := 12) dL_law_710 to_X12_mean lk_L_84 iv_X12_mean ⟨rfl, rfl⟩ (mw_i34 hm.1) (Nat.le_of_ble_eq_true rfl) ⟨rfl, rfl⟩ hh.o ?_
  refine c_mmean hm (by have := hh.2; omega) (fun γ hg hf2 => ?_)
  have hc := CRel.up (n := 2) (CRel.m hb hf2)
  refine Z_lcmp dL_law_713 ?_
  refine Z_if_eq (tgt := 1188) dL_law_714 (by decide) (fun h714 => ?_) (fun h714 => ?_)
  · skip
    exact h _ _ _ ⟨hg, Γ, hc⟩ (Nat.le_refl _) ⟨Nat.le_add_right _ _, Nat.le_add_right _ _⟩
  · skip
    exact absurd lcmp_self h714
theorem la_today (hx : lX G q) (hh : lH A u) (hr : LI A α) (h : lG G d q A u post) : Z G mL_law (d + 101) 719 [some (.ref (G.2 50)), some (.ref (G.1 + 0)), some (.ref (G.1 + 34)), some (.int (nI q))] [] α u post := by
  obtain ⟨hrm, Γ, hrc⟩ := hr
  refine Z_aload_n dL_law_719 rfl rfl ?_
  refine Z_aload_n dL_law_720 rfl rfl ?_
  refine Z_iload_n dL_law_721 rfl rfl ?_
  refine Z_iconst (v := 1) dL_law_722 (by decide) ?_
  refine Z_iadd dL_law_723 ?_
  refine Z_scr dL_law_724 hx.2.1 ?_
  refine Z_V1z (ci := 11) dL_law_725 to_X11_today lk_L_85 iv_X11_today ⟨rfl, rfl⟩ (cw_i0 hrc.1) (Nat.le_of_ble_eq_true rfl) ⟨rfl, rfl⟩ hh.o ?_
  refine k_today hrc (fun β hb hf => ?_)
  have hm := hrm.c hf
  refine Z_aload_n dL_law_728 rfl rfl ?_
  refine Z_aload_n dL_law_729 rfl rfl ?_
  refine Z_iload_n dL_law_730 rfl rfl ?_
  refine Z_iconst (v := 1) dL_law_731 (by decide) ?_
  refine Z_iadd dL_law_732 ?_
  refine Z_scr dL_law_733 hx.2.1 ?_
  refine Z_V1z (ci := 12) dL_law_734 to_X12_today lk_L_88 iv_X12_today ⟨rfl, rfl⟩ (mw_i34 hm.1) (Nat.le_of_ble_eq_true rfl) ⟨rfl, rfl⟩ hh.o ?_
  refine c_mtoday hm (by have := hh.2; omega) (fun γ hg hf2 => ?_)
  have hc := CRel.up (n := 2) (CRel.m hb hf2)
  refine Z_icmp_eq (tgt := 1188) dL_law_737 (by decide) (fun h737 => ?_) (fun h737 => ?_)
  · skip
    exact h _ _ _ ⟨hg, Γ, hc⟩ (Nat.le_refl _) ⟨Nat.le_add_right _ _, Nat.le_add_right _ _⟩
  · skip
    exact absurd rfl h737
theorem la_whatever (hx : lX G q) (hh : lH A u) (hr : LI A α) (h : lG G d q A u post) : Z G mL_law (d + 101) 742 [some (.ref (G.2 50)), some (.ref (G.1 + 0)), some (.ref (G.1 + 34)), some (.int (nI q))] [] α u post := by
  obtain ⟨hrm, Γ, hrc⟩ := hr
  refine Z_aload_n dL_law_742 rfl rfl ?_
  refine Z_V0 (ci := 11) dL_law_743 to_X11_whatever lk_L_89 iv_X11_whatever ⟨rfl, rfl⟩ (cw_i0 hrc.1) (Nat.le_of_ble_eq_true rfl) (hh.z (K := 3) (S := 12) (by decide)) ?_
  refine k_whatever hrc (fun β hb hf => ?_)
  have hm := hrm.c hf
  refine Z_aload_n dL_law_746 rfl rfl ?_
  refine Z_V0z (ci := 12) dL_law_747 to_X12_whatever lk_L_92 iv_X12_whatever ⟨rfl, rfl⟩ (mw_i34 hm.1) (Nat.le_of_ble_eq_true rfl) ⟨rfl, rfl⟩ (hh.z (K := 3) (S := 12) (by decide)) ?_
  refine c_mwhatever hm (by have := hh.2; omega) (fun γ hg hf2 => ?_)
  have hc := CRel.up (n := 2) (CRel.m hb hf2)
  refine Z_icmp_eq (tgt := 1188) dL_law_750 (by decide) (fun h750 => ?_) (fun h750 => ?_)
  · skip
    exact h _ _ _ ⟨hg, Γ, hc⟩ (Nat.le_refl _) ⟨Nat.add_le_add_left (by decide : 3 ≤ 5) _, Nat.add_le_add_left (by decide : 12 ≤ 320) _⟩
  · skip
    exact absurd rfl h750
end LW2
