theorem dL_law_462 : decode cL_law 462 = .ok (.aload_n 1, 1) := by decide +kernel
theorem dL_law_463 : decode cL_law 463 = .ok (.aload_n 0, 1) := by decide +kernel
theorem dL_law_464 : decode cL_law 464 = .ok (.iload 5, 2) := by decide +kernel
theorem dL_law_466 : decode cL_law 466 = .ok (.iconst 1, 1) := by decide +kernel
theorem dL_law_467 : decode cL_law 467 = .ok (.iadd, 1) := by decide +kernel
theorem dL_law_468 : decode cL_law 468 = .ok (.iaload, 1) := by decide +kernel
theorem dL_law_469 : decode cL_law 469 = .ok (.aload_n 0, 1) := by decide +kernel
theorem dL_law_470 : decode cL_law 470 = .ok (.iload 5, 2) := by decide +kernel
theorem dL_law_472 : decode cL_law 472 = .ok (.iconst 2, 1) := by decide +kernel
theorem dL_law_473 : decode cL_law 473 = .ok (.iadd, 1) := by decide +kernel
theorem dL_law_474 : decode cL_law 474 = .ok (.iaload, 1) := by decide +kernel
theorem dL_law_475 : decode cL_law 475 = .ok (.i2c, 1) := by decide +kernel
theorem dL_law_476 : decode cL_law 476 = .ok (.aload_n 0, 1) := by decide +kernel
theorem dL_law_477 : decode cL_law 477 = .ok (.iload 5, 2) := by decide +kernel
theorem dL_law_479 : decode cL_law 479 = .ok (.iconst 3, 1) := by decide +kernel
theorem dL_law_480 : decode cL_law 480 = .ok (.iadd, 1) := by decide +kernel
theorem dL_law_481 : decode cL_law 481 = .ok (.iaload, 1) := by decide +kernel
theorem dL_law_482 : decode cL_law 482 = .ok (.aload_n 3, 1) := by decide +kernel
theorem dL_law_483 : decode cL_law 483 = .ok (.invokestatic 144, 3) := by decide +kernel
theorem dL_law_486 : decode cL_law 486 = .ok (.istore 6, 2) := by decide +kernel
theorem dL_law_488 : decode cL_law 488 = .ok (.aload_n 2, 1) := by decide +kernel
theorem dL_law_489 : decode cL_law 489 = .ok (.aload_n 0, 1) := by decide +kernel
theorem dL_law_490 : decode cL_law 490 = .ok (.iload 5, 2) := by decide +kernel
theorem dL_law_492 : decode cL_law 492 = .ok (.iconst 1, 1) := by decide +kernel
theorem dL_law_493 : decode cL_law 493 = .ok (.iadd, 1) := by decide +kernel
theorem dL_law_494 : decode cL_law 494 = .ok (.iaload, 1) := by decide +kernel
theorem dL_law_495 : decode cL_law 495 = .ok (.aload_n 0, 1) := by decide +kernel
theorem dL_law_496 : decode cL_law 496 = .ok (.iload 5, 2) := by decide +kernel
theorem dL_law_498 : decode cL_law 498 = .ok (.iconst 2, 1) := by decide +kernel
theorem dL_law_499 : decode cL_law 499 = .ok (.iadd, 1) := by decide +kernel
theorem dL_law_500 : decode cL_law 500 = .ok (.iaload, 1) := by decide +kernel
theorem dL_law_501 : decode cL_law 501 = .ok (.i2c, 1) := by decide +kernel
theorem dL_law_502 : decode cL_law 502 = .ok (.aload_n 0, 1) := by decide +kernel
theorem dL_law_503 : decode cL_law 503 = .ok (.iload 5, 2) := by decide +kernel
theorem dL_law_505 : decode cL_law 505 = .ok (.iconst 3, 1) := by decide +kernel
theorem dL_law_506 : decode cL_law 506 = .ok (.iadd, 1) := by decide +kernel
theorem dL_law_507 : decode cL_law 507 = .ok (.iaload, 1) := by decide +kernel
theorem dL_law_508 : decode cL_law 508 = .ok (.invokevirtual 146, 3) := by decide +kernel
theorem dL_law_511 : decode cL_law 511 = .ok (.istore 7, 2) := by decide +kernel
theorem dL_law_513 : decode cL_law 513 = .ok (.aload_n 2, 1) := by decide +kernel
theorem dL_law_514 : decode cL_law 514 = .ok (.invokevirtual 128, 3) := by decide +kernel
theorem dL_law_517 : decode cL_law 517 = .ok (.iload 6, 2) := by decide +kernel
theorem dL_law_519 : decode cL_law 519 = .ok (.if_icmp .eq 5, 3) := by decide +kernel
theorem dL_law_524 : decode cL_law 524 = .ok (.iload 6, 2) := by decide +kernel
theorem dL_law_526 : decode cL_law 526 = .ok (.ifCond .ne 15, 3) := by decide +kernel
theorem dL_law_529 : decode cL_law 529 = .ok (.aload_n 3, 1) := by decide +kernel
theorem dL_law_530 : decode cL_law 530 = .ok (.iconst 0, 1) := by decide +kernel
theorem dL_law_531 : decode cL_law 531 = .ok (.laload, 1) := by decide +kernel
theorem dL_law_532 : decode cL_law 532 = .ok (.iload 7, 2) := by decide +kernel
theorem dL_law_534 : decode cL_law 534 = .ok (.i2l, 1) := by decide +kernel
theorem dL_law_535 : decode cL_law 535 = .ok (.lcmp, 1) := by decide +kernel
theorem dL_law_536 : decode cL_law 536 = .ok (.ifCond .eq 5, 3) := by decide +kernel
theorem dL_law_541 : decode cL_law 541 = .ok (.goto 1744, 3) := by decide +kernel
theorem dL_law_544 : decode cL_law 544 = .ok (.aload_n 1, 1) := by decide +kernel
theorem dL_law_545 : decode cL_law 545 = .ok (.aload_n 0, 1) := by decide +kernel
theorem dL_law_546 : decode cL_law 546 = .ok (.iload 5, 2) := by decide +kernel
theorem dL_law_548 : decode cL_law 548 = .ok (.iconst 1, 1) := by decide +kernel
theorem dL_law_549 : decode cL_law 549 = .ok (.iadd, 1) := by decide +kernel
theorem dL_law_550 : decode cL_law 550 = .ok (.iaload, 1) := by decide +kernel
theorem dL_law_551 : decode cL_law 551 = .ok (.aload_n 0, 1) := by decide +kernel
theorem dL_law_552 : decode cL_law 552 = .ok (.iload 5, 2) := by decide +kernel
theorem dL_law_554 : decode cL_law 554 = .ok (.iconst 2, 1) := by decide +kernel
theorem dL_law_555 : decode cL_law 555 = .ok (.iadd, 1) := by decide +kernel
theorem dL_law_556 : decode cL_law 556 = .ok (.iaload, 1) := by decide +kernel
theorem dL_law_557 : decode cL_law 557 = .ok (.aload_n 3, 1) := by decide +kernel
theorem dL_law_558 : decode cL_law 558 = .ok (.invokestatic 147, 3) := by decide +kernel
theorem dL_law_561 : decode cL_law 561 = .ok (.istore 6, 2) := by decide +kernel
theorem dL_law_563 : decode cL_law 563 = .ok (.aload_n 2, 1) := by decide +kernel
theorem dL_law_564 : decode cL_law 564 = .ok (.aload_n 0, 1) := by decide +kernel
theorem dL_law_565 : decode cL_law 565 = .ok (.iload 5, 2) := by decide +kernel
theorem dL_law_567 : decode cL_law 567 = .ok (.iconst 1, 1) := by decide +kernel
theorem dL_law_568 : decode cL_law 568 = .ok (.iadd, 1) := by decide +kernel
theorem dL_law_569 : decode cL_law 569 = .ok (.iaload, 1) := by decide +kernel
theorem dL_law_570 : decode cL_law 570 = .ok (.aload_n 0, 1) := by decide +kernel
theorem dL_law_571 : decode cL_law 571 = .ok (.iload 5, 2) := by decide +kernel
theorem dL_law_573 : decode cL_law 573 = .ok (.iconst 2, 1) := by decide +kernel
theorem dL_law_574 : decode cL_law 574 = .ok (.iadd, 1) := by decide +kernel
theorem dL_law_575 : decode cL_law 575 = .ok (.iaload, 1) := by decide +kernel
theorem dL_law_576 : decode cL_law 576 = .ok (.invokevirtual 150, 3) := by decide +kernel
theorem dL_law_579 : decode cL_law 579 = .ok (.istore 7, 2) := by decide +kernel
theorem dL_law_581 : decode cL_law 581 = .ok (.aload_n 2, 1) := by decide +kernel
theorem dL_law_582 : decode cL_law 582 = .ok (.invokevirtual 128, 3) := by decide +kernel
theorem dL_law_585 : decode cL_law 585 = .ok (.iload 6, 2) := by decide +kernel
theorem dL_law_587 : decode cL_law 587 = .ok (.if_icmp .eq 5, 3) := by decide +kernel
theorem dL_law_592 : decode cL_law 592 = .ok (.iload 6, 2) := by decide +kernel
theorem dL_law_594 : decode cL_law 594 = .ok (.ifCond .ne 15, 3) := by decide +kernel
theorem dL_law_597 : decode cL_law 597 = .ok (.aload_n 3, 1) := by decide +kernel
theorem dL_law_598 : decode cL_law 598 = .ok (.iconst 0, 1) := by decide +kernel
theorem dL_law_599 : decode cL_law 599 = .ok (.laload, 1) := by decide +kernel
theorem dL_law_600 : decode cL_law 600 = .ok (.iload 7, 2) := by decide +kernel
theorem dL_law_602 : decode cL_law 602 = .ok (.i2l, 1) := by decide +kernel
theorem dL_law_603 : decode cL_law 603 = .ok (.lcmp, 1) := by decide +kernel
theorem dL_law_604 : decode cL_law 604 = .ok (.ifCond .eq 5, 3) := by decide +kernel
theorem dL_law_609 : decode cL_law 609 = .ok (.goto 1676, 3) := by decide +kernel
theorem dL_law_612 : decode cL_law 612 = .ok (.aload_n 1, 1) := by decide +kernel
theorem dL_law_613 : decode cL_law 613 = .ok (.aload_n 0, 1) := by decide +kernel
theorem dL_law_614 : decode cL_law 614 = .ok (.iload 5, 2) := by decide +kernel
theorem dL_law_616 : decode cL_law 616 = .ok (.iconst 1, 1) := by decide +kernel
theorem dL_law_617 : decode cL_law 617 = .ok (.iadd, 1) := by decide +kernel
theorem dL_law_618 : decode cL_law 618 = .ok (.iaload, 1) := by decide +kernel
theorem dL_law_619 : decode cL_law 619 = .ok (.aload_n 0, 1) := by decide +kernel
theorem dL_law_620 : decode cL_law 620 = .ok (.iload 5, 2) := by decide +kernel
theorem dL_law_622 : decode cL_law 622 = .ok (.iconst 2, 1) := by decide +kernel
theorem dL_law_623 : decode cL_law 623 = .ok (.iadd, 1) := by decide +kernel
theorem dL_law_624 : decode cL_law 624 = .ok (.iaload, 1) := by decide +kernel
theorem dL_law_625 : decode cL_law 625 = .ok (.ifCond .eq 7, 3) := by decide +kernel
theorem dL_law_628 : decode cL_law 628 = .ok (.iconst 1, 1) := by decide +kernel
theorem dL_law_629 : decode cL_law 629 = .ok (.goto 4, 3) := by decide +kernel
theorem dL_law_632 : decode cL_law 632 = .ok (.iconst 0, 1) := by decide +kernel
theorem dL_law_633 : decode cL_law 633 = .ok (.aload_n 3, 1) := by decide +kernel
theorem dL_law_634 : decode cL_law 634 = .ok (.invokestatic 151, 3) := by decide +kernel
theorem dL_law_637 : decode cL_law 637 = .ok (.istore 6, 2) := by decide +kernel
theorem dL_law_639 : decode cL_law 639 = .ok (.aload_n 2, 1) := by decide +kernel
theorem dL_law_640 : decode cL_law 640 = .ok (.aload_n 0, 1) := by decide +kernel
theorem dL_law_641 : decode cL_law 641 = .ok (.iload 5, 2) := by decide +kernel
theorem dL_law_643 : decode cL_law 643 = .ok (.iconst 1, 1) := by decide +kernel
theorem dL_law_644 : decode cL_law 644 = .ok (.iadd, 1) := by decide +kernel
theorem dL_law_645 : decode cL_law 645 = .ok (.iaload, 1) := by decide +kernel
theorem dL_law_646 : decode cL_law 646 = .ok (.aload_n 0, 1) := by decide +kernel
theorem dL_law_647 : decode cL_law 647 = .ok (.iload 5, 2) := by decide +kernel
theorem dL_law_649 : decode cL_law 649 = .ok (.iconst 2, 1) := by decide +kernel
theorem dL_law_650 : decode cL_law 650 = .ok (.iadd, 1) := by decide +kernel
theorem dL_law_651 : decode cL_law 651 = .ok (.iaload, 1) := by decide +kernel
theorem dL_law_652 : decode cL_law 652 = .ok (.ifCond .eq 7, 3) := by decide +kernel
theorem dL_law_655 : decode cL_law 655 = .ok (.iconst 1, 1) := by decide +kernel
theorem dL_law_656 : decode cL_law 656 = .ok (.goto 4, 3) := by decide +kernel
theorem dL_law_659 : decode cL_law 659 = .ok (.iconst 0, 1) := by decide +kernel
theorem dL_law_660 : decode cL_law 660 = .ok (.invokevirtual 154, 3) := by decide +kernel
theorem dL_law_663 : decode cL_law 663 = .ok (.istore 7, 2) := by decide +kernel
theorem dL_law_665 : decode cL_law 665 = .ok (.aload_n 2, 1) := by decide +kernel
theorem dL_law_666 : decode cL_law 666 = .ok (.invokevirtual 128, 3) := by decide +kernel
theorem dL_law_669 : decode cL_law 669 = .ok (.iload 6, 2) := by decide +kernel
theorem dL_law_671 : decode cL_law 671 = .ok (.if_icmp .eq 5, 3) := by decide +kernel
theorem dL_law_676 : decode cL_law 676 = .ok (.iload 6, 2) := by decide +kernel
theorem dL_law_678 : decode cL_law 678 = .ok (.ifCond .ne 22, 3) := by decide +kernel
theorem dL_law_681 : decode cL_law 681 = .ok (.aload_n 3, 1) := by decide +kernel
theorem dL_law_682 : decode cL_law 682 = .ok (.iconst 0, 1) := by decide +kernel
theorem dL_law_683 : decode cL_law 683 = .ok (.laload, 1) := by decide +kernel
theorem dL_law_684 : decode cL_law 684 = .ok (.iload 7, 2) := by decide +kernel
theorem dL_law_686 : decode cL_law 686 = .ok (.ifCond .eq 7, 3) := by decide +kernel
theorem dL_law_689 : decode cL_law 689 = .ok (.lconst 1, 1) := by decide +kernel
theorem dL_law_690 : decode cL_law 690 = .ok (.goto 4, 3) := by decide +kernel
theorem dL_law_693 : decode cL_law 693 = .ok (.lconst 0, 1) := by decide +kernel
theorem dL_law_694 : decode cL_law 694 = .ok (.lcmp, 1) := by decide +kernel
theorem dL_law_695 : decode cL_law 695 = .ok (.ifCond .eq 5, 3) := by decide +kernel
theorem dL_law_700 : decode cL_law 700 = .ok (.goto 1585, 3) := by decide +kernel
theorem dL_law_703 : decode cL_law 703 = .ok (.aload_n 1, 1) := by decide +kernel
theorem dL_law_704 : decode cL_law 704 = .ok (.aload_n 0, 1) := by decide +kernel
theorem dL_law_705 : decode cL_law 705 = .ok (.iload 5, 2) := by decide +kernel
theorem dL_law_707 : decode cL_law 707 = .ok (.iconst 1, 1) := by decide +kernel
theorem dL_law_708 : decode cL_law 708 = .ok (.iadd, 1) := by decide +kernel
theorem dL_law_709 : decode cL_law 709 = .ok (.iaload, 1) := by decide +kernel
theorem dL_law_710 : decode cL_law 710 = .ok (.aload_n 0, 1) := by decide +kernel
theorem dL_law_711 : decode cL_law 711 = .ok (.iload 5, 2) := by decide +kernel
theorem dL_law_713 : decode cL_law 713 = .ok (.iconst 2, 1) := by decide +kernel
theorem dL_law_714 : decode cL_law 714 = .ok (.iadd, 1) := by decide +kernel
theorem dL_law_715 : decode cL_law 715 = .ok (.iaload, 1) := by decide +kernel
theorem dL_law_716 : decode cL_law 716 = .ok (.i2c, 1) := by decide +kernel
theorem dL_law_717 : decode cL_law 717 = .ok (.aload_n 3, 1) := by decide +kernel
theorem dL_law_718 : decode cL_law 718 = .ok (.invokestatic 155, 3) := by decide +kernel
theorem dL_law_721 : decode cL_law 721 = .ok (.istore 6, 2) := by decide +kernel
theorem dL_law_723 : decode cL_law 723 = .ok (.aload_n 2, 1) := by decide +kernel
theorem dL_law_724 : decode cL_law 724 = .ok (.aload_n 0, 1) := by decide +kernel
theorem dL_law_725 : decode cL_law 725 = .ok (.iload 5, 2) := by decide +kernel
theorem dL_law_727 : decode cL_law 727 = .ok (.iconst 1, 1) := by decide +kernel
theorem dL_law_728 : decode cL_law 728 = .ok (.iadd, 1) := by decide +kernel
theorem dL_law_729 : decode cL_law 729 = .ok (.iaload, 1) := by decide +kernel
theorem dL_law_730 : decode cL_law 730 = .ok (.aload_n 0, 1) := by decide +kernel
theorem dL_law_731 : decode cL_law 731 = .ok (.iload 5, 2) := by decide +kernel
theorem dL_law_733 : decode cL_law 733 = .ok (.iconst 2, 1) := by decide +kernel
theorem dL_law_734 : decode cL_law 734 = .ok (.iadd, 1) := by decide +kernel
theorem dL_law_735 : decode cL_law 735 = .ok (.iaload, 1) := by decide +kernel
theorem dL_law_736 : decode cL_law 736 = .ok (.i2c, 1) := by decide +kernel
theorem dL_law_737 : decode cL_law 737 = .ok (.invokevirtual 158, 3) := by decide +kernel
theorem dL_law_740 : decode cL_law 740 = .ok (.istore 7, 2) := by decide +kernel
theorem dL_law_742 : decode cL_law 742 = .ok (.aload_n 2, 1) := by decide +kernel
theorem dL_law_743 : decode cL_law 743 = .ok (.invokevirtual 128, 3) := by decide +kernel
theorem dL_law_746 : decode cL_law 746 = .ok (.iload 6, 2) := by decide +kernel
theorem dL_law_748 : decode cL_law 748 = .ok (.if_icmp .eq 5, 3) := by decide +kernel
theorem dL_law_753 : decode cL_law 753 = .ok (.iload 6, 2) := by decide +kernel
theorem dL_law_755 : decode cL_law 755 = .ok (.ifCond .ne 15, 3) := by decide +kernel
theorem dL_law_758 : decode cL_law 758 = .ok (.aload_n 3, 1) := by decide +kernel
theorem dL_law_759 : decode cL_law 759 = .ok (.iconst 0, 1) := by decide +kernel
theorem dL_law_760 : decode cL_law 760 = .ok (.laload, 1) := by decide +kernel
theorem dL_law_761 : decode cL_law 761 = .ok (.iload 7, 2) := by decide +kernel
theorem dL_law_763 : decode cL_law 763 = .ok (.i2l, 1) := by decide +kernel
theorem dL_law_764 : decode cL_law 764 = .ok (.lcmp, 1) := by decide +kernel
theorem dL_law_765 : decode cL_law 765 = .ok (.ifCond .eq 5, 3) := by decide +kernel
theorem dL_law_770 : decode cL_law 770 = .ok (.goto 1515, 3) := by decide +kernel
section LC1
variable {G : hk_G} {l : Launch} {x m o od c nc nb t k n : Nat} {S : hs_S} {h : hk_H}
theorem lc_mint {w1 w2 w3 w4 u1 u2 u3 u4 : Int32} (hfl : l.stackTraces = false) (hj : hJ S c nc nb t) (ht : t < 512) (hL : 5 * t + 5 ≤ hk_K G 1101) (hw0 : hl_I G x m o od S c nc nb h) (hk : 220 ≤ k) (hn : 8000 ≤ n) (e1 : nI (hk_K G (4000 + (5 * t + 1))) = w1) (e2 : nI (hk_K G (4000 + (5 * t + 2))) = w2) (e3 : nI (hk_K G (4000 + (5 * t + 3))) = w3) (e4 : nI (hk_K G (4000 + (5 * t + 4))) = w4) (f1 : (w1.toUInt32 % 65536).toInt32 = u1) (f2 : (w2.toUInt32 % 65536).toInt32 = u2) (f3 : (w3.toUInt32 % 65536).toInt32 = u3) (f4 : (w4.toUInt32 % 65536).toInt32 = u4) (KK : hl_KK G l x m o od t (k - 220) (n - 8000)) : hk_W G l 12 yL_law cL_law 9 (some .boolean) [] hl_Qe hk_no k n h 462 (hl_lv G x m o od t) [] := by
  obtain ⟨A, g, hm, thr, f, fd, hA, rfl, hw, hd, ho, hod, rfl⟩ := hw0
  unfold hl_lv
  obtain ⟨ho1, hoA⟩ := hl_oA hw hd ho
  refine hk_aload_n dL_law_462 rfl rfl rfl ?_
  refine hk_aload_n dL_law_463 rfl rfl rfl ?_
  refine hk_iload dL_law_464 rfl rfl ?_
  refine hk_iconst (v := nI 1) dL_law_466 rfl (by decide) ?_
  refine hk_iadd dL_law_467 rfl ?_
  refine cx_top (nI_add _ _) ?_
  refine hl_sld rfl (by omega) dL_law_468 rfl (by omega) ?_
  refine cx_top e1 ?_
  refine hk_aload_n dL_law_469 rfl rfl rfl ?_
  refine hk_iload dL_law_470 rfl rfl ?_
  refine hk_iconst (v := nI 2) dL_law_472 rfl (by decide) ?_
  refine hk_iadd dL_law_473 rfl ?_
  refine cx_top (nI_add _ _) ?_
  refine hl_sld rfl (by omega) dL_law_474 rfl (by omega) ?_
  refine cx_top e2 ?_
  refine hk_i2c dL_law_475 rfl f2 ?_
  refine hk_aload_n dL_law_476 rfl rfl rfl ?_
  refine hk_iload dL_law_477 rfl rfl ?_
  refine hk_iconst (v := nI 3) dL_law_479 rfl (by decide) ?_
  refine hk_iadd dL_law_480 rfl ?_
  refine cx_top (nI_add _ _) ?_
  refine hl_sld rfl (by omega) dL_law_481 rfl (by omega) ?_
  refine cx_top e3 ?_
  refine hk_aload_n dL_law_482 rfl rfl rfl ?_
  refine hl_callS dL_law_483 rfl ls_L_144 (cl_mint (h := hm) hfl hA hj.I ho1 hoA) rfl rfl (by decide) ⟨by omega, by omega⟩ (Nat.le_of_ble_eq_true rfl) (hk_ki fun v1 h1 q1 => ?_) hk_nx
  refine hk_istore dL_law_486 rfl (by decide) rfl ?_
  rcases q1 with ⟨z, rfl, f9, hf9, rfl⟩ | ⟨z, rfl, rfl⟩
  · skip
    have hR := hl_R1 (f1 := f9) (S' := cs_mint S nc w1 u2 w3) hA hw hd ho hod
    obtain ⟨A9, thr9, -, -, hw1, -, -, -⟩ := id hR
    obtain ⟨fs1, hat1⟩ := hm_Wd_at hw1
    refine hk_aload_n dL_law_488 rfl rfl rfl ?_
    refine hk_aload_n dL_law_489 rfl rfl rfl ?_
    refine hk_iload dL_law_490 rfl rfl ?_
    refine hk_iconst (v := nI 1) dL_law_492 rfl (by decide) ?_
    refine hk_iadd dL_law_493 rfl ?_
    refine cx_top (nI_add _ _) ?_
    refine hl_sld rfl (by omega) dL_law_494 rfl (by omega) ?_
    refine cx_top e1 ?_
    refine hk_aload_n dL_law_495 rfl rfl rfl ?_
    refine hk_iload dL_law_496 rfl rfl ?_
    refine hk_iconst (v := nI 2) dL_law_498 rfl (by decide) ?_
    refine hk_iadd dL_law_499 rfl ?_
    refine cx_top (nI_add _ _) ?_
    refine hl_sld rfl (by omega) dL_law_500 rfl (by omega) ?_
    refine cx_top e2 ?_
    refine hk_i2c dL_law_501 rfl f2 ?_
    refine hk_aload_n dL_law_502 rfl rfl rfl ?_
    refine hk_iload dL_law_503 rfl rfl ?_
    refine hk_iconst (v := nI 3) dL_law_505 rfl (by decide) ?_
    refine hk_iadd dL_law_506 rfl ?_
    refine cx_top (nI_add _ _) ?_
    refine hl_sld rfl (by omega) dL_law_507 rfl (by omega) ?_
    refine cx_top e3 ?_
    refine hk_callV dL_law_508 rfl mv_L_146 (cm_mint hfl hw1 hj.h16) rfl rfl hat1 rfl rfl (by decide) ⟨by omega, by omega⟩ (Nat.le_of_ble_eq_true rfl) (hk_ki fun v2 h2 q2 => ?_) hk_nx
    refine hk_istore dL_law_511 rfl (by decide) rfl ?_
    obtain ⟨g2, hx2, q2⟩ := q2
    rcases q2 with ⟨z2, rfl, hw2⟩ | ⟨z2, hw2⟩
    · skip
      obtain ⟨hq2, hj2, hr2⟩ := st_mint hj ht z
      obtain ⟨hI2, ho3, hod3⟩ := hl_fin hR hx2 hw2 hq2
      obtain ⟨fs2, hat2⟩ := hm_Wd_at hw2
      refine hk_aload_n dL_law_513 rfl rfl rfl ?_
      refine hk_callV dL_law_514 rfl mv_L_128 (cm_thrown hfl hw2) rfl rfl hat2 rfl rfl (by decide) ⟨Nat.zero_le _, Nat.zero_le _⟩ (Nat.le_of_ble_eq_true rfl) (hk_ki fun v3 h3 q3 => ?_) hk_nx
      obtain ⟨rfl, rfl⟩ := q3
      refine hk_iload dL_law_517 rfl rfl ?_
      refine hk_icmp_eq (tgt := 524) dL_law_519 (by decide) rfl (fun _ => ?_) (fun zz => absurd rfl zz)
      refine hk_iload dL_law_524 rfl rfl ?_
      refine hk_if_ne (tgt := 541) dL_law_526 (by decide) rfl (fun zz => absurd rfl zz) (fun _ => ?_)
      refine hk_aload_n dL_law_529 rfl rfl rfl ?_
      refine hk_iconst (v := nI 0) dL_law_530 rfl (by decide) ?_
      refine hk_lald dL_law_531 rfl ho3 (vp_in_nI (by decide) (by decide)) ?_
      refine cx_topl (show f9 (nI 0).toNatClampNeg = _ from hf9) ?_
      refine hk_iload dL_law_532 rfl rfl ?_
      refine hk_i2l dL_law_534 rfl ?_
      refine hk_lcmp dL_law_535 rfl ?_
      refine hk_if_eq (tgt := 541) dL_law_536 (by decide) rfl (fun _ => ?_) (fun zz => absurd (lg_cmp_0.mpr (congrArg Int32.toInt64 hr2)) zz)
      refine hk_goto (tgt := 2285) dL_law_541 (by decide) ?_
      exact hl_go KK (by omega) (by omega) hj2 hI2 (hl_lvle _ _ _)
    · exact absurd (ml_tr_z z) z2
  · skip
    have hR := hl_R0 (S' := S) hA hw hd ho hod
    obtain ⟨A9, thr9, -, -, hw1, -, -, -⟩ := id hR
    obtain ⟨fs1, hat1⟩ := hm_Wd_at hw1
    refine hk_aload_n dL_law_488 rfl rfl rfl ?_
    refine hk_aload_n dL_law_489 rfl rfl rfl ?_
    refine hk_iload dL_law_490 rfl rfl ?_
    refine hk_iconst (v := nI 1) dL_law_492 rfl (by decide) ?_
    refine hk_iadd dL_law_493 rfl ?_
    refine cx_top (nI_add _ _) ?_
    refine hl_sld rfl (by omega) dL_law_494 rfl (by omega) ?_
    refine cx_top e1 ?_
    refine hk_aload_n dL_law_495 rfl rfl rfl ?_
    refine hk_iload dL_law_496 rfl rfl ?_
    refine hk_iconst (v := nI 2) dL_law_498 rfl (by decide) ?_
    refine hk_iadd dL_law_499 rfl ?_
    refine cx_top (nI_add _ _) ?_
    refine hl_sld rfl (by omega) dL_law_500 rfl (by omega) ?_
    refine cx_top e2 ?_
    refine hk_i2c dL_law_501 rfl f2 ?_
    refine hk_aload_n dL_law_502 rfl rfl rfl ?_
    refine hk_iload dL_law_503 rfl rfl ?_
    refine hk_iconst (v := nI 3) dL_law_505 rfl (by decide) ?_
    refine hk_iadd dL_law_506 rfl ?_
    refine cx_top (nI_add _ _) ?_
    refine hl_sld rfl (by omega) dL_law_507 rfl (by omega) ?_
    refine cx_top e3 ?_
    refine hk_callV dL_law_508 rfl mv_L_146 (cm_mint hfl hw1 hj.h16) rfl rfl hat1 rfl rfl (by decide) ⟨by omega, by omega⟩ (Nat.le_of_ble_eq_true rfl) (hk_ki fun v2 h2 q2 => ?_) hk_nx
    refine hk_istore dL_law_511 rfl (by decide) rfl ?_
    obtain ⟨g2, hx2, q2⟩ := q2
    rcases q2 with ⟨z2, rfl, hw2⟩ | ⟨z2, hw2⟩
    · exact absurd z2 (ml_tr_p z (by decide)).1
    · skip
      obtain ⟨hI2, ho3, hod3⟩ := hl_fin hR hx2 hw2 hm_q.rf
      obtain ⟨fs2, hat2⟩ := hm_Wd_at hw2
      refine hk_aload_n dL_law_513 rfl rfl rfl ?_
      refine hk_callV dL_law_514 rfl mv_L_128 (cm_thrown hfl hw2) rfl rfl hat2 rfl rfl (by decide) ⟨Nat.zero_le _, Nat.zero_le _⟩ (Nat.le_of_ble_eq_true rfl) (hk_ki fun v3 h3 q3 => ?_) hk_nx
      obtain ⟨rfl, rfl⟩ := q3
      refine hk_iload dL_law_517 rfl rfl ?_
      refine hk_icmp_eq (tgt := 524) dL_law_519 (by decide) rfl (fun _ => ?_) (fun zz => absurd rfl zz)
      refine hk_iload dL_law_524 rfl rfl ?_
      refine hk_if_ne (tgt := 541) dL_law_526 (by decide) rfl (fun _ => ?_) (fun zz => absurd zz (nI_ne0 (Nat.pos_of_ne_zero (ml_tr_p z (by decide)).1) (ml_tr_p z (by decide)).2))
      refine hk_goto (tgt := 2285) dL_law_541 (by decide) ?_
      exact hl_go KK (by omega) (by omega) (hj.up (Nat.le_succ t)) hI2 (hl_lvle _ _ _)
theorem lc_clip {w1 w2 w3 w4 u1 u2 u3 u4 : Int32} (hfl : l.stackTraces = false) (hj : hJ S c nc nb t) (ht : t < 512) (hL : 5 * t + 5 ≤ hk_K G 1101) (hw0 : hl_I G x m o od S c nc nb h) (hk : 220 ≤ k) (hn : 8000 ≤ n) (e1 : nI (hk_K G (4000 + (5 * t + 1))) = w1) (e2 : nI (hk_K G (4000 + (5 * t + 2))) = w2) (e3 : nI (hk_K G (4000 + (5 * t + 3))) = w3) (e4 : nI (hk_K G (4000 + (5 * t + 4))) = w4) (f1 : (w1.toUInt32 % 65536).toInt32 = u1) (f2 : (w2.toUInt32 % 65536).toInt32 = u2) (f3 : (w3.toUInt32 % 65536).toInt32 = u3) (f4 : (w4.toUInt32 % 65536).toInt32 = u4) (KK : hl_KK G l x m o od t (k - 220) (n - 8000)) : hk_W G l 12 yL_law cL_law 9 (some .boolean) [] hl_Qe hk_no k n h 544 (hl_lv G x m o od t) [] := by
  obtain ⟨A, g, hm, thr, f, fd, hA, rfl, hw, hd, ho, hod, rfl⟩ := hw0
  unfold hl_lv
  obtain ⟨ho1, hoA⟩ := hl_oA hw hd ho
  refine hk_aload_n dL_law_544 rfl rfl rfl ?_
  refine hk_aload_n dL_law_545 rfl rfl rfl ?_
  refine hk_iload dL_law_546 rfl rfl ?_
  refine hk_iconst (v := nI 1) dL_law_548 rfl (by decide) ?_
  refine hk_iadd dL_law_549 rfl ?_
  refine cx_top (nI_add _ _) ?_
  refine hl_sld rfl (by omega) dL_law_550 rfl (by omega) ?_
  refine cx_top e1 ?_
  refine hk_aload_n dL_law_551 rfl rfl rfl ?_
  refine hk_iload dL_law_552 rfl rfl ?_
  refine hk_iconst (v := nI 2) dL_law_554 rfl (by decide) ?_
  refine hk_iadd dL_law_555 rfl ?_
  refine cx_top (nI_add _ _) ?_
  refine hl_sld rfl (by omega) dL_law_556 rfl (by omega) ?_
  refine cx_top e2 ?_
  refine hk_aload_n dL_law_557 rfl rfl rfl ?_
  refine hl_callS dL_law_558 rfl ls_L_147 (cl_clip (h := hm) hfl hA hj.I ho1 hoA) rfl rfl (by decide) ⟨by omega, by omega⟩ (Nat.le_of_ble_eq_true rfl) (hk_ki fun v1 h1 q1 => ?_) hk_nx
  refine hk_istore dL_law_561 rfl (by decide) rfl ?_
  rcases q1 with ⟨z, rfl, f9, hf9, rfl⟩ | ⟨z, rfl, rfl⟩
  · skip
    have hR := hl_R1 (f1 := f9) (S' := cs_clip S w1 w2) hA hw hd ho hod
    obtain ⟨A9, thr9, -, -, hw1, -, -, -⟩ := id hR
    obtain ⟨fs1, hat1⟩ := hm_Wd_at hw1
    refine hk_aload_n dL_law_563 rfl rfl rfl ?_
    refine hk_aload_n dL_law_564 rfl rfl rfl ?_
    refine hk_iload dL_law_565 rfl rfl ?_
    refine hk_iconst (v := nI 1) dL_law_567 rfl (by decide) ?_
    refine hk_iadd dL_law_568 rfl ?_
    refine cx_top (nI_add _ _) ?_
    refine hl_sld rfl (by omega) dL_law_569 rfl (by omega) ?_
    refine cx_top e1 ?_
    refine hk_aload_n dL_law_570 rfl rfl rfl ?_
    refine hk_iload dL_law_571 rfl rfl ?_
    refine hk_iconst (v := nI 2) dL_law_573 rfl (by decide) ?_
    refine hk_iadd dL_law_574 rfl ?_
    refine cx_top (nI_add _ _) ?_
    refine hl_sld rfl (by omega) dL_law_575 rfl (by omega) ?_
    refine cx_top e2 ?_
    refine hk_callV dL_law_576 rfl mv_L_150 (cm_clip hfl hw1 hj.C) rfl rfl hat1 rfl rfl (by decide) ⟨by omega, by omega⟩ (Nat.le_of_ble_eq_true rfl) (hk_ki fun v2 h2 q2 => ?_) hk_nx
    refine hk_istore dL_law_579 rfl (by decide) rfl ?_
    obtain ⟨g2, hx2, q2⟩ := q2
    rcases q2 with ⟨z2, rfl, hw2⟩ | ⟨z2, hw2⟩
    · skip
      obtain ⟨hq2, hj2, hr2⟩ := st_clip hj ht z
      obtain ⟨hI2, ho3, hod3⟩ := hl_fin hR hx2 hw2 hq2
      obtain ⟨fs2, hat2⟩ := hm_Wd_at hw2
      refine hk_aload_n dL_law_581 rfl rfl rfl ?_
      refine hk_callV dL_law_582 rfl mv_L_128 (cm_thrown hfl hw2) rfl rfl hat2 rfl rfl (by decide) ⟨Nat.zero_le _, Nat.zero_le _⟩ (Nat.le_of_ble_eq_true rfl) (hk_ki fun v3 h3 q3 => ?_) hk_nx
      obtain ⟨rfl, rfl⟩ := q3
      refine hk_iload dL_law_585 rfl rfl ?_
      refine hk_icmp_eq (tgt := 592) dL_law_587 (by decide) rfl (fun _ => ?_) (fun zz => absurd rfl zz)
      refine hk_iload dL_law_592 rfl rfl ?_
      refine hk_if_ne (tgt := 609) dL_law_594 (by decide) rfl (fun zz => absurd rfl zz) (fun _ => ?_)
      refine hk_aload_n dL_law_597 rfl rfl rfl ?_
      refine hk_iconst (v := nI 0) dL_law_598 rfl (by decide) ?_
      refine hk_lald dL_law_599 rfl ho3 (vp_in_nI (by decide) (by decide)) ?_
      refine cx_topl (show f9 (nI 0).toNatClampNeg = _ from hf9) ?_
      refine hk_iload dL_law_600 rfl rfl ?_
      refine hk_i2l dL_law_602 rfl ?_
      refine hk_lcmp dL_law_603 rfl ?_
      refine hk_if_eq (tgt := 609) dL_law_604 (by decide) rfl (fun _ => ?_) (fun zz => absurd (lg_cmp_0.mpr (congrArg Int32.toInt64 hr2)) zz)
      refine hk_goto (tgt := 2285) dL_law_609 (by decide) ?_
      exact hl_go KK (by omega) (by omega) hj2 hI2 (hl_lvle _ _ _)
    · exact absurd (ml_tr_z z) z2
  · skip
    have hR := hl_R0 (S' := S) hA hw hd ho hod
    obtain ⟨A9, thr9, -, -, hw1, -, -, -⟩ := id hR
    obtain ⟨fs1, hat1⟩ := hm_Wd_at hw1
    refine hk_aload_n dL_law_563 rfl rfl rfl ?_
    refine hk_aload_n dL_law_564 rfl rfl rfl ?_
    refine hk_iload dL_law_565 rfl rfl ?_
    refine hk_iconst (v := nI 1) dL_law_567 rfl (by decide) ?_
    refine hk_iadd dL_law_568 rfl ?_
    refine cx_top (nI_add _ _) ?_
    refine hl_sld rfl (by omega) dL_law_569 rfl (by omega) ?_
    refine cx_top e1 ?_
    refine hk_aload_n dL_law_570 rfl rfl rfl ?_
    refine hk_iload dL_law_571 rfl rfl ?_
    refine hk_iconst (v := nI 2) dL_law_573 rfl (by decide) ?_
    refine hk_iadd dL_law_574 rfl ?_
    refine cx_top (nI_add _ _) ?_
    refine hl_sld rfl (by omega) dL_law_575 rfl (by omega) ?_
    refine cx_top e2 ?_
    refine hk_callV dL_law_576 rfl mv_L_150 (cm_clip hfl hw1 hj.C) rfl rfl hat1 rfl rfl (by decide) ⟨by omega, by omega⟩ (Nat.le_of_ble_eq_true rfl) (hk_ki fun v2 h2 q2 => ?_) hk_nx
    refine hk_istore dL_law_579 rfl (by decide) rfl ?_
    obtain ⟨g2, hx2, q2⟩ := q2
    rcases q2 with ⟨z2, rfl, hw2⟩ | ⟨z2, hw2⟩
    · exact absurd z2 (ml_tr_p z (by decide)).1
    · skip
      obtain ⟨hI2, ho3, hod3⟩ := hl_fin hR hx2 hw2 hm_q.rf
      obtain ⟨fs2, hat2⟩ := hm_Wd_at hw2
      refine hk_aload_n dL_law_581 rfl rfl rfl ?_
      refine hk_callV dL_law_582 rfl mv_L_128 (cm_thrown hfl hw2) rfl rfl hat2 rfl rfl (by decide) ⟨Nat.zero_le _, Nat.zero_le _⟩ (Nat.le_of_ble_eq_true rfl) (hk_ki fun v3 h3 q3 => ?_) hk_nx
      obtain ⟨rfl, rfl⟩ := q3
      refine hk_iload dL_law_585 rfl rfl ?_
      refine hk_icmp_eq (tgt := 592) dL_law_587 (by decide) rfl (fun _ => ?_) (fun zz => absurd rfl zz)
      refine hk_iload dL_law_592 rfl rfl ?_
      refine hk_if_ne (tgt := 609) dL_law_594 (by decide) rfl (fun _ => ?_) (fun zz => absurd zz (nI_ne0 (Nat.pos_of_ne_zero (ml_tr_p z (by decide)).1) (ml_tr_p z (by decide)).2))
      refine hk_goto (tgt := 2285) dL_law_609 (by decide) ?_
      exact hl_go KK (by omega) (by omega) (hj.up (Nat.le_succ t)) hI2 (hl_lvle _ _ _)
theorem lc_hoard {w1 w2 w3 w4 u1 u2 u3 u4 : Int32} (hfl : l.stackTraces = false) (hj : hJ S c nc nb t) (ht : t < 512) (hL : 5 * t + 5 ≤ hk_K G 1101) (hw0 : hl_I G x m o od S c nc nb h) (hk : 220 ≤ k) (hn : 8000 ≤ n) (e1 : nI (hk_K G (4000 + (5 * t + 1))) = w1) (e2 : nI (hk_K G (4000 + (5 * t + 2))) = w2) (e3 : nI (hk_K G (4000 + (5 * t + 3))) = w3) (e4 : nI (hk_K G (4000 + (5 * t + 4))) = w4) (f1 : (w1.toUInt32 % 65536).toInt32 = u1) (f2 : (w2.toUInt32 % 65536).toInt32 = u2) (f3 : (w3.toUInt32 % 65536).toInt32 = u3) (f4 : (w4.toUInt32 % 65536).toInt32 = u4) (KK : hl_KK G l x m o od t (k - 220) (n - 8000)) : hk_W G l 12 yL_law cL_law 9 (some .boolean) [] hl_Qe hk_no k n h 612 (hl_lv G x m o od t) [] := by
  obtain ⟨A, g, hm, thr, f, fd, hA, rfl, hw, hd, ho, hod, rfl⟩ := hw0
  unfold hl_lv
  obtain ⟨ho1, hoA⟩ := hl_oA hw hd ho
  by_cases w2z : w2 = 0
  · skip
    refine hk_aload_n dL_law_612 rfl rfl rfl ?_
    refine hk_aload_n dL_law_613 rfl rfl rfl ?_
    refine hk_iload dL_law_614 rfl rfl ?_
    refine hk_iconst (v := nI 1) dL_law_616 rfl (by decide) ?_
    refine hk_iadd dL_law_617 rfl ?_
    refine cx_top (nI_add _ _) ?_
    refine hl_sld rfl (by omega) dL_law_618 rfl (by omega) ?_
    refine cx_top e1 ?_
    refine hk_aload_n dL_law_619 rfl rfl rfl ?_
    refine hk_iload dL_law_620 rfl rfl ?_
    refine hk_iconst (v := nI 2) dL_law_622 rfl (by decide) ?_
    refine hk_iadd dL_law_623 rfl ?_
    refine cx_top (nI_add _ _) ?_
    refine hl_sld rfl (by omega) dL_law_624 rfl (by omega) ?_
    refine cx_top e2 ?_
    refine hk_if_eq (tgt := 632) dL_law_625 (by decide) rfl (fun _ => ?_) (fun zz => absurd w2z zz)
    refine hk_iconst (v := nI 0) dL_law_632 rfl (by decide) ?_
    refine hk_aload_n dL_law_633 rfl rfl rfl ?_
    refine hl_callS dL_law_634 rfl ls_L_151 (cl_hoard (h := hm) hfl hA hj.I (nar_b (by decide)) ho1 hoA) rfl rfl (by decide) ⟨by omega, by omega⟩ (Nat.le_of_ble_eq_true rfl) (hk_ki fun v1 h1 q1 => ?_) hk_nx
    refine hk_istore dL_law_637 rfl (by decide) rfl ?_
    rcases q1 with ⟨z, rfl, f9, hf9, rfl⟩ | ⟨z, rfl, rfl⟩
    · skip
      have hR := hl_R1 (f1 := f9) (S' := hs_su S 17 (vN w1) (nI 0)) hA hw hd ho hod
      obtain ⟨A9, thr9, -, -, hw1, -, -, -⟩ := id hR
      obtain ⟨fs1, hat1⟩ := hm_Wd_at hw1
      refine hk_aload_n dL_law_639 rfl rfl rfl ?_
      refine hk_aload_n dL_law_640 rfl rfl rfl ?_
      refine hk_iload dL_law_641 rfl rfl ?_
      refine hk_iconst (v := nI 1) dL_law_643 rfl (by decide) ?_
      refine hk_iadd dL_law_644 rfl ?_
      refine cx_top (nI_add _ _) ?_
      refine hl_sld rfl (by omega) dL_law_645 rfl (by omega) ?_
      refine cx_top e1 ?_
      refine hk_aload_n dL_law_646 rfl rfl rfl ?_
      refine hk_iload dL_law_647 rfl rfl ?_
      refine hk_iconst (v := nI 2) dL_law_649 rfl (by decide) ?_
      refine hk_iadd dL_law_650 rfl ?_
      refine cx_top (nI_add _ _) ?_
      refine hl_sld rfl (by omega) dL_law_651 rfl (by omega) ?_
      refine cx_top e2 ?_
      refine hk_if_eq (tgt := 659) dL_law_652 (by decide) rfl (fun _ => ?_) (fun zz => absurd w2z zz)
      refine hk_iconst (v := nI 0) dL_law_659 rfl (by decide) ?_
      refine hk_callV dL_law_660 rfl mv_L_154 (cm_hoard hfl hw1 hj.C (by decide) hj.b17) rfl rfl hat1 rfl rfl (by decide) ⟨by omega, by omega⟩ (Nat.le_of_ble_eq_true rfl) (hk_ki fun v2 h2 q2 => ?_) hk_nx
      refine hk_istore dL_law_663 rfl (by decide) rfl ?_
      obtain ⟨g2, hx2, q2⟩ := q2
      rcases q2 with ⟨z2, rfl, hw2⟩ | ⟨z2, hw2⟩
      · skip
        obtain ⟨hq2, hj2, hr2⟩ := st_hoard hj ht (Or.inl (rfl : nI 0 = nI 0)) z
        obtain ⟨hI2, ho3, hod3⟩ := hl_fin hR hx2 hw2 hq2
        obtain ⟨fs2, hat2⟩ := hm_Wd_at hw2
        refine hk_aload_n dL_law_665 rfl rfl rfl ?_
        refine hk_callV dL_law_666 rfl mv_L_128 (cm_thrown hfl hw2) rfl rfl hat2 rfl rfl (by decide) ⟨Nat.zero_le _, Nat.zero_le _⟩ (Nat.le_of_ble_eq_true rfl) (hk_ki fun v3 h3 q3 => ?_) hk_nx
        obtain ⟨rfl, rfl⟩ := q3
        refine hk_iload dL_law_669 rfl rfl ?_
        refine hk_icmp_eq (tgt := 676) dL_law_671 (by decide) rfl (fun _ => ?_) (fun zz => absurd rfl zz)
        refine hk_iload dL_law_676 rfl rfl ?_
        refine hk_if_ne (tgt := 700) dL_law_678 (by decide) rfl (fun zz => absurd rfl zz) (fun _ => ?_)
        refine hk_aload_n dL_law_681 rfl rfl rfl ?_
        refine hk_iconst (v := nI 0) dL_law_682 rfl (by decide) ?_
        refine hk_lald dL_law_683 rfl ho3 (vp_in_nI (by decide) (by decide)) ?_
        refine cx_topl (show f9 (nI 0).toNatClampNeg = _ from hf9) ?_
        refine hk_iload dL_law_684 rfl rfl ?_
        refine hk_if_eq (tgt := 693) dL_law_686 (by decide) rfl (fun y9 => ?_) (fun y9 => ?_)
        · skip
          refine hk_lconst (v := 0) dL_law_693 rfl (by decide) ?_
          refine hk_lcmp dL_law_694 rfl ?_
          refine hk_if_eq (tgt := 700) dL_law_695 (by decide) rfl (fun _ => ?_) (fun zz => absurd (lg_cmp_0.mpr (if_pos y9)) zz)
          refine hk_goto (tgt := 2285) dL_law_700 (by decide) ?_
          exact hl_go KK (by omega) (by omega) hj2 hI2 (hl_lvle _ _ _)
        · skip
          refine hk_lconst (v := 1) dL_law_689 rfl (by decide) ?_
          refine hk_goto (tgt := 694) dL_law_690 (by decide) ?_
          refine hk_lcmp dL_law_694 rfl ?_
          refine hk_if_eq (tgt := 700) dL_law_695 (by decide) rfl (fun _ => ?_) (fun zz => absurd (lg_cmp_0.mpr (if_neg y9)) zz)
          refine hk_goto (tgt := 2285) dL_law_700 (by decide) ?_
          exact hl_go KK (by omega) (by omega) hj2 hI2 (hl_lvle _ _ _)
      · exact absurd (ml_tr_z z) z2
    · skip
      have hR := hl_R0 (S' := S) hA hw hd ho hod
      obtain ⟨A9, thr9, -, -, hw1, -, -, -⟩ := id hR
      obtain ⟨fs1, hat1⟩ := hm_Wd_at hw1
      refine hk_aload_n dL_law_639 rfl rfl rfl ?_
      refine hk_aload_n dL_law_640 rfl rfl rfl ?_
      refine hk_iload dL_law_641 rfl rfl ?_
      refine hk_iconst (v := nI 1) dL_law_643 rfl (by decide) ?_
      refine hk_iadd dL_law_644 rfl ?_
      refine cx_top (nI_add _ _) ?_
      refine hl_sld rfl (by omega) dL_law_645 rfl (by omega) ?_
      refine cx_top e1 ?_
      refine hk_aload_n dL_law_646 rfl rfl rfl ?_
      refine hk_iload dL_law_647 rfl rfl ?_
      refine hk_iconst (v := nI 2) dL_law_649 rfl (by decide) ?_
      refine hk_iadd dL_law_650 rfl ?_
      refine cx_top (nI_add _ _) ?_
      refine hl_sld rfl (by omega) dL_law_651 rfl (by omega) ?_
      refine cx_top e2 ?_
      refine hk_if_eq (tgt := 659) dL_law_652 (by decide) rfl (fun _ => ?_) (fun zz => absurd w2z zz)
      refine hk_iconst (v := nI 0) dL_law_659 rfl (by decide) ?_
      refine hk_callV dL_law_660 rfl mv_L_154 (cm_hoard hfl hw1 hj.C (by decide) hj.b17) rfl rfl hat1 rfl rfl (by decide) ⟨by omega, by omega⟩ (Nat.le_of_ble_eq_true rfl) (hk_ki fun v2 h2 q2 => ?_) hk_nx
      refine hk_istore dL_law_663 rfl (by decide) rfl ?_
      obtain ⟨g2, hx2, q2⟩ := q2
      rcases q2 with ⟨z2, rfl, hw2⟩ | ⟨z2, hw2⟩
      · exact absurd z2 (ml_tr_p z (by decide)).1
      · skip
        obtain ⟨hI2, ho3, hod3⟩ := hl_fin hR hx2 hw2 hm_q.rf
        obtain ⟨fs2, hat2⟩ := hm_Wd_at hw2
        refine hk_aload_n dL_law_665 rfl rfl rfl ?_
        refine hk_callV dL_law_666 rfl mv_L_128 (cm_thrown hfl hw2) rfl rfl hat2 rfl rfl (by decide) ⟨Nat.zero_le _, Nat.zero_le _⟩ (Nat.le_of_ble_eq_true rfl) (hk_ki fun v3 h3 q3 => ?_) hk_nx
        obtain ⟨rfl, rfl⟩ := q3
        refine hk_iload dL_law_669 rfl rfl ?_
        refine hk_icmp_eq (tgt := 676) dL_law_671 (by decide) rfl (fun _ => ?_) (fun zz => absurd rfl zz)
        refine hk_iload dL_law_676 rfl rfl ?_
        refine hk_if_ne (tgt := 700) dL_law_678 (by decide) rfl (fun _ => ?_) (fun zz => absurd zz (nI_ne0 (Nat.pos_of_ne_zero (ml_tr_p z (by decide)).1) (ml_tr_p z (by decide)).2))
        refine hk_goto (tgt := 2285) dL_law_700 (by decide) ?_
        exact hl_go KK (by omega) (by omega) (hj.up (Nat.le_succ t)) hI2 (hl_lvle _ _ _)
  · skip
    refine hk_aload_n dL_law_612 rfl rfl rfl ?_
    refine hk_aload_n dL_law_613 rfl rfl rfl ?_
    refine hk_iload dL_law_614 rfl rfl ?_
    refine hk_iconst (v := nI 1) dL_law_616 rfl (by decide) ?_
    refine hk_iadd dL_law_617 rfl ?_
    refine cx_top (nI_add _ _) ?_
    refine hl_sld rfl (by omega) dL_law_618 rfl (by omega) ?_
    refine cx_top e1 ?_
    refine hk_aload_n dL_law_619 rfl rfl rfl ?_
    refine hk_iload dL_law_620 rfl rfl ?_
    refine hk_iconst (v := nI 2) dL_law_622 rfl (by decide) ?_
    refine hk_iadd dL_law_623 rfl ?_
    refine cx_top (nI_add _ _) ?_
    refine hl_sld rfl (by omega) dL_law_624 rfl (by omega) ?_
    refine cx_top e2 ?_
    refine hk_if_eq (tgt := 632) dL_law_625 (by decide) rfl (fun zz => absurd zz w2z) (fun _ => ?_)
    refine hk_iconst (v := nI 1) dL_law_628 rfl (by decide) ?_
    refine hk_goto (tgt := 633) dL_law_629 (by decide) ?_
    refine hk_aload_n dL_law_633 rfl rfl rfl ?_
    refine hl_callS dL_law_634 rfl ls_L_151 (cl_hoard (h := hm) hfl hA hj.I (nar_b (by decide)) ho1 hoA) rfl rfl (by decide) ⟨by omega, by omega⟩ (Nat.le_of_ble_eq_true rfl) (hk_ki fun v1 h1 q1 => ?_) hk_nx
    refine hk_istore dL_law_637 rfl (by decide) rfl ?_
    rcases q1 with ⟨z, rfl, f9, hf9, rfl⟩ | ⟨z, rfl, rfl⟩
    · skip
      have hR := hl_R1 (f1 := f9) (S' := hs_su S 17 (vN w1) (nI 1)) hA hw hd ho hod
      obtain ⟨A9, thr9, -, -, hw1, -, -, -⟩ := id hR
      obtain ⟨fs1, hat1⟩ := hm_Wd_at hw1
      refine hk_aload_n dL_law_639 rfl rfl rfl ?_
      refine hk_aload_n dL_law_640 rfl rfl rfl ?_
      refine hk_iload dL_law_641 rfl rfl ?_
      refine hk_iconst (v := nI 1) dL_law_643 rfl (by decide) ?_
      refine hk_iadd dL_law_644 rfl ?_
      refine cx_top (nI_add _ _) ?_
      refine hl_sld rfl (by omega) dL_law_645 rfl (by omega) ?_
      refine cx_top e1 ?_
      refine hk_aload_n dL_law_646 rfl rfl rfl ?_
      refine hk_iload dL_law_647 rfl rfl ?_
      refine hk_iconst (v := nI 2) dL_law_649 rfl (by decide) ?_
      refine hk_iadd dL_law_650 rfl ?_
      refine cx_top (nI_add _ _) ?_
      refine hl_sld rfl (by omega) dL_law_651 rfl (by omega) ?_
      refine cx_top e2 ?_
      refine hk_if_eq (tgt := 659) dL_law_652 (by decide) rfl (fun zz => absurd zz w2z) (fun _ => ?_)
      refine hk_iconst (v := nI 1) dL_law_655 rfl (by decide) ?_
      refine hk_goto (tgt := 660) dL_law_656 (by decide) ?_
      refine hk_callV dL_law_660 rfl mv_L_154 (cm_hoard hfl hw1 hj.C (by decide) hj.b17) rfl rfl hat1 rfl rfl (by decide) ⟨by omega, by omega⟩ (Nat.le_of_ble_eq_true rfl) (hk_ki fun v2 h2 q2 => ?_) hk_nx
      refine hk_istore dL_law_663 rfl (by decide) rfl ?_
      obtain ⟨g2, hx2, q2⟩ := q2
      rcases q2 with ⟨z2, rfl, hw2⟩ | ⟨z2, hw2⟩
      · skip
        obtain ⟨hq2, hj2, hr2⟩ := st_hoard hj ht (Or.inr (rfl : nI 1 = nI 1)) z
        obtain ⟨hI2, ho3, hod3⟩ := hl_fin hR hx2 hw2 hq2
        obtain ⟨fs2, hat2⟩ := hm_Wd_at hw2
        refine hk_aload_n dL_law_665 rfl rfl rfl ?_
        refine hk_callV dL_law_666 rfl mv_L_128 (cm_thrown hfl hw2) rfl rfl hat2 rfl rfl (by decide) ⟨Nat.zero_le _, Nat.zero_le _⟩ (Nat.le_of_ble_eq_true rfl) (hk_ki fun v3 h3 q3 => ?_) hk_nx
        obtain ⟨rfl, rfl⟩ := q3
        refine hk_iload dL_law_669 rfl rfl ?_
        refine hk_icmp_eq (tgt := 676) dL_law_671 (by decide) rfl (fun _ => ?_) (fun zz => absurd rfl zz)
        refine hk_iload dL_law_676 rfl rfl ?_
        refine hk_if_ne (tgt := 700) dL_law_678 (by decide) rfl (fun zz => absurd rfl zz) (fun _ => ?_)
        refine hk_aload_n dL_law_681 rfl rfl rfl ?_
        refine hk_iconst (v := nI 0) dL_law_682 rfl (by decide) ?_
        refine hk_lald dL_law_683 rfl ho3 (vp_in_nI (by decide) (by decide)) ?_
        refine cx_topl (show f9 (nI 0).toNatClampNeg = _ from hf9) ?_
        refine hk_iload dL_law_684 rfl rfl ?_
        refine hk_if_eq (tgt := 693) dL_law_686 (by decide) rfl (fun y9 => ?_) (fun y9 => ?_)
        · skip
          refine hk_lconst (v := 0) dL_law_693 rfl (by decide) ?_
          refine hk_lcmp dL_law_694 rfl ?_
          refine hk_if_eq (tgt := 700) dL_law_695 (by decide) rfl (fun _ => ?_) (fun zz => absurd (lg_cmp_0.mpr (if_pos y9)) zz)
          refine hk_goto (tgt := 2285) dL_law_700 (by decide) ?_
          exact hl_go KK (by omega) (by omega) hj2 hI2 (hl_lvle _ _ _)
        · skip
          refine hk_lconst (v := 1) dL_law_689 rfl (by decide) ?_
          refine hk_goto (tgt := 694) dL_law_690 (by decide) ?_
          refine hk_lcmp dL_law_694 rfl ?_
          refine hk_if_eq (tgt := 700) dL_law_695 (by decide) rfl (fun _ => ?_) (fun zz => absurd (lg_cmp_0.mpr (if_neg y9)) zz)
          refine hk_goto (tgt := 2285) dL_law_700 (by decide) ?_
          exact hl_go KK (by omega) (by omega) hj2 hI2 (hl_lvle _ _ _)
      · exact absurd (ml_tr_z z) z2
    · skip
      have hR := hl_R0 (S' := S) hA hw hd ho hod
      obtain ⟨A9, thr9, -, -, hw1, -, -, -⟩ := id hR
      obtain ⟨fs1, hat1⟩ := hm_Wd_at hw1
      refine hk_aload_n dL_law_639 rfl rfl rfl ?_
      refine hk_aload_n dL_law_640 rfl rfl rfl ?_
      refine hk_iload dL_law_641 rfl rfl ?_
      refine hk_iconst (v := nI 1) dL_law_643 rfl (by decide) ?_
      refine hk_iadd dL_law_644 rfl ?_
      refine cx_top (nI_add _ _) ?_
      refine hl_sld rfl (by omega) dL_law_645 rfl (by omega) ?_
      refine cx_top e1 ?_
      refine hk_aload_n dL_law_646 rfl rfl rfl ?_
      refine hk_iload dL_law_647 rfl rfl ?_
      refine hk_iconst (v := nI 2) dL_law_649 rfl (by decide) ?_
      refine hk_iadd dL_law_650 rfl ?_
      refine cx_top (nI_add _ _) ?_
      refine hl_sld rfl (by omega) dL_law_651 rfl (by omega) ?_
      refine cx_top e2 ?_
      refine hk_if_eq (tgt := 659) dL_law_652 (by decide) rfl (fun zz => absurd zz w2z) (fun _ => ?_)
      refine hk_iconst (v := nI 1) dL_law_655 rfl (by decide) ?_
      refine hk_goto (tgt := 660) dL_law_656 (by decide) ?_
      refine hk_callV dL_law_660 rfl mv_L_154 (cm_hoard hfl hw1 hj.C (by decide) hj.b17) rfl rfl hat1 rfl rfl (by decide) ⟨by omega, by omega⟩ (Nat.le_of_ble_eq_true rfl) (hk_ki fun v2 h2 q2 => ?_) hk_nx
      refine hk_istore dL_law_663 rfl (by decide) rfl ?_
      obtain ⟨g2, hx2, q2⟩ := q2
      rcases q2 with ⟨z2, rfl, hw2⟩ | ⟨z2, hw2⟩
      · exact absurd z2 (ml_tr_p z (by decide)).1
      · skip
        obtain ⟨hI2, ho3, hod3⟩ := hl_fin hR hx2 hw2 hm_q.rf
        obtain ⟨fs2, hat2⟩ := hm_Wd_at hw2
        refine hk_aload_n dL_law_665 rfl rfl rfl ?_
        refine hk_callV dL_law_666 rfl mv_L_128 (cm_thrown hfl hw2) rfl rfl hat2 rfl rfl (by decide) ⟨Nat.zero_le _, Nat.zero_le _⟩ (Nat.le_of_ble_eq_true rfl) (hk_ki fun v3 h3 q3 => ?_) hk_nx
        obtain ⟨rfl, rfl⟩ := q3
        refine hk_iload dL_law_669 rfl rfl ?_
        refine hk_icmp_eq (tgt := 676) dL_law_671 (by decide) rfl (fun _ => ?_) (fun zz => absurd rfl zz)
        refine hk_iload dL_law_676 rfl rfl ?_
        refine hk_if_ne (tgt := 700) dL_law_678 (by decide) rfl (fun _ => ?_) (fun zz => absurd zz (nI_ne0 (Nat.pos_of_ne_zero (ml_tr_p z (by decide)).1) (ml_tr_p z (by decide)).2))
        refine hk_goto (tgt := 2285) dL_law_700 (by decide) ?_
        exact hl_go KK (by omega) (by omega) (hj.up (Nat.le_succ t)) hI2 (hl_lvle _ _ _)
theorem lc_recoin {w1 w2 w3 w4 u1 u2 u3 u4 : Int32} (hfl : l.stackTraces = false) (hj : hJ S c nc nb t) (ht : t < 512) (hL : 5 * t + 5 ≤ hk_K G 1101) (hw0 : hl_I G x m o od S c nc nb h) (hk : 220 ≤ k) (hn : 8000 ≤ n) (e1 : nI (hk_K G (4000 + (5 * t + 1))) = w1) (e2 : nI (hk_K G (4000 + (5 * t + 2))) = w2) (e3 : nI (hk_K G (4000 + (5 * t + 3))) = w3) (e4 : nI (hk_K G (4000 + (5 * t + 4))) = w4) (f1 : (w1.toUInt32 % 65536).toInt32 = u1) (f2 : (w2.toUInt32 % 65536).toInt32 = u2) (f3 : (w3.toUInt32 % 65536).toInt32 = u3) (f4 : (w4.toUInt32 % 65536).toInt32 = u4) (KK : hl_KK G l x m o od t (k - 220) (n - 8000)) : hk_W G l 12 yL_law cL_law 9 (some .boolean) [] hl_Qe hk_no k n h 703 (hl_lv G x m o od t) [] := by
  obtain ⟨A, g, hm, thr, f, fd, hA, rfl, hw, hd, ho, hod, rfl⟩ := hw0
  unfold hl_lv
  obtain ⟨ho1, hoA⟩ := hl_oA hw hd ho
  refine hk_aload_n dL_law_703 rfl rfl rfl ?_
  refine hk_aload_n dL_law_704 rfl rfl rfl ?_
  refine hk_iload dL_law_705 rfl rfl ?_
  refine hk_iconst (v := nI 1) dL_law_707 rfl (by decide) ?_
  refine hk_iadd dL_law_708 rfl ?_
  refine cx_top (nI_add _ _) ?_
  refine hl_sld rfl (by omega) dL_law_709 rfl (by omega) ?_
  refine cx_top e1 ?_
  refine hk_aload_n dL_law_710 rfl rfl rfl ?_
  refine hk_iload dL_law_711 rfl rfl ?_
  refine hk_iconst (v := nI 2) dL_law_713 rfl (by decide) ?_
  refine hk_iadd dL_law_714 rfl ?_
  refine cx_top (nI_add _ _) ?_
  refine hl_sld rfl (by omega) dL_law_715 rfl (by omega) ?_
  refine cx_top e2 ?_
  refine hk_i2c dL_law_716 rfl f2 ?_
  refine hk_aload_n dL_law_717 rfl rfl rfl ?_
  refine hl_callS dL_law_718 rfl ls_L_155 (cl_recoin (h := hm) hfl hA hj.I ho1 hoA) rfl rfl (by decide) ⟨by omega, by omega⟩ (Nat.le_of_ble_eq_true rfl) (hk_ki fun v1 h1 q1 => ?_) hk_nx
  refine hk_istore dL_law_721 rfl (by decide) rfl ?_
  rcases q1 with ⟨z, rfl, f9, hf9, rfl⟩ | ⟨z, rfl, rfl⟩
  · skip
    have hR := hl_R1 (f1 := f9) (S' := (cs_recoin S nc w1 u2).1) hA hw hd ho hod
    obtain ⟨A9, thr9, -, -, hw1, -, -, -⟩ := id hR
    obtain ⟨fs1, hat1⟩ := hm_Wd_at hw1
    refine hk_aload_n dL_law_723 rfl rfl rfl ?_
    refine hk_aload_n dL_law_724 rfl rfl rfl ?_
    refine hk_iload dL_law_725 rfl rfl ?_
    refine hk_iconst (v := nI 1) dL_law_727 rfl (by decide) ?_
    refine hk_iadd dL_law_728 rfl ?_
    refine cx_top (nI_add _ _) ?_
    refine hl_sld rfl (by omega) dL_law_729 rfl (by omega) ?_
    refine cx_top e1 ?_
    refine hk_aload_n dL_law_730 rfl rfl rfl ?_
    refine hk_iload dL_law_731 rfl rfl ?_
    refine hk_iconst (v := nI 2) dL_law_733 rfl (by decide) ?_
    refine hk_iadd dL_law_734 rfl ?_
    refine cx_top (nI_add _ _) ?_
    refine hl_sld rfl (by omega) dL_law_735 rfl (by omega) ?_
    refine cx_top e2 ?_
    refine hk_i2c dL_law_736 rfl f2 ?_
    refine hk_callV dL_law_737 rfl mv_L_158 (cm_recoin hfl hw1 hj.h16 (rc_O hj ht) hj.F) rfl rfl hat1 rfl rfl (by decide) ⟨by omega, by omega⟩ (Nat.le_of_ble_eq_true rfl) (hk_ki fun v2 h2 q2 => ?_) hk_nx
    refine hk_istore dL_law_740 rfl (by decide) rfl ?_
    obtain ⟨g2, hx2, q2⟩ := q2
    rcases q2 with ⟨z2, rfl, hw2⟩ | ⟨z2, hw2⟩
    · skip
      obtain ⟨hq2, hj2, hr2⟩ := st_recoin hj ht z
      obtain ⟨hI2, ho3, hod3⟩ := hl_fin hR hx2 hw2 hq2
      obtain ⟨fs2, hat2⟩ := hm_Wd_at hw2
      refine hk_aload_n dL_law_742 rfl rfl rfl ?_
      refine hk_callV dL_law_743 rfl mv_L_128 (cm_thrown hfl hw2) rfl rfl hat2 rfl rfl (by decide) ⟨Nat.zero_le _, Nat.zero_le _⟩ (Nat.le_of_ble_eq_true rfl) (hk_ki fun v3 h3 q3 => ?_) hk_nx
      obtain ⟨rfl, rfl⟩ := q3
      refine hk_iload dL_law_746 rfl rfl ?_
      refine hk_icmp_eq (tgt := 753) dL_law_748 (by decide) rfl (fun _ => ?_) (fun zz => absurd rfl zz)
      refine hk_iload dL_law_753 rfl rfl ?_
      refine hk_if_ne (tgt := 770) dL_law_755 (by decide) rfl (fun zz => absurd rfl zz) (fun _ => ?_)
      refine hk_aload_n dL_law_758 rfl rfl rfl ?_
      refine hk_iconst (v := nI 0) dL_law_759 rfl (by decide) ?_
      refine hk_lald dL_law_760 rfl ho3 (vp_in_nI (by decide) (by decide)) ?_
      refine cx_topl (show f9 (nI 0).toNatClampNeg = _ from hf9) ?_
      refine hk_iload dL_law_761 rfl rfl ?_
      refine hk_i2l dL_law_763 rfl ?_
      refine hk_lcmp dL_law_764 rfl ?_
      refine hk_if_eq (tgt := 770) dL_law_765 (by decide) rfl (fun _ => ?_) (fun zz => absurd (lg_cmp_0.mpr (congrArg Int32.toInt64 hr2)) zz)
      refine hk_goto (tgt := 2285) dL_law_770 (by decide) ?_
      exact hl_go KK (by omega) (by omega) hj2 hI2 (hl_lvle _ _ _)
    · exact absurd (ml_tr_z z) z2
  · skip
    have hR := hl_R0 (S' := S) hA hw hd ho hod
    obtain ⟨A9, thr9, -, -, hw1, -, -, -⟩ := id hR
    obtain ⟨fs1, hat1⟩ := hm_Wd_at hw1
    refine hk_aload_n dL_law_723 rfl rfl rfl ?_
    refine hk_aload_n dL_law_724 rfl rfl rfl ?_
    refine hk_iload dL_law_725 rfl rfl ?_
    refine hk_iconst (v := nI 1) dL_law_727 rfl (by decide) ?_
    refine hk_iadd dL_law_728 rfl ?_
    refine cx_top (nI_add _ _) ?_
    refine hl_sld rfl (by omega) dL_law_729 rfl (by omega) ?_
    refine cx_top e1 ?_
    refine hk_aload_n dL_law_730 rfl rfl rfl ?_
    refine hk_iload dL_law_731 rfl rfl ?_
    refine hk_iconst (v := nI 2) dL_law_733 rfl (by decide) ?_
    refine hk_iadd dL_law_734 rfl ?_
    refine cx_top (nI_add _ _) ?_
    refine hl_sld rfl (by omega) dL_law_735 rfl (by omega) ?_
    refine cx_top e2 ?_
    refine hk_i2c dL_law_736 rfl f2 ?_
    refine hk_callV dL_law_737 rfl mv_L_158 (cm_recoin hfl hw1 hj.h16 (rc_O hj ht) hj.F) rfl rfl hat1 rfl rfl (by decide) ⟨by omega, by omega⟩ (Nat.le_of_ble_eq_true rfl) (hk_ki fun v2 h2 q2 => ?_) hk_nx
    refine hk_istore dL_law_740 rfl (by decide) rfl ?_
    obtain ⟨g2, hx2, q2⟩ := q2
    rcases q2 with ⟨z2, rfl, hw2⟩ | ⟨z2, hw2⟩
    · exact absurd z2 (ml_tr_p z (by decide)).1
    · skip
      obtain ⟨hI2, ho3, hod3⟩ := hl_fin hR hx2 hw2 hm_q.rf
      obtain ⟨fs2, hat2⟩ := hm_Wd_at hw2
      refine hk_aload_n dL_law_742 rfl rfl rfl ?_
      refine hk_callV dL_law_743 rfl mv_L_128 (cm_thrown hfl hw2) rfl rfl hat2 rfl rfl (by decide) ⟨Nat.zero_le _, Nat.zero_le _⟩ (Nat.le_of_ble_eq_true rfl) (hk_ki fun v3 h3 q3 => ?_) hk_nx
      obtain ⟨rfl, rfl⟩ := q3
      refine hk_iload dL_law_746 rfl rfl ?_
      refine hk_icmp_eq (tgt := 753) dL_law_748 (by decide) rfl (fun _ => ?_) (fun zz => absurd rfl zz)
      refine hk_iload dL_law_753 rfl rfl ?_
      refine hk_if_ne (tgt := 770) dL_law_755 (by decide) rfl (fun _ => ?_) (fun zz => absurd zz (nI_ne0 (Nat.pos_of_ne_zero (ml_tr_p z (by decide)).1) (ml_tr_p z (by decide)).2))
      refine hk_goto (tgt := 2285) dL_law_770 (by decide) ?_
      exact hl_go KK (by omega) (by omega) (hj.up (Nat.le_succ t)) hI2 (hl_lvle _ _ _)
end LC1
