theorem d_L_law_552 : decode b_L_law 552 = .ok (.iaload, 1) := by decide +kernel
theorem d_L_law_553 : decode b_L_law 553 = .ok (.aload_n 0, 1) := by decide +kernel
theorem d_L_law_554 : decode b_L_law 554 = .ok (.iload 4, 2) := by decide +kernel
theorem d_L_law_556 : decode b_L_law 556 = .ok (.iconst 3, 1) := by decide +kernel
theorem d_L_law_557 : decode b_L_law 557 = .ok (.iadd, 1) := by decide +kernel
theorem d_L_law_558 : decode b_L_law 558 = .ok (.iaload, 1) := by decide +kernel
theorem d_L_law_559 : decode b_L_law 559 = .ok (.ifCond .eq 7, 3) := by decide +kernel
theorem d_L_law_562 : decode b_L_law 562 = .ok (.iconst 1, 1) := by decide +kernel
theorem d_L_law_563 : decode b_L_law 563 = .ok (.goto 4, 3) := by decide +kernel
theorem d_L_law_566 : decode b_L_law 566 = .ok (.iconst 0, 1) := by decide +kernel
theorem d_L_law_567 : decode b_L_law 567 = .ok (.invokevirtual 93, 3) := by decide +kernel
theorem d_L_law_570 : decode b_L_law 570 = .ok (.istore 6, 2) := by decide +kernel
theorem d_L_law_572 : decode b_L_law 572 = .ok (.aload_n 2, 1) := by decide +kernel
theorem d_L_law_573 : decode b_L_law 573 = .ok (.invokevirtual 72, 3) := by decide +kernel
theorem d_L_law_576 : decode b_L_law 576 = .ok (.iload 5, 2) := by decide +kernel
theorem d_L_law_578 : decode b_L_law 578 = .ok (.if_icmp .eq 5, 3) := by decide +kernel
theorem d_L_law_581 : decode b_L_law 581 = .ok (.iconst 0, 1) := by decide +kernel
theorem d_L_law_582 : decode b_L_law 582 = .ok (.ireturn, 1) := by decide +kernel
theorem d_L_law_583 : decode b_L_law 583 = .ok (.iload 5, 2) := by decide +kernel
theorem d_L_law_585 : decode b_L_law 585 = .ok (.ifCond .ne 22, 3) := by decide +kernel
theorem d_L_law_588 : decode b_L_law 588 = .ok (.aload_n 3, 1) := by decide +kernel
theorem d_L_law_589 : decode b_L_law 589 = .ok (.iconst 0, 1) := by decide +kernel
theorem d_L_law_590 : decode b_L_law 590 = .ok (.laload, 1) := by decide +kernel
theorem d_L_law_591 : decode b_L_law 591 = .ok (.iload 6, 2) := by decide +kernel
theorem d_L_law_593 : decode b_L_law 593 = .ok (.ifCond .eq 7, 3) := by decide +kernel
theorem d_L_law_596 : decode b_L_law 596 = .ok (.lconst 1, 1) := by decide +kernel
theorem d_L_law_597 : decode b_L_law 597 = .ok (.goto 4, 3) := by decide +kernel
theorem d_L_law_600 : decode b_L_law 600 = .ok (.lconst 0, 1) := by decide +kernel
theorem d_L_law_601 : decode b_L_law 601 = .ok (.lcmp, 1) := by decide +kernel
theorem d_L_law_602 : decode b_L_law 602 = .ok (.ifCond .eq 5, 3) := by decide +kernel
theorem d_L_law_605 : decode b_L_law 605 = .ok (.iconst 0, 1) := by decide +kernel
theorem d_L_law_606 : decode b_L_law 606 = .ok (.ireturn, 1) := by decide +kernel
theorem d_L_law_607 : decode b_L_law 607 = .ok (.goto 632, 3) := by decide +kernel
theorem d_L_law_610 : decode b_L_law 610 = .ok (.aload_n 1, 1) := by decide +kernel
theorem d_L_law_611 : decode b_L_law 611 = .ok (.aload_n 0, 1) := by decide +kernel
theorem d_L_law_612 : decode b_L_law 612 = .ok (.iload 4, 2) := by decide +kernel
theorem d_L_law_614 : decode b_L_law 614 = .ok (.iconst 1, 1) := by decide +kernel
theorem d_L_law_615 : decode b_L_law 615 = .ok (.iadd, 1) := by decide +kernel
theorem d_L_law_616 : decode b_L_law 616 = .ok (.iaload, 1) := by decide +kernel
theorem d_L_law_617 : decode b_L_law 617 = .ok (.aload_n 3, 1) := by decide +kernel
theorem d_L_law_618 : decode b_L_law 618 = .ok (.invokestatic 94, 3) := by decide +kernel
theorem d_L_law_621 : decode b_L_law 621 = .ok (.istore 5, 2) := by decide +kernel
theorem d_L_law_623 : decode b_L_law 623 = .ok (.aload_n 2, 1) := by decide +kernel
theorem d_L_law_624 : decode b_L_law 624 = .ok (.aload_n 0, 1) := by decide +kernel
theorem d_L_law_625 : decode b_L_law 625 = .ok (.iload 4, 2) := by decide +kernel
theorem d_L_law_627 : decode b_L_law 627 = .ok (.iconst 1, 1) := by decide +kernel
theorem d_L_law_628 : decode b_L_law 628 = .ok (.iadd, 1) := by decide +kernel
theorem d_L_law_629 : decode b_L_law 629 = .ok (.iaload, 1) := by decide +kernel
theorem d_L_law_630 : decode b_L_law 630 = .ok (.invokevirtual 96, 3) := by decide +kernel
theorem d_L_law_633 : decode b_L_law 633 = .ok (.istore 6, 2) := by decide +kernel
theorem d_L_law_635 : decode b_L_law 635 = .ok (.aload_n 2, 1) := by decide +kernel
theorem d_L_law_636 : decode b_L_law 636 = .ok (.invokevirtual 72, 3) := by decide +kernel
theorem d_L_law_639 : decode b_L_law 639 = .ok (.iload 5, 2) := by decide +kernel
theorem d_L_law_641 : decode b_L_law 641 = .ok (.if_icmp .eq 5, 3) := by decide +kernel
theorem d_L_law_644 : decode b_L_law 644 = .ok (.iconst 0, 1) := by decide +kernel
theorem d_L_law_645 : decode b_L_law 645 = .ok (.ireturn, 1) := by decide +kernel
theorem d_L_law_646 : decode b_L_law 646 = .ok (.iload 5, 2) := by decide +kernel
theorem d_L_law_648 : decode b_L_law 648 = .ok (.ifCond .ne 15, 3) := by decide +kernel
theorem d_L_law_651 : decode b_L_law 651 = .ok (.aload_n 3, 1) := by decide +kernel
theorem d_L_law_652 : decode b_L_law 652 = .ok (.iconst 0, 1) := by decide +kernel
theorem d_L_law_653 : decode b_L_law 653 = .ok (.laload, 1) := by decide +kernel
theorem d_L_law_654 : decode b_L_law 654 = .ok (.iload 6, 2) := by decide +kernel
theorem d_L_law_656 : decode b_L_law 656 = .ok (.i2l, 1) := by decide +kernel
theorem d_L_law_657 : decode b_L_law 657 = .ok (.lcmp, 1) := by decide +kernel
theorem d_L_law_658 : decode b_L_law 658 = .ok (.ifCond .eq 5, 3) := by decide +kernel
theorem d_L_law_661 : decode b_L_law 661 = .ok (.iconst 0, 1) := by decide +kernel
theorem d_L_law_662 : decode b_L_law 662 = .ok (.ireturn, 1) := by decide +kernel
theorem d_L_law_663 : decode b_L_law 663 = .ok (.goto 576, 3) := by decide +kernel
theorem d_L_law_666 : decode b_L_law 666 = .ok (.aload_n 1, 1) := by decide +kernel
theorem d_L_law_667 : decode b_L_law 667 = .ok (.aload_n 0, 1) := by decide +kernel
theorem d_L_law_668 : decode b_L_law 668 = .ok (.iload 4, 2) := by decide +kernel
theorem d_L_law_670 : decode b_L_law 670 = .ok (.iconst 1, 1) := by decide +kernel
theorem d_L_law_671 : decode b_L_law 671 = .ok (.iadd, 1) := by decide +kernel
theorem d_L_law_672 : decode b_L_law 672 = .ok (.iaload, 1) := by decide +kernel
theorem d_L_law_673 : decode b_L_law 673 = .ok (.aload_n 3, 1) := by decide +kernel
theorem d_L_law_674 : decode b_L_law 674 = .ok (.invokestatic 97, 3) := by decide +kernel
theorem d_L_law_677 : decode b_L_law 677 = .ok (.istore 5, 2) := by decide +kernel
theorem d_L_law_679 : decode b_L_law 679 = .ok (.aload_n 2, 1) := by decide +kernel
theorem d_L_law_680 : decode b_L_law 680 = .ok (.aload_n 0, 1) := by decide +kernel
theorem d_L_law_681 : decode b_L_law 681 = .ok (.iload 4, 2) := by decide +kernel
theorem d_L_law_683 : decode b_L_law 683 = .ok (.iconst 1, 1) := by decide +kernel
theorem d_L_law_684 : decode b_L_law 684 = .ok (.iadd, 1) := by decide +kernel
theorem d_L_law_685 : decode b_L_law 685 = .ok (.iaload, 1) := by decide +kernel
theorem d_L_law_686 : decode b_L_law 686 = .ok (.invokevirtual 99, 3) := by decide +kernel
theorem d_L_law_689 : decode b_L_law 689 = .ok (.lstore 6, 2) := by decide +kernel
theorem d_L_law_691 : decode b_L_law 691 = .ok (.aload_n 2, 1) := by decide +kernel
theorem d_L_law_692 : decode b_L_law 692 = .ok (.invokevirtual 72, 3) := by decide +kernel
theorem d_L_law_695 : decode b_L_law 695 = .ok (.iload 5, 2) := by decide +kernel
theorem d_L_law_697 : decode b_L_law 697 = .ok (.if_icmp .eq 5, 3) := by decide +kernel
theorem d_L_law_700 : decode b_L_law 700 = .ok (.iconst 0, 1) := by decide +kernel
theorem d_L_law_701 : decode b_L_law 701 = .ok (.ireturn, 1) := by decide +kernel
theorem d_L_law_702 : decode b_L_law 702 = .ok (.iload 5, 2) := by decide +kernel
theorem d_L_law_704 : decode b_L_law 704 = .ok (.ifCond .ne 14, 3) := by decide +kernel
theorem d_L_law_707 : decode b_L_law 707 = .ok (.aload_n 3, 1) := by decide +kernel
theorem d_L_law_708 : decode b_L_law 708 = .ok (.iconst 0, 1) := by decide +kernel
theorem d_L_law_709 : decode b_L_law 709 = .ok (.laload, 1) := by decide +kernel
theorem d_L_law_710 : decode b_L_law 710 = .ok (.lload 6, 2) := by decide +kernel
theorem d_L_law_712 : decode b_L_law 712 = .ok (.lcmp, 1) := by decide +kernel
theorem d_L_law_713 : decode b_L_law 713 = .ok (.ifCond .eq 5, 3) := by decide +kernel
theorem d_L_law_716 : decode b_L_law 716 = .ok (.iconst 0, 1) := by decide +kernel
