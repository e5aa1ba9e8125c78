theorem d_W_law_539 : decode b_W_law 539 = .ok (.iconst 0, 1) := by decide +kernel
theorem d_W_law_540 : decode b_W_law 540 = .ok (.ireturn, 1) := by decide +kernel
theorem d_W_law_541 : decode b_W_law 541 = .ok (.iload 5, 2) := by decide +kernel
theorem d_W_law_543 : decode b_W_law 543 = .ok (.ifCond .ne 15, 3) := by decide +kernel
theorem d_W_law_546 : decode b_W_law 546 = .ok (.aload_n 3, 1) := by decide +kernel
theorem d_W_law_547 : decode b_W_law 547 = .ok (.iconst 0, 1) := by decide +kernel
theorem d_W_law_548 : decode b_W_law 548 = .ok (.laload, 1) := by decide +kernel
theorem d_W_law_549 : decode b_W_law 549 = .ok (.iload 6, 2) := by decide +kernel
theorem d_W_law_551 : decode b_W_law 551 = .ok (.i2l, 1) := by decide +kernel
theorem d_W_law_552 : decode b_W_law 552 = .ok (.lcmp, 1) := by decide +kernel
theorem d_W_law_553 : decode b_W_law 553 = .ok (.ifCond .eq 5, 3) := by decide +kernel
theorem d_W_law_556 : decode b_W_law 556 = .ok (.iconst 0, 1) := by decide +kernel
theorem d_W_law_557 : decode b_W_law 557 = .ok (.ireturn, 1) := by decide +kernel
theorem d_W_law_558 : decode b_W_law 558 = .ok (.goto 927, 3) := by decide +kernel
theorem d_W_law_561 : decode b_W_law 561 = .ok (.aload_n 1, 1) := by decide +kernel
theorem d_W_law_562 : decode b_W_law 562 = .ok (.aload_n 0, 1) := by decide +kernel
theorem d_W_law_563 : decode b_W_law 563 = .ok (.iload 4, 2) := by decide +kernel
theorem d_W_law_565 : decode b_W_law 565 = .ok (.iconst 1, 1) := by decide +kernel
theorem d_W_law_566 : decode b_W_law 566 = .ok (.iadd, 1) := by decide +kernel
theorem d_W_law_567 : decode b_W_law 567 = .ok (.iaload, 1) := by decide +kernel
theorem d_W_law_568 : decode b_W_law 568 = .ok (.aload_n 3, 1) := by decide +kernel
theorem d_W_law_569 : decode b_W_law 569 = .ok (.invokestatic 118, 3) := by decide +kernel
theorem d_W_law_572 : decode b_W_law 572 = .ok (.istore 5, 2) := by decide +kernel
theorem d_W_law_574 : decode b_W_law 574 = .ok (.aload_n 2, 1) := by decide +kernel
theorem d_W_law_575 : decode b_W_law 575 = .ok (.aload_n 0, 1) := by decide +kernel
theorem d_W_law_576 : decode b_W_law 576 = .ok (.iload 4, 2) := by decide +kernel
theorem d_W_law_578 : decode b_W_law 578 = .ok (.iconst 1, 1) := by decide +kernel
theorem d_W_law_579 : decode b_W_law 579 = .ok (.iadd, 1) := by decide +kernel
theorem d_W_law_580 : decode b_W_law 580 = .ok (.iaload, 1) := by decide +kernel
theorem d_W_law_581 : decode b_W_law 581 = .ok (.invokevirtual 121, 3) := by decide +kernel
theorem d_W_law_584 : decode b_W_law 584 = .ok (.istore 6, 2) := by decide +kernel
theorem d_W_law_586 : decode b_W_law 586 = .ok (.aload_n 2, 1) := by decide +kernel
theorem d_W_law_587 : decode b_W_law 587 = .ok (.invokevirtual 90, 3) := by decide +kernel
theorem d_W_law_590 : decode b_W_law 590 = .ok (.iload 5, 2) := by decide +kernel
theorem d_W_law_592 : decode b_W_law 592 = .ok (.if_icmp .eq 5, 3) := by decide +kernel
theorem d_W_law_595 : decode b_W_law 595 = .ok (.iconst 0, 1) := by decide +kernel
theorem d_W_law_596 : decode b_W_law 596 = .ok (.ireturn, 1) := by decide +kernel
theorem d_W_law_597 : decode b_W_law 597 = .ok (.iload 5, 2) := by decide +kernel
theorem d_W_law_599 : decode b_W_law 599 = .ok (.ifCond .ne 15, 3) := by decide +kernel
theorem d_W_law_602 : decode b_W_law 602 = .ok (.aload_n 3, 1) := by decide +kernel
theorem d_W_law_603 : decode b_W_law 603 = .ok (.iconst 0, 1) := by decide +kernel
theorem d_W_law_604 : decode b_W_law 604 = .ok (.laload, 1) := by decide +kernel
theorem d_W_law_605 : decode b_W_law 605 = .ok (.iload 6, 2) := by decide +kernel
theorem d_W_law_607 : decode b_W_law 607 = .ok (.i2l, 1) := by decide +kernel
theorem d_W_law_608 : decode b_W_law 608 = .ok (.lcmp, 1) := by decide +kernel
theorem d_W_law_609 : decode b_W_law 609 = .ok (.ifCond .eq 5, 3) := by decide +kernel
theorem d_W_law_612 : decode b_W_law 612 = .ok (.iconst 0, 1) := by decide +kernel
theorem d_W_law_613 : decode b_W_law 613 = .ok (.ireturn, 1) := by decide +kernel
theorem d_W_law_614 : decode b_W_law 614 = .ok (.goto 871, 3) := by decide +kernel
theorem d_W_law_617 : decode b_W_law 617 = .ok (.aload_n 1, 1) := by decide +kernel
theorem d_W_law_618 : decode b_W_law 618 = .ok (.aload_n 0, 1) := by decide +kernel
theorem d_W_law_619 : decode b_W_law 619 = .ok (.iload 4, 2) := by decide +kernel
theorem d_W_law_621 : decode b_W_law 621 = .ok (.iconst 1, 1) := by decide +kernel
theorem d_W_law_622 : decode b_W_law 622 = .ok (.iadd, 1) := by decide +kernel
theorem d_W_law_623 : decode b_W_law 623 = .ok (.iaload, 1) := by decide +kernel
theorem d_W_law_624 : decode b_W_law 624 = .ok (.aload_n 0, 1) := by decide +kernel
theorem d_W_law_625 : decode b_W_law 625 = .ok (.iload 4, 2) := by decide +kernel
theorem d_W_law_627 : decode b_W_law 627 = .ok (.iconst 2, 1) := by decide +kernel
theorem d_W_law_628 : decode b_W_law 628 = .ok (.iadd, 1) := by decide +kernel
theorem d_W_law_629 : decode b_W_law 629 = .ok (.iaload, 1) := by decide +kernel
theorem d_W_law_630 : decode b_W_law 630 = .ok (.aload_n 0, 1) := by decide +kernel
theorem d_W_law_631 : decode b_W_law 631 = .ok (.iload 4, 2) := by decide +kernel
theorem d_W_law_633 : decode b_W_law 633 = .ok (.iconst 3, 1) := by decide +kernel
theorem d_W_law_634 : decode b_W_law 634 = .ok (.iadd, 1) := by decide +kernel
theorem d_W_law_635 : decode b_W_law 635 = .ok (.iaload, 1) := by decide +kernel
theorem d_W_law_636 : decode b_W_law 636 = .ok (.aload_n 3, 1) := by decide +kernel
theorem d_W_law_637 : decode b_W_law 637 = .ok (.invokestatic 122, 3) := by decide +kernel
theorem d_W_law_640 : decode b_W_law 640 = .ok (.istore 5, 2) := by decide +kernel
theorem d_W_law_642 : decode b_W_law 642 = .ok (.aload_n 2, 1) := by decide +kernel
theorem d_W_law_643 : decode b_W_law 643 = .ok (.aload_n 0, 1) := by decide +kernel
theorem d_W_law_644 : decode b_W_law 644 = .ok (.iload 4, 2) := by decide +kernel
theorem d_W_law_646 : decode b_W_law 646 = .ok (.iconst 1, 1) := by decide +kernel
theorem d_W_law_647 : decode b_W_law 647 = .ok (.iadd, 1) := by decide +kernel
theorem d_W_law_648 : decode b_W_law 648 = .ok (.iaload, 1) := by decide +kernel
theorem d_W_law_649 : decode b_W_law 649 = .ok (.aload_n 0, 1) := by decide +kernel
theorem d_W_law_650 : decode b_W_law 650 = .ok (.iload 4, 2) := by decide +kernel
theorem d_W_law_652 : decode b_W_law 652 = .ok (.iconst 2, 1) := by decide +kernel
theorem d_W_law_653 : decode b_W_law 653 = .ok (.iadd, 1) := by decide +kernel
theorem d_W_law_654 : decode b_W_law 654 = .ok (.iaload, 1) := by decide +kernel
theorem d_W_law_655 : decode b_W_law 655 = .ok (.aload_n 0, 1) := by decide +kernel
theorem d_W_law_656 : decode b_W_law 656 = .ok (.iload 4, 2) := by decide +kernel
theorem d_W_law_658 : decode b_W_law 658 = .ok (.iconst 3, 1) := by decide +kernel
theorem d_W_law_659 : decode b_W_law 659 = .ok (.iadd, 1) := by decide +kernel
theorem d_W_law_660 : decode b_W_law 660 = .ok (.iaload, 1) := by decide +kernel
theorem d_W_law_661 : decode b_W_law 661 = .ok (.invokevirtual 124, 3) := by decide +kernel
theorem d_W_law_664 : decode b_W_law 664 = .ok (.istore 6, 2) := by decide +kernel
theorem d_W_law_666 : decode b_W_law 666 = .ok (.aload_n 2, 1) := by decide +kernel
theorem d_W_law_667 : decode b_W_law 667 = .ok (.invokevirtual 90, 3) := by decide +kernel
theorem d_W_law_670 : decode b_W_law 670 = .ok (.iload 5, 2) := by decide +kernel
theorem d_W_law_672 : decode b_W_law 672 = .ok (.if_icmp .eq 5, 3) := by decide +kernel
theorem d_W_law_675 : decode b_W_law 675 = .ok (.iconst 0, 1) := by decide +kernel
theorem d_W_law_676 : decode b_W_law 676 = .ok (.ireturn, 1) := by decide +kernel
theorem d_W_law_677 : decode b_W_law 677 = .ok (.iload 5, 2) := by decide +kernel
theorem d_W_law_679 : decode b_W_law 679 = .ok (.ifCond .ne 15, 3) := by decide +kernel
theorem d_W_law_682 : decode b_W_law 682 = .ok (.aload_n 3, 1) := by decide +kernel
theorem d_W_law_683 : decode b_W_law 683 = .ok (.iconst 0, 1) := by decide +kernel
theorem d_W_law_684 : decode b_W_law 684 = .ok (.laload, 1) := by decide +kernel
theorem d_W_law_685 : decode b_W_law 685 = .ok (.iload 6, 2) := by decide +kernel
theorem d_W_law_687 : decode b_W_law 687 = .ok (.i2l, 1) := by decide +kernel
theorem d_W_law_688 : decode b_W_law 688 = .ok (.lcmp, 1) := by decide +kernel
theorem d_W_law_689 : decode b_W_law 689 = .ok (.ifCond .eq 5, 3) := by decide +kernel
theorem d_W_law_692 : decode b_W_law 692 = .ok (.iconst 0, 1) := by decide +kernel
theorem d_W_law_693 : decode b_W_law 693 = .ok (.ireturn, 1) := by decide +kernel
theorem d_W_law_694 : decode b_W_law 694 = .ok (.goto 791, 3) := by decide +kernel
theorem d_W_law_697 : decode b_W_law 697 = .ok (.aload_n 1, 1) := by decide +kernel
theorem d_W_law_698 : decode b_W_law 698 = .ok (.aload_n 0, 1) := by decide +kernel
theorem d_W_law_699 : decode b_W_law 699 = .ok (.iload 4, 2) := by decide +kernel
theorem d_W_law_701 : decode b_W_law 701 = .ok (.iconst 1, 1) := by decide +kernel
theorem d_W_law_702 : decode b_W_law 702 = .ok (.iadd, 1) := by decide +kernel
theorem d_W_law_703 : decode b_W_law 703 = .ok (.iaload, 1) := by decide +kernel
theorem d_W_law_704 : decode b_W_law 704 = .ok (.aload_n 0, 1) := by decide +kernel
theorem d_W_law_705 : decode b_W_law 705 = .ok (.iload 4, 2) := by decide +kernel
theorem d_W_law_707 : decode b_W_law 707 = .ok (.iconst 2, 1) := by decide +kernel
theorem d_W_law_708 : decode b_W_law 708 = .ok (.iadd, 1) := by decide +kernel
theorem d_W_law_709 : decode b_W_law 709 = .ok (.iaload, 1) := by decide +kernel
theorem d_W_law_710 : decode b_W_law 710 = .ok (.aload_n 0, 1) := by decide +kernel
theorem d_W_law_711 : decode b_W_law 711 = .ok (.iload 4, 2) := by decide +kernel
theorem d_W_law_713 : decode b_W_law 713 = .ok (.iconst 3, 1) := by decide +kernel
theorem d_W_law_714 : decode b_W_law 714 = .ok (.iadd, 1) := by decide +kernel
theorem d_W_law_715 : decode b_W_law 715 = .ok (.iaload, 1) := by decide +kernel
theorem d_W_law_716 : decode b_W_law 716 = .ok (.aload_n 3, 1) := by decide +kernel
theorem d_W_law_717 : decode b_W_law 717 = .ok (.invokestatic 125, 3) := by decide +kernel
theorem d_W_law_720 : decode b_W_law 720 = .ok (.istore 5, 2) := by decide +kernel
theorem d_W_law_722 : decode b_W_law 722 = .ok (.aload_n 2, 1) := by decide +kernel
theorem d_W_law_723 : decode b_W_law 723 = .ok (.aload_n 0, 1) := by decide +kernel
theorem d_W_law_724 : decode b_W_law 724 = .ok (.iload 4, 2) := by decide +kernel
theorem d_W_law_726 : decode b_W_law 726 = .ok (.iconst 1, 1) := by decide +kernel
theorem d_W_law_727 : decode b_W_law 727 = .ok (.iadd, 1) := by decide +kernel
theorem d_W_law_728 : decode b_W_law 728 = .ok (.iaload, 1) := by decide +kernel
theorem d_W_law_729 : decode b_W_law 729 = .ok (.aload_n 0, 1) := by decide +kernel
theorem d_W_law_730 : decode b_W_law 730 = .ok (.iload 4, 2) := by decide +kernel
theorem d_W_law_732 : decode b_W_law 732 = .ok (.iconst 2, 1) := by decide +kernel
theorem d_W_law_733 : decode b_W_law 733 = .ok (.iadd, 1) := by decide +kernel
theorem d_W_law_734 : decode b_W_law 734 = .ok (.iaload, 1) := by decide +kernel
theorem d_W_law_735 : decode b_W_law 735 = .ok (.aload_n 0, 1) := by decide +kernel
theorem d_W_law_736 : decode b_W_law 736 = .ok (.iload 4, 2) := by decide +kernel
theorem d_W_law_738 : decode b_W_law 738 = .ok (.iconst 3, 1) := by decide +kernel
theorem d_W_law_739 : decode b_W_law 739 = .ok (.iadd, 1) := by decide +kernel
theorem d_W_law_740 : decode b_W_law 740 = .ok (.iaload, 1) := by decide +kernel
theorem d_W_law_741 : decode b_W_law 741 = .ok (.invokevirtual 127, 3) := by decide +kernel
theorem d_W_law_744 : decode b_W_law 744 = .ok (.istore 6, 2) := by decide +kernel
theorem d_W_law_746 : decode b_W_law 746 = .ok (.aload_n 2, 1) := by decide +kernel
theorem d_W_law_747 : decode b_W_law 747 = .ok (.invokevirtual 90, 3) := by decide +kernel
theorem d_W_law_750 : decode b_W_law 750 = .ok (.iload 5, 2) := by decide +kernel
theorem d_W_law_752 : decode b_W_law 752 = .ok (.if_icmp .eq 5, 3) := by decide +kernel
theorem d_W_law_755 : decode b_W_law 755 = .ok (.iconst 0, 1) := by decide +kernel
theorem d_W_law_756 : decode b_W_law 756 = .ok (.ireturn, 1) := by decide +kernel
theorem d_W_law_757 : decode b_W_law 757 = .ok (.iload 5, 2) := by decide +kernel
theorem d_W_law_759 : decode b_W_law 759 = .ok (.ifCond .ne 15, 3) := by decide +kernel
theorem d_W_law_762 : decode b_W_law 762 = .ok (.aload_n 3, 1) := by decide +kernel
