theorem d_A_law_572 : decode b_A_law 572 = .ok (.dcmp .l, 1) := by decide +kernel
theorem d_A_law_573 : decode b_A_law 573 = .ok (.ifCond .eq 11, 3) := by decide +kernel
theorem d_A_law_576 : decode b_A_law 576 = .ok (.dload 7, 2) := by decide +kernel
theorem d_A_law_578 : decode b_A_law 578 = .ok (.dload 7, 2) := by decide +kernel
theorem d_A_law_580 : decode b_A_law 580 = .ok (.dcmp .l, 1) := by decide +kernel
theorem d_A_law_581 : decode b_A_law 581 = .ok (.ifCond .ne 5, 3) := by decide +kernel
theorem d_A_law_584 : decode b_A_law 584 = .ok (.iconst 0, 1) := by decide +kernel
theorem d_A_law_585 : decode b_A_law 585 = .ok (.ireturn, 1) := by decide +kernel
theorem d_A_law_586 : decode b_A_law 586 = .ok (.goto 490, 3) := by decide +kernel
theorem d_A_law_589 : decode b_A_law 589 = .ok (.aload_n 1, 1) := by decide +kernel
theorem d_A_law_590 : decode b_A_law 590 = .ok (.aload_n 0, 1) := by decide +kernel
theorem d_A_law_591 : decode b_A_law 591 = .ok (.iload 5, 2) := by decide +kernel
theorem d_A_law_593 : decode b_A_law 593 = .ok (.iconst 1, 1) := by decide +kernel
theorem d_A_law_594 : decode b_A_law 594 = .ok (.iadd, 1) := by decide +kernel
theorem d_A_law_595 : decode b_A_law 595 = .ok (.iaload, 1) := by decide +kernel
theorem d_A_law_596 : decode b_A_law 596 = .ok (.aload_n 0, 1) := by decide +kernel
theorem d_A_law_597 : decode b_A_law 597 = .ok (.iload 5, 2) := by decide +kernel
theorem d_A_law_599 : decode b_A_law 599 = .ok (.iconst 2, 1) := by decide +kernel
theorem d_A_law_600 : decode b_A_law 600 = .ok (.iadd, 1) := by decide +kernel
theorem d_A_law_601 : decode b_A_law 601 = .ok (.iaload, 1) := by decide +kernel
theorem d_A_law_602 : decode b_A_law 602 = .ok (.aload 4, 2) := by decide +kernel
theorem d_A_law_604 : decode b_A_law 604 = .ok (.invokestatic 91, 3) := by decide +kernel
theorem d_A_law_607 : decode b_A_law 607 = .ok (.istore 6, 2) := by decide +kernel
theorem d_A_law_609 : decode b_A_law 609 = .ok (.aload_n 2, 1) := by decide +kernel
theorem d_A_law_610 : decode b_A_law 610 = .ok (.aload_n 0, 1) := by decide +kernel
theorem d_A_law_611 : decode b_A_law 611 = .ok (.iload 5, 2) := by decide +kernel
theorem d_A_law_613 : decode b_A_law 613 = .ok (.iconst 1, 1) := by decide +kernel
theorem d_A_law_614 : decode b_A_law 614 = .ok (.iadd, 1) := by decide +kernel
theorem d_A_law_615 : decode b_A_law 615 = .ok (.iaload, 1) := by decide +kernel
theorem d_A_law_616 : decode b_A_law 616 = .ok (.aload_n 0, 1) := by decide +kernel
theorem d_A_law_617 : decode b_A_law 617 = .ok (.iload 5, 2) := by decide +kernel
theorem d_A_law_619 : decode b_A_law 619 = .ok (.iconst 2, 1) := by decide +kernel
theorem d_A_law_620 : decode b_A_law 620 = .ok (.iadd, 1) := by decide +kernel
theorem d_A_law_621 : decode b_A_law 621 = .ok (.iaload, 1) := by decide +kernel
theorem d_A_law_622 : decode b_A_law 622 = .ok (.invokevirtual 94, 3) := by decide +kernel
theorem d_A_law_625 : decode b_A_law 625 = .ok (.dstore 7, 2) := by decide +kernel
theorem d_A_law_627 : decode b_A_law 627 = .ok (.aload_n 2, 1) := by decide +kernel
theorem d_A_law_628 : decode b_A_law 628 = .ok (.invokevirtual 69, 3) := by decide +kernel
theorem d_A_law_631 : decode b_A_law 631 = .ok (.iload 6, 2) := by decide +kernel
theorem d_A_law_633 : decode b_A_law 633 = .ok (.if_icmp .eq 5, 3) := by decide +kernel
theorem d_A_law_636 : decode b_A_law 636 = .ok (.iconst 0, 1) := by decide +kernel
theorem d_A_law_637 : decode b_A_law 637 = .ok (.ireturn, 1) := by decide +kernel
theorem d_A_law_638 : decode b_A_law 638 = .ok (.iload 6, 2) := by decide +kernel
theorem d_A_law_640 : decode b_A_law 640 = .ok (.ifCond .ne 35, 3) := by decide +kernel
theorem d_A_law_643 : decode b_A_law 643 = .ok (.aload 4, 2) := by decide +kernel
theorem d_A_law_645 : decode b_A_law 645 = .ok (.iconst 0, 1) := by decide +kernel
theorem d_A_law_646 : decode b_A_law 646 = .ok (.daload, 1) := by decide +kernel
theorem d_A_law_647 : decode b_A_law 647 = .ok (.dload 7, 2) := by decide +kernel
theorem d_A_law_649 : decode b_A_law 649 = .ok (.dcmp .l, 1) := by decide +kernel
theorem d_A_law_650 : decode b_A_law 650 = .ok (.ifCond .eq 25, 3) := by decide +kernel
theorem d_A_law_653 : decode b_A_law 653 = .ok (.aload 4, 2) := by decide +kernel
theorem d_A_law_655 : decode b_A_law 655 = .ok (.iconst 0, 1) := by decide +kernel
theorem d_A_law_656 : decode b_A_law 656 = .ok (.daload, 1) := by decide +kernel
theorem d_A_law_657 : decode b_A_law 657 = .ok (.aload 4, 2) := by decide +kernel
theorem d_A_law_659 : decode b_A_law 659 = .ok (.iconst 0, 1) := by decide +kernel
theorem d_A_law_660 : decode b_A_law 660 = .ok (.daload, 1) := by decide +kernel
theorem d_A_law_661 : decode b_A_law 661 = .ok (.dcmp .l, 1) := by decide +kernel
theorem d_A_law_662 : decode b_A_law 662 = .ok (.ifCond .eq 11, 3) := by decide +kernel
theorem d_A_law_665 : decode b_A_law 665 = .ok (.dload 7, 2) := by decide +kernel
theorem d_A_law_667 : decode b_A_law 667 = .ok (.dload 7, 2) := by decide +kernel
theorem d_A_law_669 : decode b_A_law 669 = .ok (.dcmp .l, 1) := by decide +kernel
theorem d_A_law_670 : decode b_A_law 670 = .ok (.ifCond .ne 5, 3) := by decide +kernel
theorem d_A_law_673 : decode b_A_law 673 = .ok (.iconst 0, 1) := by decide +kernel
theorem d_A_law_674 : decode b_A_law 674 = .ok (.ireturn, 1) := by decide +kernel
theorem d_A_law_675 : decode b_A_law 675 = .ok (.goto 401, 3) := by decide +kernel
theorem d_A_law_678 : decode b_A_law 678 = .ok (.aload_n 1, 1) := by decide +kernel
theorem d_A_law_679 : decode b_A_law 679 = .ok (.aload_n 0, 1) := by decide +kernel
theorem d_A_law_680 : decode b_A_law 680 = .ok (.iload 5, 2) := by decide +kernel
theorem d_A_law_682 : decode b_A_law 682 = .ok (.iconst 1, 1) := by decide +kernel
theorem d_A_law_683 : decode b_A_law 683 = .ok (.iadd, 1) := by decide +kernel
theorem d_A_law_684 : decode b_A_law 684 = .ok (.iaload, 1) := by decide +kernel
theorem d_A_law_685 : decode b_A_law 685 = .ok (.aload_n 0, 1) := by decide +kernel
theorem d_A_law_686 : decode b_A_law 686 = .ok (.iload 5, 2) := by decide +kernel
theorem d_A_law_688 : decode b_A_law 688 = .ok (.iconst 2, 1) := by decide +kernel
theorem d_A_law_689 : decode b_A_law 689 = .ok (.iadd, 1) := by decide +kernel
theorem d_A_law_690 : decode b_A_law 690 = .ok (.iaload, 1) := by decide +kernel
theorem d_A_law_691 : decode b_A_law 691 = .ok (.aload_n 3, 1) := by decide +kernel
theorem d_A_law_692 : decode b_A_law 692 = .ok (.invokestatic 95, 3) := by decide +kernel
theorem d_A_law_695 : decode b_A_law 695 = .ok (.istore 6, 2) := by decide +kernel
theorem d_A_law_697 : decode b_A_law 697 = .ok (.aload_n 2, 1) := by decide +kernel
theorem d_A_law_698 : decode b_A_law 698 = .ok (.aload_n 0, 1) := by decide +kernel
theorem d_A_law_699 : decode b_A_law 699 = .ok (.iload 5, 2) := by decide +kernel
theorem d_A_law_701 : decode b_A_law 701 = .ok (.iconst 1, 1) := by decide +kernel
theorem d_A_law_702 : decode b_A_law 702 = .ok (.iadd, 1) := by decide +kernel
theorem d_A_law_703 : decode b_A_law 703 = .ok (.iaload, 1) := by decide +kernel
theorem d_A_law_704 : decode b_A_law 704 = .ok (.aload_n 0, 1) := by decide +kernel
theorem d_A_law_705 : decode b_A_law 705 = .ok (.iload 5, 2) := by decide +kernel
theorem d_A_law_707 : decode b_A_law 707 = .ok (.iconst 2, 1) := by decide +kernel
theorem d_A_law_708 : decode b_A_law 708 = .ok (.iadd, 1) := by decide +kernel
theorem d_A_law_709 : decode b_A_law 709 = .ok (.iaload, 1) := by decide +kernel
theorem d_A_law_710 : decode b_A_law 710 = .ok (.invokevirtual 98, 3) := by decide +kernel
theorem d_A_law_713 : decode b_A_law 713 = .ok (.istore 7, 2) := by decide +kernel
theorem d_A_law_715 : decode b_A_law 715 = .ok (.aload_n 2, 1) := by decide +kernel
theorem d_A_law_716 : decode b_A_law 716 = .ok (.invokevirtual 69, 3) := by decide +kernel
theorem d_A_law_719 : decode b_A_law 719 = .ok (.iload 6, 2) := by decide +kernel
theorem d_A_law_721 : decode b_A_law 721 = .ok (.if_icmp .eq 5, 3) := by decide +kernel
theorem d_A_law_724 : decode b_A_law 724 = .ok (.iconst 0, 1) := by decide +kernel
theorem d_A_law_725 : decode b_A_law 725 = .ok (.ireturn, 1) := by decide +kernel
theorem d_A_law_726 : decode b_A_law 726 = .ok (.iload 6, 2) := by decide +kernel
theorem d_A_law_728 : decode b_A_law 728 = .ok (.ifCond .ne 15, 3) := by decide +kernel
theorem d_A_law_731 : decode b_A_law 731 = .ok (.aload_n 3, 1) := by decide +kernel
theorem d_A_law_732 : decode b_A_law 732 = .ok (.iconst 0, 1) := by decide +kernel
theorem d_A_law_733 : decode b_A_law 733 = .ok (.laload, 1) := by decide +kernel
theorem d_A_law_734 : decode b_A_law 734 = .ok (.iload 7, 2) := by decide +kernel
theorem d_A_law_736 : decode b_A_law 736 = .ok (.i2l, 1) := by decide +kernel
theorem d_A_law_737 : decode b_A_law 737 = .ok (.lcmp, 1) := by decide +kernel
theorem d_A_law_738 : decode b_A_law 738 = .ok (.ifCond .eq 5, 3) := by decide +kernel
theorem d_A_law_741 : decode b_A_law 741 = .ok (.iconst 0, 1) := by decide +kernel
theorem d_A_law_742 : decode b_A_law 742 = .ok (.ireturn, 1) := by decide +kernel
theorem d_A_law_743 : decode b_A_law 743 = .ok (.goto 333, 3) := by decide +kernel
theorem d_A_law_746 : decode b_A_law 746 = .ok (.aload_n 1, 1) := by decide +kernel
theorem d_A_law_747 : decode b_A_law 747 = .ok (.aload_n 0, 1) := by decide +kernel
theorem d_A_law_748 : decode b_A_law 748 = .ok (.iload 5, 2) := by decide +kernel
theorem d_A_law_750 : decode b_A_law 750 = .ok (.iconst 1, 1) := by decide +kernel
theorem d_A_law_751 : decode b_A_law 751 = .ok (.iadd, 1) := by decide +kernel
theorem d_A_law_752 : decode b_A_law 752 = .ok (.iaload, 1) := by decide +kernel
theorem d_A_law_753 : decode b_A_law 753 = .ok (.aload_n 3, 1) := by decide +kernel
theorem d_A_law_754 : decode b_A_law 754 = .ok (.invokestatic 99, 3) := by decide +kernel
theorem d_A_law_757 : decode b_A_law 757 = .ok (.istore 6, 2) := by decide +kernel
theorem d_A_law_759 : decode b_A_law 759 = .ok (.aload_n 2, 1) := by decide +kernel
theorem d_A_law_760 : decode b_A_law 760 = .ok (.aload_n 0, 1) := by decide +kernel
theorem d_A_law_761 : decode b_A_law 761 = .ok (.iload 5, 2) := by decide +kernel
theorem d_A_law_763 : decode b_A_law 763 = .ok (.iconst 1, 1) := by decide +kernel
theorem d_A_law_764 : decode b_A_law 764 = .ok (.iadd, 1) := by decide +kernel
theorem d_A_law_765 : decode b_A_law 765 = .ok (.iaload, 1) := by decide +kernel
theorem d_A_law_766 : decode b_A_law 766 = .ok (.invokevirtual 101, 3) := by decide +kernel
theorem d_A_law_769 : decode b_A_law 769 = .ok (.istore 7, 2) := by decide +kernel
theorem d_A_law_771 : decode b_A_law 771 = .ok (.aload_n 2, 1) := by decide +kernel
theorem d_A_law_772 : decode b_A_law 772 = .ok (.invokevirtual 69, 3) := by decide +kernel
theorem d_A_law_775 : decode b_A_law 775 = .ok (.iload 6, 2) := by decide +kernel
theorem d_A_law_777 : decode b_A_law 777 = .ok (.if_icmp .eq 5, 3) := by decide +kernel
theorem d_A_law_780 : decode b_A_law 780 = .ok (.iconst 0, 1) := by decide +kernel
theorem d_A_law_781 : decode b_A_law 781 = .ok (.ireturn, 1) := by decide +kernel
theorem d_A_law_782 : decode b_A_law 782 = .ok (.iload 6, 2) := by decide +kernel
theorem d_A_law_784 : decode b_A_law 784 = .ok (.ifCond .ne 15, 3) := by decide +kernel
theorem d_A_law_787 : decode b_A_law 787 = .ok (.aload_n 3, 1) := by decide +kernel
theorem d_A_law_788 : decode b_A_law 788 = .ok (.iconst 0, 1) := by decide +kernel
theorem d_A_law_789 : decode b_A_law 789 = .ok (.laload, 1) := by decide +kernel
theorem d_A_law_790 : decode b_A_law 790 = .ok (.iload 7, 2) := by decide +kernel
theorem d_A_law_792 : decode b_A_law 792 = .ok (.i2l, 1) := by decide +kernel
theorem d_A_law_793 : decode b_A_law 793 = .ok (.lcmp, 1) := by decide +kernel
theorem d_A_law_794 : decode b_A_law 794 = .ok (.ifCond .eq 5, 3) := by decide +kernel
theorem d_A_law_797 : decode b_A_law 797 = .ok (.iconst 0, 1) := by decide +kernel
theorem d_A_law_798 : decode b_A_law 798 = .ok (.ireturn, 1) := by decide +kernel
theorem d_A_law_799 : decode b_A_law 799 = .ok (.goto 277, 3) := by decide +kernel
theorem d_A_law_802 : decode b_A_law 802 = .ok (.aload_n 1, 1) := by decide +kernel
theorem d_A_law_803 : decode b_A_law 803 = .ok (.aload_n 0, 1) := by decide +kernel
theorem d_A_law_804 : decode b_A_law 804 = .ok (.iload 5, 2) := by decide +kernel
theorem d_A_law_806 : decode b_A_law 806 = .ok (.iconst 1, 1) := by decide +kernel
theorem d_A_law_807 : decode b_A_law 807 = .ok (.iadd, 1) := by decide +kernel
theorem d_A_law_808 : decode b_A_law 808 = .ok (.iaload, 1) := by decide +kernel
theorem d_A_law_809 : decode b_A_law 809 = .ok (.aload_n 0, 1) := by decide +kernel
theorem d_A_law_810 : decode b_A_law 810 = .ok (.iload 5, 2) := by decide +kernel
theorem d_A_law_812 : decode b_A_law 812 = .ok (.iconst 2, 1) := by decide +kernel
theorem d_A_law_813 : decode b_A_law 813 = .ok (.iadd, 1) := by decide +kernel
theorem d_A_law_814 : decode b_A_law 814 = .ok (.iaload, 1) := by decide +kernel
theorem d_A_law_815 : decode b_A_law 815 = .ok (.aload_n 0, 1) := by decide +kernel
theorem d_A_law_816 : decode b_A_law 816 = .ok (.iload 5, 2) := by decide +kernel
theorem d_A_law_818 : decode b_A_law 818 = .ok (.iconst 3, 1) := by decide +kernel
theorem d_A_law_819 : decode b_A_law 819 = .ok (.iadd, 1) := by decide +kernel
theorem d_A_law_820 : decode b_A_law 820 = .ok (.iaload, 1) := by decide +kernel
theorem d_A_law_821 : decode b_A_law 821 = .ok (.aload_n 3, 1) := by decide +kernel
theorem d_A_law_822 : decode b_A_law 822 = .ok (.invokestatic 102, 3) := by decide +kernel
theorem d_A_law_825 : decode b_A_law 825 = .ok (.istore 6, 2) := by decide +kernel
theorem d_A_law_827 : decode b_A_law 827 = .ok (.aload_n 2, 1) := by decide +kernel
theorem d_A_law_828 : decode b_A_law 828 = .ok (.aload_n 0, 1) := by decide +kernel
theorem d_A_law_829 : decode b_A_law 829 = .ok (.iload 5, 2) := by decide +kernel
theorem d_A_law_831 : decode b_A_law 831 = .ok (.iconst 1, 1) := by decide +kernel
theorem d_A_law_832 : decode b_A_law 832 = .ok (.iadd, 1) := by decide +kernel
theorem d_A_law_833 : decode b_A_law 833 = .ok (.iaload, 1) := by decide +kernel
