theorem dL_law_557 : decode code 557 = .ok (.iload 4, 2) := by decide +kernel
theorem dL_law_559 : decode code 559 = .ok (.iconst 2, 1) := by decide +kernel
theorem dL_law_560 : decode code 560 = .ok (.iadd, 1) := by decide +kernel
theorem dL_law_561 : decode code 561 = .ok (.iaload, 1) := by decide +kernel
theorem dL_law_562 : decode code 562 = .ok (.invokevirtual 68, 3) := by decide +kernel
theorem dL_law_565 : decode code 565 = .ok (.aload_n 2, 1) := by decide +kernel
theorem dL_law_566 : decode code 566 = .ok (.aload_n 0, 1) := by decide +kernel
theorem dL_law_567 : decode code 567 = .ok (.iload 4, 2) := by decide +kernel
theorem dL_law_569 : decode code 569 = .ok (.iconst 1, 1) := by decide +kernel
theorem dL_law_570 : decode code 570 = .ok (.iadd, 1) := by decide +kernel
theorem dL_law_571 : decode code 571 = .ok (.iaload, 1) := by decide +kernel
theorem dL_law_572 : decode code 572 = .ok (.aload_n 0, 1) := by decide +kernel
theorem dL_law_573 : decode code 573 = .ok (.iload 4, 2) := by decide +kernel
theorem dL_law_575 : decode code 575 = .ok (.iconst 2, 1) := by decide +kernel
theorem dL_law_576 : decode code 576 = .ok (.iadd, 1) := by decide +kernel
theorem dL_law_577 : decode code 577 = .ok (.iaload, 1) := by decide +kernel
theorem dL_law_578 : decode code 578 = .ok (.invokevirtual 71, 3) := by decide +kernel
theorem dL_law_581 : decode code 581 = .ok (.if_icmp .eq 639, 3) := by decide +kernel
theorem dL_law_584 : decode code 584 = .ok (.iconst 0, 1) := by decide +kernel
theorem dL_law_585 : decode code 585 = .ok (.ireturn, 1) := by decide +kernel
theorem dL_law_586 : decode code 586 = .ok (.aload_n 1, 1) := by decide +kernel
theorem dL_law_587 : decode code 587 = .ok (.aload_n 0, 1) := by decide +kernel
theorem dL_law_588 : decode code 588 = .ok (.iload 4, 2) := by decide +kernel
theorem dL_law_590 : decode code 590 = .ok (.iconst 1, 1) := by decide +kernel
theorem dL_law_591 : decode code 591 = .ok (.iadd, 1) := by decide +kernel
theorem dL_law_592 : decode code 592 = .ok (.iaload, 1) := by decide +kernel
theorem dL_law_593 : decode code 593 = .ok (.aload_n 0, 1) := by decide +kernel
theorem dL_law_594 : decode code 594 = .ok (.iload 4, 2) := by decide +kernel
theorem dL_law_596 : decode code 596 = .ok (.iconst 2, 1) := by decide +kernel
theorem dL_law_597 : decode code 597 = .ok (.iadd, 1) := by decide +kernel
theorem dL_law_598 : decode code 598 = .ok (.iaload, 1) := by decide +kernel
theorem dL_law_599 : decode code 599 = .ok (.invokevirtual 72, 3) := by decide +kernel
theorem dL_law_602 : decode code 602 = .ok (.aload_n 2, 1) := by decide +kernel
theorem dL_law_603 : decode code 603 = .ok (.aload_n 0, 1) := by decide +kernel
theorem dL_law_604 : decode code 604 = .ok (.iload 4, 2) := by decide +kernel
theorem dL_law_606 : decode code 606 = .ok (.iconst 1, 1) := by decide +kernel
theorem dL_law_607 : decode code 607 = .ok (.iadd, 1) := by decide +kernel
theorem dL_law_608 : decode code 608 = .ok (.iaload, 1) := by decide +kernel
theorem dL_law_609 : decode code 609 = .ok (.aload_n 0, 1) := by decide +kernel
theorem dL_law_610 : decode code 610 = .ok (.iload 4, 2) := by decide +kernel
theorem dL_law_612 : decode code 612 = .ok (.iconst 2, 1) := by decide +kernel
theorem dL_law_613 : decode code 613 = .ok (.iadd, 1) := by decide +kernel
theorem dL_law_614 : decode code 614 = .ok (.iaload, 1) := by decide +kernel
theorem dL_law_615 : decode code 615 = .ok (.invokevirtual 76, 3) := by decide +kernel
theorem dL_law_618 : decode code 618 = .ok (.if_icmp .eq 602, 3) := by decide +kernel
theorem dL_law_621 : decode code 621 = .ok (.iconst 0, 1) := by decide +kernel
theorem dL_law_622 : decode code 622 = .ok (.ireturn, 1) := by decide +kernel
theorem dL_law_623 : decode code 623 = .ok (.aload_n 1, 1) := by decide +kernel
theorem dL_law_624 : decode code 624 = .ok (.aload_n 0, 1) := by decide +kernel
theorem dL_law_625 : decode code 625 = .ok (.iload 4, 2) := by decide +kernel
theorem dL_law_627 : decode code 627 = .ok (.iconst 1, 1) := by decide +kernel
theorem dL_law_628 : decode code 628 = .ok (.iadd, 1) := by decide +kernel
theorem dL_law_629 : decode code 629 = .ok (.iaload, 1) := by decide +kernel
theorem dL_law_630 : decode code 630 = .ok (.invokevirtual 77, 3) := by decide +kernel
theorem dL_law_633 : decode code 633 = .ok (.aload_n 2, 1) := by decide +kernel
theorem dL_law_634 : decode code 634 = .ok (.aload_n 0, 1) := by decide +kernel
theorem dL_law_635 : decode code 635 = .ok (.iload 4, 2) := by decide +kernel
theorem dL_law_637 : decode code 637 = .ok (.iconst 1, 1) := by decide +kernel
theorem dL_law_638 : decode code 638 = .ok (.iadd, 1) := by decide +kernel
theorem dL_law_639 : decode code 639 = .ok (.iaload, 1) := by decide +kernel
theorem dL_law_640 : decode code 640 = .ok (.invokevirtual 80, 3) := by decide +kernel
theorem dL_law_643 : decode code 643 = .ok (.if_icmp .eq 577, 3) := by decide +kernel
theorem dL_law_646 : decode code 646 = .ok (.iconst 0, 1) := by decide +kernel
theorem dL_law_647 : decode code 647 = .ok (.ireturn, 1) := by decide +kernel
theorem dL_law_648 : decode code 648 = .ok (.aload_n 1, 1) := by decide +kernel
theorem dL_law_649 : decode code 649 = .ok (.aload_n 0, 1) := by decide +kernel
theorem dL_law_650 : decode code 650 = .ok (.iload 4, 2) := by decide +kernel
theorem dL_law_652 : decode code 652 = .ok (.iconst 1, 1) := by decide +kernel
theorem dL_law_653 : decode code 653 = .ok (.iadd, 1) := by decide +kernel
theorem dL_law_654 : decode code 654 = .ok (.iaload, 1) := by decide +kernel
theorem dL_law_655 : decode code 655 = .ok (.aload_n 0, 1) := by decide +kernel
theorem dL_law_656 : decode code 656 = .ok (.iload 4, 2) := by decide +kernel
theorem dL_law_658 : decode code 658 = .ok (.iconst 2, 1) := by decide +kernel
theorem dL_law_659 : decode code 659 = .ok (.iadd, 1) := by decide +kernel
theorem dL_law_660 : decode code 660 = .ok (.iaload, 1) := by decide +kernel
theorem dL_law_661 : decode code 661 = .ok (.i2l, 1) := by decide +kernel
theorem dL_law_662 : decode code 662 = .ok (.bipush 32, 2) := by decide +kernel
theorem dL_law_664 : decode code 664 = .ok (.lshl, 1) := by decide +kernel
theorem dL_law_665 : decode code 665 = .ok (.aload_n 0, 1) := by decide +kernel
theorem dL_law_666 : decode code 666 = .ok (.iload 4, 2) := by decide +kernel
theorem dL_law_668 : decode code 668 = .ok (.iconst 3, 1) := by decide +kernel
theorem dL_law_669 : decode code 669 = .ok (.iadd, 1) := by decide +kernel
theorem dL_law_670 : decode code 670 = .ok (.iaload, 1) := by decide +kernel
theorem dL_law_671 : decode code 671 = .ok (.i2l, 1) := by decide +kernel
theorem dL_law_672 : decode code 672 = .ok (.ldc2_w 81, 3) := by decide +kernel
theorem dL_law_675 : decode code 675 = .ok (.land, 1) := by decide +kernel
theorem dL_law_676 : decode code 676 = .ok (.lor, 1) := by decide +kernel
theorem dL_law_677 : decode code 677 = .ok (.invokevirtual 83, 3) := by decide +kernel
theorem dL_law_680 : decode code 680 = .ok (.aload_n 2, 1) := by decide +kernel
theorem dL_law_681 : decode code 681 = .ok (.aload_n 0, 1) := by decide +kernel
theorem dL_law_682 : decode code 682 = .ok (.iload 4, 2) := by decide +kernel
theorem dL_law_684 : decode code 684 = .ok (.iconst 1, 1) := by decide +kernel
theorem dL_law_685 : decode code 685 = .ok (.iadd, 1) := by decide +kernel
theorem dL_law_686 : decode code 686 = .ok (.iaload, 1) := by decide +kernel
theorem dL_law_687 : decode code 687 = .ok (.aload_n 0, 1) := by decide +kernel
theorem dL_law_688 : decode code 688 = .ok (.iload 4, 2) := by decide +kernel
theorem dL_law_690 : decode code 690 = .ok (.iconst 2, 1) := by decide +kernel
theorem dL_law_691 : decode code 691 = .ok (.iadd, 1) := by decide +kernel
theorem dL_law_692 : decode code 692 = .ok (.iaload, 1) := by decide +kernel
theorem dL_law_693 : decode code 693 = .ok (.i2l, 1) := by decide +kernel
theorem dL_law_694 : decode code 694 = .ok (.bipush 32, 2) := by decide +kernel
theorem dL_law_696 : decode code 696 = .ok (.lshl, 1) := by decide +kernel
theorem dL_law_697 : decode code 697 = .ok (.aload_n 0, 1) := by decide +kernel
theorem dL_law_698 : decode code 698 = .ok (.iload 4, 2) := by decide +kernel
theorem dL_law_700 : decode code 700 = .ok (.iconst 3, 1) := by decide +kernel
theorem dL_law_701 : decode code 701 = .ok (.iadd, 1) := by decide +kernel
theorem dL_law_702 : decode code 702 = .ok (.iaload, 1) := by decide +kernel
theorem dL_law_703 : decode code 703 = .ok (.i2l, 1) := by decide +kernel
theorem dL_law_704 : decode code 704 = .ok (.ldc2_w 81, 3) := by decide +kernel
theorem dL_law_707 : decode code 707 = .ok (.land, 1) := by decide +kernel
theorem dL_law_708 : decode code 708 = .ok (.lor, 1) := by decide +kernel
theorem dL_law_709 : decode code 709 = .ok (.invokevirtual 87, 3) := by decide +kernel
theorem dL_law_712 : decode code 712 = .ok (.if_icmp .eq 508, 3) := by decide +kernel
theorem dL_law_715 : decode code 715 = .ok (.iconst 0, 1) := by decide +kernel
theorem dL_law_716 : decode code 716 = .ok (.ireturn, 1) := by decide +kernel
theorem dL_law_717 : decode code 717 = .ok (.aload_n 1, 1) := by decide +kernel
theorem dL_law_718 : decode code 718 = .ok (.invokevirtual 88, 3) := by decide +kernel
theorem dL_law_721 : decode code 721 = .ok (.aload_n 2, 1) := by decide +kernel
theorem dL_law_722 : decode code 722 = .ok (.invokevirtual 91, 3) := by decide +kernel
theorem dL_law_725 : decode code 725 = .ok (.if_icmp .eq 495, 3) := by decide +kernel
theorem dL_law_728 : decode code 728 = .ok (.iconst 0, 1) := by decide +kernel
theorem dL_law_729 : decode code 729 = .ok (.ireturn, 1) := by decide +kernel
theorem dL_law_730 : decode code 730 = .ok (.aload_n 1, 1) := by decide +kernel
theorem dL_law_731 : decode code 731 = .ok (.aload_n 0, 1) := by decide +kernel
theorem dL_law_732 : decode code 732 = .ok (.iload 4, 2) := by decide +kernel
theorem dL_law_734 : decode code 734 = .ok (.iconst 1, 1) := by decide +kernel
theorem dL_law_735 : decode code 735 = .ok (.iadd, 1) := by decide +kernel
theorem dL_law_736 : decode code 736 = .ok (.iaload, 1) := by decide +kernel
theorem dL_law_737 : decode code 737 = .ok (.aload_n 0, 1) := by decide +kernel
theorem dL_law_738 : decode code 738 = .ok (.iload 4, 2) := by decide +kernel
theorem dL_law_740 : decode code 740 = .ok (.iconst 2, 1) := by decide +kernel
theorem dL_law_741 : decode code 741 = .ok (.iadd, 1) := by decide +kernel
theorem dL_law_742 : decode code 742 = .ok (.iaload, 1) := by decide +kernel
theorem dL_law_743 : decode code 743 = .ok (.ifCond .eq 7, 3) := by decide +kernel
theorem dL_law_746 : decode code 746 = .ok (.iconst 1, 1) := by decide +kernel
theorem dL_law_747 : decode code 747 = .ok (.goto 4, 3) := by decide +kernel
theorem dL_law_750 : decode code 750 = .ok (.iconst 0, 1) := by decide +kernel
theorem dL_law_751 : decode code 751 = .ok (.invokevirtual 92, 3) := by decide +kernel
theorem dL_law_754 : decode code 754 = .ok (.aload_n 2, 1) := by decide +kernel
theorem dL_law_755 : decode code 755 = .ok (.aload_n 0, 1) := by decide +kernel
theorem dL_law_756 : decode code 756 = .ok (.iload 4, 2) := by decide +kernel
theorem dL_law_758 : decode code 758 = .ok (.iconst 1, 1) := by decide +kernel
theorem dL_law_759 : decode code 759 = .ok (.iadd, 1) := by decide +kernel
theorem dL_law_760 : decode code 760 = .ok (.iaload, 1) := by decide +kernel
theorem dL_law_761 : decode code 761 = .ok (.aload_n 0, 1) := by decide +kernel
theorem dL_law_762 : decode code 762 = .ok (.iload 4, 2) := by decide +kernel
theorem dL_law_764 : decode code 764 = .ok (.iconst 2, 1) := by decide +kernel
theorem dL_law_765 : decode code 765 = .ok (.iadd, 1) := by decide +kernel
theorem dL_law_766 : decode code 766 = .ok (.iaload, 1) := by decide +kernel
theorem dL_law_767 : decode code 767 = .ok (.ifCond .eq 7, 3) := by decide +kernel
theorem dL_law_770 : decode code 770 = .ok (.iconst 1, 1) := by decide +kernel
theorem dL_law_771 : decode code 771 = .ok (.goto 4, 3) := by decide +kernel
theorem dL_law_774 : decode code 774 = .ok (.iconst 0, 1) := by decide +kernel
theorem dL_law_775 : decode code 775 = .ok (.invokevirtual 96, 3) := by decide +kernel
theorem dL_law_778 : decode code 778 = .ok (.lcmp, 1) := by decide +kernel
theorem dL_law_779 : decode code 779 = .ok (.ifCond .eq 441, 3) := by decide +kernel
theorem dL_law_782 : decode code 782 = .ok (.iconst 0, 1) := by decide +kernel
theorem dL_law_783 : decode code 783 = .ok (.ireturn, 1) := by decide +kernel
theorem dL_law_784 : decode code 784 = .ok (.aload_n 1, 1) := by decide +kernel
theorem dL_law_785 : decode code 785 = .ok (.aload_n 0, 1) := by decide +kernel
theorem dL_law_786 : decode code 786 = .ok (.iload 4, 2) := by decide +kernel
theorem dL_law_788 : decode code 788 = .ok (.iconst 1, 1) := by decide +kernel
theorem dL_law_789 : decode code 789 = .ok (.iadd, 1) := by decide +kernel
theorem dL_law_790 : decode code 790 = .ok (.iaload, 1) := by decide +kernel
theorem dL_law_791 : decode code 791 = .ok (.aload_n 0, 1) := by decide +kernel
theorem dL_law_792 : decode code 792 = .ok (.iload 4, 2) := by decide +kernel
theorem dL_law_794 : decode code 794 = .ok (.iconst 2, 1) := by decide +kernel
theorem dL_law_795 : decode code 795 = .ok (.iadd, 1) := by decide +kernel
theorem dL_law_796 : decode code 796 = .ok (.iaload, 1) := by decide +kernel
theorem dL_law_797 : decode code 797 = .ok (.invokevirtual 97, 3) := by decide +kernel
theorem dL_law_800 : decode code 800 = .ok (.aload_n 2, 1) := by decide +kernel
theorem dL_law_801 : decode code 801 = .ok (.aload_n 0, 1) := by decide +kernel
theorem dL_law_802 : decode code 802 = .ok (.iload 4, 2) := by decide +kernel
theorem dL_law_804 : decode code 804 = .ok (.iconst 1, 1) := by decide +kernel
theorem dL_law_805 : decode code 805 = .ok (.iadd, 1) := by decide +kernel
theorem dL_law_806 : decode code 806 = .ok (.iaload, 1) := by decide +kernel
theorem dL_law_807 : decode code 807 = .ok (.aload_n 0, 1) := by decide +kernel
theorem dL_law_808 : decode code 808 = .ok (.iload 4, 2) := by decide +kernel
theorem dL_law_810 : decode code 810 = .ok (.iconst 2, 1) := by decide +kernel
theorem dL_law_811 : decode code 811 = .ok (.iadd, 1) := by decide +kernel
theorem dL_law_812 : decode code 812 = .ok (.iaload, 1) := by decide +kernel
theorem dL_law_813 : decode code 813 = .ok (.invokevirtual 101, 3) := by decide +kernel
theorem dL_law_816 : decode code 816 = .ok (.lcmp, 1) := by decide +kernel
theorem dL_law_817 : decode code 817 = .ok (.ifCond .eq 403, 3) := by decide +kernel
theorem dL_law_820 : decode code 820 = .ok (.iconst 0, 1) := by decide +kernel
theorem dL_law_821 : decode code 821 = .ok (.ireturn, 1) := by decide +kernel
theorem dL_law_822 : decode code 822 = .ok (.aload_n 1, 1) := by decide +kernel
theorem dL_law_823 : decode code 823 = .ok (.aload_n 0, 1) := by decide +kernel
theorem dL_law_824 : decode code 824 = .ok (.iload 4, 2) := by decide +kernel
theorem dL_law_826 : decode code 826 = .ok (.iconst 1, 1) := by decide +kernel
theorem dL_law_827 : decode code 827 = .ok (.iadd, 1) := by decide +kernel
theorem dL_law_828 : decode code 828 = .ok (.iaload, 1) := by decide +kernel
theorem dL_law_829 : decode code 829 = .ok (.aload_n 0, 1) := by decide +kernel
theorem dL_law_830 : decode code 830 = .ok (.iload 4, 2) := by decide +kernel
theorem dL_law_832 : decode code 832 = .ok (.iconst 2, 1) := by decide +kernel
theorem dL_law_833 : decode code 833 = .ok (.iadd, 1) := by decide +kernel
theorem dL_law_834 : decode code 834 = .ok (.iaload, 1) := by decide +kernel
theorem dL_law_835 : decode code 835 = .ok (.invokevirtual 102, 3) := by decide +kernel
theorem dL_law_838 : decode code 838 = .ok (.aload_n 2, 1) := by decide +kernel
theorem dL_law_839 : decode code 839 = .ok (.aload_n 0, 1) := by decide +kernel
theorem dL_law_840 : decode code 840 = .ok (.iload 4, 2) := by decide +kernel
theorem dL_law_842 : decode code 842 = .ok (.iconst 1, 1) := by decide +kernel
theorem dL_law_843 : decode code 843 = .ok (.iadd, 1) := by decide +kernel
theorem dL_law_844 : decode code 844 = .ok (.iaload, 1) := by decide +kernel
theorem dL_law_845 : decode code 845 = .ok (.aload_n 0, 1) := by decide +kernel
theorem dL_law_846 : decode code 846 = .ok (.iload 4, 2) := by decide +kernel
theorem dL_law_848 : decode code 848 = .ok (.iconst 2, 1) := by decide +kernel
theorem dL_law_849 : decode code 849 = .ok (.iadd, 1) := by decide +kernel
theorem dL_law_850 : decode code 850 = .ok (.iaload, 1) := by decide +kernel
theorem dL_law_851 : decode code 851 = .ok (.invokevirtual 105, 3) := by decide +kernel
theorem dL_law_854 : decode code 854 = .ok (.if_icmp .eq 366, 3) := by decide +kernel
theorem dL_law_857 : decode code 857 = .ok (.iconst 0, 1) := by decide +kernel
theorem dL_law_858 : decode code 858 = .ok (.ireturn, 1) := by decide +kernel
theorem dL_law_859 : decode code 859 = .ok (.aload_n 1, 1) := by decide +kernel
theorem dL_law_860 : decode code 860 = .ok (.aload_n 0, 1) := by decide +kernel
theorem dL_law_861 : decode code 861 = .ok (.iload 4, 2) := by decide +kernel
theorem dL_law_863 : decode code 863 = .ok (.iconst 1, 1) := by decide +kernel
theorem dL_law_864 : decode code 864 = .ok (.iadd, 1) := by decide +kernel
theorem dL_law_865 : decode code 865 = .ok (.iaload, 1) := by decide +kernel
theorem dL_law_866 : decode code 866 = .ok (.aload_n 0, 1) := by decide +kernel
theorem dL_law_867 : decode code 867 = .ok (.iload 4, 2) := by decide +kernel
theorem dL_law_869 : decode code 869 = .ok (.iconst 2, 1) := by decide +kernel
theorem dL_law_870 : decode code 870 = .ok (.iadd, 1) := by decide +kernel
theorem dL_law_871 : decode code 871 = .ok (.iaload, 1) := by decide +kernel
theorem dL_law_872 : decode code 872 = .ok (.invokevirtual 106, 3) := by decide +kernel
theorem dL_law_875 : decode code 875 = .ok (.aload_n 2, 1) := by decide +kernel
theorem dL_law_876 : decode code 876 = .ok (.aload_n 0, 1) := by decide +kernel
theorem dL_law_877 : decode code 877 = .ok (.iload 4, 2) := by decide +kernel
theorem dL_law_879 : decode code 879 = .ok (.iconst 1, 1) := by decide +kernel
theorem dL_law_880 : decode code 880 = .ok (.iadd, 1) := by decide +kernel
theorem dL_law_881 : decode code 881 = .ok (.iaload, 1) := by decide +kernel
theorem dL_law_882 : decode code 882 = .ok (.aload_n 0, 1) := by decide +kernel
theorem dL_law_883 : decode code 883 = .ok (.iload 4, 2) := by decide +kernel
theorem dL_law_885 : decode code 885 = .ok (.iconst 2, 1) := by decide +kernel
theorem dL_law_886 : decode code 886 = .ok (.iadd, 1) := by decide +kernel
theorem dL_law_887 : decode code 887 = .ok (.iaload, 1) := by decide +kernel
theorem dL_law_888 : decode code 888 = .ok (.invokevirtual 109, 3) := by decide +kernel
theorem dL_law_891 : decode code 891 = .ok (.if_icmp .eq 329, 3) := by decide +kernel
theorem dL_law_894 : decode code 894 = .ok (.iconst 0, 1) := by decide +kernel
theorem dL_law_895 : decode code 895 = .ok (.ireturn, 1) := by decide +kernel
theorem dL_law_896 : decode code 896 = .ok (.aload_n 1, 1) := by decide +kernel
theorem dL_law_897 : decode code 897 = .ok (.aload_n 0, 1) := by decide +kernel
theorem dL_law_898 : decode code 898 = .ok (.iload 4, 2) := by decide +kernel
theorem dL_law_900 : decode code 900 = .ok (.iconst 1, 1) := by decide +kernel
theorem dL_law_901 : decode code 901 = .ok (.iadd, 1) := by decide +kernel
theorem dL_law_902 : decode code 902 = .ok (.iaload, 1) := by decide +kernel
theorem dL_law_903 : decode code 903 = .ok (.aload_n 0, 1) := by decide +kernel
theorem dL_law_904 : decode code 904 = .ok (.iload 4, 2) := by decide +kernel
theorem dL_law_906 : decode code 906 = .ok (.iconst 2, 1) := by decide +kernel
theorem dL_law_907 : decode code 907 = .ok (.iadd, 1) := by decide +kernel
theorem dL_law_908 : decode code 908 = .ok (.iaload, 1) := by decide +kernel
theorem dL_law_909 : decode code 909 = .ok (.invokevirtual 110, 3) := by decide +kernel
theorem dL_law_912 : decode code 912 = .ok (.aload_n 2, 1) := by decide +kernel
theorem dL_law_913 : decode code 913 = .ok (.aload_n 0, 1) := by decide +kernel
theorem dL_law_914 : decode code 914 = .ok (.iload 4, 2) := by decide +kernel
theorem dL_law_916 : decode code 916 = .ok (.iconst 1, 1) := by decide +kernel
theorem dL_law_917 : decode code 917 = .ok (.iadd, 1) := by decide +kernel
theorem dL_law_918 : decode code 918 = .ok (.iaload, 1) := by decide +kernel
theorem dL_law_919 : decode code 919 = .ok (.aload_n 0, 1) := by decide +kernel
theorem dL_law_920 : decode code 920 = .ok (.iload 4, 2) := by decide +kernel
theorem dL_law_922 : decode code 922 = .ok (.iconst 2, 1) := by decide +kernel
theorem dL_law_923 : decode code 923 = .ok (.iadd, 1) := by decide +kernel
theorem dL_law_924 : decode code 924 = .ok (.iaload, 1) := by decide +kernel
theorem dL_law_925 : decode code 925 = .ok (.invokevirtual 113, 3) := by decide +kernel
theorem dL_law_928 : decode code 928 = .ok (.if_icmp .eq 292, 3) := by decide +kernel
theorem dL_law_931 : decode code 931 = .ok (.iconst 0, 1) := by decide +kernel
theorem dL_law_932 : decode code 932 = .ok (.ireturn, 1) := by decide +kernel
theorem dL_law_933 : decode code 933 = .ok (.aload_n 1, 1) := by decide +kernel
theorem dL_law_934 : decode code 934 = .ok (.aload_n 0, 1) := by decide +kernel
theorem dL_law_935 : decode code 935 = .ok (.iload 4, 2) := by decide +kernel
theorem dL_law_937 : decode code 937 = .ok (.iconst 1, 1) := by decide +kernel
theorem dL_law_938 : decode code 938 = .ok (.iadd, 1) := by decide +kernel
theorem dL_law_939 : decode code 939 = .ok (.iaload, 1) := by decide +kernel
theorem dL_law_940 : decode code 940 = .ok (.aload_n 0, 1) := by decide +kernel
theorem dL_law_941 : decode code 941 = .ok (.iload 4, 2) := by decide +kernel
theorem dL_law_943 : decode code 943 = .ok (.iconst 2, 1) := by decide +kernel
theorem dL_law_944 : decode code 944 = .ok (.iadd, 1) := by decide +kernel
theorem dL_law_945 : decode code 945 = .ok (.iaload, 1) := by decide +kernel
theorem dL_law_946 : decode code 946 = .ok (.invokevirtual 114, 3) := by decide +kernel
theorem dL_law_949 : decode code 949 = .ok (.aload_n 2, 1) := by decide +kernel
theorem dL_law_950 : decode code 950 = .ok (.aload_n 0, 1) := by decide +kernel
theorem dL_law_951 : decode code 951 = .ok (.iload 4, 2) := by decide +kernel
theorem dL_law_953 : decode code 953 = .ok (.iconst 1, 1) := by decide +kernel
theorem dL_law_954 : decode code 954 = .ok (.iadd, 1) := by decide +kernel
theorem dL_law_955 : decode code 955 = .ok (.iaload, 1) := by decide +kernel
theorem dL_law_956 : decode code 956 = .ok (.aload_n 0, 1) := by decide +kernel
theorem dL_law_957 : decode code 957 = .ok (.iload 4, 2) := by decide +kernel
theorem dL_law_959 : decode code 959 = .ok (.iconst 2, 1) := by decide +kernel
theorem dL_law_960 : decode code 960 = .ok (.iadd, 1) := by decide +kernel
theorem dL_law_961 : decode code 961 = .ok (.iaload, 1) := by decide +kernel
theorem dL_law_962 : decode code 962 = .ok (.invokevirtual 117, 3) := by decide +kernel
theorem dL_law_965 : decode code 965 = .ok (.lcmp, 1) := by decide +kernel
theorem dL_law_966 : decode code 966 = .ok (.ifCond .eq 254, 3) := by decide +kernel
theorem dL_law_969 : decode code 969 = .ok (.iconst 0, 1) := by decide +kernel
theorem dL_law_970 : decode code 970 = .ok (.ireturn, 1) := by decide +kernel
theorem dL_law_971 : decode code 971 = .ok (.aload_n 1, 1) := by decide +kernel
theorem dL_law_972 : decode code 972 = .ok (.invokevirtual 118, 3) := by decide +kernel
theorem dL_law_975 : decode code 975 = .ok (.aload_n 2, 1) := by decide +kernel
theorem dL_law_976 : decode code 976 = .ok (.invokevirtual 122, 3) := by decide +kernel
theorem dL_law_979 : decode code 979 = .ok (.lcmp, 1) := by decide +kernel
