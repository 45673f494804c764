theorem dL_law_525 : decode code 525 = .ok (.iaload, 1) := by decide +kernel
theorem dL_law_526 : decode code 526 = .ok (.aload_n 0, 1) := by decide +kernel
theorem dL_law_527 : decode code 527 = .ok (.iload 4, 2) := by decide +kernel
theorem dL_law_529 : decode code 529 = .ok (.iconst 2, 1) := by decide +kernel
theorem dL_law_530 : decode code 530 = .ok (.iadd, 1) := by decide +kernel
theorem dL_law_531 : decode code 531 = .ok (.iaload, 1) := by decide +kernel
theorem dL_law_532 : decode code 532 = .ok (.aload_n 0, 1) := by decide +kernel
theorem dL_law_533 : decode code 533 = .ok (.iload 4, 2) := by decide +kernel
theorem dL_law_535 : decode code 535 = .ok (.iconst 3, 1) := by decide +kernel
theorem dL_law_536 : decode code 536 = .ok (.iadd, 1) := by decide +kernel
theorem dL_law_537 : decode code 537 = .ok (.iaload, 1) := by decide +kernel
theorem dL_law_538 : decode code 538 = .ok (.aload_n 0, 1) := by decide +kernel
theorem dL_law_539 : decode code 539 = .ok (.iload 4, 2) := by decide +kernel
theorem dL_law_541 : decode code 541 = .ok (.iconst 4, 1) := by decide +kernel
theorem dL_law_542 : decode code 542 = .ok (.iadd, 1) := by decide +kernel
theorem dL_law_543 : decode code 543 = .ok (.iaload, 1) := by decide +kernel
theorem dL_law_544 : decode code 544 = .ok (.invokevirtual 111, 3) := by decide +kernel
theorem dL_law_547 : decode code 547 = .ok (.if_icmp .eq 1155, 3) := by decide +kernel
theorem dL_law_552 : decode code 552 = .ok (.aload_n 1, 1) := by decide +kernel
theorem dL_law_553 : decode code 553 = .ok (.invokevirtual 112, 3) := by decide +kernel
theorem dL_law_556 : decode code 556 = .ok (.aload_n 2, 1) := by decide +kernel
theorem dL_law_557 : decode code 557 = .ok (.invokevirtual 115, 3) := by decide +kernel
theorem dL_law_560 : decode code 560 = .ok (.if_icmp .eq 1142, 3) := by decide +kernel
theorem dL_law_565 : decode code 565 = .ok (.aload_n 1, 1) := by decide +kernel
theorem dL_law_566 : decode code 566 = .ok (.aload_n 0, 1) := by decide +kernel
theorem dL_law_567 : decode code 567 = .ok (.iload 4, 2) := by decide +kernel
theorem dL_law_569 : decode code 569 = .ok (.iconst 1, 1) := by decide +kernel
theorem dL_law_570 : decode code 570 = .ok (.iadd, 1) := by decide +kernel
theorem dL_law_571 : decode code 571 = .ok (.iaload, 1) := by decide +kernel
theorem dL_law_572 : decode code 572 = .ok (.aload_n 0, 1) := by decide +kernel
theorem dL_law_573 : decode code 573 = .ok (.iload 4, 2) := by decide +kernel
theorem dL_law_575 : decode code 575 = .ok (.iconst 2, 1) := by decide +kernel
theorem dL_law_576 : decode code 576 = .ok (.iadd, 1) := by decide +kernel
theorem dL_law_577 : decode code 577 = .ok (.iaload, 1) := by decide +kernel
theorem dL_law_578 : decode code 578 = .ok (.aload_n 3, 1) := by decide +kernel
theorem dL_law_579 : decode code 579 = .ok (.invokestatic 116, 3) := by decide +kernel
theorem dL_law_582 : decode code 582 = .ok (.istore 5, 2) := by decide +kernel
theorem dL_law_584 : decode code 584 = .ok (.aload_n 2, 1) := by decide +kernel
theorem dL_law_585 : decode code 585 = .ok (.aload_n 0, 1) := by decide +kernel
theorem dL_law_586 : decode code 586 = .ok (.iload 4, 2) := by decide +kernel
theorem dL_law_588 : decode code 588 = .ok (.iconst 1, 1) := by decide +kernel
theorem dL_law_589 : decode code 589 = .ok (.iadd, 1) := by decide +kernel
theorem dL_law_590 : decode code 590 = .ok (.iaload, 1) := by decide +kernel
theorem dL_law_591 : decode code 591 = .ok (.aload_n 0, 1) := by decide +kernel
theorem dL_law_592 : decode code 592 = .ok (.iload 4, 2) := by decide +kernel
theorem dL_law_594 : decode code 594 = .ok (.iconst 2, 1) := by decide +kernel
theorem dL_law_595 : decode code 595 = .ok (.iadd, 1) := by decide +kernel
theorem dL_law_596 : decode code 596 = .ok (.iaload, 1) := by decide +kernel
theorem dL_law_597 : decode code 597 = .ok (.invokevirtual 118, 3) := by decide +kernel
theorem dL_law_600 : decode code 600 = .ok (.istore 6, 2) := by decide +kernel
theorem dL_law_602 : decode code 602 = .ok (.aload_n 2, 1) := by decide +kernel
theorem dL_law_603 : decode code 603 = .ok (.invokevirtual 89, 3) := by decide +kernel
theorem dL_law_606 : decode code 606 = .ok (.iload 5, 2) := by decide +kernel
theorem dL_law_608 : decode code 608 = .ok (.if_icmp .eq 5, 3) := by decide +kernel
theorem dL_law_613 : decode code 613 = .ok (.iload 5, 2) := by decide +kernel
theorem dL_law_615 : decode code 615 = .ok (.ifCond .ne 15, 3) := by decide +kernel
theorem dL_law_618 : decode code 618 = .ok (.aload_n 3, 1) := by decide +kernel
theorem dL_law_619 : decode code 619 = .ok (.iconst 0, 1) := by decide +kernel
theorem dL_law_620 : decode code 620 = .ok (.laload, 1) := by decide +kernel
theorem dL_law_621 : decode code 621 = .ok (.iload 6, 2) := by decide +kernel
theorem dL_law_623 : decode code 623 = .ok (.i2l, 1) := by decide +kernel
theorem dL_law_624 : decode code 624 = .ok (.lcmp, 1) := by decide +kernel
theorem dL_law_625 : decode code 625 = .ok (.ifCond .eq 5, 3) := by decide +kernel
theorem dL_law_630 : decode code 630 = .ok (.goto 1072, 3) := by decide +kernel
theorem dL_law_633 : decode code 633 = .ok (.aload_n 1, 1) := by decide +kernel
theorem dL_law_634 : decode code 634 = .ok (.aload_n 0, 1) := by decide +kernel
theorem dL_law_635 : decode code 635 = .ok (.iload 4, 2) := by decide +kernel
theorem dL_law_637 : decode code 637 = .ok (.iconst 1, 1) := by decide +kernel
theorem dL_law_638 : decode code 638 = .ok (.iadd, 1) := by decide +kernel
theorem dL_law_639 : decode code 639 = .ok (.iaload, 1) := by decide +kernel
theorem dL_law_640 : decode code 640 = .ok (.aload_n 0, 1) := by decide +kernel
theorem dL_law_641 : decode code 641 = .ok (.iload 4, 2) := by decide +kernel
theorem dL_law_643 : decode code 643 = .ok (.iconst 2, 1) := by decide +kernel
theorem dL_law_644 : decode code 644 = .ok (.iadd, 1) := by decide +kernel
theorem dL_law_645 : decode code 645 = .ok (.iaload, 1) := by decide +kernel
theorem dL_law_646 : decode code 646 = .ok (.aload_n 3, 1) := by decide +kernel
theorem dL_law_647 : decode code 647 = .ok (.invokestatic 119, 3) := by decide +kernel
theorem dL_law_650 : decode code 650 = .ok (.istore 5, 2) := by decide +kernel
theorem dL_law_652 : decode code 652 = .ok (.aload_n 2, 1) := by decide +kernel
theorem dL_law_653 : decode code 653 = .ok (.aload_n 0, 1) := by decide +kernel
theorem dL_law_654 : decode code 654 = .ok (.iload 4, 2) := by decide +kernel
theorem dL_law_656 : decode code 656 = .ok (.iconst 1, 1) := by decide +kernel
theorem dL_law_657 : decode code 657 = .ok (.iadd, 1) := by decide +kernel
theorem dL_law_658 : decode code 658 = .ok (.iaload, 1) := by decide +kernel
theorem dL_law_659 : decode code 659 = .ok (.aload_n 0, 1) := by decide +kernel
theorem dL_law_660 : decode code 660 = .ok (.iload 4, 2) := by decide +kernel
theorem dL_law_662 : decode code 662 = .ok (.iconst 2, 1) := by decide +kernel
theorem dL_law_663 : decode code 663 = .ok (.iadd, 1) := by decide +kernel
theorem dL_law_664 : decode code 664 = .ok (.iaload, 1) := by decide +kernel
theorem dL_law_665 : decode code 665 = .ok (.invokevirtual 121, 3) := by decide +kernel
theorem dL_law_668 : decode code 668 = .ok (.istore 6, 2) := by decide +kernel
theorem dL_law_670 : decode code 670 = .ok (.aload_n 2, 1) := by decide +kernel
theorem dL_law_671 : decode code 671 = .ok (.invokevirtual 89, 3) := by decide +kernel
theorem dL_law_674 : decode code 674 = .ok (.iload 5, 2) := by decide +kernel
theorem dL_law_676 : decode code 676 = .ok (.if_icmp .eq 5, 3) := by decide +kernel
theorem dL_law_681 : decode code 681 = .ok (.iload 5, 2) := by decide +kernel
theorem dL_law_683 : decode code 683 = .ok (.ifCond .ne 15, 3) := by decide +kernel
theorem dL_law_686 : decode code 686 = .ok (.aload_n 3, 1) := by decide +kernel
theorem dL_law_687 : decode code 687 = .ok (.iconst 0, 1) := by decide +kernel
theorem dL_law_688 : decode code 688 = .ok (.laload, 1) := by decide +kernel
theorem dL_law_689 : decode code 689 = .ok (.iload 6, 2) := by decide +kernel
theorem dL_law_691 : decode code 691 = .ok (.i2l, 1) := by decide +kernel
theorem dL_law_692 : decode code 692 = .ok (.lcmp, 1) := by decide +kernel
theorem dL_law_693 : decode code 693 = .ok (.ifCond .eq 5, 3) := by decide +kernel
theorem dL_law_698 : decode code 698 = .ok (.goto 1004, 3) := by decide +kernel
theorem dL_law_701 : decode code 701 = .ok (.aload_n 1, 1) := by decide +kernel
theorem dL_law_702 : decode code 702 = .ok (.aload_n 0, 1) := by decide +kernel
theorem dL_law_703 : decode code 703 = .ok (.iload 4, 2) := by decide +kernel
theorem dL_law_705 : decode code 705 = .ok (.iconst 1, 1) := by decide +kernel
theorem dL_law_706 : decode code 706 = .ok (.iadd, 1) := by decide +kernel
theorem dL_law_707 : decode code 707 = .ok (.iaload, 1) := by decide +kernel
theorem dL_law_708 : decode code 708 = .ok (.aload_n 0, 1) := by decide +kernel
theorem dL_law_709 : decode code 709 = .ok (.iload 4, 2) := by decide +kernel
theorem dL_law_711 : decode code 711 = .ok (.iconst 2, 1) := by decide +kernel
theorem dL_law_712 : decode code 712 = .ok (.iadd, 1) := by decide +kernel
theorem dL_law_713 : decode code 713 = .ok (.iaload, 1) := by decide +kernel
theorem dL_law_714 : decode code 714 = .ok (.aload_n 0, 1) := by decide +kernel
theorem dL_law_715 : decode code 715 = .ok (.iload 4, 2) := by decide +kernel
theorem dL_law_717 : decode code 717 = .ok (.iconst 3, 1) := by decide +kernel
theorem dL_law_718 : decode code 718 = .ok (.iadd, 1) := by decide +kernel
theorem dL_law_719 : decode code 719 = .ok (.iaload, 1) := by decide +kernel
theorem dL_law_720 : decode code 720 = .ok (.aload_n 3, 1) := by decide +kernel
theorem dL_law_721 : decode code 721 = .ok (.invokestatic 122, 3) := by decide +kernel
theorem dL_law_724 : decode code 724 = .ok (.istore 5, 2) := by decide +kernel
theorem dL_law_726 : decode code 726 = .ok (.aload_n 2, 1) := by decide +kernel
theorem dL_law_727 : decode code 727 = .ok (.aload_n 0, 1) := by decide +kernel
theorem dL_law_728 : decode code 728 = .ok (.iload 4, 2) := by decide +kernel
theorem dL_law_730 : decode code 730 = .ok (.iconst 1, 1) := by decide +kernel
theorem dL_law_731 : decode code 731 = .ok (.iadd, 1) := by decide +kernel
theorem dL_law_732 : decode code 732 = .ok (.iaload, 1) := by decide +kernel
theorem dL_law_733 : decode code 733 = .ok (.aload_n 0, 1) := by decide +kernel
theorem dL_law_734 : decode code 734 = .ok (.iload 4, 2) := by decide +kernel
theorem dL_law_736 : decode code 736 = .ok (.iconst 2, 1) := by decide +kernel
theorem dL_law_737 : decode code 737 = .ok (.iadd, 1) := by decide +kernel
theorem dL_law_738 : decode code 738 = .ok (.iaload, 1) := by decide +kernel
theorem dL_law_739 : decode code 739 = .ok (.aload_n 0, 1) := by decide +kernel
theorem dL_law_740 : decode code 740 = .ok (.iload 4, 2) := by decide +kernel
theorem dL_law_742 : decode code 742 = .ok (.iconst 3, 1) := by decide +kernel
theorem dL_law_743 : decode code 743 = .ok (.iadd, 1) := by decide +kernel
theorem dL_law_744 : decode code 744 = .ok (.iaload, 1) := by decide +kernel
theorem dL_law_745 : decode code 745 = .ok (.invokevirtual 125, 3) := by decide +kernel
theorem dL_law_748 : decode code 748 = .ok (.istore 6, 2) := by decide +kernel
theorem dL_law_750 : decode code 750 = .ok (.aload_n 2, 1) := by decide +kernel
theorem dL_law_751 : decode code 751 = .ok (.invokevirtual 89, 3) := by decide +kernel
theorem dL_law_754 : decode code 754 = .ok (.iload 5, 2) := by decide +kernel
theorem dL_law_756 : decode code 756 = .ok (.if_icmp .eq 5, 3) := by decide +kernel
theorem dL_law_761 : decode code 761 = .ok (.iload 5, 2) := by decide +kernel
theorem dL_law_763 : decode code 763 = .ok (.ifCond .ne 15, 3) := by decide +kernel
theorem dL_law_766 : decode code 766 = .ok (.aload_n 3, 1) := by decide +kernel
theorem dL_law_767 : decode code 767 = .ok (.iconst 0, 1) := by decide +kernel
theorem dL_law_768 : decode code 768 = .ok (.laload, 1) := by decide +kernel
theorem dL_law_769 : decode code 769 = .ok (.iload 6, 2) := by decide +kernel
theorem dL_law_771 : decode code 771 = .ok (.i2l, 1) := by decide +kernel
theorem dL_law_772 : decode code 772 = .ok (.lcmp, 1) := by decide +kernel
theorem dL_law_773 : decode code 773 = .ok (.ifCond .eq 5, 3) := by decide +kernel
theorem dL_law_778 : decode code 778 = .ok (.goto 924, 3) := by decide +kernel
theorem dL_law_781 : decode code 781 = .ok (.aload_n 1, 1) := by decide +kernel
theorem dL_law_782 : decode code 782 = .ok (.aload_n 0, 1) := by decide +kernel
theorem dL_law_783 : decode code 783 = .ok (.iload 4, 2) := by decide +kernel
theorem dL_law_785 : decode code 785 = .ok (.iconst 1, 1) := by decide +kernel
theorem dL_law_786 : decode code 786 = .ok (.iadd, 1) := by decide +kernel
theorem dL_law_787 : decode code 787 = .ok (.iaload, 1) := by decide +kernel
theorem dL_law_788 : decode code 788 = .ok (.aload_n 0, 1) := by decide +kernel
theorem dL_law_789 : decode code 789 = .ok (.iload 4, 2) := by decide +kernel
theorem dL_law_791 : decode code 791 = .ok (.iconst 2, 1) := by decide +kernel
theorem dL_law_792 : decode code 792 = .ok (.iadd, 1) := by decide +kernel
theorem dL_law_793 : decode code 793 = .ok (.iaload, 1) := by decide +kernel
theorem dL_law_794 : decode code 794 = .ok (.aload_n 3, 1) := by decide +kernel
theorem dL_law_795 : decode code 795 = .ok (.invokestatic 126, 3) := by decide +kernel
theorem dL_law_798 : decode code 798 = .ok (.istore 5, 2) := by decide +kernel
theorem dL_law_800 : decode code 800 = .ok (.aload_n 2, 1) := by decide +kernel
theorem dL_law_801 : decode code 801 = .ok (.aload_n 0, 1) := by decide +kernel
theorem dL_law_802 : decode code 802 = .ok (.iload 4, 2) := by decide +kernel
theorem dL_law_804 : decode code 804 = .ok (.iconst 1, 1) := by decide +kernel
theorem dL_law_805 : decode code 805 = .ok (.iadd, 1) := by decide +kernel
theorem dL_law_806 : decode code 806 = .ok (.iaload, 1) := by decide +kernel
theorem dL_law_807 : decode code 807 = .ok (.aload_n 0, 1) := by decide +kernel
theorem dL_law_808 : decode code 808 = .ok (.iload 4, 2) := by decide +kernel
theorem dL_law_810 : decode code 810 = .ok (.iconst 2, 1) := by decide +kernel
theorem dL_law_811 : decode code 811 = .ok (.iadd, 1) := by decide +kernel
theorem dL_law_812 : decode code 812 = .ok (.iaload, 1) := by decide +kernel
theorem dL_law_813 : decode code 813 = .ok (.invokevirtual 128, 3) := by decide +kernel
theorem dL_law_816 : decode code 816 = .ok (.istore 6, 2) := by decide +kernel
theorem dL_law_818 : decode code 818 = .ok (.aload_n 2, 1) := by decide +kernel
theorem dL_law_819 : decode code 819 = .ok (.invokevirtual 89, 3) := by decide +kernel
theorem dL_law_822 : decode code 822 = .ok (.iload 5, 2) := by decide +kernel
theorem dL_law_824 : decode code 824 = .ok (.if_icmp .eq 5, 3) := by decide +kernel
theorem dL_law_829 : decode code 829 = .ok (.iload 5, 2) := by decide +kernel
theorem dL_law_831 : decode code 831 = .ok (.ifCond .ne 15, 3) := by decide +kernel
theorem dL_law_834 : decode code 834 = .ok (.aload_n 3, 1) := by decide +kernel
theorem dL_law_835 : decode code 835 = .ok (.iconst 0, 1) := by decide +kernel
theorem dL_law_836 : decode code 836 = .ok (.laload, 1) := by decide +kernel
theorem dL_law_837 : decode code 837 = .ok (.iload 6, 2) := by decide +kernel
theorem dL_law_839 : decode code 839 = .ok (.i2l, 1) := by decide +kernel
theorem dL_law_840 : decode code 840 = .ok (.lcmp, 1) := by decide +kernel
theorem dL_law_841 : decode code 841 = .ok (.ifCond .eq 5, 3) := by decide +kernel
theorem dL_law_846 : decode code 846 = .ok (.goto 856, 3) := by decide +kernel
theorem dL_law_849 : decode code 849 = .ok (.aload_n 1, 1) := by decide +kernel
theorem dL_law_850 : decode code 850 = .ok (.aload_n 0, 1) := by decide +kernel
theorem dL_law_851 : decode code 851 = .ok (.iload 4, 2) := by decide +kernel
theorem dL_law_853 : decode code 853 = .ok (.iconst 1, 1) := by decide +kernel
theorem dL_law_854 : decode code 854 = .ok (.iadd, 1) := by decide +kernel
theorem dL_law_855 : decode code 855 = .ok (.iaload, 1) := by decide +kernel
theorem dL_law_856 : decode code 856 = .ok (.aload_n 0, 1) := by decide +kernel
theorem dL_law_857 : decode code 857 = .ok (.iload 4, 2) := by decide +kernel
theorem dL_law_859 : decode code 859 = .ok (.iconst 2, 1) := by decide +kernel
theorem dL_law_860 : decode code 860 = .ok (.iadd, 1) := by decide +kernel
theorem dL_law_861 : decode code 861 = .ok (.iaload, 1) := by decide +kernel
theorem dL_law_862 : decode code 862 = .ok (.aload_n 3, 1) := by decide +kernel
theorem dL_law_863 : decode code 863 = .ok (.invokestatic 129, 3) := by decide +kernel
theorem dL_law_866 : decode code 866 = .ok (.istore 5, 2) := by decide +kernel
theorem dL_law_868 : decode code 868 = .ok (.aload_n 2, 1) := by decide +kernel
theorem dL_law_869 : decode code 869 = .ok (.aload_n 0, 1) := by decide +kernel
theorem dL_law_870 : decode code 870 = .ok (.iload 4, 2) := by decide +kernel
theorem dL_law_872 : decode code 872 = .ok (.iconst 1, 1) := by decide +kernel
theorem dL_law_873 : decode code 873 = .ok (.iadd, 1) := by decide +kernel
theorem dL_law_874 : decode code 874 = .ok (.iaload, 1) := by decide +kernel
theorem dL_law_875 : decode code 875 = .ok (.aload_n 0, 1) := by decide +kernel
theorem dL_law_876 : decode code 876 = .ok (.iload 4, 2) := by decide +kernel
theorem dL_law_878 : decode code 878 = .ok (.iconst 2, 1) := by decide +kernel
theorem dL_law_879 : decode code 879 = .ok (.iadd, 1) := by decide +kernel
theorem dL_law_880 : decode code 880 = .ok (.iaload, 1) := by decide +kernel
theorem dL_law_881 : decode code 881 = .ok (.invokevirtual 131, 3) := by decide +kernel
theorem dL_law_884 : decode code 884 = .ok (.istore 6, 2) := by decide +kernel
theorem dL_law_886 : decode code 886 = .ok (.aload_n 2, 1) := by decide +kernel
theorem dL_law_887 : decode code 887 = .ok (.invokevirtual 89, 3) := by decide +kernel
theorem dL_law_890 : decode code 890 = .ok (.iload 5, 2) := by decide +kernel
theorem dL_law_892 : decode code 892 = .ok (.if_icmp .eq 5, 3) := by decide +kernel
theorem dL_law_897 : decode code 897 = .ok (.iload 5, 2) := by decide +kernel
theorem dL_law_899 : decode code 899 = .ok (.ifCond .ne 15, 3) := by decide +kernel
theorem dL_law_902 : decode code 902 = .ok (.aload_n 3, 1) := by decide +kernel
theorem dL_law_903 : decode code 903 = .ok (.iconst 0, 1) := by decide +kernel
theorem dL_law_904 : decode code 904 = .ok (.laload, 1) := by decide +kernel
theorem dL_law_905 : decode code 905 = .ok (.iload 6, 2) := by decide +kernel
theorem dL_law_907 : decode code 907 = .ok (.i2l, 1) := by decide +kernel
theorem dL_law_908 : decode code 908 = .ok (.lcmp, 1) := by decide +kernel
theorem dL_law_909 : decode code 909 = .ok (.ifCond .eq 5, 3) := by decide +kernel
theorem dL_law_914 : decode code 914 = .ok (.goto 788, 3) := by decide +kernel
theorem dL_law_917 : decode code 917 = .ok (.aload_n 1, 1) := by decide +kernel
theorem dL_law_918 : decode code 918 = .ok (.aload_n 0, 1) := by decide +kernel
theorem dL_law_919 : decode code 919 = .ok (.iload 4, 2) := by decide +kernel
theorem dL_law_921 : decode code 921 = .ok (.iconst 1, 1) := by decide +kernel
theorem dL_law_922 : decode code 922 = .ok (.iadd, 1) := by decide +kernel
theorem dL_law_923 : decode code 923 = .ok (.iaload, 1) := by decide +kernel
theorem dL_law_924 : decode code 924 = .ok (.aload_n 3, 1) := by decide +kernel
theorem dL_law_925 : decode code 925 = .ok (.invokestatic 132, 3) := by decide +kernel
theorem dL_law_928 : decode code 928 = .ok (.istore 5, 2) := by decide +kernel
theorem dL_law_930 : decode code 930 = .ok (.aload_n 2, 1) := by decide +kernel
theorem dL_law_931 : decode code 931 = .ok (.aload_n 0, 1) := by decide +kernel
theorem dL_law_932 : decode code 932 = .ok (.iload 4, 2) := by decide +kernel
theorem dL_law_934 : decode code 934 = .ok (.iconst 1, 1) := by decide +kernel
theorem dL_law_935 : decode code 935 = .ok (.iadd, 1) := by decide +kernel
theorem dL_law_936 : decode code 936 = .ok (.iaload, 1) := by decide +kernel
theorem dL_law_937 : decode code 937 = .ok (.invokevirtual 134, 3) := by decide +kernel
theorem dL_law_940 : decode code 940 = .ok (.istore 6, 2) := by decide +kernel
theorem dL_law_942 : decode code 942 = .ok (.aload_n 2, 1) := by decide +kernel
theorem dL_law_943 : decode code 943 = .ok (.invokevirtual 89, 3) := by decide +kernel
theorem dL_law_946 : decode code 946 = .ok (.iload 5, 2) := by decide +kernel
theorem dL_law_948 : decode code 948 = .ok (.if_icmp .eq 5, 3) := by decide +kernel
theorem dL_law_953 : decode code 953 = .ok (.iload 5, 2) := by decide +kernel
