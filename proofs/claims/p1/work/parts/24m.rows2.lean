theorem d_Mo_init_618 : decode b_Mo_init 618 = .ok (.iconst 3, 1) := by decide +kernel
theorem d_Mo_init_619 : decode b_Mo_init 619 = .ok (.ldc_w 285, 3) := by decide +kernel
theorem d_Mo_init_622 : decode b_Mo_init 622 = .ok (.aastore, 1) := by decide +kernel
theorem d_Mo_init_623 : decode b_Mo_init 623 = .ok (.dup, 1) := by decide +kernel
theorem d_Mo_init_624 : decode b_Mo_init 624 = .ok (.iconst 4, 1) := by decide +kernel
theorem d_Mo_init_625 : decode b_Mo_init 625 = .ok (.ldc_w 287, 3) := by decide +kernel
theorem d_Mo_init_628 : decode b_Mo_init 628 = .ok (.aastore, 1) := by decide +kernel
theorem d_Mo_init_629 : decode b_Mo_init 629 = .ok (.dup, 1) := by decide +kernel
theorem d_Mo_init_630 : decode b_Mo_init 630 = .ok (.iconst 5, 1) := by decide +kernel
theorem d_Mo_init_631 : decode b_Mo_init 631 = .ok (.ldc_w 289, 3) := by decide +kernel
theorem d_Mo_init_634 : decode b_Mo_init 634 = .ok (.aastore, 1) := by decide +kernel
theorem d_Mo_init_635 : decode b_Mo_init 635 = .ok (.dup, 1) := by decide +kernel
theorem d_Mo_init_636 : decode b_Mo_init 636 = .ok (.bipush 6, 2) := by decide +kernel
theorem d_Mo_init_638 : decode b_Mo_init 638 = .ok (.ldc_w 291, 3) := by decide +kernel
theorem d_Mo_init_641 : decode b_Mo_init 641 = .ok (.aastore, 1) := by decide +kernel
theorem d_Mo_init_642 : decode b_Mo_init 642 = .ok (.dup, 1) := by decide +kernel
theorem d_Mo_init_643 : decode b_Mo_init 643 = .ok (.bipush 7, 2) := by decide +kernel
theorem d_Mo_init_645 : decode b_Mo_init 645 = .ok (.ldc_w 293, 3) := by decide +kernel
theorem d_Mo_init_648 : decode b_Mo_init 648 = .ok (.aastore, 1) := by decide +kernel
theorem d_Mo_init_649 : decode b_Mo_init 649 = .ok (.dup, 1) := by decide +kernel
theorem d_Mo_init_650 : decode b_Mo_init 650 = .ok (.bipush 8, 2) := by decide +kernel
theorem d_Mo_init_652 : decode b_Mo_init 652 = .ok (.ldc_w 295, 3) := by decide +kernel
theorem d_Mo_init_655 : decode b_Mo_init 655 = .ok (.aastore, 1) := by decide +kernel
theorem d_Mo_init_656 : decode b_Mo_init 656 = .ok (.dup, 1) := by decide +kernel
theorem d_Mo_init_657 : decode b_Mo_init 657 = .ok (.bipush 9, 2) := by decide +kernel
theorem d_Mo_init_659 : decode b_Mo_init 659 = .ok (.ldc_w 297, 3) := by decide +kernel
theorem d_Mo_init_662 : decode b_Mo_init 662 = .ok (.aastore, 1) := by decide +kernel
theorem d_Mo_init_663 : decode b_Mo_init 663 = .ok (.dup, 1) := by decide +kernel
theorem d_Mo_init_664 : decode b_Mo_init 664 = .ok (.bipush 10, 2) := by decide +kernel
theorem d_Mo_init_666 : decode b_Mo_init 666 = .ok (.ldc_w 299, 3) := by decide +kernel
theorem d_Mo_init_669 : decode b_Mo_init 669 = .ok (.aastore, 1) := by decide +kernel
theorem d_Mo_init_670 : decode b_Mo_init 670 = .ok (.dup, 1) := by decide +kernel
theorem d_Mo_init_671 : decode b_Mo_init 671 = .ok (.bipush 11, 2) := by decide +kernel
theorem d_Mo_init_673 : decode b_Mo_init 673 = .ok (.ldc_w 301, 3) := by decide +kernel
theorem d_Mo_init_676 : decode b_Mo_init 676 = .ok (.aastore, 1) := by decide +kernel
theorem d_Mo_init_677 : decode b_Mo_init 677 = .ok (.dup, 1) := by decide +kernel
theorem d_Mo_init_678 : decode b_Mo_init 678 = .ok (.bipush 12, 2) := by decide +kernel
theorem d_Mo_init_680 : decode b_Mo_init 680 = .ok (.ldc_w 303, 3) := by decide +kernel
theorem d_Mo_init_683 : decode b_Mo_init 683 = .ok (.aastore, 1) := by decide +kernel
theorem d_Mo_init_684 : decode b_Mo_init 684 = .ok (.dup, 1) := by decide +kernel
theorem d_Mo_init_685 : decode b_Mo_init 685 = .ok (.bipush 13, 2) := by decide +kernel
theorem d_Mo_init_687 : decode b_Mo_init 687 = .ok (.ldc_w 305, 3) := by decide +kernel
theorem d_Mo_init_690 : decode b_Mo_init 690 = .ok (.aastore, 1) := by decide +kernel
theorem d_Mo_init_691 : decode b_Mo_init 691 = .ok (.dup, 1) := by decide +kernel
theorem d_Mo_init_692 : decode b_Mo_init 692 = .ok (.bipush 14, 2) := by decide +kernel
theorem d_Mo_init_694 : decode b_Mo_init 694 = .ok (.ldc_w 307, 3) := by decide +kernel
theorem d_Mo_init_697 : decode b_Mo_init 697 = .ok (.aastore, 1) := by decide +kernel
theorem d_Mo_init_698 : decode b_Mo_init 698 = .ok (.dup, 1) := by decide +kernel
theorem d_Mo_init_699 : decode b_Mo_init 699 = .ok (.bipush 15, 2) := by decide +kernel
theorem d_Mo_init_701 : decode b_Mo_init 701 = .ok (.ldc_w 309, 3) := by decide +kernel
theorem d_Mo_init_704 : decode b_Mo_init 704 = .ok (.aastore, 1) := by decide +kernel
theorem d_Mo_init_705 : decode b_Mo_init 705 = .ok (.dup, 1) := by decide +kernel
theorem d_Mo_init_706 : decode b_Mo_init 706 = .ok (.bipush 16, 2) := by decide +kernel
theorem d_Mo_init_708 : decode b_Mo_init 708 = .ok (.ldc_w 311, 3) := by decide +kernel
theorem d_Mo_init_711 : decode b_Mo_init 711 = .ok (.aastore, 1) := by decide +kernel
theorem d_Mo_init_712 : decode b_Mo_init 712 = .ok (.dup, 1) := by decide +kernel
theorem d_Mo_init_713 : decode b_Mo_init 713 = .ok (.bipush 17, 2) := by decide +kernel
theorem d_Mo_init_715 : decode b_Mo_init 715 = .ok (.ldc_w 313, 3) := by decide +kernel
theorem d_Mo_init_718 : decode b_Mo_init 718 = .ok (.aastore, 1) := by decide +kernel
theorem d_Mo_init_719 : decode b_Mo_init 719 = .ok (.dup, 1) := by decide +kernel
theorem d_Mo_init_720 : decode b_Mo_init 720 = .ok (.bipush 18, 2) := by decide +kernel
theorem d_Mo_init_722 : decode b_Mo_init 722 = .ok (.ldc_w 315, 3) := by decide +kernel
theorem d_Mo_init_725 : decode b_Mo_init 725 = .ok (.aastore, 1) := by decide +kernel
theorem d_Mo_init_726 : decode b_Mo_init 726 = .ok (.dup, 1) := by decide +kernel
theorem d_Mo_init_727 : decode b_Mo_init 727 = .ok (.bipush 19, 2) := by decide +kernel
theorem d_Mo_init_729 : decode b_Mo_init 729 = .ok (.ldc_w 317, 3) := by decide +kernel
theorem d_Mo_init_732 : decode b_Mo_init 732 = .ok (.aastore, 1) := by decide +kernel
theorem d_Mo_init_733 : decode b_Mo_init 733 = .ok (.dup, 1) := by decide +kernel
theorem d_Mo_init_734 : decode b_Mo_init 734 = .ok (.bipush 20, 2) := by decide +kernel
theorem d_Mo_init_736 : decode b_Mo_init 736 = .ok (.ldc_w 319, 3) := by decide +kernel
theorem d_Mo_init_739 : decode b_Mo_init 739 = .ok (.aastore, 1) := by decide +kernel
theorem d_Mo_init_740 : decode b_Mo_init 740 = .ok (.dup, 1) := by decide +kernel
theorem d_Mo_init_741 : decode b_Mo_init 741 = .ok (.bipush 21, 2) := by decide +kernel
theorem d_Mo_init_743 : decode b_Mo_init 743 = .ok (.ldc_w 320, 3) := by decide +kernel
theorem d_Mo_init_746 : decode b_Mo_init 746 = .ok (.aastore, 1) := by decide +kernel
theorem d_Mo_init_747 : decode b_Mo_init 747 = .ok (.dup, 1) := by decide +kernel
theorem d_Mo_init_748 : decode b_Mo_init 748 = .ok (.bipush 22, 2) := by decide +kernel
theorem d_Mo_init_750 : decode b_Mo_init 750 = .ok (.ldc_w 322, 3) := by decide +kernel
theorem d_Mo_init_753 : decode b_Mo_init 753 = .ok (.aastore, 1) := by decide +kernel
theorem d_Mo_init_754 : decode b_Mo_init 754 = .ok (.dup, 1) := by decide +kernel
theorem d_Mo_init_755 : decode b_Mo_init 755 = .ok (.bipush 23, 2) := by decide +kernel
theorem d_Mo_init_757 : decode b_Mo_init 757 = .ok (.ldc_w 324, 3) := by decide +kernel
theorem d_Mo_init_760 : decode b_Mo_init 760 = .ok (.aastore, 1) := by decide +kernel
theorem d_Mo_init_761 : decode b_Mo_init 761 = .ok (.putfield 326, 3) := by decide +kernel
theorem d_Mo_init_764 : decode b_Mo_init 764 = .ok (.aload_n 0, 1) := by decide +kernel
theorem d_Mo_init_765 : decode b_Mo_init 765 = .ok (.bipush 22, 2) := by decide +kernel
theorem d_Mo_init_767 : decode b_Mo_init 767 = .ok (.anewarray 277, 3) := by decide +kernel
theorem d_Mo_init_770 : decode b_Mo_init 770 = .ok (.dup, 1) := by decide +kernel
theorem d_Mo_init_771 : decode b_Mo_init 771 = .ok (.iconst 0, 1) := by decide +kernel
theorem d_Mo_init_772 : decode b_Mo_init 772 = .ok (.ldc_w 330, 3) := by decide +kernel
theorem d_Mo_init_775 : decode b_Mo_init 775 = .ok (.aastore, 1) := by decide +kernel
theorem d_Mo_init_776 : decode b_Mo_init 776 = .ok (.dup, 1) := by decide +kernel
theorem d_Mo_init_777 : decode b_Mo_init 777 = .ok (.iconst 1, 1) := by decide +kernel
theorem d_Mo_init_778 : decode b_Mo_init 778 = .ok (.ldc_w 332, 3) := by decide +kernel
theorem d_Mo_init_781 : decode b_Mo_init 781 = .ok (.aastore, 1) := by decide +kernel
theorem d_Mo_init_782 : decode b_Mo_init 782 = .ok (.dup, 1) := by decide +kernel
theorem d_Mo_init_783 : decode b_Mo_init 783 = .ok (.iconst 2, 1) := by decide +kernel
theorem d_Mo_init_784 : decode b_Mo_init 784 = .ok (.ldc_w 334, 3) := by decide +kernel
theorem d_Mo_init_787 : decode b_Mo_init 787 = .ok (.aastore, 1) := by decide +kernel
theorem d_Mo_init_788 : decode b_Mo_init 788 = .ok (.dup, 1) := by decide +kernel
theorem d_Mo_init_789 : decode b_Mo_init 789 = .ok (.iconst 3, 1) := by decide +kernel
theorem d_Mo_init_790 : decode b_Mo_init 790 = .ok (.ldc_w 336, 3) := by decide +kernel
theorem d_Mo_init_793 : decode b_Mo_init 793 = .ok (.aastore, 1) := by decide +kernel
theorem d_Mo_init_794 : decode b_Mo_init 794 = .ok (.dup, 1) := by decide +kernel
theorem d_Mo_init_795 : decode b_Mo_init 795 = .ok (.iconst 4, 1) := by decide +kernel
theorem d_Mo_init_796 : decode b_Mo_init 796 = .ok (.ldc_w 338, 3) := by decide +kernel
theorem d_Mo_init_799 : decode b_Mo_init 799 = .ok (.aastore, 1) := by decide +kernel
theorem d_Mo_init_800 : decode b_Mo_init 800 = .ok (.dup, 1) := by decide +kernel
theorem d_Mo_init_801 : decode b_Mo_init 801 = .ok (.iconst 5, 1) := by decide +kernel
theorem d_Mo_init_802 : decode b_Mo_init 802 = .ok (.ldc_w 340, 3) := by decide +kernel
theorem d_Mo_init_805 : decode b_Mo_init 805 = .ok (.aastore, 1) := by decide +kernel
theorem d_Mo_init_806 : decode b_Mo_init 806 = .ok (.dup, 1) := by decide +kernel
theorem d_Mo_init_807 : decode b_Mo_init 807 = .ok (.bipush 6, 2) := by decide +kernel
theorem d_Mo_init_809 : decode b_Mo_init 809 = .ok (.ldc_w 342, 3) := by decide +kernel
theorem d_Mo_init_812 : decode b_Mo_init 812 = .ok (.aastore, 1) := by decide +kernel
theorem d_Mo_init_813 : decode b_Mo_init 813 = .ok (.dup, 1) := by decide +kernel
theorem d_Mo_init_814 : decode b_Mo_init 814 = .ok (.bipush 7, 2) := by decide +kernel
theorem d_Mo_init_816 : decode b_Mo_init 816 = .ok (.ldc_w 344, 3) := by decide +kernel
theorem d_Mo_init_819 : decode b_Mo_init 819 = .ok (.aastore, 1) := by decide +kernel
theorem d_Mo_init_820 : decode b_Mo_init 820 = .ok (.dup, 1) := by decide +kernel
theorem d_Mo_init_821 : decode b_Mo_init 821 = .ok (.bipush 8, 2) := by decide +kernel
theorem d_Mo_init_823 : decode b_Mo_init 823 = .ok (.ldc_w 346, 3) := by decide +kernel
theorem d_Mo_init_826 : decode b_Mo_init 826 = .ok (.aastore, 1) := by decide +kernel
theorem d_Mo_init_827 : decode b_Mo_init 827 = .ok (.dup, 1) := by decide +kernel
theorem d_Mo_init_828 : decode b_Mo_init 828 = .ok (.bipush 9, 2) := by decide +kernel
theorem d_Mo_init_830 : decode b_Mo_init 830 = .ok (.ldc_w 348, 3) := by decide +kernel
theorem d_Mo_init_833 : decode b_Mo_init 833 = .ok (.aastore, 1) := by decide +kernel
theorem d_Mo_init_834 : decode b_Mo_init 834 = .ok (.dup, 1) := by decide +kernel
theorem d_Mo_init_835 : decode b_Mo_init 835 = .ok (.bipush 10, 2) := by decide +kernel
theorem d_Mo_init_837 : decode b_Mo_init 837 = .ok (.ldc_w 350, 3) := by decide +kernel
theorem d_Mo_init_840 : decode b_Mo_init 840 = .ok (.aastore, 1) := by decide +kernel
theorem d_Mo_init_841 : decode b_Mo_init 841 = .ok (.dup, 1) := by decide +kernel
theorem d_Mo_init_842 : decode b_Mo_init 842 = .ok (.bipush 11, 2) := by decide +kernel
theorem d_Mo_init_844 : decode b_Mo_init 844 = .ok (.ldc_w 352, 3) := by decide +kernel
theorem d_Mo_init_847 : decode b_Mo_init 847 = .ok (.aastore, 1) := by decide +kernel
theorem d_Mo_init_848 : decode b_Mo_init 848 = .ok (.dup, 1) := by decide +kernel
theorem d_Mo_init_849 : decode b_Mo_init 849 = .ok (.bipush 12, 2) := by decide +kernel
theorem d_Mo_init_851 : decode b_Mo_init 851 = .ok (.ldc_w 354, 3) := by decide +kernel
theorem d_Mo_init_854 : decode b_Mo_init 854 = .ok (.aastore, 1) := by decide +kernel
theorem d_Mo_init_855 : decode b_Mo_init 855 = .ok (.dup, 1) := by decide +kernel
theorem d_Mo_init_856 : decode b_Mo_init 856 = .ok (.bipush 13, 2) := by decide +kernel
theorem d_Mo_init_858 : decode b_Mo_init 858 = .ok (.ldc_w 356, 3) := by decide +kernel
theorem d_Mo_init_861 : decode b_Mo_init 861 = .ok (.aastore, 1) := by decide +kernel
theorem d_Mo_init_862 : decode b_Mo_init 862 = .ok (.dup, 1) := by decide +kernel
theorem d_Mo_init_863 : decode b_Mo_init 863 = .ok (.bipush 14, 2) := by decide +kernel
theorem d_Mo_init_865 : decode b_Mo_init 865 = .ok (.ldc_w 358, 3) := by decide +kernel
theorem d_Mo_init_868 : decode b_Mo_init 868 = .ok (.aastore, 1) := by decide +kernel
theorem d_Mo_init_869 : decode b_Mo_init 869 = .ok (.dup, 1) := by decide +kernel
theorem d_Mo_init_870 : decode b_Mo_init 870 = .ok (.bipush 15, 2) := by decide +kernel
theorem d_Mo_init_872 : decode b_Mo_init 872 = .ok (.ldc_w 360, 3) := by decide +kernel
theorem d_Mo_init_875 : decode b_Mo_init 875 = .ok (.aastore, 1) := by decide +kernel
theorem d_Mo_init_876 : decode b_Mo_init 876 = .ok (.dup, 1) := by decide +kernel
theorem d_Mo_init_877 : decode b_Mo_init 877 = .ok (.bipush 16, 2) := by decide +kernel
theorem d_Mo_init_879 : decode b_Mo_init 879 = .ok (.ldc_w 362, 3) := by decide +kernel
theorem d_Mo_init_882 : decode b_Mo_init 882 = .ok (.aastore, 1) := by decide +kernel
theorem d_Mo_init_883 : decode b_Mo_init 883 = .ok (.dup, 1) := by decide +kernel
theorem d_Mo_init_884 : decode b_Mo_init 884 = .ok (.bipush 17, 2) := by decide +kernel
theorem d_Mo_init_886 : decode b_Mo_init 886 = .ok (.ldc_w 364, 3) := by decide +kernel
theorem d_Mo_init_889 : decode b_Mo_init 889 = .ok (.aastore, 1) := by decide +kernel
theorem d_Mo_init_890 : decode b_Mo_init 890 = .ok (.dup, 1) := by decide +kernel

