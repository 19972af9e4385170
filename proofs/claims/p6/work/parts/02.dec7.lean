theorem dL_law_649 : decode cL_law 649 = .ok (.aload_n 2, 1) := dz_b44 (by decide +kernel)
theorem dL_law_650 : decode cL_law 650 = .ok (.aload_n 0, 1) := dz_b42 (by decide +kernel)
theorem dL_law_651 : decode cL_law 651 = .ok (.iload 4, 2) := dz_b21 (by decide +kernel)
theorem dL_law_653 : decode cL_law 653 = .ok (.iconst 1, 1) := dz_b4 (by decide +kernel)
theorem dL_law_654 : decode cL_law 654 = .ok (.iadd, 1) := dz_b96 (by decide +kernel)
theorem dL_law_655 : decode cL_law 655 = .ok (.iaload, 1) := dz_b46 (by decide +kernel)
theorem dL_law_656 : decode cL_law 656 = .ok (.aload_n 0, 1) := dz_b42 (by decide +kernel)
theorem dL_law_657 : decode cL_law 657 = .ok (.iload 4, 2) := dz_b21 (by decide +kernel)
theorem dL_law_659 : decode cL_law 659 = .ok (.iconst 2, 1) := dz_b5 (by decide +kernel)
theorem dL_law_660 : decode cL_law 660 = .ok (.iadd, 1) := dz_b96 (by decide +kernel)
theorem dL_law_661 : decode cL_law 661 = .ok (.iaload, 1) := dz_b46 (by decide +kernel)
theorem dL_law_662 : decode cL_law 662 = .ok (.aload_n 0, 1) := dz_b42 (by decide +kernel)
theorem dL_law_663 : decode cL_law 663 = .ok (.iload 4, 2) := dz_b21 (by decide +kernel)
theorem dL_law_665 : decode cL_law 665 = .ok (.iconst 3, 1) := dz_b6 (by decide +kernel)
theorem dL_law_666 : decode cL_law 666 = .ok (.iadd, 1) := dz_b96 (by decide +kernel)
theorem dL_law_667 : decode cL_law 667 = .ok (.iaload, 1) := dz_b46 (by decide +kernel)
theorem dL_law_668 : decode cL_law 668 = .ok (.invokevirtual 79, 3) := dz_b182 (by decide +kernel)
theorem dL_law_671 : decode cL_law 671 = .ok (.pop, 1) := dz_b87 (by decide +kernel)
theorem dL_law_672 : decode cL_law 672 = .ok (.goto 701, 3) := dz_b167 (by decide +kernel)
theorem dL_law_675 : decode cL_law 675 = .ok (.aload_n 1, 1) := dz_b43 (by decide +kernel)
theorem dL_law_676 : decode cL_law 676 = .ok (.aload_n 0, 1) := dz_b42 (by decide +kernel)
theorem dL_law_677 : decode cL_law 677 = .ok (.iload 4, 2) := dz_b21 (by decide +kernel)
theorem dL_law_679 : decode cL_law 679 = .ok (.iconst 1, 1) := dz_b4 (by decide +kernel)
theorem dL_law_680 : decode cL_law 680 = .ok (.iadd, 1) := dz_b96 (by decide +kernel)
theorem dL_law_681 : decode cL_law 681 = .ok (.iaload, 1) := dz_b46 (by decide +kernel)
theorem dL_law_682 : decode cL_law 682 = .ok (.invokevirtual 80, 3) := dz_b182 (by decide +kernel)
theorem dL_law_685 : decode cL_law 685 = .ok (.pop, 1) := dz_b87 (by decide +kernel)
theorem dL_law_686 : decode cL_law 686 = .ok (.aload_n 2, 1) := dz_b44 (by decide +kernel)
theorem dL_law_687 : decode cL_law 687 = .ok (.aload_n 0, 1) := dz_b42 (by decide +kernel)
theorem dL_law_688 : decode cL_law 688 = .ok (.iload 4, 2) := dz_b21 (by decide +kernel)
theorem dL_law_690 : decode cL_law 690 = .ok (.iconst 1, 1) := dz_b4 (by decide +kernel)
theorem dL_law_691 : decode cL_law 691 = .ok (.iadd, 1) := dz_b96 (by decide +kernel)
theorem dL_law_692 : decode cL_law 692 = .ok (.iaload, 1) := dz_b46 (by decide +kernel)
theorem dL_law_693 : decode cL_law 693 = .ok (.invokevirtual 83, 3) := dz_b182 (by decide +kernel)
theorem dL_law_696 : decode cL_law 696 = .ok (.pop, 1) := dz_b87 (by decide +kernel)
theorem dL_law_697 : decode cL_law 697 = .ok (.goto 676, 3) := dz_b167 (by decide +kernel)
theorem dL_law_700 : decode cL_law 700 = .ok (.aload_n 1, 1) := dz_b43 (by decide +kernel)
theorem dL_law_701 : decode cL_law 701 = .ok (.aload_n 0, 1) := dz_b42 (by decide +kernel)
theorem dL_law_702 : decode cL_law 702 = .ok (.iload 4, 2) := dz_b21 (by decide +kernel)
theorem dL_law_704 : decode cL_law 704 = .ok (.iconst 1, 1) := dz_b4 (by decide +kernel)
theorem dL_law_705 : decode cL_law 705 = .ok (.iadd, 1) := dz_b96 (by decide +kernel)
theorem dL_law_706 : decode cL_law 706 = .ok (.iaload, 1) := dz_b46 (by decide +kernel)
theorem dL_law_707 : decode cL_law 707 = .ok (.invokevirtual 84, 3) := dz_b182 (by decide +kernel)
theorem dL_law_710 : decode cL_law 710 = .ok (.pop, 1) := dz_b87 (by decide +kernel)
theorem dL_law_711 : decode cL_law 711 = .ok (.aload_n 2, 1) := dz_b44 (by decide +kernel)
theorem dL_law_712 : decode cL_law 712 = .ok (.aload_n 0, 1) := dz_b42 (by decide +kernel)
theorem dL_law_713 : decode cL_law 713 = .ok (.iload 4, 2) := dz_b21 (by decide +kernel)
theorem dL_law_715 : decode cL_law 715 = .ok (.iconst 1, 1) := dz_b4 (by decide +kernel)
theorem dL_law_716 : decode cL_law 716 = .ok (.iadd, 1) := dz_b96 (by decide +kernel)
theorem dL_law_717 : decode cL_law 717 = .ok (.iaload, 1) := dz_b46 (by decide +kernel)
theorem dL_law_718 : decode cL_law 718 = .ok (.invokevirtual 87, 3) := dz_b182 (by decide +kernel)
theorem dL_law_721 : decode cL_law 721 = .ok (.pop, 1) := dz_b87 (by decide +kernel)
theorem dL_law_722 : decode cL_law 722 = .ok (.goto 651, 3) := dz_b167 (by decide +kernel)
theorem dL_law_725 : decode cL_law 725 = .ok (.aload_n 1, 1) := dz_b43 (by decide +kernel)
theorem dL_law_726 : decode cL_law 726 = .ok (.invokevirtual 88, 3) := dz_b182 (by decide +kernel)
theorem dL_law_729 : decode cL_law 729 = .ok (.pop, 1) := dz_b87 (by decide +kernel)
theorem dL_law_730 : decode cL_law 730 = .ok (.aload_n 2, 1) := dz_b44 (by decide +kernel)
theorem dL_law_731 : decode cL_law 731 = .ok (.invokevirtual 91, 3) := dz_b182 (by decide +kernel)
theorem dL_law_734 : decode cL_law 734 = .ok (.pop, 1) := dz_b87 (by decide +kernel)
theorem dL_law_735 : decode cL_law 735 = .ok (.goto 638, 3) := dz_b167 (by decide +kernel)
theorem dL_law_738 : decode cL_law 738 = .ok (.aload_n 1, 1) := dz_b43 (by decide +kernel)
theorem dL_law_739 : decode cL_law 739 = .ok (.aload_n 0, 1) := dz_b42 (by decide +kernel)
theorem dL_law_740 : decode cL_law 740 = .ok (.iload 4, 2) := dz_b21 (by decide +kernel)
theorem dL_law_742 : decode cL_law 742 = .ok (.iconst 1, 1) := dz_b4 (by decide +kernel)
theorem dL_law_743 : decode cL_law 743 = .ok (.iadd, 1) := dz_b96 (by decide +kernel)
theorem dL_law_744 : decode cL_law 744 = .ok (.iaload, 1) := dz_b46 (by decide +kernel)
theorem dL_law_745 : decode cL_law 745 = .ok (.invokevirtual 92, 3) := dz_b182 (by decide +kernel)
theorem dL_law_748 : decode cL_law 748 = .ok (.pop, 1) := dz_b87 (by decide +kernel)
theorem dL_law_749 : decode cL_law 749 = .ok (.aload_n 2, 1) := dz_b44 (by decide +kernel)
theorem dL_law_750 : decode cL_law 750 = .ok (.aload_n 0, 1) := dz_b42 (by decide +kernel)
theorem dL_law_751 : decode cL_law 751 = .ok (.iload 4, 2) := dz_b21 (by decide +kernel)
theorem dL_law_753 : decode cL_law 753 = .ok (.iconst 1, 1) := dz_b4 (by decide +kernel)
theorem dL_law_754 : decode cL_law 754 = .ok (.iadd, 1) := dz_b96 (by decide +kernel)
theorem dL_law_755 : decode cL_law 755 = .ok (.iaload, 1) := dz_b46 (by decide +kernel)
theorem dL_law_756 : decode cL_law 756 = .ok (.invokevirtual 95, 3) := dz_b182 (by decide +kernel)
theorem dL_law_759 : decode cL_law 759 = .ok (.pop, 1) := dz_b87 (by decide +kernel)
theorem dL_law_760 : decode cL_law 760 = .ok (.goto 613, 3) := dz_b167 (by decide +kernel)
theorem dL_law_763 : decode cL_law 763 = .ok (.aload_n 1, 1) := dz_b43 (by decide +kernel)
theorem dL_law_764 : decode cL_law 764 = .ok (.aload_n 0, 1) := dz_b42 (by decide +kernel)
theorem dL_law_765 : decode cL_law 765 = .ok (.iload 4, 2) := dz_b21 (by decide +kernel)
theorem dL_law_767 : decode cL_law 767 = .ok (.iconst 1, 1) := dz_b4 (by decide +kernel)
theorem dL_law_768 : decode cL_law 768 = .ok (.iadd, 1) := dz_b96 (by decide +kernel)
theorem dL_law_769 : decode cL_law 769 = .ok (.iaload, 1) := dz_b46 (by decide +kernel)
theorem dL_law_770 : decode cL_law 770 = .ok (.invokevirtual 96, 3) := dz_b182 (by decide +kernel)
theorem dL_law_773 : decode cL_law 773 = .ok (.pop, 1) := dz_b87 (by decide +kernel)
theorem dL_law_774 : decode cL_law 774 = .ok (.aload_n 2, 1) := dz_b44 (by decide +kernel)
theorem dL_law_775 : decode cL_law 775 = .ok (.aload_n 0, 1) := dz_b42 (by decide +kernel)
theorem dL_law_776 : decode cL_law 776 = .ok (.iload 4, 2) := dz_b21 (by decide +kernel)
theorem dL_law_778 : decode cL_law 778 = .ok (.iconst 1, 1) := dz_b4 (by decide +kernel)
theorem dL_law_779 : decode cL_law 779 = .ok (.iadd, 1) := dz_b96 (by decide +kernel)
theorem dL_law_780 : decode cL_law 780 = .ok (.iaload, 1) := dz_b46 (by decide +kernel)
theorem dL_law_781 : decode cL_law 781 = .ok (.invokevirtual 99, 3) := dz_b182 (by decide +kernel)
theorem dL_law_784 : decode cL_law 784 = .ok (.pop, 1) := dz_b87 (by decide +kernel)
theorem dL_law_785 : decode cL_law 785 = .ok (.goto 588, 3) := dz_b167 (by decide +kernel)
theorem dL_law_788 : decode cL_law 788 = .ok (.aload_n 1, 1) := dz_b43 (by decide +kernel)
theorem dL_law_789 : decode cL_law 789 = .ok (.aload_n 0, 1) := dz_b42 (by decide +kernel)
theorem dL_law_790 : decode cL_law 790 = .ok (.iload 4, 2) := dz_b21 (by decide +kernel)
theorem dL_law_792 : decode cL_law 792 = .ok (.iconst 1, 1) := dz_b4 (by decide +kernel)
theorem dL_law_793 : decode cL_law 793 = .ok (.iadd, 1) := dz_b96 (by decide +kernel)
theorem dL_law_794 : decode cL_law 794 = .ok (.iaload, 1) := dz_b46 (by decide +kernel)
theorem dL_law_795 : decode cL_law 795 = .ok (.invokevirtual 100, 3) := dz_b182 (by decide +kernel)
theorem dL_law_798 : decode cL_law 798 = .ok (.pop, 1) := dz_b87 (by decide +kernel)
theorem dL_law_799 : decode cL_law 799 = .ok (.aload_n 2, 1) := dz_b44 (by decide +kernel)
theorem dL_law_800 : decode cL_law 800 = .ok (.aload_n 0, 1) := dz_b42 (by decide +kernel)
theorem dL_law_801 : decode cL_law 801 = .ok (.iload 4, 2) := dz_b21 (by decide +kernel)
theorem dL_law_803 : decode cL_law 803 = .ok (.iconst 1, 1) := dz_b4 (by decide +kernel)
theorem dL_law_804 : decode cL_law 804 = .ok (.iadd, 1) := dz_b96 (by decide +kernel)
theorem dL_law_805 : decode cL_law 805 = .ok (.iaload, 1) := dz_b46 (by decide +kernel)
theorem dL_law_806 : decode cL_law 806 = .ok (.invokevirtual 103, 3) := dz_b182 (by decide +kernel)
theorem dL_law_809 : decode cL_law 809 = .ok (.pop, 1) := dz_b87 (by decide +kernel)
theorem dL_law_810 : decode cL_law 810 = .ok (.goto 563, 3) := dz_b167 (by decide +kernel)
theorem dL_law_813 : decode cL_law 813 = .ok (.aload_n 1, 1) := dz_b43 (by decide +kernel)
theorem dL_law_814 : decode cL_law 814 = .ok (.aload_n 0, 1) := dz_b42 (by decide +kernel)
theorem dL_law_815 : decode cL_law 815 = .ok (.iload 4, 2) := dz_b21 (by decide +kernel)
theorem dL_law_817 : decode cL_law 817 = .ok (.iconst 1, 1) := dz_b4 (by decide +kernel)
theorem dL_law_818 : decode cL_law 818 = .ok (.iadd, 1) := dz_b96 (by decide +kernel)
theorem dL_law_819 : decode cL_law 819 = .ok (.iaload, 1) := dz_b46 (by decide +kernel)
theorem dL_law_820 : decode cL_law 820 = .ok (.invokevirtual 104, 3) := dz_b182 (by decide +kernel)
theorem dL_law_823 : decode cL_law 823 = .ok (.pop, 1) := dz_b87 (by decide +kernel)
theorem dL_law_824 : decode cL_law 824 = .ok (.aload_n 2, 1) := dz_b44 (by decide +kernel)
theorem dL_law_825 : decode cL_law 825 = .ok (.aload_n 0, 1) := dz_b42 (by decide +kernel)
theorem dL_law_826 : decode cL_law 826 = .ok (.iload 4, 2) := dz_b21 (by decide +kernel)
theorem dL_law_828 : decode cL_law 828 = .ok (.iconst 1, 1) := dz_b4 (by decide +kernel)
theorem dL_law_829 : decode cL_law 829 = .ok (.iadd, 1) := dz_b96 (by decide +kernel)
theorem dL_law_830 : decode cL_law 830 = .ok (.iaload, 1) := dz_b46 (by decide +kernel)
theorem dL_law_831 : decode cL_law 831 = .ok (.invokevirtual 107, 3) := dz_b182 (by decide +kernel)
theorem dL_law_834 : decode cL_law 834 = .ok (.pop, 1) := dz_b87 (by decide +kernel)
theorem dL_law_835 : decode cL_law 835 = .ok (.goto 538, 3) := dz_b167 (by decide +kernel)
theorem dL_law_838 : decode cL_law 838 = .ok (.aload_n 1, 1) := dz_b43 (by decide +kernel)
theorem dL_law_839 : decode cL_law 839 = .ok (.aload_n 0, 1) := dz_b42 (by decide +kernel)
theorem dL_law_840 : decode cL_law 840 = .ok (.iload 4, 2) := dz_b21 (by decide +kernel)
theorem dL_law_842 : decode cL_law 842 = .ok (.iconst 1, 1) := dz_b4 (by decide +kernel)
theorem dL_law_843 : decode cL_law 843 = .ok (.iadd, 1) := dz_b96 (by decide +kernel)
theorem dL_law_844 : decode cL_law 844 = .ok (.iaload, 1) := dz_b46 (by decide +kernel)
theorem dL_law_845 : decode cL_law 845 = .ok (.invokevirtual 108, 3) := dz_b182 (by decide +kernel)
theorem dL_law_848 : decode cL_law 848 = .ok (.pop, 1) := dz_b87 (by decide +kernel)
theorem dL_law_849 : decode cL_law 849 = .ok (.aload_n 2, 1) := dz_b44 (by decide +kernel)
theorem dL_law_850 : decode cL_law 850 = .ok (.aload_n 0, 1) := dz_b42 (by decide +kernel)
theorem dL_law_851 : decode cL_law 851 = .ok (.iload 4, 2) := dz_b21 (by decide +kernel)
theorem dL_law_853 : decode cL_law 853 = .ok (.iconst 1, 1) := dz_b4 (by decide +kernel)
theorem dL_law_854 : decode cL_law 854 = .ok (.iadd, 1) := dz_b96 (by decide +kernel)
theorem dL_law_855 : decode cL_law 855 = .ok (.iaload, 1) := dz_b46 (by decide +kernel)
theorem dL_law_856 : decode cL_law 856 = .ok (.invokevirtual 111, 3) := dz_b182 (by decide +kernel)
theorem dL_law_859 : decode cL_law 859 = .ok (.pop, 1) := dz_b87 (by decide +kernel)
theorem dL_law_860 : decode cL_law 860 = .ok (.goto 513, 3) := dz_b167 (by decide +kernel)
theorem dL_law_863 : decode cL_law 863 = .ok (.aload_n 1, 1) := dz_b43 (by decide +kernel)
theorem dL_law_864 : decode cL_law 864 = .ok (.aload_n 0, 1) := dz_b42 (by decide +kernel)
theorem dL_law_865 : decode cL_law 865 = .ok (.iload 4, 2) := dz_b21 (by decide +kernel)
theorem dL_law_867 : decode cL_law 867 = .ok (.iconst 1, 1) := dz_b4 (by decide +kernel)
theorem dL_law_868 : decode cL_law 868 = .ok (.iadd, 1) := dz_b96 (by decide +kernel)
theorem dL_law_869 : decode cL_law 869 = .ok (.iaload, 1) := dz_b46 (by decide +kernel)
theorem dL_law_870 : decode cL_law 870 = .ok (.aload_n 0, 1) := dz_b42 (by decide +kernel)
theorem dL_law_871 : decode cL_law 871 = .ok (.iload 4, 2) := dz_b21 (by decide +kernel)
theorem dL_law_873 : decode cL_law 873 = .ok (.iconst 2, 1) := dz_b5 (by decide +kernel)
theorem dL_law_874 : decode cL_law 874 = .ok (.iadd, 1) := dz_b96 (by decide +kernel)
theorem dL_law_875 : decode cL_law 875 = .ok (.iaload, 1) := dz_b46 (by decide +kernel)
theorem dL_law_876 : decode cL_law 876 = .ok (.invokevirtual 112, 3) := dz_b182 (by decide +kernel)
theorem dL_law_879 : decode cL_law 879 = .ok (.pop, 1) := dz_b87 (by decide +kernel)
theorem dL_law_880 : decode cL_law 880 = .ok (.aload_n 2, 1) := dz_b44 (by decide +kernel)
theorem dL_law_881 : decode cL_law 881 = .ok (.aload_n 0, 1) := dz_b42 (by decide +kernel)
theorem dL_law_882 : decode cL_law 882 = .ok (.iload 4, 2) := dz_b21 (by decide +kernel)
theorem dL_law_884 : decode cL_law 884 = .ok (.iconst 1, 1) := dz_b4 (by decide +kernel)
theorem dL_law_885 : decode cL_law 885 = .ok (.iadd, 1) := dz_b96 (by decide +kernel)
theorem dL_law_886 : decode cL_law 886 = .ok (.iaload, 1) := dz_b46 (by decide +kernel)
theorem dL_law_887 : decode cL_law 887 = .ok (.aload_n 0, 1) := dz_b42 (by decide +kernel)
theorem dL_law_888 : decode cL_law 888 = .ok (.iload 4, 2) := dz_b21 (by decide +kernel)
theorem dL_law_890 : decode cL_law 890 = .ok (.iconst 2, 1) := dz_b5 (by decide +kernel)
theorem dL_law_891 : decode cL_law 891 = .ok (.iadd, 1) := dz_b96 (by decide +kernel)
theorem dL_law_892 : decode cL_law 892 = .ok (.iaload, 1) := dz_b46 (by decide +kernel)
theorem dL_law_893 : decode cL_law 893 = .ok (.invokevirtual 115, 3) := dz_b182 (by decide +kernel)
theorem dL_law_896 : decode cL_law 896 = .ok (.pop, 1) := dz_b87 (by decide +kernel)
theorem dL_law_897 : decode cL_law 897 = .ok (.goto 476, 3) := dz_b167 (by decide +kernel)
set_option maxRecDepth 100000 in
theorem dL_law_900 : decode cL_law 900 = .ok (.aload_n 1, 1) := dz_b43 (by decide +kernel)
set_option maxRecDepth 100000 in
theorem dL_law_901 : decode cL_law 901 = .ok (.aload_n 0, 1) := dz_b42 (by decide +kernel)
set_option maxRecDepth 100000 in
theorem dL_law_902 : decode cL_law 902 = .ok (.iload 4, 2) := dz_b21 (by decide +kernel)
set_option maxRecDepth 100000 in
theorem dL_law_904 : decode cL_law 904 = .ok (.iconst 1, 1) := dz_b4 (by decide +kernel)
set_option maxRecDepth 100000 in
theorem dL_law_905 : decode cL_law 905 = .ok (.iadd, 1) := dz_b96 (by decide +kernel)
set_option maxRecDepth 100000 in
theorem dL_law_906 : decode cL_law 906 = .ok (.iaload, 1) := dz_b46 (by decide +kernel)
set_option maxRecDepth 100000 in
theorem dL_law_907 : decode cL_law 907 = .ok (.invokevirtual 116, 3) := dz_b182 (by decide +kernel)
set_option maxRecDepth 100000 in
theorem dL_law_910 : decode cL_law 910 = .ok (.pop, 1) := dz_b87 (by decide +kernel)
set_option maxRecDepth 100000 in
theorem dL_law_911 : decode cL_law 911 = .ok (.aload_n 2, 1) := dz_b44 (by decide +kernel)
set_option maxRecDepth 100000 in
theorem dL_law_912 : decode cL_law 912 = .ok (.aload_n 0, 1) := dz_b42 (by decide +kernel)
set_option maxRecDepth 100000 in
theorem dL_law_913 : decode cL_law 913 = .ok (.iload 4, 2) := dz_b21 (by decide +kernel)
set_option maxRecDepth 100000 in
theorem dL_law_915 : decode cL_law 915 = .ok (.iconst 1, 1) := dz_b4 (by decide +kernel)
set_option maxRecDepth 100000 in
theorem dL_law_916 : decode cL_law 916 = .ok (.iadd, 1) := dz_b96 (by decide +kernel)
set_option maxRecDepth 100000 in
theorem dL_law_917 : decode cL_law 917 = .ok (.iaload, 1) := dz_b46 (by decide +kernel)
set_option maxRecDepth 100000 in
theorem dL_law_918 : decode cL_law 918 = .ok (.invokevirtual 119, 3) := dz_b182 (by decide +kernel)
set_option maxRecDepth 100000 in
theorem dL_law_921 : decode cL_law 921 = .ok (.pop, 1) := dz_b87 (by decide +kernel)
set_option maxRecDepth 100000 in
theorem dL_law_922 : decode cL_law 922 = .ok (.goto 451, 3) := dz_b167 (by decide +kernel)
set_option maxRecDepth 100000 in
theorem dL_law_925 : decode cL_law 925 = .ok (.aload_n 1, 1) := dz_b43 (by decide +kernel)
set_option maxRecDepth 100000 in
theorem dL_law_926 : decode cL_law 926 = .ok (.aload_n 0, 1) := dz_b42 (by decide +kernel)
set_option maxRecDepth 100000 in
theorem dL_law_927 : decode cL_law 927 = .ok (.iload 4, 2) := dz_b21 (by decide +kernel)
set_option maxRecDepth 100000 in
theorem dL_law_929 : decode cL_law 929 = .ok (.iconst 1, 1) := dz_b4 (by decide +kernel)
set_option maxRecDepth 100000 in
theorem dL_law_930 : decode cL_law 930 = .ok (.iadd, 1) := dz_b96 (by decide +kernel)
set_option maxRecDepth 100000 in
theorem dL_law_931 : decode cL_law 931 = .ok (.iaload, 1) := dz_b46 (by decide +kernel)
set_option maxRecDepth 100000 in
theorem dL_law_932 : decode cL_law 932 = .ok (.aload_n 0, 1) := dz_b42 (by decide +kernel)
set_option maxRecDepth 100000 in
theorem dL_law_933 : decode cL_law 933 = .ok (.iload 4, 2) := dz_b21 (by decide +kernel)
set_option maxRecDepth 100000 in
theorem dL_law_935 : decode cL_law 935 = .ok (.iconst 2, 1) := dz_b5 (by decide +kernel)
set_option maxRecDepth 100000 in
theorem dL_law_936 : decode cL_law 936 = .ok (.iadd, 1) := dz_b96 (by decide +kernel)
set_option maxRecDepth 100000 in
theorem dL_law_937 : decode cL_law 937 = .ok (.iaload, 1) := dz_b46 (by decide +kernel)
set_option maxRecDepth 100000 in
theorem dL_law_938 : decode cL_law 938 = .ok (.invokevirtual 120, 3) := dz_b182 (by decide +kernel)
set_option maxRecDepth 100000 in
theorem dL_law_941 : decode cL_law 941 = .ok (.pop, 1) := dz_b87 (by decide +kernel)
set_option maxRecDepth 100000 in
theorem dL_law_942 : decode cL_law 942 = .ok (.aload_n 2, 1) := dz_b44 (by decide +kernel)
set_option maxRecDepth 100000 in
theorem dL_law_943 : decode cL_law 943 = .ok (.aload_n 0, 1) := dz_b42 (by decide +kernel)
set_option maxRecDepth 100000 in
theorem dL_law_944 : decode cL_law 944 = .ok (.iload 4, 2) := dz_b21 (by decide +kernel)
set_option maxRecDepth 100000 in
theorem dL_law_946 : decode cL_law 946 = .ok (.iconst 1, 1) := dz_b4 (by decide +kernel)
set_option maxRecDepth 100000 in
theorem dL_law_947 : decode cL_law 947 = .ok (.iadd, 1) := dz_b96 (by decide +kernel)
set_option maxRecDepth 100000 in
theorem dL_law_948 : decode cL_law 948 = .ok (.iaload, 1) := dz_b46 (by decide +kernel)
set_option maxRecDepth 100000 in
theorem dL_law_949 : decode cL_law 949 = .ok (.aload_n 0, 1) := dz_b42 (by decide +kernel)
set_option maxRecDepth 100000 in
theorem dL_law_950 : decode cL_law 950 = .ok (.iload 4, 2) := dz_b21 (by decide +kernel)
set_option maxRecDepth 100000 in
theorem dL_law_952 : decode cL_law 952 = .ok (.iconst 2, 1) := dz_b5 (by decide +kernel)
set_option maxRecDepth 100000 in
theorem dL_law_953 : decode cL_law 953 = .ok (.iadd, 1) := dz_b96 (by decide +kernel)
set_option maxRecDepth 100000 in
theorem dL_law_954 : decode cL_law 954 = .ok (.iaload, 1) := dz_b46 (by decide +kernel)
set_option maxRecDepth 100000 in
theorem dL_law_955 : decode cL_law 955 = .ok (.invokevirtual 123, 3) := dz_b182 (by decide +kernel)
set_option maxRecDepth 100000 in
theorem dL_law_958 : decode cL_law 958 = .ok (.pop, 1) := dz_b87 (by decide +kernel)
set_option maxRecDepth 100000 in
theorem dL_law_959 : decode cL_law 959 = .ok (.goto 414, 3) := dz_b167 (by decide +kernel)
set_option maxRecDepth 100000 in
theorem dL_law_962 : decode cL_law 962 = .ok (.aload_n 1, 1) := dz_b43 (by decide +kernel)
set_option maxRecDepth 100000 in
theorem dL_law_963 : decode cL_law 963 = .ok (.aload_n 0, 1) := dz_b42 (by decide +kernel)
set_option maxRecDepth 100000 in
theorem dL_law_964 : decode cL_law 964 = .ok (.iload 4, 2) := dz_b21 (by decide +kernel)
set_option maxRecDepth 100000 in
theorem dL_law_966 : decode cL_law 966 = .ok (.iconst 1, 1) := dz_b4 (by decide +kernel)
set_option maxRecDepth 100000 in
theorem dL_law_967 : decode cL_law 967 = .ok (.iadd, 1) := dz_b96 (by decide +kernel)
set_option maxRecDepth 100000 in
theorem dL_law_968 : decode cL_law 968 = .ok (.iaload, 1) := dz_b46 (by decide +kernel)
set_option maxRecDepth 100000 in
theorem dL_law_969 : decode cL_law 969 = .ok (.invokevirtual 124, 3) := dz_b182 (by decide +kernel)
set_option maxRecDepth 100000 in
theorem dL_law_972 : decode cL_law 972 = .ok (.pop, 1) := dz_b87 (by decide +kernel)
set_option maxRecDepth 100000 in
theorem dL_law_973 : decode cL_law 973 = .ok (.aload_n 2, 1) := dz_b44 (by decide +kernel)
set_option maxRecDepth 100000 in
theorem dL_law_974 : decode cL_law 974 = .ok (.aload_n 0, 1) := dz_b42 (by decide +kernel)
set_option maxRecDepth 100000 in
theorem dL_law_975 : decode cL_law 975 = .ok (.iload 4, 2) := dz_b21 (by decide +kernel)
set_option maxRecDepth 100000 in
theorem dL_law_977 : decode cL_law 977 = .ok (.iconst 1, 1) := dz_b4 (by decide +kernel)
set_option maxRecDepth 100000 in
theorem dL_law_978 : decode cL_law 978 = .ok (.iadd, 1) := dz_b96 (by decide +kernel)
set_option maxRecDepth 100000 in
theorem dL_law_979 : decode cL_law 979 = .ok (.iaload, 1) := dz_b46 (by decide +kernel)
set_option maxRecDepth 100000 in
theorem dL_law_980 : decode cL_law 980 = .ok (.invokevirtual 127, 3) := dz_b182 (by decide +kernel)
set_option maxRecDepth 100000 in
theorem dL_law_983 : decode cL_law 983 = .ok (.pop, 1) := dz_b87 (by decide +kernel)
set_option maxRecDepth 100000 in
theorem dL_law_984 : decode cL_law 984 = .ok (.goto 389, 3) := dz_b167 (by decide +kernel)
set_option maxRecDepth 100000 in
theorem dL_law_987 : decode cL_law 987 = .ok (.aload_n 1, 1) := dz_b43 (by decide +kernel)
set_option maxRecDepth 100000 in
theorem dL_law_988 : decode cL_law 988 = .ok (.aload_n 0, 1) := dz_b42 (by decide +kernel)
set_option maxRecDepth 100000 in
theorem dL_law_989 : decode cL_law 989 = .ok (.iload 4, 2) := dz_b21 (by decide +kernel)
set_option maxRecDepth 100000 in
theorem dL_law_991 : decode cL_law 991 = .ok (.iconst 1, 1) := dz_b4 (by decide +kernel)
set_option maxRecDepth 100000 in
theorem dL_law_992 : decode cL_law 992 = .ok (.iadd, 1) := dz_b96 (by decide +kernel)
set_option maxRecDepth 100000 in
theorem dL_law_993 : decode cL_law 993 = .ok (.iaload, 1) := dz_b46 (by decide +kernel)
set_option maxRecDepth 100000 in
theorem dL_law_994 : decode cL_law 994 = .ok (.aload_n 0, 1) := dz_b42 (by decide +kernel)
set_option maxRecDepth 100000 in
theorem dL_law_995 : decode cL_law 995 = .ok (.iload 4, 2) := dz_b21 (by decide +kernel)
set_option maxRecDepth 100000 in
theorem dL_law_997 : decode cL_law 997 = .ok (.iconst 2, 1) := dz_b5 (by decide +kernel)
set_option maxRecDepth 100000 in
theorem dL_law_998 : decode cL_law 998 = .ok (.iadd, 1) := dz_b96 (by decide +kernel)
set_option maxRecDepth 100000 in
theorem dL_law_999 : decode cL_law 999 = .ok (.iaload, 1) := dz_b46 (by decide +kernel)
set_option maxRecDepth 100000 in
theorem dL_law_1000 : decode cL_law 1000 = .ok (.aload_n 0, 1) := dz_b42 (by decide +kernel)
set_option maxRecDepth 100000 in
theorem dL_law_1001 : decode cL_law 1001 = .ok (.iload 4, 2) := dz_b21 (by decide +kernel)
set_option maxRecDepth 100000 in
theorem dL_law_1003 : decode cL_law 1003 = .ok (.iconst 3, 1) := dz_b6 (by decide +kernel)
set_option maxRecDepth 100000 in
theorem dL_law_1004 : decode cL_law 1004 = .ok (.iadd, 1) := dz_b96 (by decide +kernel)
set_option maxRecDepth 100000 in
theorem dL_law_1005 : decode cL_law 1005 = .ok (.iaload, 1) := dz_b46 (by decide +kernel)
set_option maxRecDepth 100000 in
theorem dL_law_1006 : decode cL_law 1006 = .ok (.invokevirtual 128, 3) := dz_b182 (by decide +kernel)
set_option maxRecDepth 100000 in
theorem dL_law_1009 : decode cL_law 1009 = .ok (.pop, 1) := dz_b87 (by decide +kernel)
set_option maxRecDepth 100000 in
theorem dL_law_1010 : decode cL_law 1010 = .ok (.aload_n 2, 1) := dz_b44 (by decide +kernel)
set_option maxRecDepth 100000 in
theorem dL_law_1011 : decode cL_law 1011 = .ok (.aload_n 0, 1) := dz_b42 (by decide +kernel)
set_option maxRecDepth 100000 in
theorem dL_law_1012 : decode cL_law 1012 = .ok (.iload 4, 2) := dz_b21 (by decide +kernel)
set_option maxRecDepth 100000 in
theorem dL_law_1014 : decode cL_law 1014 = .ok (.iconst 1, 1) := dz_b4 (by decide +kernel)
set_option maxRecDepth 100000 in
theorem dL_law_1015 : decode cL_law 1015 = .ok (.iadd, 1) := dz_b96 (by decide +kernel)
set_option maxRecDepth 100000 in
theorem dL_law_1016 : decode cL_law 1016 = .ok (.iaload, 1) := dz_b46 (by decide +kernel)
set_option maxRecDepth 100000 in
theorem dL_law_1017 : decode cL_law 1017 = .ok (.aload_n 0, 1) := dz_b42 (by decide +kernel)
set_option maxRecDepth 100000 in
theorem dL_law_1018 : decode cL_law 1018 = .ok (.iload 4, 2) := dz_b21 (by decide +kernel)
set_option maxRecDepth 100000 in
theorem dL_law_1020 : decode cL_law 1020 = .ok (.iconst 2, 1) := dz_b5 (by decide +kernel)
set_option maxRecDepth 100000 in
theorem dL_law_1021 : decode cL_law 1021 = .ok (.iadd, 1) := dz_b96 (by decide +kernel)
set_option maxRecDepth 100000 in
theorem dL_law_1022 : decode cL_law 1022 = .ok (.iaload, 1) := dz_b46 (by decide +kernel)
set_option maxRecDepth 100000 in
theorem dL_law_1023 : decode cL_law 1023 = .ok (.aload_n 0, 1) := dz_b42 (by decide +kernel)
set_option maxRecDepth 100000 in
theorem dL_law_1024 : decode cL_law 1024 = .ok (.iload 4, 2) := dz_b21 (by decide +kernel)
set_option maxRecDepth 100000 in
theorem dL_law_1026 : decode cL_law 1026 = .ok (.iconst 3, 1) := dz_b6 (by decide +kernel)
set_option maxRecDepth 100000 in
theorem dL_law_1027 : decode cL_law 1027 = .ok (.iadd, 1) := dz_b96 (by decide +kernel)
set_option maxRecDepth 100000 in
theorem dL_law_1028 : decode cL_law 1028 = .ok (.iaload, 1) := dz_b46 (by decide +kernel)
set_option maxRecDepth 100000 in
theorem dL_law_1029 : decode cL_law 1029 = .ok (.invokevirtual 131, 3) := dz_b182 (by decide +kernel)
set_option maxRecDepth 100000 in
theorem dL_law_1032 : decode cL_law 1032 = .ok (.pop, 1) := dz_b87 (by decide +kernel)
set_option maxRecDepth 100000 in
theorem dL_law_1033 : decode cL_law 1033 = .ok (.goto 340, 3) := dz_b167 (by decide +kernel)
set_option maxRecDepth 100000 in
theorem dL_law_1036 : decode cL_law 1036 = .ok (.aload_n 1, 1) := dz_b43 (by decide +kernel)
set_option maxRecDepth 100000 in
theorem dL_law_1037 : decode cL_law 1037 = .ok (.aload_n 0, 1) := dz_b42 (by decide +kernel)
set_option maxRecDepth 100000 in
theorem dL_law_1038 : decode cL_law 1038 = .ok (.iload 4, 2) := dz_b21 (by decide +kernel)
set_option maxRecDepth 100000 in
theorem dL_law_1040 : decode cL_law 1040 = .ok (.iconst 1, 1) := dz_b4 (by decide +kernel)
set_option maxRecDepth 100000 in
theorem dL_law_1041 : decode cL_law 1041 = .ok (.iadd, 1) := dz_b96 (by decide +kernel)
set_option maxRecDepth 100000 in
theorem dL_law_1042 : decode cL_law 1042 = .ok (.iaload, 1) := dz_b46 (by decide +kernel)
set_option maxRecDepth 100000 in
theorem dL_law_1043 : decode cL_law 1043 = .ok (.invokevirtual 132, 3) := dz_b182 (by decide +kernel)
set_option maxRecDepth 100000 in
theorem dL_law_1046 : decode cL_law 1046 = .ok (.pop, 1) := dz_b87 (by decide +kernel)
set_option maxRecDepth 100000 in
theorem dL_law_1047 : decode cL_law 1047 = .ok (.aload_n 2, 1) := dz_b44 (by decide +kernel)
set_option maxRecDepth 100000 in
theorem dL_law_1048 : decode cL_law 1048 = .ok (.aload_n 0, 1) := dz_b42 (by decide +kernel)
set_option maxRecDepth 100000 in
theorem dL_law_1049 : decode cL_law 1049 = .ok (.iload 4, 2) := dz_b21 (by decide +kernel)
set_option maxRecDepth 100000 in
theorem dL_law_1051 : decode cL_law 1051 = .ok (.iconst 1, 1) := dz_b4 (by decide +kernel)
set_option maxRecDepth 100000 in
theorem dL_law_1052 : decode cL_law 1052 = .ok (.iadd, 1) := dz_b96 (by decide +kernel)
set_option maxRecDepth 100000 in
theorem dL_law_1053 : decode cL_law 1053 = .ok (.iaload, 1) := dz_b46 (by decide +kernel)
set_option maxRecDepth 100000 in
theorem dL_law_1054 : decode cL_law 1054 = .ok (.invokevirtual 135, 3) := dz_b182 (by decide +kernel)
set_option maxRecDepth 100000 in
theorem dL_law_1057 : decode cL_law 1057 = .ok (.pop, 1) := dz_b87 (by decide +kernel)
set_option maxRecDepth 100000 in
theorem dL_law_1058 : decode cL_law 1058 = .ok (.goto 315, 3) := dz_b167 (by decide +kernel)
set_option maxRecDepth 100000 in
theorem dL_law_1061 : decode cL_law 1061 = .ok (.aload_n 1, 1) := dz_b43 (by decide +kernel)
set_option maxRecDepth 100000 in
theorem dL_law_1062 : decode cL_law 1062 = .ok (.aload_n 0, 1) := dz_b42 (by decide +kernel)
set_option maxRecDepth 100000 in
theorem dL_law_1063 : decode cL_law 1063 = .ok (.iload 4, 2) := dz_b21 (by decide +kernel)
set_option maxRecDepth 100000 in
theorem dL_law_1065 : decode cL_law 1065 = .ok (.iconst 1, 1) := dz_b4 (by decide +kernel)
set_option maxRecDepth 100000 in
theorem dL_law_1066 : decode cL_law 1066 = .ok (.iadd, 1) := dz_b96 (by decide +kernel)
set_option maxRecDepth 100000 in
theorem dL_law_1067 : decode cL_law 1067 = .ok (.iaload, 1) := dz_b46 (by decide +kernel)
set_option maxRecDepth 100000 in
theorem dL_law_1068 : decode cL_law 1068 = .ok (.invokevirtual 136, 3) := dz_b182 (by decide +kernel)
set_option maxRecDepth 100000 in
theorem dL_law_1071 : decode cL_law 1071 = .ok (.pop, 1) := dz_b87 (by decide +kernel)
set_option maxRecDepth 100000 in
theorem dL_law_1072 : decode cL_law 1072 = .ok (.aload_n 2, 1) := dz_b44 (by decide +kernel)
set_option maxRecDepth 100000 in
theorem dL_law_1073 : decode cL_law 1073 = .ok (.aload_n 0, 1) := dz_b42 (by decide +kernel)
set_option maxRecDepth 100000 in
theorem dL_law_1074 : decode cL_law 1074 = .ok (.iload 4, 2) := dz_b21 (by decide +kernel)
set_option maxRecDepth 100000 in
theorem dL_law_1076 : decode cL_law 1076 = .ok (.iconst 1, 1) := dz_b4 (by decide +kernel)
set_option maxRecDepth 100000 in
theorem dL_law_1077 : decode cL_law 1077 = .ok (.iadd, 1) := dz_b96 (by decide +kernel)
set_option maxRecDepth 100000 in
theorem dL_law_1078 : decode cL_law 1078 = .ok (.iaload, 1) := dz_b46 (by decide +kernel)
set_option maxRecDepth 100000 in
theorem dL_law_1079 : decode cL_law 1079 = .ok (.invokevirtual 139, 3) := dz_b182 (by decide +kernel)
set_option maxRecDepth 100000 in
theorem dL_law_1082 : decode cL_law 1082 = .ok (.pop, 1) := dz_b87 (by decide +kernel)
set_option maxRecDepth 100000 in
theorem dL_law_1083 : decode cL_law 1083 = .ok (.goto 290, 3) := dz_b167 (by decide +kernel)
set_option maxRecDepth 100000 in
theorem dL_law_1086 : decode cL_law 1086 = .ok (.aload_n 1, 1) := dz_b43 (by decide +kernel)
set_option maxRecDepth 100000 in
theorem dL_law_1087 : decode cL_law 1087 = .ok (.aload_n 0, 1) := dz_b42 (by decide +kernel)
set_option maxRecDepth 100000 in
theorem dL_law_1088 : decode cL_law 1088 = .ok (.iload 4, 2) := dz_b21 (by decide +kernel)
set_option maxRecDepth 100000 in
theorem dL_law_1090 : decode cL_law 1090 = .ok (.iconst 1, 1) := dz_b4 (by decide +kernel)
set_option maxRecDepth 100000 in
theorem dL_law_1091 : decode cL_law 1091 = .ok (.iadd, 1) := dz_b96 (by decide +kernel)
set_option maxRecDepth 100000 in
theorem dL_law_1092 : decode cL_law 1092 = .ok (.iaload, 1) := dz_b46 (by decide +kernel)
set_option maxRecDepth 100000 in
theorem dL_law_1093 : decode cL_law 1093 = .ok (.invokevirtual 140, 3) := dz_b182 (by decide +kernel)
set_option maxRecDepth 100000 in
theorem dL_law_1096 : decode cL_law 1096 = .ok (.pop, 1) := dz_b87 (by decide +kernel)
set_option maxRecDepth 100000 in
theorem dL_law_1097 : decode cL_law 1097 = .ok (.aload_n 2, 1) := dz_b44 (by decide +kernel)
set_option maxRecDepth 100000 in
theorem dL_law_1098 : decode cL_law 1098 = .ok (.aload_n 0, 1) := dz_b42 (by decide +kernel)
set_option maxRecDepth 100000 in
theorem dL_law_1099 : decode cL_law 1099 = .ok (.iload 4, 2) := dz_b21 (by decide +kernel)
set_option maxRecDepth 100000 in
theorem dL_law_1101 : decode cL_law 1101 = .ok (.iconst 1, 1) := dz_b4 (by decide +kernel)
set_option maxRecDepth 100000 in
theorem dL_law_1102 : decode cL_law 1102 = .ok (.iadd, 1) := dz_b96 (by decide +kernel)
set_option maxRecDepth 100000 in
theorem dL_law_1103 : decode cL_law 1103 = .ok (.iaload, 1) := dz_b46 (by decide +kernel)
set_option maxRecDepth 100000 in
theorem dL_law_1104 : decode cL_law 1104 = .ok (.invokevirtual 143, 3) := dz_b182 (by decide +kernel)
set_option maxRecDepth 100000 in
theorem dL_law_1107 : decode cL_law 1107 = .ok (.pop, 1) := dz_b87 (by decide +kernel)
set_option maxRecDepth 100000 in
theorem dL_law_1108 : decode cL_law 1108 = .ok (.goto 265, 3) := dz_b167 (by decide +kernel)
set_option maxRecDepth 100000 in
theorem dL_law_1111 : decode cL_law 1111 = .ok (.aload_n 1, 1) := dz_b43 (by decide +kernel)
set_option maxRecDepth 100000 in
theorem dL_law_1112 : decode cL_law 1112 = .ok (.aload_n 0, 1) := dz_b42 (by decide +kernel)
set_option maxRecDepth 100000 in
theorem dL_law_1113 : decode cL_law 1113 = .ok (.iload 4, 2) := dz_b21 (by decide +kernel)
set_option maxRecDepth 100000 in
theorem dL_law_1115 : decode cL_law 1115 = .ok (.iconst 1, 1) := dz_b4 (by decide +kernel)
set_option maxRecDepth 100000 in
theorem dL_law_1116 : decode cL_law 1116 = .ok (.iadd, 1) := dz_b96 (by decide +kernel)
set_option maxRecDepth 100000 in
theorem dL_law_1117 : decode cL_law 1117 = .ok (.iaload, 1) := dz_b46 (by decide +kernel)
set_option maxRecDepth 100000 in
theorem dL_law_1118 : decode cL_law 1118 = .ok (.invokevirtual 144, 3) := dz_b182 (by decide +kernel)
set_option maxRecDepth 100000 in
theorem dL_law_1121 : decode cL_law 1121 = .ok (.pop, 1) := dz_b87 (by decide +kernel)
set_option maxRecDepth 100000 in
theorem dL_law_1122 : decode cL_law 1122 = .ok (.aload_n 2, 1) := dz_b44 (by decide +kernel)
set_option maxRecDepth 100000 in
theorem dL_law_1123 : decode cL_law 1123 = .ok (.aload_n 0, 1) := dz_b42 (by decide +kernel)
set_option maxRecDepth 100000 in
theorem dL_law_1124 : decode cL_law 1124 = .ok (.iload 4, 2) := dz_b21 (by decide +kernel)
set_option maxRecDepth 100000 in
theorem dL_law_1126 : decode cL_law 1126 = .ok (.iconst 1, 1) := dz_b4 (by decide +kernel)
set_option maxRecDepth 100000 in
theorem dL_law_1127 : decode cL_law 1127 = .ok (.iadd, 1) := dz_b96 (by decide +kernel)
set_option maxRecDepth 100000 in
theorem dL_law_1128 : decode cL_law 1128 = .ok (.iaload, 1) := dz_b46 (by decide +kernel)
set_option maxRecDepth 100000 in
theorem dL_law_1129 : decode cL_law 1129 = .ok (.invokevirtual 147, 3) := dz_b182 (by decide +kernel)
set_option maxRecDepth 100000 in
theorem dL_law_1132 : decode cL_law 1132 = .ok (.pop, 1) := dz_b87 (by decide +kernel)
set_option maxRecDepth 100000 in
theorem dL_law_1133 : decode cL_law 1133 = .ok (.goto 240, 3) := dz_b167 (by decide +kernel)
set_option maxRecDepth 100000 in
theorem dL_law_1136 : decode cL_law 1136 = .ok (.aload_n 1, 1) := dz_b43 (by decide +kernel)
set_option maxRecDepth 100000 in
theorem dL_law_1137 : decode cL_law 1137 = .ok (.aload_n 0, 1) := dz_b42 (by decide +kernel)
set_option maxRecDepth 100000 in
theorem dL_law_1138 : decode cL_law 1138 = .ok (.iload 4, 2) := dz_b21 (by decide +kernel)
set_option maxRecDepth 100000 in
theorem dL_law_1140 : decode cL_law 1140 = .ok (.iconst 1, 1) := dz_b4 (by decide +kernel)
set_option maxRecDepth 100000 in
theorem dL_law_1141 : decode cL_law 1141 = .ok (.iadd, 1) := dz_b96 (by decide +kernel)
set_option maxRecDepth 100000 in
theorem dL_law_1142 : decode cL_law 1142 = .ok (.iaload, 1) := dz_b46 (by decide +kernel)
set_option maxRecDepth 100000 in
theorem dL_law_1143 : decode cL_law 1143 = .ok (.aload_n 0, 1) := dz_b42 (by decide +kernel)
set_option maxRecDepth 100000 in
theorem dL_law_1144 : decode cL_law 1144 = .ok (.iload 4, 2) := dz_b21 (by decide +kernel)
set_option maxRecDepth 100000 in
theorem dL_law_1146 : decode cL_law 1146 = .ok (.iconst 2, 1) := dz_b5 (by decide +kernel)
set_option maxRecDepth 100000 in
theorem dL_law_1147 : decode cL_law 1147 = .ok (.iadd, 1) := dz_b96 (by decide +kernel)
set_option maxRecDepth 100000 in
theorem dL_law_1148 : decode cL_law 1148 = .ok (.iaload, 1) := dz_b46 (by decide +kernel)
set_option maxRecDepth 100000 in
theorem dL_law_1149 : decode cL_law 1149 = .ok (.invokevirtual 148, 3) := dz_b182 (by decide +kernel)
set_option maxRecDepth 100000 in
theorem dL_law_1152 : decode cL_law 1152 = .ok (.pop, 1) := dz_b87 (by decide +kernel)
set_option maxRecDepth 100000 in
theorem dL_law_1153 : decode cL_law 1153 = .ok (.aload_n 2, 1) := dz_b44 (by decide +kernel)
set_option maxRecDepth 100000 in
theorem dL_law_1154 : decode cL_law 1154 = .ok (.aload_n 0, 1) := dz_b42 (by decide +kernel)
set_option maxRecDepth 100000 in
theorem dL_law_1155 : decode cL_law 1155 = .ok (.iload 4, 2) := dz_b21 (by decide +kernel)
set_option maxRecDepth 100000 in
theorem dL_law_1157 : decode cL_law 1157 = .ok (.iconst 1, 1) := dz_b4 (by decide +kernel)
set_option maxRecDepth 100000 in
theorem dL_law_1158 : decode cL_law 1158 = .ok (.iadd, 1) := dz_b96 (by decide +kernel)
set_option maxRecDepth 100000 in
theorem dL_law_1159 : decode cL_law 1159 = .ok (.iaload, 1) := dz_b46 (by decide +kernel)
set_option maxRecDepth 100000 in
theorem dL_law_1160 : decode cL_law 1160 = .ok (.aload_n 0, 1) := dz_b42 (by decide +kernel)
set_option maxRecDepth 100000 in
theorem dL_law_1161 : decode cL_law 1161 = .ok (.iload 4, 2) := dz_b21 (by decide +kernel)
set_option maxRecDepth 100000 in
theorem dL_law_1163 : decode cL_law 1163 = .ok (.iconst 2, 1) := dz_b5 (by decide +kernel)
set_option maxRecDepth 100000 in
theorem dL_law_1164 : decode cL_law 1164 = .ok (.iadd, 1) := dz_b96 (by decide +kernel)
set_option maxRecDepth 100000 in
theorem dL_law_1165 : decode cL_law 1165 = .ok (.iaload, 1) := dz_b46 (by decide +kernel)
set_option maxRecDepth 100000 in
theorem dL_law_1166 : decode cL_law 1166 = .ok (.invokevirtual 151, 3) := dz_b182 (by decide +kernel)
set_option maxRecDepth 100000 in
theorem dL_law_1169 : decode cL_law 1169 = .ok (.pop, 1) := dz_b87 (by decide +kernel)
set_option maxRecDepth 100000 in
theorem dL_law_1170 : decode cL_law 1170 = .ok (.goto 203, 3) := dz_b167 (by decide +kernel)
set_option maxRecDepth 100000 in
theorem dL_law_1173 : decode cL_law 1173 = .ok (.aload_n 1, 1) := dz_b43 (by decide +kernel)
set_option maxRecDepth 100000 in
theorem dL_law_1174 : decode cL_law 1174 = .ok (.aload_n 0, 1) := dz_b42 (by decide +kernel)
set_option maxRecDepth 100000 in
theorem dL_law_1175 : decode cL_law 1175 = .ok (.iload 4, 2) := dz_b21 (by decide +kernel)
set_option maxRecDepth 100000 in
theorem dL_law_1177 : decode cL_law 1177 = .ok (.iconst 1, 1) := dz_b4 (by decide +kernel)
set_option maxRecDepth 100000 in
theorem dL_law_1178 : decode cL_law 1178 = .ok (.iadd, 1) := dz_b96 (by decide +kernel)
set_option maxRecDepth 100000 in
theorem dL_law_1179 : decode cL_law 1179 = .ok (.iaload, 1) := dz_b46 (by decide +kernel)
set_option maxRecDepth 100000 in
theorem dL_law_1180 : decode cL_law 1180 = .ok (.aload_n 0, 1) := dz_b42 (by decide +kernel)
set_option maxRecDepth 100000 in
theorem dL_law_1181 : decode cL_law 1181 = .ok (.iload 4, 2) := dz_b21 (by decide +kernel)
set_option maxRecDepth 100000 in
theorem dL_law_1183 : decode cL_law 1183 = .ok (.iconst 2, 1) := dz_b5 (by decide +kernel)
set_option maxRecDepth 100000 in
theorem dL_law_1184 : decode cL_law 1184 = .ok (.iadd, 1) := dz_b96 (by decide +kernel)
set_option maxRecDepth 100000 in
theorem dL_law_1185 : decode cL_law 1185 = .ok (.iaload, 1) := dz_b46 (by decide +kernel)
set_option maxRecDepth 100000 in
theorem dL_law_1186 : decode cL_law 1186 = .ok (.invokevirtual 152, 3) := dz_b182 (by decide +kernel)
set_option maxRecDepth 100000 in
theorem dL_law_1189 : decode cL_law 1189 = .ok (.pop, 1) := dz_b87 (by decide +kernel)
set_option maxRecDepth 100000 in
theorem dL_law_1190 : decode cL_law 1190 = .ok (.aload_n 2, 1) := dz_b44 (by decide +kernel)
set_option maxRecDepth 100000 in
theorem dL_law_1191 : decode cL_law 1191 = .ok (.aload_n 0, 1) := dz_b42 (by decide +kernel)
set_option maxRecDepth 100000 in
theorem dL_law_1192 : decode cL_law 1192 = .ok (.iload 4, 2) := dz_b21 (by decide +kernel)
set_option maxRecDepth 100000 in
theorem dL_law_1194 : decode cL_law 1194 = .ok (.iconst 1, 1) := dz_b4 (by decide +kernel)
set_option maxRecDepth 100000 in
theorem dL_law_1195 : decode cL_law 1195 = .ok (.iadd, 1) := dz_b96 (by decide +kernel)
set_option maxRecDepth 100000 in
theorem dL_law_1196 : decode cL_law 1196 = .ok (.iaload, 1) := dz_b46 (by decide +kernel)
set_option maxRecDepth 100000 in
theorem dL_law_1197 : decode cL_law 1197 = .ok (.aload_n 0, 1) := dz_b42 (by decide +kernel)
set_option maxRecDepth 100000 in
theorem dL_law_1198 : decode cL_law 1198 = .ok (.iload 4, 2) := dz_b21 (by decide +kernel)
set_option maxRecDepth 100000 in
theorem dL_law_1200 : decode cL_law 1200 = .ok (.iconst 2, 1) := dz_b5 (by decide +kernel)
set_option maxRecDepth 100000 in
theorem dL_law_1201 : decode cL_law 1201 = .ok (.iadd, 1) := dz_b96 (by decide +kernel)
set_option maxRecDepth 100000 in
theorem dL_law_1202 : decode cL_law 1202 = .ok (.iaload, 1) := dz_b46 (by decide +kernel)
set_option maxRecDepth 100000 in
theorem dL_law_1203 : decode cL_law 1203 = .ok (.invokevirtual 155, 3) := dz_b182 (by decide +kernel)
set_option maxRecDepth 100000 in
theorem dL_law_1206 : decode cL_law 1206 = .ok (.pop, 1) := dz_b87 (by decide +kernel)
set_option maxRecDepth 100000 in
theorem dL_law_1207 : decode cL_law 1207 = .ok (.goto 166, 3) := dz_b167 (by decide +kernel)
set_option maxRecDepth 100000 in
theorem dL_law_1210 : decode cL_law 1210 = .ok (.aload_n 1, 1) := dz_b43 (by decide +kernel)
set_option maxRecDepth 100000 in
theorem dL_law_1211 : decode cL_law 1211 = .ok (.aload_n 0, 1) := dz_b42 (by decide +kernel)
set_option maxRecDepth 100000 in
theorem dL_law_1212 : decode cL_law 1212 = .ok (.iload 4, 2) := dz_b21 (by decide +kernel)
set_option maxRecDepth 100000 in
theorem dL_law_1214 : decode cL_law 1214 = .ok (.iconst 1, 1) := dz_b4 (by decide +kernel)
set_option maxRecDepth 100000 in
theorem dL_law_1215 : decode cL_law 1215 = .ok (.iadd, 1) := dz_b96 (by decide +kernel)
set_option maxRecDepth 100000 in
theorem dL_law_1216 : decode cL_law 1216 = .ok (.iaload, 1) := dz_b46 (by decide +kernel)
set_option maxRecDepth 100000 in
theorem dL_law_1217 : decode cL_law 1217 = .ok (.aload_n 0, 1) := dz_b42 (by decide +kernel)
set_option maxRecDepth 100000 in
theorem dL_law_1218 : decode cL_law 1218 = .ok (.iload 4, 2) := dz_b21 (by decide +kernel)
set_option maxRecDepth 100000 in
theorem dL_law_1220 : decode cL_law 1220 = .ok (.iconst 2, 1) := dz_b5 (by decide +kernel)
set_option maxRecDepth 100000 in
theorem dL_law_1221 : decode cL_law 1221 = .ok (.iadd, 1) := dz_b96 (by decide +kernel)
set_option maxRecDepth 100000 in
theorem dL_law_1222 : decode cL_law 1222 = .ok (.iaload, 1) := dz_b46 (by decide +kernel)
set_option maxRecDepth 100000 in
theorem dL_law_1223 : decode cL_law 1223 = .ok (.invokevirtual 156, 3) := dz_b182 (by decide +kernel)
set_option maxRecDepth 100000 in
theorem dL_law_1226 : decode cL_law 1226 = .ok (.pop, 1) := dz_b87 (by decide +kernel)
set_option maxRecDepth 100000 in
theorem dL_law_1227 : decode cL_law 1227 = .ok (.aload_n 2, 1) := dz_b44 (by decide +kernel)
set_option maxRecDepth 100000 in
theorem dL_law_1228 : decode cL_law 1228 = .ok (.aload_n 0, 1) := dz_b42 (by decide +kernel)
set_option maxRecDepth 100000 in
theorem dL_law_1229 : decode cL_law 1229 = .ok (.iload 4, 2) := dz_b21 (by decide +kernel)
set_option maxRecDepth 100000 in
theorem dL_law_1231 : decode cL_law 1231 = .ok (.iconst 1, 1) := dz_b4 (by decide +kernel)
set_option maxRecDepth 100000 in
theorem dL_law_1232 : decode cL_law 1232 = .ok (.iadd, 1) := dz_b96 (by decide +kernel)
set_option maxRecDepth 100000 in
theorem dL_law_1233 : decode cL_law 1233 = .ok (.iaload, 1) := dz_b46 (by decide +kernel)
set_option maxRecDepth 100000 in
theorem dL_law_1234 : decode cL_law 1234 = .ok (.aload_n 0, 1) := dz_b42 (by decide +kernel)
set_option maxRecDepth 100000 in
theorem dL_law_1235 : decode cL_law 1235 = .ok (.iload 4, 2) := dz_b21 (by decide +kernel)
set_option maxRecDepth 100000 in
theorem dL_law_1237 : decode cL_law 1237 = .ok (.iconst 2, 1) := dz_b5 (by decide +kernel)
set_option maxRecDepth 100000 in
theorem dL_law_1238 : decode cL_law 1238 = .ok (.iadd, 1) := dz_b96 (by decide +kernel)
set_option maxRecDepth 100000 in
theorem dL_law_1239 : decode cL_law 1239 = .ok (.iaload, 1) := dz_b46 (by decide +kernel)
set_option maxRecDepth 100000 in
theorem dL_law_1240 : decode cL_law 1240 = .ok (.invokevirtual 159, 3) := dz_b182 (by decide +kernel)
set_option maxRecDepth 100000 in
theorem dL_law_1243 : decode cL_law 1243 = .ok (.pop, 1) := dz_b87 (by decide +kernel)
set_option maxRecDepth 100000 in
theorem dL_law_1244 : decode cL_law 1244 = .ok (.goto 129, 3) := dz_b167 (by decide +kernel)
set_option maxRecDepth 100000 in
theorem dL_law_1247 : decode cL_law 1247 = .ok (.aload_n 1, 1) := dz_b43 (by decide +kernel)
set_option maxRecDepth 100000 in
theorem dL_law_1248 : decode cL_law 1248 = .ok (.invokevirtual 160, 3) := dz_b182 (by decide +kernel)
set_option maxRecDepth 100000 in
theorem dL_law_1251 : decode cL_law 1251 = .ok (.pop, 1) := dz_b87 (by decide +kernel)
set_option maxRecDepth 100000 in
theorem dL_law_1252 : decode cL_law 1252 = .ok (.aload_n 2, 1) := dz_b44 (by decide +kernel)
set_option maxRecDepth 100000 in
theorem dL_law_1253 : decode cL_law 1253 = .ok (.invokevirtual 163, 3) := dz_b182 (by decide +kernel)
set_option maxRecDepth 100000 in
theorem dL_law_1256 : decode cL_law 1256 = .ok (.pop, 1) := dz_b87 (by decide +kernel)
set_option maxRecDepth 100000 in
theorem dL_law_1257 : decode cL_law 1257 = .ok (.goto 116, 3) := dz_b167 (by decide +kernel)
set_option maxRecDepth 100000 in
theorem dL_law_1260 : decode cL_law 1260 = .ok (.aload_n 1, 1) := dz_b43 (by decide +kernel)
set_option maxRecDepth 100000 in
theorem dL_law_1261 : decode cL_law 1261 = .ok (.aload_n 0, 1) := dz_b42 (by decide +kernel)
set_option maxRecDepth 100000 in
theorem dL_law_1262 : decode cL_law 1262 = .ok (.iload 4, 2) := dz_b21 (by decide +kernel)
set_option maxRecDepth 100000 in
theorem dL_law_1264 : decode cL_law 1264 = .ok (.iconst 1, 1) := dz_b4 (by decide +kernel)
set_option maxRecDepth 100000 in
theorem dL_law_1265 : decode cL_law 1265 = .ok (.iadd, 1) := dz_b96 (by decide +kernel)
set_option maxRecDepth 100000 in
theorem dL_law_1266 : decode cL_law 1266 = .ok (.iaload, 1) := dz_b46 (by decide +kernel)
set_option maxRecDepth 100000 in
theorem dL_law_1267 : decode cL_law 1267 = .ok (.invokevirtual 164, 3) := dz_b182 (by decide +kernel)
set_option maxRecDepth 100000 in
theorem dL_law_1270 : decode cL_law 1270 = .ok (.pop, 1) := dz_b87 (by decide +kernel)
set_option maxRecDepth 100000 in
theorem dL_law_1271 : decode cL_law 1271 = .ok (.aload_n 2, 1) := dz_b44 (by decide +kernel)
set_option maxRecDepth 100000 in
theorem dL_law_1272 : decode cL_law 1272 = .ok (.aload_n 0, 1) := dz_b42 (by decide +kernel)
set_option maxRecDepth 100000 in
theorem dL_law_1273 : decode cL_law 1273 = .ok (.iload 4, 2) := dz_b21 (by decide +kernel)
set_option maxRecDepth 100000 in
theorem dL_law_1275 : decode cL_law 1275 = .ok (.iconst 1, 1) := dz_b4 (by decide +kernel)
set_option maxRecDepth 100000 in
theorem dL_law_1276 : decode cL_law 1276 = .ok (.iadd, 1) := dz_b96 (by decide +kernel)
set_option maxRecDepth 100000 in
theorem dL_law_1277 : decode cL_law 1277 = .ok (.iaload, 1) := dz_b46 (by decide +kernel)
set_option maxRecDepth 100000 in
theorem dL_law_1278 : decode cL_law 1278 = .ok (.invokevirtual 167, 3) := dz_b182 (by decide +kernel)
set_option maxRecDepth 100000 in
theorem dL_law_1281 : decode cL_law 1281 = .ok (.pop, 1) := dz_b87 (by decide +kernel)
set_option maxRecDepth 100000 in
theorem dL_law_1282 : decode cL_law 1282 = .ok (.goto 91, 3) := dz_b167 (by decide +kernel)
set_option maxRecDepth 100000 in
theorem dL_law_1285 : decode cL_law 1285 = .ok (.aload_n 1, 1) := dz_b43 (by decide +kernel)
set_option maxRecDepth 100000 in
theorem dL_law_1286 : decode cL_law 1286 = .ok (.aload_n 0, 1) := dz_b42 (by decide +kernel)
set_option maxRecDepth 100000 in
theorem dL_law_1287 : decode cL_law 1287 = .ok (.iload 4, 2) := dz_b21 (by decide +kernel)
set_option maxRecDepth 100000 in
theorem dL_law_1289 : decode cL_law 1289 = .ok (.iconst 1, 1) := dz_b4 (by decide +kernel)
set_option maxRecDepth 100000 in
theorem dL_law_1290 : decode cL_law 1290 = .ok (.iadd, 1) := dz_b96 (by decide +kernel)
set_option maxRecDepth 100000 in
theorem dL_law_1291 : decode cL_law 1291 = .ok (.iaload, 1) := dz_b46 (by decide +kernel)
set_option maxRecDepth 100000 in
theorem dL_law_1292 : decode cL_law 1292 = .ok (.aload_n 0, 1) := dz_b42 (by decide +kernel)
set_option maxRecDepth 100000 in
theorem dL_law_1293 : decode cL_law 1293 = .ok (.iload 4, 2) := dz_b21 (by decide +kernel)
set_option maxRecDepth 100000 in
theorem dL_law_1295 : decode cL_law 1295 = .ok (.iconst 2, 1) := dz_b5 (by decide +kernel)
set_option maxRecDepth 100000 in
theorem dL_law_1296 : decode cL_law 1296 = .ok (.iadd, 1) := dz_b96 (by decide +kernel)
set_option maxRecDepth 100000 in
theorem dL_law_1297 : decode cL_law 1297 = .ok (.iaload, 1) := dz_b46 (by decide +kernel)
set_option maxRecDepth 100000 in
theorem dL_law_1298 : decode cL_law 1298 = .ok (.invokevirtual 168, 3) := dz_b182 (by decide +kernel)
set_option maxRecDepth 100000 in
theorem dL_law_1301 : decode cL_law 1301 = .ok (.pop, 1) := dz_b87 (by decide +kernel)
set_option maxRecDepth 100000 in
theorem dL_law_1302 : decode cL_law 1302 = .ok (.aload_n 2, 1) := dz_b44 (by decide +kernel)
set_option maxRecDepth 100000 in
theorem dL_law_1303 : decode cL_law 1303 = .ok (.aload_n 0, 1) := dz_b42 (by decide +kernel)
set_option maxRecDepth 100000 in
theorem dL_law_1304 : decode cL_law 1304 = .ok (.iload 4, 2) := dz_b21 (by decide +kernel)
set_option maxRecDepth 100000 in
theorem dL_law_1306 : decode cL_law 1306 = .ok (.iconst 1, 1) := dz_b4 (by decide +kernel)
set_option maxRecDepth 100000 in
theorem dL_law_1307 : decode cL_law 1307 = .ok (.iadd, 1) := dz_b96 (by decide +kernel)
set_option maxRecDepth 100000 in
theorem dL_law_1308 : decode cL_law 1308 = .ok (.iaload, 1) := dz_b46 (by decide +kernel)
set_option maxRecDepth 100000 in
theorem dL_law_1309 : decode cL_law 1309 = .ok (.aload_n 0, 1) := dz_b42 (by decide +kernel)
set_option maxRecDepth 100000 in
theorem dL_law_1310 : decode cL_law 1310 = .ok (.iload 4, 2) := dz_b21 (by decide +kernel)
set_option maxRecDepth 100000 in
theorem dL_law_1312 : decode cL_law 1312 = .ok (.iconst 2, 1) := dz_b5 (by decide +kernel)
set_option maxRecDepth 100000 in
theorem dL_law_1313 : decode cL_law 1313 = .ok (.iadd, 1) := dz_b96 (by decide +kernel)
set_option maxRecDepth 100000 in
theorem dL_law_1314 : decode cL_law 1314 = .ok (.iaload, 1) := dz_b46 (by decide +kernel)
set_option maxRecDepth 100000 in
theorem dL_law_1315 : decode cL_law 1315 = .ok (.invokevirtual 171, 3) := dz_b182 (by decide +kernel)
set_option maxRecDepth 100000 in
theorem dL_law_1318 : decode cL_law 1318 = .ok (.pop, 1) := dz_b87 (by decide +kernel)
set_option maxRecDepth 100000 in
theorem dL_law_1319 : decode cL_law 1319 = .ok (.goto 54, 3) := dz_b167 (by decide +kernel)
set_option maxRecDepth 100000 in
theorem dL_law_1322 : decode cL_law 1322 = .ok (.aload_n 1, 1) := dz_b43 (by decide +kernel)
set_option maxRecDepth 100000 in
theorem dL_law_1323 : decode cL_law 1323 = .ok (.invokevirtual 172, 3) := dz_b182 (by decide +kernel)
set_option maxRecDepth 100000 in
theorem dL_law_1326 : decode cL_law 1326 = .ok (.pop, 1) := dz_b87 (by decide +kernel)
set_option maxRecDepth 100000 in
theorem dL_law_1327 : decode cL_law 1327 = .ok (.aload_n 2, 1) := dz_b44 (by decide +kernel)
set_option maxRecDepth 100000 in
theorem dL_law_1328 : decode cL_law 1328 = .ok (.invokevirtual 175, 3) := dz_b182 (by decide +kernel)
set_option maxRecDepth 100000 in
theorem dL_law_1331 : decode cL_law 1331 = .ok (.pop, 1) := dz_b87 (by decide +kernel)
set_option maxRecDepth 100000 in
theorem dL_law_1332 : decode cL_law 1332 = .ok (.goto 41, 3) := dz_b167 (by decide +kernel)
set_option maxRecDepth 100000 in
theorem dL_law_1335 : decode cL_law 1335 = .ok (.aload_n 1, 1) := dz_b43 (by decide +kernel)
set_option maxRecDepth 100000 in
theorem dL_law_1336 : decode cL_law 1336 = .ok (.invokevirtual 176, 3) := dz_b182 (by decide +kernel)
set_option maxRecDepth 100000 in
theorem dL_law_1339 : decode cL_law 1339 = .ok (.pop, 1) := dz_b87 (by decide +kernel)
set_option maxRecDepth 100000 in
theorem dL_law_1340 : decode cL_law 1340 = .ok (.aload_n 2, 1) := dz_b44 (by decide +kernel)
set_option maxRecDepth 100000 in
theorem dL_law_1341 : decode cL_law 1341 = .ok (.invokevirtual 179, 3) := dz_b182 (by decide +kernel)
set_option maxRecDepth 100000 in
theorem dL_law_1344 : decode cL_law 1344 = .ok (.pop, 1) := dz_b87 (by decide +kernel)
set_option maxRecDepth 100000 in
theorem dL_law_1345 : decode cL_law 1345 = .ok (.goto 28, 3) := dz_b167 (by decide +kernel)
set_option maxRecDepth 100000 in
theorem dL_law_1348 : decode cL_law 1348 = .ok (.aload_n 1, 1) := dz_b43 (by decide +kernel)
set_option maxRecDepth 100000 in
theorem dL_law_1349 : decode cL_law 1349 = .ok (.aload_n 0, 1) := dz_b42 (by decide +kernel)
set_option maxRecDepth 100000 in
theorem dL_law_1350 : decode cL_law 1350 = .ok (.iload 4, 2) := dz_b21 (by decide +kernel)
set_option maxRecDepth 100000 in
theorem dL_law_1352 : decode cL_law 1352 = .ok (.iconst 1, 1) := dz_b4 (by decide +kernel)
set_option maxRecDepth 100000 in
theorem dL_law_1353 : decode cL_law 1353 = .ok (.iadd, 1) := dz_b96 (by decide +kernel)
set_option maxRecDepth 100000 in
theorem dL_law_1354 : decode cL_law 1354 = .ok (.iaload, 1) := dz_b46 (by decide +kernel)
set_option maxRecDepth 100000 in
theorem dL_law_1355 : decode cL_law 1355 = .ok (.invokevirtual 180, 3) := dz_b182 (by decide +kernel)
set_option maxRecDepth 100000 in
theorem dL_law_1358 : decode cL_law 1358 = .ok (.pop, 1) := dz_b87 (by decide +kernel)
set_option maxRecDepth 100000 in
theorem dL_law_1359 : decode cL_law 1359 = .ok (.aload_n 2, 1) := dz_b44 (by decide +kernel)
set_option maxRecDepth 100000 in
theorem dL_law_1360 : decode cL_law 1360 = .ok (.aload_n 0, 1) := dz_b42 (by decide +kernel)
set_option maxRecDepth 100000 in
theorem dL_law_1361 : decode cL_law 1361 = .ok (.iload 4, 2) := dz_b21 (by decide +kernel)
set_option maxRecDepth 100000 in
theorem dL_law_1363 : decode cL_law 1363 = .ok (.iconst 1, 1) := dz_b4 (by decide +kernel)
set_option maxRecDepth 100000 in
theorem dL_law_1364 : decode cL_law 1364 = .ok (.iadd, 1) := dz_b96 (by decide +kernel)
set_option maxRecDepth 100000 in
theorem dL_law_1365 : decode cL_law 1365 = .ok (.iaload, 1) := dz_b46 (by decide +kernel)
set_option maxRecDepth 100000 in
theorem dL_law_1366 : decode cL_law 1366 = .ok (.invokevirtual 183, 3) := dz_b182 (by decide +kernel)
set_option maxRecDepth 100000 in
theorem dL_law_1369 : decode cL_law 1369 = .ok (.pop, 1) := dz_b87 (by decide +kernel)
set_option maxRecDepth 100000 in
theorem dL_law_1370 : decode cL_law 1370 = .ok (.goto 3, 3) := dz_b167 (by decide +kernel)
theorem dL_law_1373 : decode cL_law 1373 = .ok (.iinc 4 6, 3) := by decide +kernel
set_option maxRecDepth 100000 in
theorem dL_law_1376 : decode cL_law 1376 = .ok (.goto (-1353), 3) := dz_b167 (by decide +kernel)
set_option maxRecDepth 100000 in
theorem dL_law_1379 : decode cL_law 1379 = .ok (.iconst 1, 1) := dz_b4 (by decide +kernel)
set_option maxRecDepth 100000 in
theorem dL_law_1380 : decode cL_law 1380 = .ok (.ireturn, 1) := dz_b172 (by decide +kernel)
