set_option maxRecDepth 100000 in
theorem dLg_1_0 : decAll cL_law [(737, .iconst 4, 1), (738, .iadd, 1), (739, .iaload, 1), (740, .aload_n 0, 1), (741, .iload 4, 2), (743, .iconst 5, 1), (744, .iadd, 1), (745, .iaload, 1), (746, .invokevirtual 70, 3), (749, .aload_n 2, 1), (750, .aload_n 0, 1), (751, .iload 4, 2), (753, .iconst 1, 1), (754, .iadd, 1), (755, .iaload, 1), (756, .aload_n 0, 1), (757, .iload 4, 2), (759, .iconst 2, 1), (760, .iadd, 1), (761, .iaload, 1), (762, .aload_n 0, 1), (763, .iload 4, 2), (765, .iconst 3, 1), (766, .iadd, 1), (767, .iaload, 1), (768, .aload_n 0, 1), (769, .iload 4, 2), (771, .iconst 4, 1), (772, .iadd, 1), (773, .iaload, 1), (774, .aload_n 0, 1), (775, .iload 4, 2), (777, .iconst 5, 1), (778, .iadd, 1), (779, .iaload, 1), (780, .invokevirtual 73, 3), (783, .if_icmp .eq 1547, 3), (786, .iconst 0, 1), (787, .ireturn, 1), (788, .aload_n 1, 1), (789, .aload_n 0, 1), (790, .iload 4, 2), (792, .iconst 1, 1), (793, .iadd, 1), (794, .iaload, 1), (795, .aload_n 0, 1), (796, .iload 4, 2), (798, .iconst 2, 1), (799, .iadd, 1), (800, .iaload, 1)] = true := by decide +kernel
theorem dL_law_737 : decode cL_law 737 = .ok (.iconst 4, 1) := decAll_at dLg_1_0 0 rfl
theorem dL_law_738 : decode cL_law 738 = .ok (.iadd, 1) := decAll_at dLg_1_0 1 rfl
theorem dL_law_739 : decode cL_law 739 = .ok (.iaload, 1) := decAll_at dLg_1_0 2 rfl
theorem dL_law_740 : decode cL_law 740 = .ok (.aload_n 0, 1) := decAll_at dLg_1_0 3 rfl
theorem dL_law_741 : decode cL_law 741 = .ok (.iload 4, 2) := decAll_at dLg_1_0 4 rfl
theorem dL_law_743 : decode cL_law 743 = .ok (.iconst 5, 1) := decAll_at dLg_1_0 5 rfl
theorem dL_law_744 : decode cL_law 744 = .ok (.iadd, 1) := decAll_at dLg_1_0 6 rfl
theorem dL_law_745 : decode cL_law 745 = .ok (.iaload, 1) := decAll_at dLg_1_0 7 rfl
theorem dL_law_746 : decode cL_law 746 = .ok (.invokevirtual 70, 3) := decAll_at dLg_1_0 8 rfl
theorem dL_law_749 : decode cL_law 749 = .ok (.aload_n 2, 1) := decAll_at dLg_1_0 9 rfl
theorem dL_law_750 : decode cL_law 750 = .ok (.aload_n 0, 1) := decAll_at dLg_1_0 10 rfl
theorem dL_law_751 : decode cL_law 751 = .ok (.iload 4, 2) := decAll_at dLg_1_0 11 rfl
theorem dL_law_753 : decode cL_law 753 = .ok (.iconst 1, 1) := decAll_at dLg_1_0 12 rfl
theorem dL_law_754 : decode cL_law 754 = .ok (.iadd, 1) := decAll_at dLg_1_0 13 rfl
theorem dL_law_755 : decode cL_law 755 = .ok (.iaload, 1) := decAll_at dLg_1_0 14 rfl
theorem dL_law_756 : decode cL_law 756 = .ok (.aload_n 0, 1) := decAll_at dLg_1_0 15 rfl
theorem dL_law_757 : decode cL_law 757 = .ok (.iload 4, 2) := decAll_at dLg_1_0 16 rfl
theorem dL_law_759 : decode cL_law 759 = .ok (.iconst 2, 1) := decAll_at dLg_1_0 17 rfl
theorem dL_law_760 : decode cL_law 760 = .ok (.iadd, 1) := decAll_at dLg_1_0 18 rfl
theorem dL_law_761 : decode cL_law 761 = .ok (.iaload, 1) := decAll_at dLg_1_0 19 rfl
theorem dL_law_762 : decode cL_law 762 = .ok (.aload_n 0, 1) := decAll_at dLg_1_0 20 rfl
theorem dL_law_763 : decode cL_law 763 = .ok (.iload 4, 2) := decAll_at dLg_1_0 21 rfl
theorem dL_law_765 : decode cL_law 765 = .ok (.iconst 3, 1) := decAll_at dLg_1_0 22 rfl
theorem dL_law_766 : decode cL_law 766 = .ok (.iadd, 1) := decAll_at dLg_1_0 23 rfl
theorem dL_law_767 : decode cL_law 767 = .ok (.iaload, 1) := decAll_at dLg_1_0 24 rfl
theorem dL_law_768 : decode cL_law 768 = .ok (.aload_n 0, 1) := decAll_at dLg_1_0 25 rfl
theorem dL_law_769 : decode cL_law 769 = .ok (.iload 4, 2) := decAll_at dLg_1_0 26 rfl
theorem dL_law_771 : decode cL_law 771 = .ok (.iconst 4, 1) := decAll_at dLg_1_0 27 rfl
theorem dL_law_772 : decode cL_law 772 = .ok (.iadd, 1) := decAll_at dLg_1_0 28 rfl
theorem dL_law_773 : decode cL_law 773 = .ok (.iaload, 1) := decAll_at dLg_1_0 29 rfl
theorem dL_law_774 : decode cL_law 774 = .ok (.aload_n 0, 1) := decAll_at dLg_1_0 30 rfl
theorem dL_law_775 : decode cL_law 775 = .ok (.iload 4, 2) := decAll_at dLg_1_0 31 rfl
theorem dL_law_777 : decode cL_law 777 = .ok (.iconst 5, 1) := decAll_at dLg_1_0 32 rfl
theorem dL_law_778 : decode cL_law 778 = .ok (.iadd, 1) := decAll_at dLg_1_0 33 rfl
theorem dL_law_779 : decode cL_law 779 = .ok (.iaload, 1) := decAll_at dLg_1_0 34 rfl
theorem dL_law_780 : decode cL_law 780 = .ok (.invokevirtual 73, 3) := decAll_at dLg_1_0 35 rfl
theorem dL_law_783 : decode cL_law 783 = .ok (.if_icmp .eq 1547, 3) := decAll_at dLg_1_0 36 rfl
theorem dL_law_786 : decode cL_law 786 = .ok (.iconst 0, 1) := decAll_at dLg_1_0 37 rfl
theorem dL_law_787 : decode cL_law 787 = .ok (.ireturn, 1) := decAll_at dLg_1_0 38 rfl
theorem dL_law_788 : decode cL_law 788 = .ok (.aload_n 1, 1) := decAll_at dLg_1_0 39 rfl
theorem dL_law_789 : decode cL_law 789 = .ok (.aload_n 0, 1) := decAll_at dLg_1_0 40 rfl
theorem dL_law_790 : decode cL_law 790 = .ok (.iload 4, 2) := decAll_at dLg_1_0 41 rfl
theorem dL_law_792 : decode cL_law 792 = .ok (.iconst 1, 1) := decAll_at dLg_1_0 42 rfl
theorem dL_law_793 : decode cL_law 793 = .ok (.iadd, 1) := decAll_at dLg_1_0 43 rfl
theorem dL_law_794 : decode cL_law 794 = .ok (.iaload, 1) := decAll_at dLg_1_0 44 rfl
theorem dL_law_795 : decode cL_law 795 = .ok (.aload_n 0, 1) := decAll_at dLg_1_0 45 rfl
theorem dL_law_796 : decode cL_law 796 = .ok (.iload 4, 2) := decAll_at dLg_1_0 46 rfl
theorem dL_law_798 : decode cL_law 798 = .ok (.iconst 2, 1) := decAll_at dLg_1_0 47 rfl
theorem dL_law_799 : decode cL_law 799 = .ok (.iadd, 1) := decAll_at dLg_1_0 48 rfl
theorem dL_law_800 : decode cL_law 800 = .ok (.iaload, 1) := decAll_at dLg_1_0 49 rfl
set_option maxRecDepth 100000 in
theorem dLg_1_1 : decAll cL_law [(801, .aload_n 0, 1), (802, .iload 4, 2), (804, .iconst 3, 1), (805, .iadd, 1), (806, .iaload, 1), (807, .aload_n 0, 1), (808, .iload 4, 2), (810, .iconst 4, 1), (811, .iadd, 1), (812, .iaload, 1), (813, .invokevirtual 74, 3), (816, .aload_n 2, 1), (817, .aload_n 0, 1), (818, .iload 4, 2), (820, .iconst 1, 1), (821, .iadd, 1), (822, .iaload, 1), (823, .aload_n 0, 1), (824, .iload 4, 2), (826, .iconst 2, 1), (827, .iadd, 1), (828, .iaload, 1), (829, .aload_n 0, 1), (830, .iload 4, 2), (832, .iconst 3, 1), (833, .iadd, 1), (834, .iaload, 1), (835, .aload_n 0, 1), (836, .iload 4, 2), (838, .iconst 4, 1), (839, .iadd, 1), (840, .iaload, 1), (841, .invokevirtual 77, 3), (844, .if_icmp .eq 1486, 3), (847, .iconst 0, 1), (848, .ireturn, 1), (849, .aload_n 1, 1), (850, .invokevirtual 78, 3), (853, .aload_n 2, 1), (854, .invokevirtual 82, 3), (857, .if_icmp .eq 1473, 3), (860, .iconst 0, 1), (861, .ireturn, 1), (862, .aload_n 1, 1), (863, .aload_n 0, 1), (864, .iload 4, 2), (866, .iconst 1, 1), (867, .iadd, 1), (868, .iaload, 1), (869, .aload_n 0, 1)] = true := by decide +kernel
theorem dL_law_801 : decode cL_law 801 = .ok (.aload_n 0, 1) := decAll_at dLg_1_1 0 rfl
theorem dL_law_802 : decode cL_law 802 = .ok (.iload 4, 2) := decAll_at dLg_1_1 1 rfl
theorem dL_law_804 : decode cL_law 804 = .ok (.iconst 3, 1) := decAll_at dLg_1_1 2 rfl
theorem dL_law_805 : decode cL_law 805 = .ok (.iadd, 1) := decAll_at dLg_1_1 3 rfl
theorem dL_law_806 : decode cL_law 806 = .ok (.iaload, 1) := decAll_at dLg_1_1 4 rfl
theorem dL_law_807 : decode cL_law 807 = .ok (.aload_n 0, 1) := decAll_at dLg_1_1 5 rfl
theorem dL_law_808 : decode cL_law 808 = .ok (.iload 4, 2) := decAll_at dLg_1_1 6 rfl
theorem dL_law_810 : decode cL_law 810 = .ok (.iconst 4, 1) := decAll_at dLg_1_1 7 rfl
theorem dL_law_811 : decode cL_law 811 = .ok (.iadd, 1) := decAll_at dLg_1_1 8 rfl
theorem dL_law_812 : decode cL_law 812 = .ok (.iaload, 1) := decAll_at dLg_1_1 9 rfl
theorem dL_law_813 : decode cL_law 813 = .ok (.invokevirtual 74, 3) := decAll_at dLg_1_1 10 rfl
theorem dL_law_816 : decode cL_law 816 = .ok (.aload_n 2, 1) := decAll_at dLg_1_1 11 rfl
theorem dL_law_817 : decode cL_law 817 = .ok (.aload_n 0, 1) := decAll_at dLg_1_1 12 rfl
theorem dL_law_818 : decode cL_law 818 = .ok (.iload 4, 2) := decAll_at dLg_1_1 13 rfl
theorem dL_law_820 : decode cL_law 820 = .ok (.iconst 1, 1) := decAll_at dLg_1_1 14 rfl
theorem dL_law_821 : decode cL_law 821 = .ok (.iadd, 1) := decAll_at dLg_1_1 15 rfl
theorem dL_law_822 : decode cL_law 822 = .ok (.iaload, 1) := decAll_at dLg_1_1 16 rfl
theorem dL_law_823 : decode cL_law 823 = .ok (.aload_n 0, 1) := decAll_at dLg_1_1 17 rfl
theorem dL_law_824 : decode cL_law 824 = .ok (.iload 4, 2) := decAll_at dLg_1_1 18 rfl
theorem dL_law_826 : decode cL_law 826 = .ok (.iconst 2, 1) := decAll_at dLg_1_1 19 rfl
theorem dL_law_827 : decode cL_law 827 = .ok (.iadd, 1) := decAll_at dLg_1_1 20 rfl
theorem dL_law_828 : decode cL_law 828 = .ok (.iaload, 1) := decAll_at dLg_1_1 21 rfl
theorem dL_law_829 : decode cL_law 829 = .ok (.aload_n 0, 1) := decAll_at dLg_1_1 22 rfl
theorem dL_law_830 : decode cL_law 830 = .ok (.iload 4, 2) := decAll_at dLg_1_1 23 rfl
theorem dL_law_832 : decode cL_law 832 = .ok (.iconst 3, 1) := decAll_at dLg_1_1 24 rfl
theorem dL_law_833 : decode cL_law 833 = .ok (.iadd, 1) := decAll_at dLg_1_1 25 rfl
theorem dL_law_834 : decode cL_law 834 = .ok (.iaload, 1) := decAll_at dLg_1_1 26 rfl
theorem dL_law_835 : decode cL_law 835 = .ok (.aload_n 0, 1) := decAll_at dLg_1_1 27 rfl
theorem dL_law_836 : decode cL_law 836 = .ok (.iload 4, 2) := decAll_at dLg_1_1 28 rfl
theorem dL_law_838 : decode cL_law 838 = .ok (.iconst 4, 1) := decAll_at dLg_1_1 29 rfl
theorem dL_law_839 : decode cL_law 839 = .ok (.iadd, 1) := decAll_at dLg_1_1 30 rfl
theorem dL_law_840 : decode cL_law 840 = .ok (.iaload, 1) := decAll_at dLg_1_1 31 rfl
theorem dL_law_841 : decode cL_law 841 = .ok (.invokevirtual 77, 3) := decAll_at dLg_1_1 32 rfl
theorem dL_law_844 : decode cL_law 844 = .ok (.if_icmp .eq 1486, 3) := decAll_at dLg_1_1 33 rfl
theorem dL_law_847 : decode cL_law 847 = .ok (.iconst 0, 1) := decAll_at dLg_1_1 34 rfl
theorem dL_law_848 : decode cL_law 848 = .ok (.ireturn, 1) := decAll_at dLg_1_1 35 rfl
theorem dL_law_849 : decode cL_law 849 = .ok (.aload_n 1, 1) := decAll_at dLg_1_1 36 rfl
theorem dL_law_850 : decode cL_law 850 = .ok (.invokevirtual 78, 3) := decAll_at dLg_1_1 37 rfl
theorem dL_law_853 : decode cL_law 853 = .ok (.aload_n 2, 1) := decAll_at dLg_1_1 38 rfl
theorem dL_law_854 : decode cL_law 854 = .ok (.invokevirtual 82, 3) := decAll_at dLg_1_1 39 rfl
theorem dL_law_857 : decode cL_law 857 = .ok (.if_icmp .eq 1473, 3) := decAll_at dLg_1_1 40 rfl
theorem dL_law_860 : decode cL_law 860 = .ok (.iconst 0, 1) := decAll_at dLg_1_1 41 rfl
theorem dL_law_861 : decode cL_law 861 = .ok (.ireturn, 1) := decAll_at dLg_1_1 42 rfl
theorem dL_law_862 : decode cL_law 862 = .ok (.aload_n 1, 1) := decAll_at dLg_1_1 43 rfl
theorem dL_law_863 : decode cL_law 863 = .ok (.aload_n 0, 1) := decAll_at dLg_1_1 44 rfl
theorem dL_law_864 : decode cL_law 864 = .ok (.iload 4, 2) := decAll_at dLg_1_1 45 rfl
theorem dL_law_866 : decode cL_law 866 = .ok (.iconst 1, 1) := decAll_at dLg_1_1 46 rfl
theorem dL_law_867 : decode cL_law 867 = .ok (.iadd, 1) := decAll_at dLg_1_1 47 rfl
theorem dL_law_868 : decode cL_law 868 = .ok (.iaload, 1) := decAll_at dLg_1_1 48 rfl
theorem dL_law_869 : decode cL_law 869 = .ok (.aload_n 0, 1) := decAll_at dLg_1_1 49 rfl
set_option maxRecDepth 100000 in
theorem dLg_1_2 : decAll cL_law [(870, .iload 4, 2), (872, .iconst 2, 1), (873, .iadd, 1), (874, .iaload, 1), (875, .invokevirtual 83, 3), (878, .aload_n 2, 1), (879, .aload_n 0, 1), (880, .iload 4, 2), (882, .iconst 1, 1), (883, .iadd, 1), (884, .iaload, 1), (885, .aload_n 0, 1), (886, .iload 4, 2), (888, .iconst 2, 1), (889, .iadd, 1), (890, .iaload, 1), (891, .invokevirtual 86, 3), (894, .if_icmp .eq 1436, 3), (897, .iconst 0, 1), (898, .ireturn, 1), (899, .aload_n 1, 1), (900, .aload_n 0, 1), (901, .iload 4, 2), (903, .iconst 1, 1), (904, .iadd, 1), (905, .iaload, 1), (906, .aload_n 0, 1), (907, .iload 4, 2), (909, .iconst 2, 1), (910, .iadd, 1), (911, .iaload, 1), (912, .aload_n 0, 1), (913, .iload 4, 2), (915, .iconst 3, 1), (916, .iadd, 1), (917, .iaload, 1), (918, .aload_n 0, 1), (919, .iload 4, 2), (921, .iconst 4, 1), (922, .iadd, 1), (923, .iaload, 1), (924, .aload_n 0, 1), (925, .iload 4, 2), (927, .iconst 5, 1), (928, .iadd, 1), (929, .iaload, 1), (930, .invokevirtual 87, 3), (933, .aload_n 2, 1), (934, .aload_n 0, 1), (935, .iload 4, 2)] = true := by decide +kernel
theorem dL_law_870 : decode cL_law 870 = .ok (.iload 4, 2) := decAll_at dLg_1_2 0 rfl
theorem dL_law_872 : decode cL_law 872 = .ok (.iconst 2, 1) := decAll_at dLg_1_2 1 rfl
theorem dL_law_873 : decode cL_law 873 = .ok (.iadd, 1) := decAll_at dLg_1_2 2 rfl
theorem dL_law_874 : decode cL_law 874 = .ok (.iaload, 1) := decAll_at dLg_1_2 3 rfl
theorem dL_law_875 : decode cL_law 875 = .ok (.invokevirtual 83, 3) := decAll_at dLg_1_2 4 rfl
theorem dL_law_878 : decode cL_law 878 = .ok (.aload_n 2, 1) := decAll_at dLg_1_2 5 rfl
theorem dL_law_879 : decode cL_law 879 = .ok (.aload_n 0, 1) := decAll_at dLg_1_2 6 rfl
theorem dL_law_880 : decode cL_law 880 = .ok (.iload 4, 2) := decAll_at dLg_1_2 7 rfl
theorem dL_law_882 : decode cL_law 882 = .ok (.iconst 1, 1) := decAll_at dLg_1_2 8 rfl
theorem dL_law_883 : decode cL_law 883 = .ok (.iadd, 1) := decAll_at dLg_1_2 9 rfl
theorem dL_law_884 : decode cL_law 884 = .ok (.iaload, 1) := decAll_at dLg_1_2 10 rfl
theorem dL_law_885 : decode cL_law 885 = .ok (.aload_n 0, 1) := decAll_at dLg_1_2 11 rfl
theorem dL_law_886 : decode cL_law 886 = .ok (.iload 4, 2) := decAll_at dLg_1_2 12 rfl
theorem dL_law_888 : decode cL_law 888 = .ok (.iconst 2, 1) := decAll_at dLg_1_2 13 rfl
theorem dL_law_889 : decode cL_law 889 = .ok (.iadd, 1) := decAll_at dLg_1_2 14 rfl
theorem dL_law_890 : decode cL_law 890 = .ok (.iaload, 1) := decAll_at dLg_1_2 15 rfl
theorem dL_law_891 : decode cL_law 891 = .ok (.invokevirtual 86, 3) := decAll_at dLg_1_2 16 rfl
theorem dL_law_894 : decode cL_law 894 = .ok (.if_icmp .eq 1436, 3) := decAll_at dLg_1_2 17 rfl
theorem dL_law_897 : decode cL_law 897 = .ok (.iconst 0, 1) := decAll_at dLg_1_2 18 rfl
theorem dL_law_898 : decode cL_law 898 = .ok (.ireturn, 1) := decAll_at dLg_1_2 19 rfl
theorem dL_law_899 : decode cL_law 899 = .ok (.aload_n 1, 1) := decAll_at dLg_1_2 20 rfl
theorem dL_law_900 : decode cL_law 900 = .ok (.aload_n 0, 1) := decAll_at dLg_1_2 21 rfl
theorem dL_law_901 : decode cL_law 901 = .ok (.iload 4, 2) := decAll_at dLg_1_2 22 rfl
theorem dL_law_903 : decode cL_law 903 = .ok (.iconst 1, 1) := decAll_at dLg_1_2 23 rfl
theorem dL_law_904 : decode cL_law 904 = .ok (.iadd, 1) := decAll_at dLg_1_2 24 rfl
theorem dL_law_905 : decode cL_law 905 = .ok (.iaload, 1) := decAll_at dLg_1_2 25 rfl
theorem dL_law_906 : decode cL_law 906 = .ok (.aload_n 0, 1) := decAll_at dLg_1_2 26 rfl
theorem dL_law_907 : decode cL_law 907 = .ok (.iload 4, 2) := decAll_at dLg_1_2 27 rfl
theorem dL_law_909 : decode cL_law 909 = .ok (.iconst 2, 1) := decAll_at dLg_1_2 28 rfl
theorem dL_law_910 : decode cL_law 910 = .ok (.iadd, 1) := decAll_at dLg_1_2 29 rfl
theorem dL_law_911 : decode cL_law 911 = .ok (.iaload, 1) := decAll_at dLg_1_2 30 rfl
theorem dL_law_912 : decode cL_law 912 = .ok (.aload_n 0, 1) := decAll_at dLg_1_2 31 rfl
theorem dL_law_913 : decode cL_law 913 = .ok (.iload 4, 2) := decAll_at dLg_1_2 32 rfl
theorem dL_law_915 : decode cL_law 915 = .ok (.iconst 3, 1) := decAll_at dLg_1_2 33 rfl
theorem dL_law_916 : decode cL_law 916 = .ok (.iadd, 1) := decAll_at dLg_1_2 34 rfl
theorem dL_law_917 : decode cL_law 917 = .ok (.iaload, 1) := decAll_at dLg_1_2 35 rfl
theorem dL_law_918 : decode cL_law 918 = .ok (.aload_n 0, 1) := decAll_at dLg_1_2 36 rfl
theorem dL_law_919 : decode cL_law 919 = .ok (.iload 4, 2) := decAll_at dLg_1_2 37 rfl
theorem dL_law_921 : decode cL_law 921 = .ok (.iconst 4, 1) := decAll_at dLg_1_2 38 rfl
theorem dL_law_922 : decode cL_law 922 = .ok (.iadd, 1) := decAll_at dLg_1_2 39 rfl
theorem dL_law_923 : decode cL_law 923 = .ok (.iaload, 1) := decAll_at dLg_1_2 40 rfl
theorem dL_law_924 : decode cL_law 924 = .ok (.aload_n 0, 1) := decAll_at dLg_1_2 41 rfl
theorem dL_law_925 : decode cL_law 925 = .ok (.iload 4, 2) := decAll_at dLg_1_2 42 rfl
theorem dL_law_927 : decode cL_law 927 = .ok (.iconst 5, 1) := decAll_at dLg_1_2 43 rfl
theorem dL_law_928 : decode cL_law 928 = .ok (.iadd, 1) := decAll_at dLg_1_2 44 rfl
theorem dL_law_929 : decode cL_law 929 = .ok (.iaload, 1) := decAll_at dLg_1_2 45 rfl
theorem dL_law_930 : decode cL_law 930 = .ok (.invokevirtual 87, 3) := decAll_at dLg_1_2 46 rfl
theorem dL_law_933 : decode cL_law 933 = .ok (.aload_n 2, 1) := decAll_at dLg_1_2 47 rfl
theorem dL_law_934 : decode cL_law 934 = .ok (.aload_n 0, 1) := decAll_at dLg_1_2 48 rfl
theorem dL_law_935 : decode cL_law 935 = .ok (.iload 4, 2) := decAll_at dLg_1_2 49 rfl
set_option maxRecDepth 100000 in
theorem dLg_1_3 : decAll cL_law [(937, .iconst 1, 1), (938, .iadd, 1), (939, .iaload, 1), (940, .aload_n 0, 1), (941, .iload 4, 2), (943, .iconst 2, 1), (944, .iadd, 1), (945, .iaload, 1), (946, .aload_n 0, 1), (947, .iload 4, 2), (949, .iconst 3, 1), (950, .iadd, 1), (951, .iaload, 1), (952, .aload_n 0, 1), (953, .iload 4, 2), (955, .iconst 4, 1), (956, .iadd, 1), (957, .iaload, 1), (958, .aload_n 0, 1), (959, .iload 4, 2), (961, .iconst 5, 1), (962, .iadd, 1), (963, .iaload, 1), (964, .invokevirtual 90, 3), (967, .if_icmp .eq 1363, 3), (970, .iconst 0, 1), (971, .ireturn, 1), (972, .aload_n 1, 1), (973, .aload_n 0, 1), (974, .iload 4, 2), (976, .iconst 1, 1), (977, .iadd, 1), (978, .iaload, 1), (979, .aload_n 0, 1), (980, .iload 4, 2), (982, .iconst 2, 1), (983, .iadd, 1), (984, .iaload, 1), (985, .aload_n 0, 1), (986, .iload 4, 2), (988, .iconst 3, 1), (989, .iadd, 1), (990, .iaload, 1), (991, .aload_n 0, 1), (992, .iload 4, 2), (994, .iconst 4, 1), (995, .iadd, 1), (996, .iaload, 1), (997, .aload_n 0, 1), (998, .iload 4, 2)] = true := by decide +kernel
theorem dL_law_937 : decode cL_law 937 = .ok (.iconst 1, 1) := decAll_at dLg_1_3 0 rfl
theorem dL_law_938 : decode cL_law 938 = .ok (.iadd, 1) := decAll_at dLg_1_3 1 rfl
theorem dL_law_939 : decode cL_law 939 = .ok (.iaload, 1) := decAll_at dLg_1_3 2 rfl
theorem dL_law_940 : decode cL_law 940 = .ok (.aload_n 0, 1) := decAll_at dLg_1_3 3 rfl
theorem dL_law_941 : decode cL_law 941 = .ok (.iload 4, 2) := decAll_at dLg_1_3 4 rfl
theorem dL_law_943 : decode cL_law 943 = .ok (.iconst 2, 1) := decAll_at dLg_1_3 5 rfl
theorem dL_law_944 : decode cL_law 944 = .ok (.iadd, 1) := decAll_at dLg_1_3 6 rfl
theorem dL_law_945 : decode cL_law 945 = .ok (.iaload, 1) := decAll_at dLg_1_3 7 rfl
theorem dL_law_946 : decode cL_law 946 = .ok (.aload_n 0, 1) := decAll_at dLg_1_3 8 rfl
theorem dL_law_947 : decode cL_law 947 = .ok (.iload 4, 2) := decAll_at dLg_1_3 9 rfl
theorem dL_law_949 : decode cL_law 949 = .ok (.iconst 3, 1) := decAll_at dLg_1_3 10 rfl
theorem dL_law_950 : decode cL_law 950 = .ok (.iadd, 1) := decAll_at dLg_1_3 11 rfl
theorem dL_law_951 : decode cL_law 951 = .ok (.iaload, 1) := decAll_at dLg_1_3 12 rfl
theorem dL_law_952 : decode cL_law 952 = .ok (.aload_n 0, 1) := decAll_at dLg_1_3 13 rfl
theorem dL_law_953 : decode cL_law 953 = .ok (.iload 4, 2) := decAll_at dLg_1_3 14 rfl
theorem dL_law_955 : decode cL_law 955 = .ok (.iconst 4, 1) := decAll_at dLg_1_3 15 rfl
theorem dL_law_956 : decode cL_law 956 = .ok (.iadd, 1) := decAll_at dLg_1_3 16 rfl
theorem dL_law_957 : decode cL_law 957 = .ok (.iaload, 1) := decAll_at dLg_1_3 17 rfl
theorem dL_law_958 : decode cL_law 958 = .ok (.aload_n 0, 1) := decAll_at dLg_1_3 18 rfl
theorem dL_law_959 : decode cL_law 959 = .ok (.iload 4, 2) := decAll_at dLg_1_3 19 rfl
theorem dL_law_961 : decode cL_law 961 = .ok (.iconst 5, 1) := decAll_at dLg_1_3 20 rfl
theorem dL_law_962 : decode cL_law 962 = .ok (.iadd, 1) := decAll_at dLg_1_3 21 rfl
theorem dL_law_963 : decode cL_law 963 = .ok (.iaload, 1) := decAll_at dLg_1_3 22 rfl
theorem dL_law_964 : decode cL_law 964 = .ok (.invokevirtual 90, 3) := decAll_at dLg_1_3 23 rfl
theorem dL_law_967 : decode cL_law 967 = .ok (.if_icmp .eq 1363, 3) := decAll_at dLg_1_3 24 rfl
theorem dL_law_970 : decode cL_law 970 = .ok (.iconst 0, 1) := decAll_at dLg_1_3 25 rfl
theorem dL_law_971 : decode cL_law 971 = .ok (.ireturn, 1) := decAll_at dLg_1_3 26 rfl
theorem dL_law_972 : decode cL_law 972 = .ok (.aload_n 1, 1) := decAll_at dLg_1_3 27 rfl
theorem dL_law_973 : decode cL_law 973 = .ok (.aload_n 0, 1) := decAll_at dLg_1_3 28 rfl
theorem dL_law_974 : decode cL_law 974 = .ok (.iload 4, 2) := decAll_at dLg_1_3 29 rfl
theorem dL_law_976 : decode cL_law 976 = .ok (.iconst 1, 1) := decAll_at dLg_1_3 30 rfl
theorem dL_law_977 : decode cL_law 977 = .ok (.iadd, 1) := decAll_at dLg_1_3 31 rfl
theorem dL_law_978 : decode cL_law 978 = .ok (.iaload, 1) := decAll_at dLg_1_3 32 rfl
theorem dL_law_979 : decode cL_law 979 = .ok (.aload_n 0, 1) := decAll_at dLg_1_3 33 rfl
theorem dL_law_980 : decode cL_law 980 = .ok (.iload 4, 2) := decAll_at dLg_1_3 34 rfl
theorem dL_law_982 : decode cL_law 982 = .ok (.iconst 2, 1) := decAll_at dLg_1_3 35 rfl
theorem dL_law_983 : decode cL_law 983 = .ok (.iadd, 1) := decAll_at dLg_1_3 36 rfl
theorem dL_law_984 : decode cL_law 984 = .ok (.iaload, 1) := decAll_at dLg_1_3 37 rfl
theorem dL_law_985 : decode cL_law 985 = .ok (.aload_n 0, 1) := decAll_at dLg_1_3 38 rfl
theorem dL_law_986 : decode cL_law 986 = .ok (.iload 4, 2) := decAll_at dLg_1_3 39 rfl
theorem dL_law_988 : decode cL_law 988 = .ok (.iconst 3, 1) := decAll_at dLg_1_3 40 rfl
theorem dL_law_989 : decode cL_law 989 = .ok (.iadd, 1) := decAll_at dLg_1_3 41 rfl
theorem dL_law_990 : decode cL_law 990 = .ok (.iaload, 1) := decAll_at dLg_1_3 42 rfl
theorem dL_law_991 : decode cL_law 991 = .ok (.aload_n 0, 1) := decAll_at dLg_1_3 43 rfl
theorem dL_law_992 : decode cL_law 992 = .ok (.iload 4, 2) := decAll_at dLg_1_3 44 rfl
theorem dL_law_994 : decode cL_law 994 = .ok (.iconst 4, 1) := decAll_at dLg_1_3 45 rfl
theorem dL_law_995 : decode cL_law 995 = .ok (.iadd, 1) := decAll_at dLg_1_3 46 rfl
theorem dL_law_996 : decode cL_law 996 = .ok (.iaload, 1) := decAll_at dLg_1_3 47 rfl
theorem dL_law_997 : decode cL_law 997 = .ok (.aload_n 0, 1) := decAll_at dLg_1_3 48 rfl
theorem dL_law_998 : decode cL_law 998 = .ok (.iload 4, 2) := decAll_at dLg_1_3 49 rfl
set_option maxRecDepth 100000 in
theorem dLg_1_4 : decAll cL_law [(1000, .iconst 5, 1), (1001, .iadd, 1), (1002, .iaload, 1), (1003, .invokevirtual 91, 3), (1006, .aload_n 2, 1), (1007, .aload_n 0, 1), (1008, .iload 4, 2), (1010, .iconst 1, 1), (1011, .iadd, 1), (1012, .iaload, 1), (1013, .aload_n 0, 1), (1014, .iload 4, 2), (1016, .iconst 2, 1), (1017, .iadd, 1), (1018, .iaload, 1), (1019, .aload_n 0, 1), (1020, .iload 4, 2), (1022, .iconst 3, 1), (1023, .iadd, 1), (1024, .iaload, 1), (1025, .aload_n 0, 1), (1026, .iload 4, 2), (1028, .iconst 4, 1), (1029, .iadd, 1), (1030, .iaload, 1), (1031, .aload_n 0, 1), (1032, .iload 4, 2), (1034, .iconst 5, 1), (1035, .iadd, 1), (1036, .iaload, 1), (1037, .invokevirtual 94, 3), (1040, .if_icmp .eq 1290, 3), (1043, .iconst 0, 1), (1044, .ireturn, 1), (1045, .aload_n 1, 1), (1046, .aload_n 0, 1), (1047, .iload 4, 2), (1049, .iconst 1, 1), (1050, .iadd, 1), (1051, .iaload, 1), (1052, .aload_n 0, 1), (1053, .iload 4, 2), (1055, .iconst 2, 1), (1056, .iadd, 1), (1057, .iaload, 1), (1058, .aload_n 0, 1), (1059, .iload 4, 2), (1061, .iconst 3, 1), (1062, .iadd, 1), (1063, .iaload, 1)] = true := by decide +kernel
theorem dL_law_1000 : decode cL_law 1000 = .ok (.iconst 5, 1) := decAll_at dLg_1_4 0 rfl
theorem dL_law_1001 : decode cL_law 1001 = .ok (.iadd, 1) := decAll_at dLg_1_4 1 rfl
theorem dL_law_1002 : decode cL_law 1002 = .ok (.iaload, 1) := decAll_at dLg_1_4 2 rfl
theorem dL_law_1003 : decode cL_law 1003 = .ok (.invokevirtual 91, 3) := decAll_at dLg_1_4 3 rfl
theorem dL_law_1006 : decode cL_law 1006 = .ok (.aload_n 2, 1) := decAll_at dLg_1_4 4 rfl
theorem dL_law_1007 : decode cL_law 1007 = .ok (.aload_n 0, 1) := decAll_at dLg_1_4 5 rfl
theorem dL_law_1008 : decode cL_law 1008 = .ok (.iload 4, 2) := decAll_at dLg_1_4 6 rfl
theorem dL_law_1010 : decode cL_law 1010 = .ok (.iconst 1, 1) := decAll_at dLg_1_4 7 rfl
theorem dL_law_1011 : decode cL_law 1011 = .ok (.iadd, 1) := decAll_at dLg_1_4 8 rfl
theorem dL_law_1012 : decode cL_law 1012 = .ok (.iaload, 1) := decAll_at dLg_1_4 9 rfl
theorem dL_law_1013 : decode cL_law 1013 = .ok (.aload_n 0, 1) := decAll_at dLg_1_4 10 rfl
theorem dL_law_1014 : decode cL_law 1014 = .ok (.iload 4, 2) := decAll_at dLg_1_4 11 rfl
theorem dL_law_1016 : decode cL_law 1016 = .ok (.iconst 2, 1) := decAll_at dLg_1_4 12 rfl
theorem dL_law_1017 : decode cL_law 1017 = .ok (.iadd, 1) := decAll_at dLg_1_4 13 rfl
theorem dL_law_1018 : decode cL_law 1018 = .ok (.iaload, 1) := decAll_at dLg_1_4 14 rfl
theorem dL_law_1019 : decode cL_law 1019 = .ok (.aload_n 0, 1) := decAll_at dLg_1_4 15 rfl
theorem dL_law_1020 : decode cL_law 1020 = .ok (.iload 4, 2) := decAll_at dLg_1_4 16 rfl
theorem dL_law_1022 : decode cL_law 1022 = .ok (.iconst 3, 1) := decAll_at dLg_1_4 17 rfl
theorem dL_law_1023 : decode cL_law 1023 = .ok (.iadd, 1) := decAll_at dLg_1_4 18 rfl
theorem dL_law_1024 : decode cL_law 1024 = .ok (.iaload, 1) := decAll_at dLg_1_4 19 rfl
theorem dL_law_1025 : decode cL_law 1025 = .ok (.aload_n 0, 1) := decAll_at dLg_1_4 20 rfl
theorem dL_law_1026 : decode cL_law 1026 = .ok (.iload 4, 2) := decAll_at dLg_1_4 21 rfl
theorem dL_law_1028 : decode cL_law 1028 = .ok (.iconst 4, 1) := decAll_at dLg_1_4 22 rfl
theorem dL_law_1029 : decode cL_law 1029 = .ok (.iadd, 1) := decAll_at dLg_1_4 23 rfl
theorem dL_law_1030 : decode cL_law 1030 = .ok (.iaload, 1) := decAll_at dLg_1_4 24 rfl
theorem dL_law_1031 : decode cL_law 1031 = .ok (.aload_n 0, 1) := decAll_at dLg_1_4 25 rfl
theorem dL_law_1032 : decode cL_law 1032 = .ok (.iload 4, 2) := decAll_at dLg_1_4 26 rfl
theorem dL_law_1034 : decode cL_law 1034 = .ok (.iconst 5, 1) := decAll_at dLg_1_4 27 rfl
theorem dL_law_1035 : decode cL_law 1035 = .ok (.iadd, 1) := decAll_at dLg_1_4 28 rfl
theorem dL_law_1036 : decode cL_law 1036 = .ok (.iaload, 1) := decAll_at dLg_1_4 29 rfl
theorem dL_law_1037 : decode cL_law 1037 = .ok (.invokevirtual 94, 3) := decAll_at dLg_1_4 30 rfl
theorem dL_law_1040 : decode cL_law 1040 = .ok (.if_icmp .eq 1290, 3) := decAll_at dLg_1_4 31 rfl
theorem dL_law_1043 : decode cL_law 1043 = .ok (.iconst 0, 1) := decAll_at dLg_1_4 32 rfl
theorem dL_law_1044 : decode cL_law 1044 = .ok (.ireturn, 1) := decAll_at dLg_1_4 33 rfl
theorem dL_law_1045 : decode cL_law 1045 = .ok (.aload_n 1, 1) := decAll_at dLg_1_4 34 rfl
theorem dL_law_1046 : decode cL_law 1046 = .ok (.aload_n 0, 1) := decAll_at dLg_1_4 35 rfl
theorem dL_law_1047 : decode cL_law 1047 = .ok (.iload 4, 2) := decAll_at dLg_1_4 36 rfl
theorem dL_law_1049 : decode cL_law 1049 = .ok (.iconst 1, 1) := decAll_at dLg_1_4 37 rfl
theorem dL_law_1050 : decode cL_law 1050 = .ok (.iadd, 1) := decAll_at dLg_1_4 38 rfl
theorem dL_law_1051 : decode cL_law 1051 = .ok (.iaload, 1) := decAll_at dLg_1_4 39 rfl
theorem dL_law_1052 : decode cL_law 1052 = .ok (.aload_n 0, 1) := decAll_at dLg_1_4 40 rfl
theorem dL_law_1053 : decode cL_law 1053 = .ok (.iload 4, 2) := decAll_at dLg_1_4 41 rfl
theorem dL_law_1055 : decode cL_law 1055 = .ok (.iconst 2, 1) := decAll_at dLg_1_4 42 rfl
theorem dL_law_1056 : decode cL_law 1056 = .ok (.iadd, 1) := decAll_at dLg_1_4 43 rfl
theorem dL_law_1057 : decode cL_law 1057 = .ok (.iaload, 1) := decAll_at dLg_1_4 44 rfl
theorem dL_law_1058 : decode cL_law 1058 = .ok (.aload_n 0, 1) := decAll_at dLg_1_4 45 rfl
theorem dL_law_1059 : decode cL_law 1059 = .ok (.iload 4, 2) := decAll_at dLg_1_4 46 rfl
theorem dL_law_1061 : decode cL_law 1061 = .ok (.iconst 3, 1) := decAll_at dLg_1_4 47 rfl
theorem dL_law_1062 : decode cL_law 1062 = .ok (.iadd, 1) := decAll_at dLg_1_4 48 rfl
theorem dL_law_1063 : decode cL_law 1063 = .ok (.iaload, 1) := decAll_at dLg_1_4 49 rfl
set_option maxRecDepth 100000 in
theorem dLg_1_5 : decAll cL_law [(1064, .invokevirtual 95, 3), (1067, .aload_n 2, 1), (1068, .aload_n 0, 1), (1069, .iload 4, 2), (1071, .iconst 1, 1), (1072, .iadd, 1), (1073, .iaload, 1), (1074, .aload_n 0, 1), (1075, .iload 4, 2), (1077, .iconst 2, 1), (1078, .iadd, 1), (1079, .iaload, 1), (1080, .aload_n 0, 1), (1081, .iload 4, 2), (1083, .iconst 3, 1), (1084, .iadd, 1), (1085, .iaload, 1), (1086, .invokevirtual 98, 3), (1089, .if_icmp .eq 1241, 3), (1092, .iconst 0, 1), (1093, .ireturn, 1), (1094, .aload_n 1, 1), (1095, .aload_n 0, 1), (1096, .iload 4, 2), (1098, .iconst 1, 1), (1099, .iadd, 1), (1100, .iaload, 1), (1101, .aload_n 0, 1), (1102, .iload 4, 2), (1104, .iconst 2, 1), (1105, .iadd, 1), (1106, .iaload, 1), (1107, .invokevirtual 99, 3), (1110, .aload_n 2, 1), (1111, .aload_n 0, 1), (1112, .iload 4, 2), (1114, .iconst 1, 1), (1115, .iadd, 1), (1116, .iaload, 1), (1117, .aload_n 0, 1), (1118, .iload 4, 2), (1120, .iconst 2, 1), (1121, .iadd, 1), (1122, .iaload, 1), (1123, .invokevirtual 102, 3), (1126, .if_icmp .eq 1204, 3), (1129, .iconst 0, 1), (1130, .ireturn, 1), (1131, .aload_n 1, 1), (1132, .aload_n 0, 1)] = true := by decide +kernel
theorem dL_law_1064 : decode cL_law 1064 = .ok (.invokevirtual 95, 3) := decAll_at dLg_1_5 0 rfl
theorem dL_law_1067 : decode cL_law 1067 = .ok (.aload_n 2, 1) := decAll_at dLg_1_5 1 rfl
theorem dL_law_1068 : decode cL_law 1068 = .ok (.aload_n 0, 1) := decAll_at dLg_1_5 2 rfl
theorem dL_law_1069 : decode cL_law 1069 = .ok (.iload 4, 2) := decAll_at dLg_1_5 3 rfl
theorem dL_law_1071 : decode cL_law 1071 = .ok (.iconst 1, 1) := decAll_at dLg_1_5 4 rfl
theorem dL_law_1072 : decode cL_law 1072 = .ok (.iadd, 1) := decAll_at dLg_1_5 5 rfl
theorem dL_law_1073 : decode cL_law 1073 = .ok (.iaload, 1) := decAll_at dLg_1_5 6 rfl
theorem dL_law_1074 : decode cL_law 1074 = .ok (.aload_n 0, 1) := decAll_at dLg_1_5 7 rfl
theorem dL_law_1075 : decode cL_law 1075 = .ok (.iload 4, 2) := decAll_at dLg_1_5 8 rfl
theorem dL_law_1077 : decode cL_law 1077 = .ok (.iconst 2, 1) := decAll_at dLg_1_5 9 rfl
theorem dL_law_1078 : decode cL_law 1078 = .ok (.iadd, 1) := decAll_at dLg_1_5 10 rfl
theorem dL_law_1079 : decode cL_law 1079 = .ok (.iaload, 1) := decAll_at dLg_1_5 11 rfl
theorem dL_law_1080 : decode cL_law 1080 = .ok (.aload_n 0, 1) := decAll_at dLg_1_5 12 rfl
theorem dL_law_1081 : decode cL_law 1081 = .ok (.iload 4, 2) := decAll_at dLg_1_5 13 rfl
theorem dL_law_1083 : decode cL_law 1083 = .ok (.iconst 3, 1) := decAll_at dLg_1_5 14 rfl
theorem dL_law_1084 : decode cL_law 1084 = .ok (.iadd, 1) := decAll_at dLg_1_5 15 rfl
theorem dL_law_1085 : decode cL_law 1085 = .ok (.iaload, 1) := decAll_at dLg_1_5 16 rfl
theorem dL_law_1086 : decode cL_law 1086 = .ok (.invokevirtual 98, 3) := decAll_at dLg_1_5 17 rfl
theorem dL_law_1089 : decode cL_law 1089 = .ok (.if_icmp .eq 1241, 3) := decAll_at dLg_1_5 18 rfl
theorem dL_law_1092 : decode cL_law 1092 = .ok (.iconst 0, 1) := decAll_at dLg_1_5 19 rfl
theorem dL_law_1093 : decode cL_law 1093 = .ok (.ireturn, 1) := decAll_at dLg_1_5 20 rfl
theorem dL_law_1094 : decode cL_law 1094 = .ok (.aload_n 1, 1) := decAll_at dLg_1_5 21 rfl
theorem dL_law_1095 : decode cL_law 1095 = .ok (.aload_n 0, 1) := decAll_at dLg_1_5 22 rfl
theorem dL_law_1096 : decode cL_law 1096 = .ok (.iload 4, 2) := decAll_at dLg_1_5 23 rfl
theorem dL_law_1098 : decode cL_law 1098 = .ok (.iconst 1, 1) := decAll_at dLg_1_5 24 rfl
theorem dL_law_1099 : decode cL_law 1099 = .ok (.iadd, 1) := decAll_at dLg_1_5 25 rfl
theorem dL_law_1100 : decode cL_law 1100 = .ok (.iaload, 1) := decAll_at dLg_1_5 26 rfl
theorem dL_law_1101 : decode cL_law 1101 = .ok (.aload_n 0, 1) := decAll_at dLg_1_5 27 rfl
theorem dL_law_1102 : decode cL_law 1102 = .ok (.iload 4, 2) := decAll_at dLg_1_5 28 rfl
theorem dL_law_1104 : decode cL_law 1104 = .ok (.iconst 2, 1) := decAll_at dLg_1_5 29 rfl
theorem dL_law_1105 : decode cL_law 1105 = .ok (.iadd, 1) := decAll_at dLg_1_5 30 rfl
theorem dL_law_1106 : decode cL_law 1106 = .ok (.iaload, 1) := decAll_at dLg_1_5 31 rfl
theorem dL_law_1107 : decode cL_law 1107 = .ok (.invokevirtual 99, 3) := decAll_at dLg_1_5 32 rfl
theorem dL_law_1110 : decode cL_law 1110 = .ok (.aload_n 2, 1) := decAll_at dLg_1_5 33 rfl
theorem dL_law_1111 : decode cL_law 1111 = .ok (.aload_n 0, 1) := decAll_at dLg_1_5 34 rfl
theorem dL_law_1112 : decode cL_law 1112 = .ok (.iload 4, 2) := decAll_at dLg_1_5 35 rfl
theorem dL_law_1114 : decode cL_law 1114 = .ok (.iconst 1, 1) := decAll_at dLg_1_5 36 rfl
theorem dL_law_1115 : decode cL_law 1115 = .ok (.iadd, 1) := decAll_at dLg_1_5 37 rfl
theorem dL_law_1116 : decode cL_law 1116 = .ok (.iaload, 1) := decAll_at dLg_1_5 38 rfl
theorem dL_law_1117 : decode cL_law 1117 = .ok (.aload_n 0, 1) := decAll_at dLg_1_5 39 rfl
theorem dL_law_1118 : decode cL_law 1118 = .ok (.iload 4, 2) := decAll_at dLg_1_5 40 rfl
theorem dL_law_1120 : decode cL_law 1120 = .ok (.iconst 2, 1) := decAll_at dLg_1_5 41 rfl
theorem dL_law_1121 : decode cL_law 1121 = .ok (.iadd, 1) := decAll_at dLg_1_5 42 rfl
theorem dL_law_1122 : decode cL_law 1122 = .ok (.iaload, 1) := decAll_at dLg_1_5 43 rfl
theorem dL_law_1123 : decode cL_law 1123 = .ok (.invokevirtual 102, 3) := decAll_at dLg_1_5 44 rfl
theorem dL_law_1126 : decode cL_law 1126 = .ok (.if_icmp .eq 1204, 3) := decAll_at dLg_1_5 45 rfl
theorem dL_law_1129 : decode cL_law 1129 = .ok (.iconst 0, 1) := decAll_at dLg_1_5 46 rfl
theorem dL_law_1130 : decode cL_law 1130 = .ok (.ireturn, 1) := decAll_at dLg_1_5 47 rfl
theorem dL_law_1131 : decode cL_law 1131 = .ok (.aload_n 1, 1) := decAll_at dLg_1_5 48 rfl
theorem dL_law_1132 : decode cL_law 1132 = .ok (.aload_n 0, 1) := decAll_at dLg_1_5 49 rfl
set_option maxRecDepth 100000 in
theorem dLg_1_6 : decAll cL_law [(1133, .iload 4, 2), (1135, .iconst 1, 1), (1136, .iadd, 1), (1137, .iaload, 1), (1138, .aload_n 0, 1), (1139, .iload 4, 2), (1141, .iconst 2, 1), (1142, .iadd, 1), (1143, .iaload, 1), (1144, .aload_n 0, 1), (1145, .iload 4, 2), (1147, .iconst 3, 1), (1148, .iadd, 1), (1149, .iaload, 1), (1150, .invokevirtual 103, 3), (1153, .aload_n 2, 1), (1154, .aload_n 0, 1), (1155, .iload 4, 2), (1157, .iconst 1, 1), (1158, .iadd, 1), (1159, .iaload, 1), (1160, .aload_n 0, 1), (1161, .iload 4, 2), (1163, .iconst 2, 1), (1164, .iadd, 1), (1165, .iaload, 1), (1166, .aload_n 0, 1), (1167, .iload 4, 2), (1169, .iconst 3, 1), (1170, .iadd, 1), (1171, .iaload, 1), (1172, .invokevirtual 106, 3), (1175, .if_icmp .eq 1155, 3), (1178, .iconst 0, 1), (1179, .ireturn, 1), (1180, .aload_n 1, 1), (1181, .aload_n 0, 1), (1182, .iload 4, 2), (1184, .iconst 1, 1), (1185, .iadd, 1), (1186, .iaload, 1), (1187, .aload_n 0, 1), (1188, .iload 4, 2), (1190, .iconst 2, 1), (1191, .iadd, 1), (1192, .iaload, 1), (1193, .aload_n 0, 1), (1194, .iload 4, 2), (1196, .iconst 3, 1), (1197, .iadd, 1)] = true := by decide +kernel
theorem dL_law_1133 : decode cL_law 1133 = .ok (.iload 4, 2) := decAll_at dLg_1_6 0 rfl
theorem dL_law_1135 : decode cL_law 1135 = .ok (.iconst 1, 1) := decAll_at dLg_1_6 1 rfl
theorem dL_law_1136 : decode cL_law 1136 = .ok (.iadd, 1) := decAll_at dLg_1_6 2 rfl
theorem dL_law_1137 : decode cL_law 1137 = .ok (.iaload, 1) := decAll_at dLg_1_6 3 rfl
theorem dL_law_1138 : decode cL_law 1138 = .ok (.aload_n 0, 1) := decAll_at dLg_1_6 4 rfl
theorem dL_law_1139 : decode cL_law 1139 = .ok (.iload 4, 2) := decAll_at dLg_1_6 5 rfl
theorem dL_law_1141 : decode cL_law 1141 = .ok (.iconst 2, 1) := decAll_at dLg_1_6 6 rfl
theorem dL_law_1142 : decode cL_law 1142 = .ok (.iadd, 1) := decAll_at dLg_1_6 7 rfl
theorem dL_law_1143 : decode cL_law 1143 = .ok (.iaload, 1) := decAll_at dLg_1_6 8 rfl
theorem dL_law_1144 : decode cL_law 1144 = .ok (.aload_n 0, 1) := decAll_at dLg_1_6 9 rfl
theorem dL_law_1145 : decode cL_law 1145 = .ok (.iload 4, 2) := decAll_at dLg_1_6 10 rfl
theorem dL_law_1147 : decode cL_law 1147 = .ok (.iconst 3, 1) := decAll_at dLg_1_6 11 rfl
theorem dL_law_1148 : decode cL_law 1148 = .ok (.iadd, 1) := decAll_at dLg_1_6 12 rfl
theorem dL_law_1149 : decode cL_law 1149 = .ok (.iaload, 1) := decAll_at dLg_1_6 13 rfl
theorem dL_law_1150 : decode cL_law 1150 = .ok (.invokevirtual 103, 3) := decAll_at dLg_1_6 14 rfl
theorem dL_law_1153 : decode cL_law 1153 = .ok (.aload_n 2, 1) := decAll_at dLg_1_6 15 rfl
theorem dL_law_1154 : decode cL_law 1154 = .ok (.aload_n 0, 1) := decAll_at dLg_1_6 16 rfl
theorem dL_law_1155 : decode cL_law 1155 = .ok (.iload 4, 2) := decAll_at dLg_1_6 17 rfl
theorem dL_law_1157 : decode cL_law 1157 = .ok (.iconst 1, 1) := decAll_at dLg_1_6 18 rfl
theorem dL_law_1158 : decode cL_law 1158 = .ok (.iadd, 1) := decAll_at dLg_1_6 19 rfl
theorem dL_law_1159 : decode cL_law 1159 = .ok (.iaload, 1) := decAll_at dLg_1_6 20 rfl
theorem dL_law_1160 : decode cL_law 1160 = .ok (.aload_n 0, 1) := decAll_at dLg_1_6 21 rfl
theorem dL_law_1161 : decode cL_law 1161 = .ok (.iload 4, 2) := decAll_at dLg_1_6 22 rfl
theorem dL_law_1163 : decode cL_law 1163 = .ok (.iconst 2, 1) := decAll_at dLg_1_6 23 rfl
theorem dL_law_1164 : decode cL_law 1164 = .ok (.iadd, 1) := decAll_at dLg_1_6 24 rfl
theorem dL_law_1165 : decode cL_law 1165 = .ok (.iaload, 1) := decAll_at dLg_1_6 25 rfl
theorem dL_law_1166 : decode cL_law 1166 = .ok (.aload_n 0, 1) := decAll_at dLg_1_6 26 rfl
theorem dL_law_1167 : decode cL_law 1167 = .ok (.iload 4, 2) := decAll_at dLg_1_6 27 rfl
theorem dL_law_1169 : decode cL_law 1169 = .ok (.iconst 3, 1) := decAll_at dLg_1_6 28 rfl
theorem dL_law_1170 : decode cL_law 1170 = .ok (.iadd, 1) := decAll_at dLg_1_6 29 rfl
theorem dL_law_1171 : decode cL_law 1171 = .ok (.iaload, 1) := decAll_at dLg_1_6 30 rfl
theorem dL_law_1172 : decode cL_law 1172 = .ok (.invokevirtual 106, 3) := decAll_at dLg_1_6 31 rfl
theorem dL_law_1175 : decode cL_law 1175 = .ok (.if_icmp .eq 1155, 3) := decAll_at dLg_1_6 32 rfl
theorem dL_law_1178 : decode cL_law 1178 = .ok (.iconst 0, 1) := decAll_at dLg_1_6 33 rfl
theorem dL_law_1179 : decode cL_law 1179 = .ok (.ireturn, 1) := decAll_at dLg_1_6 34 rfl
theorem dL_law_1180 : decode cL_law 1180 = .ok (.aload_n 1, 1) := decAll_at dLg_1_6 35 rfl
theorem dL_law_1181 : decode cL_law 1181 = .ok (.aload_n 0, 1) := decAll_at dLg_1_6 36 rfl
theorem dL_law_1182 : decode cL_law 1182 = .ok (.iload 4, 2) := decAll_at dLg_1_6 37 rfl
theorem dL_law_1184 : decode cL_law 1184 = .ok (.iconst 1, 1) := decAll_at dLg_1_6 38 rfl
theorem dL_law_1185 : decode cL_law 1185 = .ok (.iadd, 1) := decAll_at dLg_1_6 39 rfl
theorem dL_law_1186 : decode cL_law 1186 = .ok (.iaload, 1) := decAll_at dLg_1_6 40 rfl
theorem dL_law_1187 : decode cL_law 1187 = .ok (.aload_n 0, 1) := decAll_at dLg_1_6 41 rfl
theorem dL_law_1188 : decode cL_law 1188 = .ok (.iload 4, 2) := decAll_at dLg_1_6 42 rfl
theorem dL_law_1190 : decode cL_law 1190 = .ok (.iconst 2, 1) := decAll_at dLg_1_6 43 rfl
theorem dL_law_1191 : decode cL_law 1191 = .ok (.iadd, 1) := decAll_at dLg_1_6 44 rfl
theorem dL_law_1192 : decode cL_law 1192 = .ok (.iaload, 1) := decAll_at dLg_1_6 45 rfl
theorem dL_law_1193 : decode cL_law 1193 = .ok (.aload_n 0, 1) := decAll_at dLg_1_6 46 rfl
theorem dL_law_1194 : decode cL_law 1194 = .ok (.iload 4, 2) := decAll_at dLg_1_6 47 rfl
theorem dL_law_1196 : decode cL_law 1196 = .ok (.iconst 3, 1) := decAll_at dLg_1_6 48 rfl
theorem dL_law_1197 : decode cL_law 1197 = .ok (.iadd, 1) := decAll_at dLg_1_6 49 rfl
set_option maxRecDepth 100000 in
theorem dLg_1_7 : decAll cL_law [(1198, .iaload, 1), (1199, .invokevirtual 107, 3), (1202, .aload_n 2, 1), (1203, .aload_n 0, 1), (1204, .iload 4, 2), (1206, .iconst 1, 1), (1207, .iadd, 1), (1208, .iaload, 1), (1209, .aload_n 0, 1), (1210, .iload 4, 2), (1212, .iconst 2, 1), (1213, .iadd, 1), (1214, .iaload, 1), (1215, .aload_n 0, 1), (1216, .iload 4, 2), (1218, .iconst 3, 1), (1219, .iadd, 1), (1220, .iaload, 1), (1221, .invokevirtual 110, 3), (1224, .if_icmp .eq 1106, 3), (1227, .iconst 0, 1), (1228, .ireturn, 1), (1229, .aload_n 1, 1), (1230, .aload_n 0, 1), (1231, .iload 4, 2), (1233, .iconst 1, 1), (1234, .iadd, 1), (1235, .iaload, 1), (1236, .aload_n 0, 1), (1237, .iload 4, 2), (1239, .iconst 2, 1), (1240, .iadd, 1), (1241, .iaload, 1), (1242, .aload_n 0, 1), (1243, .iload 4, 2), (1245, .iconst 3, 1), (1246, .iadd, 1), (1247, .iaload, 1), (1248, .invokevirtual 111, 3), (1251, .aload_n 2, 1), (1252, .aload_n 0, 1), (1253, .iload 4, 2), (1255, .iconst 1, 1), (1256, .iadd, 1), (1257, .iaload, 1), (1258, .aload_n 0, 1), (1259, .iload 4, 2), (1261, .iconst 2, 1), (1262, .iadd, 1), (1263, .iaload, 1)] = true := by decide +kernel
theorem dL_law_1198 : decode cL_law 1198 = .ok (.iaload, 1) := decAll_at dLg_1_7 0 rfl
theorem dL_law_1199 : decode cL_law 1199 = .ok (.invokevirtual 107, 3) := decAll_at dLg_1_7 1 rfl
theorem dL_law_1202 : decode cL_law 1202 = .ok (.aload_n 2, 1) := decAll_at dLg_1_7 2 rfl
theorem dL_law_1203 : decode cL_law 1203 = .ok (.aload_n 0, 1) := decAll_at dLg_1_7 3 rfl
theorem dL_law_1204 : decode cL_law 1204 = .ok (.iload 4, 2) := decAll_at dLg_1_7 4 rfl
theorem dL_law_1206 : decode cL_law 1206 = .ok (.iconst 1, 1) := decAll_at dLg_1_7 5 rfl
theorem dL_law_1207 : decode cL_law 1207 = .ok (.iadd, 1) := decAll_at dLg_1_7 6 rfl
theorem dL_law_1208 : decode cL_law 1208 = .ok (.iaload, 1) := decAll_at dLg_1_7 7 rfl
theorem dL_law_1209 : decode cL_law 1209 = .ok (.aload_n 0, 1) := decAll_at dLg_1_7 8 rfl
theorem dL_law_1210 : decode cL_law 1210 = .ok (.iload 4, 2) := decAll_at dLg_1_7 9 rfl
theorem dL_law_1212 : decode cL_law 1212 = .ok (.iconst 2, 1) := decAll_at dLg_1_7 10 rfl
theorem dL_law_1213 : decode cL_law 1213 = .ok (.iadd, 1) := decAll_at dLg_1_7 11 rfl
theorem dL_law_1214 : decode cL_law 1214 = .ok (.iaload, 1) := decAll_at dLg_1_7 12 rfl
theorem dL_law_1215 : decode cL_law 1215 = .ok (.aload_n 0, 1) := decAll_at dLg_1_7 13 rfl
theorem dL_law_1216 : decode cL_law 1216 = .ok (.iload 4, 2) := decAll_at dLg_1_7 14 rfl
theorem dL_law_1218 : decode cL_law 1218 = .ok (.iconst 3, 1) := decAll_at dLg_1_7 15 rfl
theorem dL_law_1219 : decode cL_law 1219 = .ok (.iadd, 1) := decAll_at dLg_1_7 16 rfl
theorem dL_law_1220 : decode cL_law 1220 = .ok (.iaload, 1) := decAll_at dLg_1_7 17 rfl
theorem dL_law_1221 : decode cL_law 1221 = .ok (.invokevirtual 110, 3) := decAll_at dLg_1_7 18 rfl
theorem dL_law_1224 : decode cL_law 1224 = .ok (.if_icmp .eq 1106, 3) := decAll_at dLg_1_7 19 rfl
theorem dL_law_1227 : decode cL_law 1227 = .ok (.iconst 0, 1) := decAll_at dLg_1_7 20 rfl
theorem dL_law_1228 : decode cL_law 1228 = .ok (.ireturn, 1) := decAll_at dLg_1_7 21 rfl
theorem dL_law_1229 : decode cL_law 1229 = .ok (.aload_n 1, 1) := decAll_at dLg_1_7 22 rfl
theorem dL_law_1230 : decode cL_law 1230 = .ok (.aload_n 0, 1) := decAll_at dLg_1_7 23 rfl
theorem dL_law_1231 : decode cL_law 1231 = .ok (.iload 4, 2) := decAll_at dLg_1_7 24 rfl
theorem dL_law_1233 : decode cL_law 1233 = .ok (.iconst 1, 1) := decAll_at dLg_1_7 25 rfl
theorem dL_law_1234 : decode cL_law 1234 = .ok (.iadd, 1) := decAll_at dLg_1_7 26 rfl
theorem dL_law_1235 : decode cL_law 1235 = .ok (.iaload, 1) := decAll_at dLg_1_7 27 rfl
theorem dL_law_1236 : decode cL_law 1236 = .ok (.aload_n 0, 1) := decAll_at dLg_1_7 28 rfl
theorem dL_law_1237 : decode cL_law 1237 = .ok (.iload 4, 2) := decAll_at dLg_1_7 29 rfl
theorem dL_law_1239 : decode cL_law 1239 = .ok (.iconst 2, 1) := decAll_at dLg_1_7 30 rfl
theorem dL_law_1240 : decode cL_law 1240 = .ok (.iadd, 1) := decAll_at dLg_1_7 31 rfl
theorem dL_law_1241 : decode cL_law 1241 = .ok (.iaload, 1) := decAll_at dLg_1_7 32 rfl
theorem dL_law_1242 : decode cL_law 1242 = .ok (.aload_n 0, 1) := decAll_at dLg_1_7 33 rfl
theorem dL_law_1243 : decode cL_law 1243 = .ok (.iload 4, 2) := decAll_at dLg_1_7 34 rfl
theorem dL_law_1245 : decode cL_law 1245 = .ok (.iconst 3, 1) := decAll_at dLg_1_7 35 rfl
theorem dL_law_1246 : decode cL_law 1246 = .ok (.iadd, 1) := decAll_at dLg_1_7 36 rfl
theorem dL_law_1247 : decode cL_law 1247 = .ok (.iaload, 1) := decAll_at dLg_1_7 37 rfl
theorem dL_law_1248 : decode cL_law 1248 = .ok (.invokevirtual 111, 3) := decAll_at dLg_1_7 38 rfl
theorem dL_law_1251 : decode cL_law 1251 = .ok (.aload_n 2, 1) := decAll_at dLg_1_7 39 rfl
theorem dL_law_1252 : decode cL_law 1252 = .ok (.aload_n 0, 1) := decAll_at dLg_1_7 40 rfl
theorem dL_law_1253 : decode cL_law 1253 = .ok (.iload 4, 2) := decAll_at dLg_1_7 41 rfl
theorem dL_law_1255 : decode cL_law 1255 = .ok (.iconst 1, 1) := decAll_at dLg_1_7 42 rfl
theorem dL_law_1256 : decode cL_law 1256 = .ok (.iadd, 1) := decAll_at dLg_1_7 43 rfl
theorem dL_law_1257 : decode cL_law 1257 = .ok (.iaload, 1) := decAll_at dLg_1_7 44 rfl
theorem dL_law_1258 : decode cL_law 1258 = .ok (.aload_n 0, 1) := decAll_at dLg_1_7 45 rfl
theorem dL_law_1259 : decode cL_law 1259 = .ok (.iload 4, 2) := decAll_at dLg_1_7 46 rfl
theorem dL_law_1261 : decode cL_law 1261 = .ok (.iconst 2, 1) := decAll_at dLg_1_7 47 rfl
theorem dL_law_1262 : decode cL_law 1262 = .ok (.iadd, 1) := decAll_at dLg_1_7 48 rfl
theorem dL_law_1263 : decode cL_law 1263 = .ok (.iaload, 1) := decAll_at dLg_1_7 49 rfl
