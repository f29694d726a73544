theorem dX12_init_0 : decode cX12_init 0 = .ok (.aload_n 0, 1) := by decide +kernel
theorem dX12_init_1 : decode cX12_init 1 = .ok (.invokespecial 1, 3) := by decide +kernel
theorem dX12_init_4 : decode cX12_init 4 = .ok (.aload_n 0, 1) := by decide +kernel
theorem dX12_init_5 : decode cX12_init 5 = .ok (.bipush 47, 2) := by decide +kernel
theorem dX12_init_7 : decode cX12_init 7 = .ok (.newarray .int, 2) := by decide +kernel
theorem dX12_init_9 : decode cX12_init 9 = .ok (.putfield 9, 3) := by decide +kernel
theorem dX12_init_12 : decode cX12_init 12 = .ok (.aload_n 0, 1) := by decide +kernel
theorem dX12_init_13 : decode cX12_init 13 = .ok (.bipush 47, 2) := by decide +kernel
theorem dX12_init_15 : decode cX12_init 15 = .ok (.newarray .int, 2) := by decide +kernel
theorem dX12_init_17 : decode cX12_init 17 = .ok (.putfield 13, 3) := by decide +kernel
theorem dX12_init_20 : decode cX12_init 20 = .ok (.aload_n 0, 1) := by decide +kernel
theorem dX12_init_21 : decode cX12_init 21 = .ok (.bipush 47, 2) := by decide +kernel
theorem dX12_init_23 : decode cX12_init 23 = .ok (.newarray .int, 2) := by decide +kernel
theorem dX12_init_25 : decode cX12_init 25 = .ok (.putfield 16, 3) := by decide +kernel
theorem dX12_init_28 : decode cX12_init 28 = .ok (.aload_n 0, 1) := by decide +kernel
theorem dX12_init_29 : decode cX12_init 29 = .ok (.iconst 3, 1) := by decide +kernel
theorem dX12_init_30 : decode cX12_init 30 = .ok (.putfield 19, 3) := by decide +kernel
theorem dX12_init_33 : decode cX12_init 33 = .ok (.aload_n 0, 1) := by decide +kernel
theorem dX12_init_34 : decode cX12_init 34 = .ok (.iconst 5, 1) := by decide +kernel
theorem dX12_init_35 : decode cX12_init 35 = .ok (.newarray .int, 2) := by decide +kernel
theorem dX12_init_37 : decode cX12_init 37 = .ok (.putfield 23, 3) := by decide +kernel
theorem dX12_init_40 : decode cX12_init 40 = .ok (.aload_n 0, 1) := by decide +kernel
theorem dX12_init_41 : decode cX12_init 41 = .ok (.bipush 13, 2) := by decide +kernel
theorem dX12_init_43 : decode cX12_init 43 = .ok (.newarray .long, 2) := by decide +kernel
theorem dX12_init_45 : decode cX12_init 45 = .ok (.putfield 26, 3) := by decide +kernel
theorem dX12_init_48 : decode cX12_init 48 = .ok (.aload_n 0, 1) := by decide +kernel
theorem dX12_init_49 : decode cX12_init 49 = .ok (.bipush 13, 2) := by decide +kernel
theorem dX12_init_51 : decode cX12_init 51 = .ok (.newarray .long, 2) := by decide +kernel
theorem dX12_init_53 : decode cX12_init 53 = .ok (.putfield 30, 3) := by decide +kernel
theorem dX12_init_56 : decode cX12_init 56 = .ok (.aload_n 0, 1) := by decide +kernel
theorem dX12_init_57 : decode cX12_init 57 = .ok (.bipush 8, 2) := by decide +kernel
theorem dX12_init_59 : decode cX12_init 59 = .ok (.newarray .int, 2) := by decide +kernel
theorem dX12_init_61 : decode cX12_init 61 = .ok (.putfield 33, 3) := by decide +kernel
theorem dX12_init_64 : decode cX12_init 64 = .ok (.aload_n 0, 1) := by decide +kernel
theorem dX12_init_65 : decode cX12_init 65 = .ok (.bipush 8, 2) := by decide +kernel
theorem dX12_init_67 : decode cX12_init 67 = .ok (.newarray .int, 2) := by decide +kernel
theorem dX12_init_69 : decode cX12_init 69 = .ok (.putfield 36, 3) := by decide +kernel
theorem dX12_init_72 : decode cX12_init 72 = .ok (.aload_n 0, 1) := by decide +kernel
theorem dX12_init_73 : decode cX12_init 73 = .ok (.bipush 8, 2) := by decide +kernel
theorem dX12_init_75 : decode cX12_init 75 = .ok (.newarray .int, 2) := by decide +kernel
theorem dX12_init_77 : decode cX12_init 77 = .ok (.putfield 39, 3) := by decide +kernel
theorem dX12_init_80 : decode cX12_init 80 = .ok (.aload_n 0, 1) := by decide +kernel
theorem dX12_init_81 : decode cX12_init 81 = .ok (.bipush 8, 2) := by decide +kernel
theorem dX12_init_83 : decode cX12_init 83 = .ok (.newarray .int, 2) := by decide +kernel
theorem dX12_init_85 : decode cX12_init 85 = .ok (.putfield 42, 3) := by decide +kernel
theorem dX12_init_88 : decode cX12_init 88 = .ok (.aload_n 0, 1) := by decide +kernel
theorem dX12_init_89 : decode cX12_init 89 = .ok (.bipush 8, 2) := by decide +kernel
theorem dX12_init_91 : decode cX12_init 91 = .ok (.newarray .int, 2) := by decide +kernel
theorem dX12_init_93 : decode cX12_init 93 = .ok (.putfield 45, 3) := by decide +kernel
theorem dX12_init_96 : decode cX12_init 96 = .ok (.aload_n 0, 1) := by decide +kernel
theorem dX12_init_97 : decode cX12_init 97 = .ok (.sipush 800, 3) := by decide +kernel
theorem dX12_init_100 : decode cX12_init 100 = .ok (.newarray .int, 2) := by decide +kernel
theorem dX12_init_102 : decode cX12_init 102 = .ok (.putfield 48, 3) := by decide +kernel
theorem dX12_init_105 : decode cX12_init 105 = .ok (.return_, 1) := by decide +kernel
theorem dX12_isIn_0 : decode cX12_isIn 0 = .ok (.iload_n 0, 1) := by decide +kernel
theorem dX12_isIn_1 : decode cX12_isIn 1 = .ok (.iload_n 1, 1) := by decide +kernel
theorem dX12_isIn_2 : decode cX12_isIn 2 = .ok (.if_icmp .lt 12, 3) := by decide +kernel
theorem dX12_isIn_5 : decode cX12_isIn 5 = .ok (.iload_n 0, 1) := by decide +kernel
theorem dX12_isIn_6 : decode cX12_isIn 6 = .ok (.iload_n 2, 1) := by decide +kernel
theorem dX12_isIn_7 : decode cX12_isIn 7 = .ok (.if_icmp .gt 7, 3) := by decide +kernel
theorem dX12_isIn_10 : decode cX12_isIn 10 = .ok (.iconst 1, 1) := by decide +kernel
theorem dX12_isIn_11 : decode cX12_isIn 11 = .ok (.goto 4, 3) := by decide +kernel
theorem dX12_isIn_14 : decode cX12_isIn 14 = .ok (.iconst 0, 1) := by decide +kernel
theorem dX12_isIn_15 : decode cX12_isIn 15 = .ok (.ireturn, 1) := by decide +kernel
theorem dX12_size_0 : decode cX12_size 0 = .ok (.iload_n 0, 1) := by decide +kernel
theorem dX12_size_1 : decode cX12_size 1 = .ok (.ifCond .ge 8, 3) := by decide +kernel
theorem dX12_size_4 : decode cX12_size 4 = .ok (.iload_n 0, 1) := by decide +kernel
theorem dX12_size_5 : decode cX12_size 5 = .ok (.ineg, 1) := by decide +kernel
theorem dX12_size_6 : decode cX12_size 6 = .ok (.goto 4, 3) := by decide +kernel
theorem dX12_size_9 : decode cX12_size 9 = .ok (.iload_n 0, 1) := by decide +kernel
theorem dX12_size_10 : decode cX12_size 10 = .ok (.ireturn, 1) := by decide +kernel
theorem dX12_copies_0 : decode cX12_copies 0 = .ok (.iconst 0, 1) := by decide +kernel
theorem dX12_copies_1 : decode cX12_copies 1 = .ok (.istore_n 2, 1) := by decide +kernel
theorem dX12_copies_2 : decode cX12_copies 2 = .ok (.iload_n 2, 1) := by decide +kernel
theorem dX12_copies_3 : decode cX12_copies 3 = .ok (.bipush 47, 2) := by decide +kernel
theorem dX12_copies_5 : decode cX12_copies 5 = .ok (.if_icmp .ge 15, 3) := by decide +kernel
theorem dX12_copies_8 : decode cX12_copies 8 = .ok (.aload_n 1, 1) := by decide +kernel
theorem dX12_copies_9 : decode cX12_copies 9 = .ok (.iload_n 2, 1) := by decide +kernel
theorem dX12_copies_10 : decode cX12_copies 10 = .ok (.aload_n 0, 1) := by decide +kernel
theorem dX12_copies_11 : decode cX12_copies 11 = .ok (.iload_n 2, 1) := by decide +kernel
theorem dX12_copies_12 : decode cX12_copies 12 = .ok (.iaload, 1) := by decide +kernel
theorem dX12_copies_13 : decode cX12_copies 13 = .ok (.iastore, 1) := by decide +kernel
theorem dX12_copies_14 : decode cX12_copies 14 = .ok (.iinc 2 1, 3) := by decide +kernel
theorem dX12_copies_17 : decode cX12_copies 17 = .ok (.goto (-15), 3) := by decide +kernel
theorem dX12_copies_20 : decode cX12_copies 20 = .ok (.return_, 1) := by decide +kernel
theorem dX12_atBlade_0 : decode cX12_atBlade 0 = .ok (.iconst 3, 1) := by decide +kernel
theorem dX12_atBlade_1 : decode cX12_atBlade 1 = .ok (.iconst 4, 1) := by decide +kernel
theorem dX12_atBlade_2 : decode cX12_atBlade 2 = .ok (.iload_n 0, 1) := by decide +kernel
theorem dX12_atBlade_3 : decode cX12_atBlade 3 = .ok (.imul, 1) := by decide +kernel
theorem dX12_atBlade_4 : decode cX12_atBlade 4 = .ok (.iadd, 1) := by decide +kernel
theorem dX12_atBlade_5 : decode cX12_atBlade 5 = .ok (.iload_n 1, 1) := by decide +kernel
theorem dX12_atBlade_6 : decode cX12_atBlade 6 = .ok (.iadd, 1) := by decide +kernel
theorem dX12_atBlade_7 : decode cX12_atBlade 7 = .ok (.ireturn, 1) := by decide +kernel
theorem dX12_atThumbs_0 : decode cX12_atThumbs 0 = .ok (.bipush 27, 2) := by decide +kernel
theorem dX12_atThumbs_2 : decode cX12_atThumbs 2 = .ok (.iconst 2, 1) := by decide +kernel
theorem dX12_atThumbs_3 : decode cX12_atThumbs 3 = .ok (.iload_n 0, 1) := by decide +kernel
theorem dX12_atThumbs_4 : decode cX12_atThumbs 4 = .ok (.imul, 1) := by decide +kernel
theorem dX12_atThumbs_5 : decode cX12_atThumbs 5 = .ok (.iadd, 1) := by decide +kernel
theorem dX12_atThumbs_6 : decode cX12_atThumbs 6 = .ok (.iload_n 1, 1) := by decide +kernel
theorem dX12_atThumbs_7 : decode cX12_atThumbs 7 = .ok (.iadd, 1) := by decide +kernel
theorem dX12_atThumbs_8 : decode cX12_atThumbs 8 = .ok (.ireturn, 1) := by decide +kernel
theorem dX12_atBlow_0 : decode cX12_atBlow 0 = .ok (.bipush 35, 2) := by decide +kernel
theorem dX12_atBlow_2 : decode cX12_atBlow 2 = .ok (.iconst 2, 1) := by decide +kernel
theorem dX12_atBlow_3 : decode cX12_atBlow 3 = .ok (.iload_n 0, 1) := by decide +kernel
theorem dX12_atBlow_4 : decode cX12_atBlow 4 = .ok (.imul, 1) := by decide +kernel
theorem dX12_atBlow_5 : decode cX12_atBlow 5 = .ok (.iadd, 1) := by decide +kernel
theorem dX12_atBlow_6 : decode cX12_atBlow 6 = .ok (.iload_n 1, 1) := by decide +kernel
theorem dX12_atBlow_7 : decode cX12_atBlow 7 = .ok (.iadd, 1) := by decide +kernel
theorem dX12_atBlow_8 : decode cX12_atBlow 8 = .ok (.ireturn, 1) := by decide +kernel
theorem dX12_bladeOf_0 : decode cX12_bladeOf 0 = .ok (.aload_n 0, 1) := by decide +kernel
theorem dX12_bladeOf_1 : decode cX12_bladeOf 1 = .ok (.getfield 9, 3) := by decide +kernel
theorem dX12_bladeOf_4 : decode cX12_bladeOf 4 = .ok (.iload_n 1, 1) := by decide +kernel
theorem dX12_bladeOf_5 : decode cX12_bladeOf 5 = .ok (.iload_n 2, 1) := by decide +kernel
theorem dX12_bladeOf_6 : decode cX12_bladeOf 6 = .ok (.invokestatic 51, 3) := by decide +kernel
theorem dX12_bladeOf_9 : decode cX12_bladeOf 9 = .ok (.iaload, 1) := by decide +kernel
theorem dX12_bladeOf_10 : decode cX12_bladeOf 10 = .ok (.ireturn, 1) := by decide +kernel
theorem dX12_kind_0 : decode cX12_kind 0 = .ok (.aload_n 0, 1) := by decide +kernel
theorem dX12_kind_1 : decode cX12_kind 1 = .ok (.getfield 9, 3) := by decide +kernel
theorem dX12_kind_4 : decode cX12_kind 4 = .ok (.iload_n 1, 1) := by decide +kernel
theorem dX12_kind_5 : decode cX12_kind 5 = .ok (.iconst 0, 1) := by decide +kernel
theorem dX12_kind_6 : decode cX12_kind 6 = .ok (.invokestatic 55, 3) := by decide +kernel
theorem dX12_kind_9 : decode cX12_kind 9 = .ok (.iaload, 1) := by decide +kernel
theorem dX12_kind_10 : decode cX12_kind 10 = .ok (.ireturn, 1) := by decide +kernel
theorem dX12_figure_0 : decode cX12_figure 0 = .ok (.aload_n 0, 1) := by decide +kernel
theorem dX12_figure_1 : decode cX12_figure 1 = .ok (.getfield 9, 3) := by decide +kernel
theorem dX12_figure_4 : decode cX12_figure 4 = .ok (.iload_n 1, 1) := by decide +kernel
theorem dX12_figure_5 : decode cX12_figure 5 = .ok (.iconst 1, 1) := by decide +kernel
theorem dX12_figure_6 : decode cX12_figure 6 = .ok (.invokestatic 55, 3) := by decide +kernel
theorem dX12_figure_9 : decode cX12_figure 9 = .ok (.iaload, 1) := by decide +kernel
theorem dX12_figure_10 : decode cX12_figure 10 = .ok (.ireturn, 1) := by decide +kernel
theorem dX12_isBlade_0 : decode cX12_isBlade 0 = .ok (.iload_n 1, 1) := by decide +kernel
theorem dX12_isBlade_1 : decode cX12_isBlade 1 = .ok (.iconst 0, 1) := by decide +kernel
theorem dX12_isBlade_2 : decode cX12_isBlade 2 = .ok (.aload_n 0, 1) := by decide +kernel
theorem dX12_isBlade_3 : decode cX12_isBlade 3 = .ok (.getfield 9, 3) := by decide +kernel
theorem dX12_isBlade_6 : decode cX12_isBlade 6 = .ok (.iconst 0, 1) := by decide +kernel
theorem dX12_isBlade_7 : decode cX12_isBlade 7 = .ok (.iaload, 1) := by decide +kernel
theorem dX12_isBlade_8 : decode cX12_isBlade 8 = .ok (.iconst 1, 1) := by decide +kernel
theorem dX12_isBlade_9 : decode cX12_isBlade 9 = .ok (.isub, 1) := by decide +kernel
theorem dX12_isBlade_10 : decode cX12_isBlade 10 = .ok (.invokestatic 58, 3) := by decide +kernel
theorem dX12_isBlade_13 : decode cX12_isBlade 13 = .ok (.ireturn, 1) := by decide +kernel
theorem dX12_isThumbs_0 : decode cX12_isThumbs 0 = .ok (.iload_n 1, 1) := by decide +kernel
theorem dX12_isThumbs_1 : decode cX12_isThumbs 1 = .ok (.iconst 0, 1) := by decide +kernel
theorem dX12_isThumbs_2 : decode cX12_isThumbs 2 = .ok (.aload_n 0, 1) := by decide +kernel
theorem dX12_isThumbs_3 : decode cX12_isThumbs 3 = .ok (.getfield 9, 3) := by decide +kernel
theorem dX12_isThumbs_6 : decode cX12_isThumbs 6 = .ok (.iconst 1, 1) := by decide +kernel
theorem dX12_isThumbs_7 : decode cX12_isThumbs 7 = .ok (.iaload, 1) := by decide +kernel
theorem dX12_isThumbs_8 : decode cX12_isThumbs 8 = .ok (.iconst 1, 1) := by decide +kernel
theorem dX12_isThumbs_9 : decode cX12_isThumbs 9 = .ok (.isub, 1) := by decide +kernel
theorem dX12_isThumbs_10 : decode cX12_isThumbs 10 = .ok (.invokestatic 58, 3) := by decide +kernel
theorem dX12_isThumbs_13 : decode cX12_isThumbs 13 = .ok (.ireturn, 1) := by decide +kernel
theorem dX12_isBlow_0 : decode cX12_isBlow 0 = .ok (.iload_n 1, 1) := by decide +kernel
theorem dX12_isBlow_1 : decode cX12_isBlow 1 = .ok (.iconst 0, 1) := by decide +kernel
theorem dX12_isBlow_2 : decode cX12_isBlow 2 = .ok (.aload_n 0, 1) := by decide +kernel
theorem dX12_isBlow_3 : decode cX12_isBlow 3 = .ok (.getfield 9, 3) := by decide +kernel
theorem dX12_isBlow_6 : decode cX12_isBlow 6 = .ok (.iconst 2, 1) := by decide +kernel
theorem dX12_isBlow_7 : decode cX12_isBlow 7 = .ok (.iaload, 1) := by decide +kernel
theorem dX12_isBlow_8 : decode cX12_isBlow 8 = .ok (.iconst 1, 1) := by decide +kernel
theorem dX12_isBlow_9 : decode cX12_isBlow 9 = .ok (.isub, 1) := by decide +kernel
theorem dX12_isBlow_10 : decode cX12_isBlow 10 = .ok (.invokestatic 58, 3) := by decide +kernel
theorem dX12_isBlow_13 : decode cX12_isBlow 13 = .ok (.ireturn, 1) := by decide +kernel
theorem dX12_areAll_0 : decode cX12_areAll 0 = .ok (.aload_n 0, 1) := by decide +kernel
theorem dX12_areAll_1 : decode cX12_areAll 1 = .ok (.iload_n 1, 1) := by decide +kernel
theorem dX12_areAll_2 : decode cX12_areAll 2 = .ok (.invokevirtual 62, 3) := by decide +kernel
theorem dX12_areAll_5 : decode cX12_areAll 5 = .ok (.ifCond .eq 23, 3) := by decide +kernel
theorem dX12_areAll_8 : decode cX12_areAll 8 = .ok (.aload_n 0, 1) := by decide +kernel
theorem dX12_areAll_9 : decode cX12_areAll 9 = .ok (.iload_n 2, 1) := by decide +kernel
theorem dX12_areAll_10 : decode cX12_areAll 10 = .ok (.invokevirtual 66, 3) := by decide +kernel
theorem dX12_areAll_13 : decode cX12_areAll 13 = .ok (.ifCond .eq 15, 3) := by decide +kernel
theorem dX12_areAll_16 : decode cX12_areAll 16 = .ok (.aload_n 0, 1) := by decide +kernel
theorem dX12_areAll_17 : decode cX12_areAll 17 = .ok (.iload_n 3, 1) := by decide +kernel
theorem dX12_areAll_18 : decode cX12_areAll 18 = .ok (.invokevirtual 69, 3) := by decide +kernel
theorem dX12_areAll_21 : decode cX12_areAll 21 = .ok (.ifCond .eq 7, 3) := by decide +kernel
theorem dX12_areAll_24 : decode cX12_areAll 24 = .ok (.iconst 1, 1) := by decide +kernel
theorem dX12_areAll_25 : decode cX12_areAll 25 = .ok (.goto 4, 3) := by decide +kernel
theorem dX12_areAll_28 : decode cX12_areAll 28 = .ok (.iconst 0, 1) := by decide +kernel
theorem dX12_areAll_29 : decode cX12_areAll 29 = .ok (.ireturn, 1) := by decide +kernel
theorem dX12_isForce_0 : decode cX12_isForce 0 = .ok (.iload_n 0, 1) := by decide +kernel
theorem dX12_isForce_1 : decode cX12_isForce 1 = .ok (.iconst 0, 1) := by decide +kernel
theorem dX12_isForce_2 : decode cX12_isForce 2 = .ok (.bipush 60, 2) := by decide +kernel
theorem dX12_isForce_4 : decode cX12_isForce 4 = .ok (.invokestatic 58, 3) := by decide +kernel
theorem dX12_isForce_7 : decode cX12_isForce 7 = .ok (.ireturn, 1) := by decide +kernel
theorem dX12_isSplit_0 : decode cX12_isSplit 0 = .ok (.aload_n 0, 1) := by decide +kernel
theorem dX12_isSplit_1 : decode cX12_isSplit 1 = .ok (.iload_n 1, 1) := by decide +kernel
theorem dX12_isSplit_2 : decode cX12_isSplit 2 = .ok (.iconst 3, 1) := by decide +kernel
theorem dX12_isSplit_3 : decode cX12_isSplit 3 = .ok (.invokevirtual 72, 3) := by decide +kernel
theorem dX12_isSplit_6 : decode cX12_isSplit 6 = .ok (.aload_n 0, 1) := by decide +kernel
theorem dX12_isSplit_7 : decode cX12_isSplit 7 = .ok (.iload_n 1, 1) := by decide +kernel
theorem dX12_isSplit_8 : decode cX12_isSplit 8 = .ok (.iconst 1, 1) := by decide +kernel
theorem dX12_isSplit_9 : decode cX12_isSplit 9 = .ok (.invokevirtual 72, 3) := by decide +kernel
theorem dX12_isSplit_12 : decode cX12_isSplit 12 = .ok (.aload_n 0, 1) := by decide +kernel
theorem dX12_isSplit_13 : decode cX12_isSplit 13 = .ok (.iload_n 1, 1) := by decide +kernel
theorem dX12_isSplit_14 : decode cX12_isSplit 14 = .ok (.iconst 2, 1) := by decide +kernel
theorem dX12_isSplit_15 : decode cX12_isSplit 15 = .ok (.invokevirtual 72, 3) := by decide +kernel
theorem dX12_isSplit_18 : decode cX12_isSplit 18 = .ok (.iadd, 1) := by decide +kernel
theorem dX12_isSplit_19 : decode cX12_isSplit 19 = .ok (.if_icmp .le 7, 3) := by decide +kernel
theorem dX12_isSplit_22 : decode cX12_isSplit 22 = .ok (.iconst 1, 1) := by decide +kernel
theorem dX12_isSplit_23 : decode cX12_isSplit 23 = .ok (.goto 4, 3) := by decide +kernel
theorem dX12_isSplit_26 : decode cX12_isSplit 26 = .ok (.iconst 0, 1) := by decide +kernel
theorem dX12_isSplit_27 : decode cX12_isSplit 27 = .ok (.ireturn, 1) := by decide +kernel
theorem dX12_isSounding_0 : decode cX12_isSounding 0 = .ok (.iload_n 0, 1) := by decide +kernel
theorem dX12_isSounding_1 : decode cX12_isSounding 1 = .ok (.iconst 2, 1) := by decide +kernel
theorem dX12_isSounding_2 : decode cX12_isSounding 2 = .ok (.if_icmp .eq 19, 3) := by decide +kernel
theorem dX12_isSounding_5 : decode cX12_isSounding 5 = .ok (.iload_n 0, 1) := by decide +kernel
theorem dX12_isSounding_6 : decode cX12_isSounding 6 = .ok (.iconst 3, 1) := by decide +kernel
theorem dX12_isSounding_7 : decode cX12_isSounding 7 = .ok (.if_icmp .eq 14, 3) := by decide +kernel
theorem dX12_isSounding_10 : decode cX12_isSounding 10 = .ok (.iload_n 0, 1) := by decide +kernel
theorem dX12_isSounding_11 : decode cX12_isSounding 11 = .ok (.iconst 5, 1) := by decide +kernel
theorem dX12_isSounding_12 : decode cX12_isSounding 12 = .ok (.if_icmp .eq 9, 3) := by decide +kernel
theorem dX12_isSounding_15 : decode cX12_isSounding 15 = .ok (.iload_n 0, 1) := by decide +kernel
theorem dX12_isSounding_16 : decode cX12_isSounding 16 = .ok (.bipush 6, 2) := by decide +kernel
theorem dX12_isSounding_18 : decode cX12_isSounding 18 = .ok (.if_icmp .ne 7, 3) := by decide +kernel
theorem dX12_isSounding_21 : decode cX12_isSounding 21 = .ok (.iconst 1, 1) := by decide +kernel
theorem dX12_isSounding_22 : decode cX12_isSounding 22 = .ok (.goto 4, 3) := by decide +kernel
theorem dX12_isSounding_25 : decode cX12_isSounding 25 = .ok (.iconst 0, 1) := by decide +kernel
theorem dX12_isSounding_26 : decode cX12_isSounding 26 = .ok (.ireturn, 1) := by decide +kernel
theorem dX12_slitOf_0 : decode cX12_slitOf 0 = .ok (.aload_n 0, 1) := by decide +kernel
theorem dX12_slitOf_1 : decode cX12_slitOf 1 = .ok (.getfield 9, 3) := by decide +kernel
theorem dX12_slitOf_4 : decode cX12_slitOf 4 = .ok (.iload_n 1, 1) := by decide +kernel
theorem dX12_slitOf_5 : decode cX12_slitOf 5 = .ok (.iconst 0, 1) := by decide +kernel
theorem dX12_slitOf_6 : decode cX12_slitOf 6 = .ok (.invokestatic 75, 3) := by decide +kernel
theorem dX12_slitOf_9 : decode cX12_slitOf 9 = .ok (.iaload, 1) := by decide +kernel
theorem dX12_slitOf_10 : decode cX12_slitOf 10 = .ok (.istore_n 2, 1) := by decide +kernel
theorem dX12_slitOf_11 : decode cX12_slitOf 11 = .ok (.aload_n 0, 1) := by decide +kernel
theorem dX12_slitOf_12 : decode cX12_slitOf 12 = .ok (.getfield 19, 3) := by decide +kernel
theorem dX12_slitOf_15 : decode cX12_slitOf 15 = .ok (.iconst 2, 1) := by decide +kernel
theorem dX12_slitOf_16 : decode cX12_slitOf 16 = .ok (.if_icmp .ne 13, 3) := by decide +kernel
theorem dX12_slitOf_19 : decode cX12_slitOf 19 = .ok (.iload_n 2, 1) := by decide +kernel
theorem dX12_slitOf_20 : decode cX12_slitOf 20 = .ok (.ifCond .le 9, 3) := by decide +kernel
theorem dX12_slitOf_23 : decode cX12_slitOf 23 = .ok (.iload_n 2, 1) := by decide +kernel
theorem dX12_slitOf_24 : decode cX12_slitOf 24 = .ok (.iconst 1, 1) := by decide +kernel
theorem dX12_slitOf_25 : decode cX12_slitOf 25 = .ok (.isub, 1) := by decide +kernel
theorem dX12_slitOf_26 : decode cX12_slitOf 26 = .ok (.goto 4, 3) := by decide +kernel
theorem dX12_slitOf_29 : decode cX12_slitOf 29 = .ok (.iload_n 2, 1) := by decide +kernel
theorem dX12_slitOf_30 : decode cX12_slitOf 30 = .ok (.ireturn, 1) := by decide +kernel
theorem dX12_gripOf_0 : decode cX12_gripOf 0 = .ok (.aload_n 0, 1) := by decide +kernel
theorem dX12_gripOf_1 : decode cX12_gripOf 1 = .ok (.getfield 9, 3) := by decide +kernel
theorem dX12_gripOf_4 : decode cX12_gripOf 4 = .ok (.iload_n 1, 1) := by decide +kernel
theorem dX12_gripOf_5 : decode cX12_gripOf 5 = .ok (.iconst 1, 1) := by decide +kernel
theorem dX12_gripOf_6 : decode cX12_gripOf 6 = .ok (.invokestatic 75, 3) := by decide +kernel
theorem dX12_gripOf_9 : decode cX12_gripOf 9 = .ok (.iaload, 1) := by decide +kernel
theorem dX12_gripOf_10 : decode cX12_gripOf 10 = .ok (.aload_n 0, 1) := by decide +kernel
theorem dX12_gripOf_11 : decode cX12_gripOf 11 = .ok (.getfield 19, 3) := by decide +kernel
theorem dX12_gripOf_14 : decode cX12_gripOf 14 = .ok (.iconst 1, 1) := by decide +kernel
theorem dX12_gripOf_15 : decode cX12_gripOf 15 = .ok (.if_icmp .ne 7, 3) := by decide +kernel
theorem dX12_gripOf_18 : decode cX12_gripOf 18 = .ok (.iconst 5, 1) := by decide +kernel
theorem dX12_gripOf_19 : decode cX12_gripOf 19 = .ok (.goto 4, 3) := by decide +kernel
theorem dX12_gripOf_22 : decode cX12_gripOf 22 = .ok (.iconst 0, 1) := by decide +kernel
theorem dX12_gripOf_23 : decode cX12_gripOf 23 = .ok (.iadd, 1) := by decide +kernel
theorem dX12_gripOf_24 : decode cX12_gripOf 24 = .ok (.istore_n 2, 1) := by decide +kernel
theorem dX12_gripOf_25 : decode cX12_gripOf 25 = .ok (.iload_n 2, 1) := by decide +kernel
theorem dX12_gripOf_26 : decode cX12_gripOf 26 = .ok (.bipush 60, 2) := by decide +kernel
theorem dX12_gripOf_28 : decode cX12_gripOf 28 = .ok (.if_icmp .le 8, 3) := by decide +kernel
theorem dX12_gripOf_31 : decode cX12_gripOf 31 = .ok (.bipush 60, 2) := by decide +kernel
theorem dX12_gripOf_33 : decode cX12_gripOf 33 = .ok (.goto 4, 3) := by decide +kernel
theorem dX12_gripOf_36 : decode cX12_gripOf 36 = .ok (.iload_n 2, 1) := by decide +kernel
theorem dX12_gripOf_37 : decode cX12_gripOf 37 = .ok (.ireturn, 1) := by decide +kernel
theorem dX12_lowPlain_0 : decode cX12_lowPlain 0 = .ok (.aload_n 0, 1) := by decide +kernel
theorem dX12_lowPlain_1 : decode cX12_lowPlain 1 = .ok (.iload_n 1, 1) := by decide +kernel
theorem dX12_lowPlain_2 : decode cX12_lowPlain 2 = .ok (.iconst 0, 1) := by decide +kernel
theorem dX12_lowPlain_3 : decode cX12_lowPlain 3 = .ok (.invokevirtual 72, 3) := by decide +kernel
theorem dX12_lowPlain_6 : decode cX12_lowPlain 6 = .ok (.aload_n 0, 1) := by decide +kernel
theorem dX12_lowPlain_7 : decode cX12_lowPlain 7 = .ok (.iload_n 2, 1) := by decide +kernel
theorem dX12_lowPlain_8 : decode cX12_lowPlain 8 = .ok (.invokevirtual 78, 3) := by decide +kernel
theorem dX12_lowPlain_11 : decode cX12_lowPlain 11 = .ok (.iadd, 1) := by decide +kernel
theorem dX12_lowPlain_12 : decode cX12_lowPlain 12 = .ok (.istore 4, 2) := by decide +kernel
theorem dX12_lowPlain_14 : decode cX12_lowPlain 14 = .ok (.aload_n 0, 1) := by decide +kernel
theorem dX12_lowPlain_15 : decode cX12_lowPlain 15 = .ok (.iload_n 3, 1) := by decide +kernel
theorem dX12_lowPlain_16 : decode cX12_lowPlain 16 = .ok (.invokevirtual 82, 3) := by decide +kernel
theorem dX12_lowPlain_19 : decode cX12_lowPlain 19 = .ok (.invokestatic 85, 3) := by decide +kernel
theorem dX12_lowPlain_22 : decode cX12_lowPlain 22 = .ok (.ifCond .ne 6, 3) := by decide +kernel
theorem dX12_lowPlain_25 : decode cX12_lowPlain 25 = .ok (.iload 4, 2) := by decide +kernel
theorem dX12_lowPlain_27 : decode cX12_lowPlain 27 = .ok (.ireturn, 1) := by decide +kernel
theorem dX12_lowPlain_28 : decode cX12_lowPlain 28 = .ok (.iload 4, 2) := by decide +kernel
theorem dX12_lowPlain_30 : decode cX12_lowPlain 30 = .ok (.iconst 2, 1) := by decide +kernel
theorem dX12_lowPlain_31 : decode cX12_lowPlain 31 = .ok (.if_icmp .ge 7, 3) := by decide +kernel
theorem dX12_lowPlain_34 : decode cX12_lowPlain 34 = .ok (.iconst 0, 1) := by decide +kernel
theorem dX12_lowPlain_35 : decode cX12_lowPlain 35 = .ok (.goto 7, 3) := by decide +kernel
theorem dX12_lowPlain_38 : decode cX12_lowPlain 38 = .ok (.iload 4, 2) := by decide +kernel
theorem dX12_lowPlain_40 : decode cX12_lowPlain 40 = .ok (.iconst 2, 1) := by decide +kernel
theorem dX12_lowPlain_41 : decode cX12_lowPlain 41 = .ok (.isub, 1) := by decide +kernel
theorem dX12_lowPlain_42 : decode cX12_lowPlain 42 = .ok (.istore 4, 2) := by decide +kernel
theorem dX12_lowPlain_44 : decode cX12_lowPlain 44 = .ok (.aload_n 0, 1) := by decide +kernel
theorem dX12_lowPlain_45 : decode cX12_lowPlain 45 = .ok (.iload_n 3, 1) := by decide +kernel
theorem dX12_lowPlain_46 : decode cX12_lowPlain 46 = .ok (.invokevirtual 82, 3) := by decide +kernel
theorem dX12_lowPlain_49 : decode cX12_lowPlain 49 = .ok (.iconst 3, 1) := by decide +kernel
theorem dX12_lowPlain_50 : decode cX12_lowPlain 50 = .ok (.if_icmp .ne 11, 3) := by decide +kernel
theorem dX12_lowPlain_53 : decode cX12_lowPlain 53 = .ok (.iload 4, 2) := by decide +kernel
theorem dX12_lowPlain_55 : decode cX12_lowPlain 55 = .ok (.bipush 10, 2) := by decide +kernel
theorem dX12_lowPlain_57 : decode cX12_lowPlain 57 = .ok (.iadd, 1) := by decide +kernel
theorem dX12_lowPlain_58 : decode cX12_lowPlain 58 = .ok (.goto 22, 3) := by decide +kernel
theorem dX12_lowPlain_61 : decode cX12_lowPlain 61 = .ok (.aload_n 0, 1) := by decide +kernel
theorem dX12_lowPlain_62 : decode cX12_lowPlain 62 = .ok (.iload_n 3, 1) := by decide +kernel
theorem dX12_lowPlain_63 : decode cX12_lowPlain 63 = .ok (.invokevirtual 82, 3) := by decide +kernel
theorem dX12_lowPlain_66 : decode cX12_lowPlain 66 = .ok (.bipush 6, 2) := by decide +kernel
theorem dX12_lowPlain_68 : decode cX12_lowPlain 68 = .ok (.if_icmp .ne 10, 3) := by decide +kernel
theorem dX12_lowPlain_71 : decode cX12_lowPlain 71 = .ok (.iload 4, 2) := by decide +kernel
theorem dX12_lowPlain_73 : decode cX12_lowPlain 73 = .ok (.iconst 1, 1) := by decide +kernel
theorem dX12_lowPlain_74 : decode cX12_lowPlain 74 = .ok (.iadd, 1) := by decide +kernel
theorem dX12_lowPlain_75 : decode cX12_lowPlain 75 = .ok (.goto 5, 3) := by decide +kernel
theorem dX12_lowPlain_78 : decode cX12_lowPlain 78 = .ok (.iload 4, 2) := by decide +kernel
theorem dX12_lowPlain_80 : decode cX12_lowPlain 80 = .ok (.ireturn, 1) := by decide +kernel
theorem dX12_low_0 : decode cX12_low 0 = .ok (.aload_n 0, 1) := by decide +kernel
theorem dX12_low_1 : decode cX12_low 1 = .ok (.iload_n 1, 1) := by decide +kernel
theorem dX12_low_2 : decode cX12_low 2 = .ok (.iload_n 2, 1) := by decide +kernel
theorem dX12_low_3 : decode cX12_low 3 = .ok (.iload_n 3, 1) := by decide +kernel
theorem dX12_low_4 : decode cX12_low 4 = .ok (.invokevirtual 88, 3) := by decide +kernel
theorem dX12_low_7 : decode cX12_low 7 = .ok (.istore 4, 2) := by decide +kernel
theorem dX12_low_9 : decode cX12_low 9 = .ok (.aload_n 0, 1) := by decide +kernel
theorem dX12_low_10 : decode cX12_low 10 = .ok (.getfield 19, 3) := by decide +kernel
theorem dX12_low_13 : decode cX12_low 13 = .ok (.ifCond .eq 8, 3) := by decide +kernel
theorem dX12_low_16 : decode cX12_low 16 = .ok (.iload 4, 2) := by decide +kernel
theorem dX12_low_18 : decode cX12_low 18 = .ok (.goto 17, 3) := by decide +kernel
theorem dX12_low_21 : decode cX12_low 21 = .ok (.iload 4, 2) := by decide +kernel
theorem dX12_low_23 : decode cX12_low 23 = .ok (.iconst 2, 1) := by decide +kernel
theorem dX12_low_24 : decode cX12_low 24 = .ok (.if_icmp .ge 7, 3) := by decide +kernel
theorem dX12_low_27 : decode cX12_low 27 = .ok (.iconst 0, 1) := by decide +kernel
theorem dX12_low_28 : decode cX12_low 28 = .ok (.goto 7, 3) := by decide +kernel
theorem dX12_low_31 : decode cX12_low 31 = .ok (.iload 4, 2) := by decide +kernel
theorem dX12_low_33 : decode cX12_low 33 = .ok (.iconst 2, 1) := by decide +kernel
theorem dX12_low_34 : decode cX12_low 34 = .ok (.isub, 1) := by decide +kernel
theorem dX12_low_35 : decode cX12_low 35 = .ok (.ireturn, 1) := by decide +kernel
theorem dX12_high_0 : decode cX12_high 0 = .ok (.bipush 8, 2) := by decide +kernel
theorem dX12_high_2 : decode cX12_high 2 = .ok (.aload_n 0, 1) := by decide +kernel
theorem dX12_high_3 : decode cX12_high 3 = .ok (.iload_n 1, 1) := by decide +kernel
theorem dX12_high_4 : decode cX12_high 4 = .ok (.iconst 2, 1) := by decide +kernel
theorem dX12_high_5 : decode cX12_high 5 = .ok (.invokevirtual 72, 3) := by decide +kernel
theorem dX12_high_8 : decode cX12_high 8 = .ok (.iadd, 1) := by decide +kernel
theorem dX12_high_9 : decode cX12_high 9 = .ok (.istore 4, 2) := by decide +kernel
theorem dX12_high_11 : decode cX12_high 11 = .ok (.aload_n 0, 1) := by decide +kernel
theorem dX12_high_12 : decode cX12_high 12 = .ok (.iload_n 1, 1) := by decide +kernel
theorem dX12_high_13 : decode cX12_high 13 = .ok (.iload_n 2, 1) := by decide +kernel
theorem dX12_high_14 : decode cX12_high 14 = .ok (.iload_n 3, 1) := by decide +kernel
theorem dX12_high_15 : decode cX12_high 15 = .ok (.invokevirtual 88, 3) := by decide +kernel
theorem dX12_high_18 : decode cX12_high 18 = .ok (.aload_n 0, 1) := by decide +kernel
theorem dX12_high_19 : decode cX12_high 19 = .ok (.iload_n 3, 1) := by decide +kernel
theorem dX12_high_20 : decode cX12_high 20 = .ok (.invokevirtual 82, 3) := by decide +kernel
theorem dX12_high_23 : decode cX12_high 23 = .ok (.iconst 3, 1) := by decide +kernel
theorem dX12_high_24 : decode cX12_high 24 = .ok (.if_icmp .ne 10, 3) := by decide +kernel
theorem dX12_high_27 : decode cX12_high 27 = .ok (.iload 4, 2) := by decide +kernel
theorem dX12_high_29 : decode cX12_high 29 = .ok (.iconst 2, 1) := by decide +kernel
theorem dX12_high_30 : decode cX12_high 30 = .ok (.idiv, 1) := by decide +kernel
theorem dX12_high_31 : decode cX12_high 31 = .ok (.goto 5, 3) := by decide +kernel
theorem dX12_high_34 : decode cX12_high 34 = .ok (.iload 4, 2) := by decide +kernel
theorem dX12_high_36 : decode cX12_high 36 = .ok (.iadd, 1) := by decide +kernel
theorem dX12_high_37 : decode cX12_high 37 = .ok (.ireturn, 1) := by decide +kernel
theorem dX12_softest_0 : decode cX12_softest 0 = .ok (.bipush 6, 2) := by decide +kernel
theorem dX12_softest_2 : decode cX12_softest 2 = .ok (.iconst 2, 1) := by decide +kernel
theorem dX12_softest_3 : decode cX12_softest 3 = .ok (.aload_n 0, 1) := by decide +kernel
theorem dX12_softest_4 : decode cX12_softest 4 = .ok (.iload_n 1, 1) := by decide +kernel
theorem dX12_softest_5 : decode cX12_softest 5 = .ok (.invokevirtual 78, 3) := by decide +kernel
theorem dX12_softest_8 : decode cX12_softest 8 = .ok (.imul, 1) := by decide +kernel
theorem dX12_softest_9 : decode cX12_softest 9 = .ok (.iadd, 1) := by decide +kernel
theorem dX12_softest_10 : decode cX12_softest 10 = .ok (.istore_n 3, 1) := by decide +kernel
theorem dX12_softest_11 : decode cX12_softest 11 = .ok (.aload_n 0, 1) := by decide +kernel
theorem dX12_softest_12 : decode cX12_softest 12 = .ok (.iload_n 2, 1) := by decide +kernel
theorem dX12_softest_13 : decode cX12_softest 13 = .ok (.invokevirtual 82, 3) := by decide +kernel
theorem dX12_softest_16 : decode cX12_softest 16 = .ok (.tableswitch 55 1 7 #[44, 55, 47, 55, 55, 51, 44], 44) := by decide +kernel
theorem dX12_softest_60 : decode cX12_softest 60 = .ok (.bipush 61, 2) := by decide +kernel
theorem dX12_softest_62 : decode cX12_softest 62 = .ok (.ireturn, 1) := by decide +kernel
theorem dX12_softest_63 : decode cX12_softest 63 = .ok (.iconst 2, 1) := by decide +kernel
theorem dX12_softest_64 : decode cX12_softest 64 = .ok (.iload_n 3, 1) := by decide +kernel
theorem dX12_softest_65 : decode cX12_softest 65 = .ok (.imul, 1) := by decide +kernel
theorem dX12_softest_66 : decode cX12_softest 66 = .ok (.ireturn, 1) := by decide +kernel
theorem dX12_softest_67 : decode cX12_softest 67 = .ok (.iload_n 3, 1) := by decide +kernel
theorem dX12_softest_68 : decode cX12_softest 68 = .ok (.iconst 2, 1) := by decide +kernel
theorem dX12_softest_69 : decode cX12_softest 69 = .ok (.idiv, 1) := by decide +kernel
theorem dX12_softest_70 : decode cX12_softest 70 = .ok (.ireturn, 1) := by decide +kernel
theorem dX12_softest_71 : decode cX12_softest 71 = .ok (.iload_n 3, 1) := by decide +kernel
theorem dX12_softest_72 : decode cX12_softest 72 = .ok (.ireturn, 1) := by decide +kernel
theorem dX12_hardest_0 : decode cX12_hardest 0 = .ok (.aload_n 0, 1) := by decide +kernel
theorem dX12_hardest_1 : decode cX12_hardest 1 = .ok (.iload_n 1, 1) := by decide +kernel
theorem dX12_hardest_2 : decode cX12_hardest 2 = .ok (.iload_n 2, 1) := by decide +kernel
theorem dX12_hardest_3 : decode cX12_hardest 3 = .ok (.invokevirtual 92, 3) := by decide +kernel
theorem dX12_hardest_6 : decode cX12_hardest 6 = .ok (.aload_n 0, 1) := by decide +kernel
theorem dX12_hardest_7 : decode cX12_hardest 7 = .ok (.iload_n 2, 1) := by decide +kernel
theorem dX12_hardest_8 : decode cX12_hardest 8 = .ok (.invokevirtual 82, 3) := by decide +kernel
theorem dX12_hardest_11 : decode cX12_hardest 11 = .ok (.iconst 4, 1) := by decide +kernel
theorem dX12_hardest_12 : decode cX12_hardest 12 = .ok (.if_icmp .ne 14, 3) := by decide +kernel
theorem dX12_hardest_15 : decode cX12_hardest 15 = .ok (.bipush 20, 2) := by decide +kernel
theorem dX12_hardest_17 : decode cX12_hardest 17 = .ok (.aload_n 0, 1) := by decide +kernel
theorem dX12_hardest_18 : decode cX12_hardest 18 = .ok (.iload_n 2, 1) := by decide +kernel
theorem dX12_hardest_19 : decode cX12_hardest 19 = .ok (.invokevirtual 95, 3) := by decide +kernel
theorem dX12_hardest_22 : decode cX12_hardest 22 = .ok (.isub, 1) := by decide +kernel
theorem dX12_hardest_23 : decode cX12_hardest 23 = .ok (.goto 20, 3) := by decide +kernel
theorem dX12_hardest_26 : decode cX12_hardest 26 = .ok (.aload_n 0, 1) := by decide +kernel
theorem dX12_hardest_27 : decode cX12_hardest 27 = .ok (.iload_n 2, 1) := by decide +kernel
theorem dX12_hardest_28 : decode cX12_hardest 28 = .ok (.invokevirtual 82, 3) := by decide +kernel
theorem dX12_hardest_31 : decode cX12_hardest 31 = .ok (.bipush 6, 2) := by decide +kernel
theorem dX12_hardest_33 : decode cX12_hardest 33 = .ok (.if_icmp .ne 8, 3) := by decide +kernel
theorem dX12_hardest_36 : decode cX12_hardest 36 = .ok (.bipush 10, 2) := by decide +kernel
theorem dX12_hardest_38 : decode cX12_hardest 38 = .ok (.goto 5, 3) := by decide +kernel
theorem dX12_hardest_41 : decode cX12_hardest 41 = .ok (.bipush 20, 2) := by decide +kernel
theorem dX12_hardest_43 : decode cX12_hardest 43 = .ok (.iadd, 1) := by decide +kernel
theorem dX12_hardest_44 : decode cX12_hardest 44 = .ok (.ireturn, 1) := by decide +kernel
theorem dX12_isTight_0 : decode cX12_isTight 0 = .ok (.iload 4, 2) := by decide +kernel
theorem dX12_isTight_2 : decode cX12_isTight 2 = .ok (.aload_n 0, 1) := by decide +kernel
theorem dX12_isTight_3 : decode cX12_isTight 3 = .ok (.iload_n 1, 1) := by decide +kernel
theorem dX12_isTight_4 : decode cX12_isTight 4 = .ok (.iload_n 2, 1) := by decide +kernel
theorem dX12_isTight_5 : decode cX12_isTight 5 = .ok (.iload_n 3, 1) := by decide +kernel
theorem dX12_isTight_6 : decode cX12_isTight 6 = .ok (.invokevirtual 98, 3) := by decide +kernel
theorem dX12_isTight_9 : decode cX12_isTight 9 = .ok (.aload_n 0, 1) := by decide +kernel
theorem dX12_isTight_10 : decode cX12_isTight 10 = .ok (.iload_n 1, 1) := by decide +kernel
theorem dX12_isTight_11 : decode cX12_isTight 11 = .ok (.iload_n 2, 1) := by decide +kernel
theorem dX12_isTight_12 : decode cX12_isTight 12 = .ok (.iload_n 3, 1) := by decide +kernel
theorem dX12_isTight_13 : decode cX12_isTight 13 = .ok (.invokevirtual 101, 3) := by decide +kernel
theorem dX12_isTight_16 : decode cX12_isTight 16 = .ok (.invokestatic 58, 3) := by decide +kernel
theorem dX12_isTight_19 : decode cX12_isTight 19 = .ok (.ifCond .eq 17, 3) := by decide +kernel
theorem dX12_isTight_22 : decode cX12_isTight 22 = .ok (.iload 4, 2) := by decide +kernel
theorem dX12_isTight_24 : decode cX12_isTight 24 = .ok (.aload_n 0, 1) := by decide +kernel
theorem dX12_isTight_25 : decode cX12_isTight 25 = .ok (.iload_n 2, 1) := by decide +kernel
theorem dX12_isTight_26 : decode cX12_isTight 26 = .ok (.invokevirtual 104, 3) := by decide +kernel
theorem dX12_isTight_29 : decode cX12_isTight 29 = .ok (.if_icmp .gt 7, 3) := by decide +kernel
theorem dX12_isTight_32 : decode cX12_isTight 32 = .ok (.iconst 1, 1) := by decide +kernel
theorem dX12_isTight_33 : decode cX12_isTight 33 = .ok (.goto 4, 3) := by decide +kernel
theorem dX12_isTight_36 : decode cX12_isTight 36 = .ok (.iconst 0, 1) := by decide +kernel
theorem dX12_isTight_37 : decode cX12_isTight 37 = .ok (.ireturn, 1) := by decide +kernel
theorem dX12_isHard_0 : decode cX12_isHard 0 = .ok (.iload_n 3, 1) := by decide +kernel
theorem dX12_isHard_1 : decode cX12_isHard 1 = .ok (.aload_n 0, 1) := by decide +kernel
theorem dX12_isHard_2 : decode cX12_isHard 2 = .ok (.iload_n 1, 1) := by decide +kernel
theorem dX12_isHard_3 : decode cX12_isHard 3 = .ok (.iload_n 2, 1) := by decide +kernel
theorem dX12_isHard_4 : decode cX12_isHard 4 = .ok (.invokevirtual 92, 3) := by decide +kernel
theorem dX12_isHard_7 : decode cX12_isHard 7 = .ok (.aload_n 0, 1) := by decide +kernel
theorem dX12_isHard_8 : decode cX12_isHard 8 = .ok (.iload_n 1, 1) := by decide +kernel
theorem dX12_isHard_9 : decode cX12_isHard 9 = .ok (.iload_n 2, 1) := by decide +kernel
theorem dX12_isHard_10 : decode cX12_isHard 10 = .ok (.invokevirtual 107, 3) := by decide +kernel
theorem dX12_isHard_13 : decode cX12_isHard 13 = .ok (.invokestatic 58, 3) := by decide +kernel
theorem dX12_isHard_16 : decode cX12_isHard 16 = .ok (.ireturn, 1) := by decide +kernel
theorem dX12_isSound_0 : decode cX12_isSound 0 = .ok (.aload_n 0, 1) := by decide +kernel
theorem dX12_isSound_1 : decode cX12_isSound 1 = .ok (.iload_n 1, 1) := by decide +kernel
theorem dX12_isSound_2 : decode cX12_isSound 2 = .ok (.iload_n 2, 1) := by decide +kernel
theorem dX12_isSound_3 : decode cX12_isSound 3 = .ok (.iload_n 3, 1) := by decide +kernel
theorem dX12_isSound_4 : decode cX12_isSound 4 = .ok (.iload 4, 2) := by decide +kernel
theorem dX12_isSound_6 : decode cX12_isSound 6 = .ok (.invokevirtual 110, 3) := by decide +kernel
theorem dX12_isSound_9 : decode cX12_isSound 9 = .ok (.ifCond .eq 18, 3) := by decide +kernel
theorem dX12_isSound_12 : decode cX12_isSound 12 = .ok (.aload_n 0, 1) := by decide +kernel
theorem dX12_isSound_13 : decode cX12_isSound 13 = .ok (.iload_n 2, 1) := by decide +kernel
theorem dX12_isSound_14 : decode cX12_isSound 14 = .ok (.iload_n 3, 1) := by decide +kernel
theorem dX12_isSound_15 : decode cX12_isSound 15 = .ok (.iload 5, 2) := by decide +kernel
theorem dX12_isSound_17 : decode cX12_isSound 17 = .ok (.invokevirtual 114, 3) := by decide +kernel
theorem dX12_isSound_20 : decode cX12_isSound 20 = .ok (.ifCond .eq 7, 3) := by decide +kernel
theorem dX12_isSound_23 : decode cX12_isSound 23 = .ok (.iconst 1, 1) := by decide +kernel
theorem dX12_isSound_24 : decode cX12_isSound 24 = .ok (.goto 4, 3) := by decide +kernel
theorem dX12_isSound_27 : decode cX12_isSound 27 = .ok (.iconst 0, 1) := by decide +kernel
theorem dX12_isSound_28 : decode cX12_isSound 28 = .ok (.ireturn, 1) := by decide +kernel
theorem dX12_pitchOf_0 : decode cX12_pitchOf 0 = .ok (.bipush 60, 2) := by decide +kernel
theorem dX12_pitchOf_2 : decode cX12_pitchOf 2 = .ok (.aload_n 0, 1) := by decide +kernel
theorem dX12_pitchOf_3 : decode cX12_pitchOf 3 = .ok (.iload_n 1, 1) := by decide +kernel
theorem dX12_pitchOf_4 : decode cX12_pitchOf 4 = .ok (.iconst 0, 1) := by decide +kernel
theorem dX12_pitchOf_5 : decode cX12_pitchOf 5 = .ok (.invokevirtual 72, 3) := by decide +kernel
theorem dX12_pitchOf_8 : decode cX12_pitchOf 8 = .ok (.isub, 1) := by decide +kernel
theorem dX12_pitchOf_9 : decode cX12_pitchOf 9 = .ok (.iload_n 3, 1) := by decide +kernel
theorem dX12_pitchOf_10 : decode cX12_pitchOf 10 = .ok (.iadd, 1) := by decide +kernel
theorem dX12_pitchOf_11 : decode cX12_pitchOf 11 = .ok (.istore 5, 2) := by decide +kernel
theorem dX12_pitchOf_13 : decode cX12_pitchOf 13 = .ok (.aload_n 0, 1) := by decide +kernel
theorem dX12_pitchOf_14 : decode cX12_pitchOf 14 = .ok (.iload_n 2, 1) := by decide +kernel
theorem dX12_pitchOf_15 : decode cX12_pitchOf 15 = .ok (.invokevirtual 82, 3) := by decide +kernel
theorem dX12_pitchOf_18 : decode cX12_pitchOf 18 = .ok (.tableswitch 51 3 6 #[30, 42, 36, 36], 30) := by decide +kernel
theorem dX12_pitchOf_48 : decode cX12_pitchOf 48 = .ok (.iload 5, 2) := by decide +kernel
theorem dX12_pitchOf_50 : decode cX12_pitchOf 50 = .ok (.bipush 12, 2) := by decide +kernel
theorem dX12_pitchOf_52 : decode cX12_pitchOf 52 = .ok (.iadd, 1) := by decide +kernel
theorem dX12_pitchOf_53 : decode cX12_pitchOf 53 = .ok (.ireturn, 1) := by decide +kernel
theorem dX12_pitchOf_54 : decode cX12_pitchOf 54 = .ok (.iload 5, 2) := by decide +kernel
theorem dX12_pitchOf_56 : decode cX12_pitchOf 56 = .ok (.iload 4, 2) := by decide +kernel
theorem dX12_pitchOf_58 : decode cX12_pitchOf 58 = .ok (.isub, 1) := by decide +kernel
theorem dX12_pitchOf_59 : decode cX12_pitchOf 59 = .ok (.ireturn, 1) := by decide +kernel
theorem dX12_pitchOf_60 : decode cX12_pitchOf 60 = .ok (.iload 5, 2) := by decide +kernel
theorem dX12_pitchOf_62 : decode cX12_pitchOf 62 = .ok (.aload_n 0, 1) := by decide +kernel
theorem dX12_pitchOf_63 : decode cX12_pitchOf 63 = .ok (.iload_n 2, 1) := by decide +kernel
theorem dX12_pitchOf_64 : decode cX12_pitchOf 64 = .ok (.invokevirtual 95, 3) := by decide +kernel
theorem dX12_pitchOf_67 : decode cX12_pitchOf 67 = .ok (.iadd, 1) := by decide +kernel
theorem dX12_pitchOf_68 : decode cX12_pitchOf 68 = .ok (.ireturn, 1) := by decide +kernel
theorem dX12_pitchOf_69 : decode cX12_pitchOf 69 = .ok (.iload 5, 2) := by decide +kernel
theorem dX12_pitchOf_71 : decode cX12_pitchOf 71 = .ok (.ireturn, 1) := by decide +kernel
theorem dX12_wears_0 : decode cX12_wears 0 = .ok (.iload_n 2, 1) := by decide +kernel
theorem dX12_wears_1 : decode cX12_wears 1 = .ok (.bipush 10, 2) := by decide +kernel
theorem dX12_wears_3 : decode cX12_wears 3 = .ok (.idiv, 1) := by decide +kernel
theorem dX12_wears_4 : decode cX12_wears 4 = .ok (.istore_n 3, 1) := by decide +kernel
theorem dX12_wears_5 : decode cX12_wears 5 = .ok (.aload_n 0, 1) := by decide +kernel
theorem dX12_wears_6 : decode cX12_wears 6 = .ok (.iload_n 1, 1) := by decide +kernel
theorem dX12_wears_7 : decode cX12_wears 7 = .ok (.invokevirtual 82, 3) := by decide +kernel
theorem dX12_wears_10 : decode cX12_wears 10 = .ok (.tableswitch 58 2 7 #[38, 42, 48, 38, 56, 38], 38) := by decide +kernel
theorem dX12_wears_48 : decode cX12_wears 48 = .ok (.iload_n 3, 1) := by decide +kernel
theorem dX12_wears_49 : decode cX12_wears 49 = .ok (.iconst 1, 1) := by decide +kernel
theorem dX12_wears_50 : decode cX12_wears 50 = .ok (.iadd, 1) := by decide +kernel
theorem dX12_wears_51 : decode cX12_wears 51 = .ok (.ireturn, 1) := by decide +kernel
theorem dX12_wears_52 : decode cX12_wears 52 = .ok (.iconst 2, 1) := by decide +kernel
theorem dX12_wears_53 : decode cX12_wears 53 = .ok (.iload_n 3, 1) := by decide +kernel
theorem dX12_wears_54 : decode cX12_wears 54 = .ok (.iconst 1, 1) := by decide +kernel
theorem dX12_wears_55 : decode cX12_wears 55 = .ok (.iadd, 1) := by decide +kernel
theorem dX12_wears_56 : decode cX12_wears 56 = .ok (.imul, 1) := by decide +kernel
theorem dX12_wears_57 : decode cX12_wears 57 = .ok (.ireturn, 1) := by decide +kernel
theorem dX12_wears_58 : decode cX12_wears 58 = .ok (.iload_n 3, 1) := by decide +kernel
theorem dX12_wears_59 : decode cX12_wears 59 = .ok (.aload_n 0, 1) := by decide +kernel
theorem dX12_wears_60 : decode cX12_wears 60 = .ok (.iload_n 1, 1) := by decide +kernel
theorem dX12_wears_61 : decode cX12_wears 61 = .ok (.invokevirtual 95, 3) := by decide +kernel
theorem dX12_wears_64 : decode cX12_wears 64 = .ok (.iadd, 1) := by decide +kernel
theorem dX12_wears_65 : decode cX12_wears 65 = .ok (.ireturn, 1) := by decide +kernel
theorem dX12_wears_66 : decode cX12_wears 66 = .ok (.iconst 0, 1) := by decide +kernel
theorem dX12_wears_67 : decode cX12_wears 67 = .ok (.ireturn, 1) := by decide +kernel
theorem dX12_wears_68 : decode cX12_wears 68 = .ok (.iload_n 3, 1) := by decide +kernel
theorem dX12_wears_69 : decode cX12_wears 69 = .ok (.ireturn, 1) := by decide +kernel
theorem dX12_here_0 : decode cX12_here 0 = .ok (.aload_n 0, 1) := by decide +kernel
theorem dX12_here_1 : decode cX12_here 1 = .ok (.getfield 117, 3) := by decide +kernel
theorem dX12_here_4 : decode cX12_here 4 = .ok (.aload_n 0, 1) := by decide +kernel
theorem dX12_here_5 : decode cX12_here 5 = .ok (.getfield 120, 3) := by decide +kernel
theorem dX12_here_8 : decode cX12_here 8 = .ok (.if_icmp .ge 24, 3) := by decide +kernel
theorem dX12_here_11 : decode cX12_here 11 = .ok (.aload_n 0, 1) := by decide +kernel
theorem dX12_here_12 : decode cX12_here 12 = .ok (.getfield 48, 3) := by decide +kernel
theorem dX12_here_15 : decode cX12_here 15 = .ok (.aload_n 0, 1) := by decide +kernel
theorem dX12_here_16 : decode cX12_here 16 = .ok (.getfield 123, 3) := by decide +kernel
theorem dX12_here_19 : decode cX12_here 19 = .ok (.aload_n 0, 1) := by decide +kernel
theorem dX12_here_20 : decode cX12_here 20 = .ok (.getfield 117, 3) := by decide +kernel
theorem dX12_here_23 : decode cX12_here 23 = .ok (.iadd, 1) := by decide +kernel
theorem dX12_here_24 : decode cX12_here 24 = .ok (.iaload, 1) := by decide +kernel
theorem dX12_here_25 : decode cX12_here 25 = .ok (.sipush 255, 3) := by decide +kernel
theorem dX12_here_28 : decode cX12_here 28 = .ok (.iand, 1) := by decide +kernel
theorem dX12_here_29 : decode cX12_here 29 = .ok (.goto 4, 3) := by decide +kernel
theorem dX12_here_32 : decode cX12_here 32 = .ok (.iconst (-1), 1) := by decide +kernel
theorem dX12_here_33 : decode cX12_here 33 = .ok (.ireturn, 1) := by decide +kernel
theorem dX12_readsNumber_0 : decode cX12_readsNumber 0 = .ok (.aload_n 0, 1) := by decide +kernel
theorem dX12_readsNumber_1 : decode cX12_readsNumber 1 = .ok (.getfield 23, 3) := by decide +kernel
theorem dX12_readsNumber_4 : decode cX12_readsNumber 4 = .ok (.iload_n 1, 1) := by decide +kernel
theorem dX12_readsNumber_5 : decode cX12_readsNumber 5 = .ok (.iconst 0, 1) := by decide +kernel
theorem dX12_readsNumber_6 : decode cX12_readsNumber 6 = .ok (.iastore, 1) := by decide +kernel
theorem dX12_readsNumber_7 : decode cX12_readsNumber 7 = .ok (.iconst 0, 1) := by decide +kernel
theorem dX12_readsNumber_8 : decode cX12_readsNumber 8 = .ok (.istore_n 3, 1) := by decide +kernel
theorem dX12_readsNumber_9 : decode cX12_readsNumber 9 = .ok (.iload_n 3, 1) := by decide +kernel
theorem dX12_readsNumber_10 : decode cX12_readsNumber 10 = .ok (.iload_n 2, 1) := by decide +kernel
theorem dX12_readsNumber_11 : decode cX12_readsNumber 11 = .ok (.if_icmp .ge 58, 3) := by decide +kernel
theorem dX12_readsNumber_14 : decode cX12_readsNumber 14 = .ok (.aload_n 0, 1) := by decide +kernel
theorem dX12_readsNumber_15 : decode cX12_readsNumber 15 = .ok (.invokevirtual 126, 3) := by decide +kernel
theorem dX12_readsNumber_18 : decode cX12_readsNumber 18 = .ok (.bipush 48, 2) := by decide +kernel
theorem dX12_readsNumber_20 : decode cX12_readsNumber 20 = .ok (.bipush 57, 2) := by decide +kernel
theorem dX12_readsNumber_22 : decode cX12_readsNumber 22 = .ok (.invokestatic 58, 3) := by decide +kernel
theorem dX12_readsNumber_25 : decode cX12_readsNumber 25 = .ok (.ifCond .ne 5, 3) := by decide +kernel
theorem dX12_readsNumber_28 : decode cX12_readsNumber 28 = .ok (.iconst 0, 1) := by decide +kernel
theorem dX12_readsNumber_29 : decode cX12_readsNumber 29 = .ok (.ireturn, 1) := by decide +kernel
theorem dX12_readsNumber_30 : decode cX12_readsNumber 30 = .ok (.aload_n 0, 1) := by decide +kernel
theorem dX12_readsNumber_31 : decode cX12_readsNumber 31 = .ok (.getfield 23, 3) := by decide +kernel
theorem dX12_readsNumber_34 : decode cX12_readsNumber 34 = .ok (.iload_n 1, 1) := by decide +kernel
theorem dX12_readsNumber_35 : decode cX12_readsNumber 35 = .ok (.bipush 10, 2) := by decide +kernel
theorem dX12_readsNumber_37 : decode cX12_readsNumber 37 = .ok (.aload_n 0, 1) := by decide +kernel
theorem dX12_readsNumber_38 : decode cX12_readsNumber 38 = .ok (.getfield 23, 3) := by decide +kernel
theorem dX12_readsNumber_41 : decode cX12_readsNumber 41 = .ok (.iload_n 1, 1) := by decide +kernel
theorem dX12_readsNumber_42 : decode cX12_readsNumber 42 = .ok (.iaload, 1) := by decide +kernel
theorem dX12_readsNumber_43 : decode cX12_readsNumber 43 = .ok (.imul, 1) := by decide +kernel
theorem dX12_readsNumber_44 : decode cX12_readsNumber 44 = .ok (.aload_n 0, 1) := by decide +kernel
theorem dX12_readsNumber_45 : decode cX12_readsNumber 45 = .ok (.invokevirtual 126, 3) := by decide +kernel
theorem dX12_readsNumber_48 : decode cX12_readsNumber 48 = .ok (.iadd, 1) := by decide +kernel
theorem dX12_readsNumber_49 : decode cX12_readsNumber 49 = .ok (.bipush 48, 2) := by decide +kernel
theorem dX12_readsNumber_51 : decode cX12_readsNumber 51 = .ok (.isub, 1) := by decide +kernel
theorem dX12_readsNumber_52 : decode cX12_readsNumber 52 = .ok (.iastore, 1) := by decide +kernel
theorem dX12_readsNumber_53 : decode cX12_readsNumber 53 = .ok (.aload_n 0, 1) := by decide +kernel
theorem dX12_readsNumber_54 : decode cX12_readsNumber 54 = .ok (.dup, 1) := by decide +kernel
theorem dX12_readsNumber_55 : decode cX12_readsNumber 55 = .ok (.getfield 117, 3) := by decide +kernel
theorem dX12_readsNumber_58 : decode cX12_readsNumber 58 = .ok (.iconst 1, 1) := by decide +kernel
theorem dX12_readsNumber_59 : decode cX12_readsNumber 59 = .ok (.iadd, 1) := by decide +kernel
theorem dX12_readsNumber_60 : decode cX12_readsNumber 60 = .ok (.putfield 117, 3) := by decide +kernel
theorem dX12_readsNumber_63 : decode cX12_readsNumber 63 = .ok (.iinc 3 1, 3) := by decide +kernel
theorem dX12_readsNumber_66 : decode cX12_readsNumber 66 = .ok (.goto (-57), 3) := by decide +kernel
theorem dX12_readsNumber_69 : decode cX12_readsNumber 69 = .ok (.iconst 1, 1) := by decide +kernel
theorem dX12_readsNumber_70 : decode cX12_readsNumber 70 = .ok (.ireturn, 1) := by decide +kernel
theorem dX12_readsStatement_0 : decode cX12_readsStatement 0 = .ok (.aload_n 0, 1) := by decide +kernel
theorem dX12_readsStatement_1 : decode cX12_readsStatement 1 = .ok (.invokevirtual 126, 3) := by decide +kernel
theorem dX12_readsStatement_4 : decode cX12_readsStatement 4 = .ok (.istore_n 1, 1) := by decide +kernel
theorem dX12_readsStatement_5 : decode cX12_readsStatement 5 = .ok (.aload_n 0, 1) := by decide +kernel
theorem dX12_readsStatement_6 : decode cX12_readsStatement 6 = .ok (.dup, 1) := by decide +kernel
theorem dX12_readsStatement_7 : decode cX12_readsStatement 7 = .ok (.getfield 117, 3) := by decide +kernel
theorem dX12_readsStatement_10 : decode cX12_readsStatement 10 = .ok (.iconst 1, 1) := by decide +kernel
theorem dX12_readsStatement_11 : decode cX12_readsStatement 11 = .ok (.iadd, 1) := by decide +kernel
theorem dX12_readsStatement_12 : decode cX12_readsStatement 12 = .ok (.putfield 117, 3) := by decide +kernel
theorem dX12_readsStatement_15 : decode cX12_readsStatement 15 = .ok (.iload_n 1, 1) := by decide +kernel
theorem dX12_readsStatement_16 : decode cX12_readsStatement 16 = .ok (.lookupswitch 188 #[(98, 44), (107, 107), (116, 80), (121, 134)], 44) := by decide +kernel
theorem dX12_readsStatement_60 : decode cX12_readsStatement 60 = .ok (.aload_n 0, 1) := by decide +kernel
theorem dX12_readsStatement_61 : decode cX12_readsStatement 61 = .ok (.iconst 0, 1) := by decide +kernel
theorem dX12_readsStatement_62 : decode cX12_readsStatement 62 = .ok (.iconst 2, 1) := by decide +kernel
theorem dX12_readsStatement_63 : decode cX12_readsStatement 63 = .ok (.invokevirtual 130, 3) := by decide +kernel
theorem dX12_readsStatement_66 : decode cX12_readsStatement 66 = .ok (.ifCond .eq 25, 3) := by decide +kernel
theorem dX12_readsStatement_69 : decode cX12_readsStatement 69 = .ok (.aload_n 0, 1) := by decide +kernel
theorem dX12_readsStatement_70 : decode cX12_readsStatement 70 = .ok (.iconst 1, 1) := by decide +kernel
theorem dX12_readsStatement_71 : decode cX12_readsStatement 71 = .ok (.iconst 2, 1) := by decide +kernel
theorem dX12_readsStatement_72 : decode cX12_readsStatement 72 = .ok (.invokevirtual 130, 3) := by decide +kernel
theorem dX12_readsStatement_75 : decode cX12_readsStatement 75 = .ok (.ifCond .eq 16, 3) := by decide +kernel
theorem dX12_readsStatement_78 : decode cX12_readsStatement 78 = .ok (.aload_n 0, 1) := by decide +kernel
theorem dX12_readsStatement_79 : decode cX12_readsStatement 79 = .ok (.iconst 2, 1) := by decide +kernel
theorem dX12_readsStatement_80 : decode cX12_readsStatement 80 = .ok (.iconst 1, 1) := by decide +kernel
theorem dX12_readsStatement_81 : decode cX12_readsStatement 81 = .ok (.invokevirtual 130, 3) := by decide +kernel
theorem dX12_readsStatement_84 : decode cX12_readsStatement 84 = .ok (.ifCond .eq 7, 3) := by decide +kernel
theorem dX12_readsStatement_87 : decode cX12_readsStatement 87 = .ok (.iconst 1, 1) := by decide +kernel
theorem dX12_readsStatement_88 : decode cX12_readsStatement 88 = .ok (.goto 4, 3) := by decide +kernel
theorem dX12_readsStatement_91 : decode cX12_readsStatement 91 = .ok (.iconst 0, 1) := by decide +kernel
theorem dX12_readsStatement_92 : decode cX12_readsStatement 92 = .ok (.istore_n 2, 1) := by decide +kernel
theorem dX12_readsStatement_93 : decode cX12_readsStatement 93 = .ok (.goto 123, 3) := by decide +kernel
theorem dX12_readsStatement_96 : decode cX12_readsStatement 96 = .ok (.aload_n 0, 1) := by decide +kernel
theorem dX12_readsStatement_97 : decode cX12_readsStatement 97 = .ok (.iconst 0, 1) := by decide +kernel
theorem dX12_readsStatement_98 : decode cX12_readsStatement 98 = .ok (.iconst 1, 1) := by decide +kernel
theorem dX12_readsStatement_99 : decode cX12_readsStatement 99 = .ok (.invokevirtual 130, 3) := by decide +kernel
theorem dX12_readsStatement_102 : decode cX12_readsStatement 102 = .ok (.ifCond .eq 16, 3) := by decide +kernel
theorem dX12_readsStatement_105 : decode cX12_readsStatement 105 = .ok (.aload_n 0, 1) := by decide +kernel
theorem dX12_readsStatement_106 : decode cX12_readsStatement 106 = .ok (.iconst 1, 1) := by decide +kernel
theorem dX12_readsStatement_107 : decode cX12_readsStatement 107 = .ok (.iconst 2, 1) := by decide +kernel
theorem dX12_readsStatement_108 : decode cX12_readsStatement 108 = .ok (.invokevirtual 130, 3) := by decide +kernel
theorem dX12_readsStatement_111 : decode cX12_readsStatement 111 = .ok (.ifCond .eq 7, 3) := by decide +kernel
theorem dX12_readsStatement_114 : decode cX12_readsStatement 114 = .ok (.iconst 1, 1) := by decide +kernel
theorem dX12_readsStatement_115 : decode cX12_readsStatement 115 = .ok (.goto 4, 3) := by decide +kernel
theorem dX12_readsStatement_118 : decode cX12_readsStatement 118 = .ok (.iconst 0, 1) := by decide +kernel
theorem dX12_readsStatement_119 : decode cX12_readsStatement 119 = .ok (.istore_n 2, 1) := by decide +kernel
theorem dX12_readsStatement_120 : decode cX12_readsStatement 120 = .ok (.goto 96, 3) := by decide +kernel
theorem dX12_readsStatement_123 : decode cX12_readsStatement 123 = .ok (.aload_n 0, 1) := by decide +kernel
theorem dX12_readsStatement_124 : decode cX12_readsStatement 124 = .ok (.iconst 0, 1) := by decide +kernel
theorem dX12_readsStatement_125 : decode cX12_readsStatement 125 = .ok (.iconst 1, 1) := by decide +kernel
theorem dX12_readsStatement_126 : decode cX12_readsStatement 126 = .ok (.invokevirtual 130, 3) := by decide +kernel
theorem dX12_readsStatement_129 : decode cX12_readsStatement 129 = .ok (.ifCond .eq 16, 3) := by decide +kernel
theorem dX12_readsStatement_132 : decode cX12_readsStatement 132 = .ok (.aload_n 0, 1) := by decide +kernel
theorem dX12_readsStatement_133 : decode cX12_readsStatement 133 = .ok (.iconst 1, 1) := by decide +kernel
theorem dX12_readsStatement_134 : decode cX12_readsStatement 134 = .ok (.iconst 1, 1) := by decide +kernel
theorem dX12_readsStatement_135 : decode cX12_readsStatement 135 = .ok (.invokevirtual 130, 3) := by decide +kernel
theorem dX12_readsStatement_138 : decode cX12_readsStatement 138 = .ok (.ifCond .eq 7, 3) := by decide +kernel
theorem dX12_readsStatement_141 : decode cX12_readsStatement 141 = .ok (.iconst 1, 1) := by decide +kernel
theorem dX12_readsStatement_142 : decode cX12_readsStatement 142 = .ok (.goto 4, 3) := by decide +kernel
theorem dX12_readsStatement_145 : decode cX12_readsStatement 145 = .ok (.iconst 0, 1) := by decide +kernel
theorem dX12_readsStatement_146 : decode cX12_readsStatement 146 = .ok (.istore_n 2, 1) := by decide +kernel
theorem dX12_readsStatement_147 : decode cX12_readsStatement 147 = .ok (.goto 69, 3) := by decide +kernel
theorem dX12_readsStatement_150 : decode cX12_readsStatement 150 = .ok (.aload_n 0, 1) := by decide +kernel
theorem dX12_readsStatement_151 : decode cX12_readsStatement 151 = .ok (.iconst 0, 1) := by decide +kernel
theorem dX12_readsStatement_152 : decode cX12_readsStatement 152 = .ok (.iconst 1, 1) := by decide +kernel
theorem dX12_readsStatement_153 : decode cX12_readsStatement 153 = .ok (.invokevirtual 130, 3) := by decide +kernel
theorem dX12_readsStatement_156 : decode cX12_readsStatement 156 = .ok (.ifCond .eq 43, 3) := by decide +kernel
theorem dX12_readsStatement_159 : decode cX12_readsStatement 159 = .ok (.aload_n 0, 1) := by decide +kernel
theorem dX12_readsStatement_160 : decode cX12_readsStatement 160 = .ok (.iconst 1, 1) := by decide +kernel
theorem dX12_readsStatement_161 : decode cX12_readsStatement 161 = .ok (.iconst 1, 1) := by decide +kernel
theorem dX12_readsStatement_162 : decode cX12_readsStatement 162 = .ok (.invokevirtual 130, 3) := by decide +kernel
theorem dX12_readsStatement_165 : decode cX12_readsStatement 165 = .ok (.ifCond .eq 34, 3) := by decide +kernel
theorem dX12_readsStatement_168 : decode cX12_readsStatement 168 = .ok (.aload_n 0, 1) := by decide +kernel
theorem dX12_readsStatement_169 : decode cX12_readsStatement 169 = .ok (.iconst 2, 1) := by decide +kernel
theorem dX12_readsStatement_170 : decode cX12_readsStatement 170 = .ok (.iconst 1, 1) := by decide +kernel
theorem dX12_readsStatement_171 : decode cX12_readsStatement 171 = .ok (.invokevirtual 130, 3) := by decide +kernel
theorem dX12_readsStatement_174 : decode cX12_readsStatement 174 = .ok (.ifCond .eq 25, 3) := by decide +kernel
theorem dX12_readsStatement_177 : decode cX12_readsStatement 177 = .ok (.aload_n 0, 1) := by decide +kernel
theorem dX12_readsStatement_178 : decode cX12_readsStatement 178 = .ok (.iconst 3, 1) := by decide +kernel
theorem dX12_readsStatement_179 : decode cX12_readsStatement 179 = .ok (.iconst 2, 1) := by decide +kernel
theorem dX12_readsStatement_180 : decode cX12_readsStatement 180 = .ok (.invokevirtual 130, 3) := by decide +kernel
theorem dX12_readsStatement_183 : decode cX12_readsStatement 183 = .ok (.ifCond .eq 16, 3) := by decide +kernel
theorem dX12_readsStatement_186 : decode cX12_readsStatement 186 = .ok (.aload_n 0, 1) := by decide +kernel
theorem dX12_readsStatement_187 : decode cX12_readsStatement 187 = .ok (.iconst 4, 1) := by decide +kernel
theorem dX12_readsStatement_188 : decode cX12_readsStatement 188 = .ok (.iconst 2, 1) := by decide +kernel
theorem dX12_readsStatement_189 : decode cX12_readsStatement 189 = .ok (.invokevirtual 130, 3) := by decide +kernel
theorem dX12_readsStatement_192 : decode cX12_readsStatement 192 = .ok (.ifCond .eq 7, 3) := by decide +kernel
theorem dX12_readsStatement_195 : decode cX12_readsStatement 195 = .ok (.iconst 1, 1) := by decide +kernel
theorem dX12_readsStatement_196 : decode cX12_readsStatement 196 = .ok (.goto 4, 3) := by decide +kernel
theorem dX12_readsStatement_199 : decode cX12_readsStatement 199 = .ok (.iconst 0, 1) := by decide +kernel
theorem dX12_readsStatement_200 : decode cX12_readsStatement 200 = .ok (.istore_n 2, 1) := by decide +kernel
theorem dX12_readsStatement_201 : decode cX12_readsStatement 201 = .ok (.goto 15, 3) := by decide +kernel
theorem dX12_readsStatement_204 : decode cX12_readsStatement 204 = .ok (.aload_n 0, 1) := by decide +kernel
theorem dX12_readsStatement_205 : decode cX12_readsStatement 205 = .ok (.dup, 1) := by decide +kernel
theorem dX12_readsStatement_206 : decode cX12_readsStatement 206 = .ok (.getfield 117, 3) := by decide +kernel
theorem dX12_readsStatement_209 : decode cX12_readsStatement 209 = .ok (.iconst 1, 1) := by decide +kernel
theorem dX12_readsStatement_210 : decode cX12_readsStatement 210 = .ok (.isub, 1) := by decide +kernel
theorem dX12_readsStatement_211 : decode cX12_readsStatement 211 = .ok (.putfield 117, 3) := by decide +kernel
theorem dX12_readsStatement_214 : decode cX12_readsStatement 214 = .ok (.iconst 0, 1) := by decide +kernel
theorem dX12_readsStatement_215 : decode cX12_readsStatement 215 = .ok (.ireturn, 1) := by decide +kernel
theorem dX12_readsStatement_216 : decode cX12_readsStatement 216 = .ok (.iload_n 2, 1) := by decide +kernel
theorem dX12_readsStatement_217 : decode cX12_readsStatement 217 = .ok (.ifCond .eq 12, 3) := by decide +kernel
theorem dX12_readsStatement_220 : decode cX12_readsStatement 220 = .ok (.aload_n 0, 1) := by decide +kernel
theorem dX12_readsStatement_221 : decode cX12_readsStatement 221 = .ok (.invokevirtual 126, 3) := by decide +kernel
theorem dX12_readsStatement_224 : decode cX12_readsStatement 224 = .ok (.bipush 59, 2) := by decide +kernel
theorem dX12_readsStatement_226 : decode cX12_readsStatement 226 = .ok (.if_icmp .eq 5, 3) := by decide +kernel
theorem dX12_readsStatement_229 : decode cX12_readsStatement 229 = .ok (.iconst 0, 1) := by decide +kernel
theorem dX12_readsStatement_230 : decode cX12_readsStatement 230 = .ok (.ireturn, 1) := by decide +kernel
theorem dX12_readsStatement_231 : decode cX12_readsStatement 231 = .ok (.aload_n 0, 1) := by decide +kernel
theorem dX12_readsStatement_232 : decode cX12_readsStatement 232 = .ok (.dup, 1) := by decide +kernel
theorem dX12_readsStatement_233 : decode cX12_readsStatement 233 = .ok (.getfield 117, 3) := by decide +kernel
theorem dX12_readsStatement_236 : decode cX12_readsStatement 236 = .ok (.iconst 1, 1) := by decide +kernel
theorem dX12_readsStatement_237 : decode cX12_readsStatement 237 = .ok (.iadd, 1) := by decide +kernel
theorem dX12_readsStatement_238 : decode cX12_readsStatement 238 = .ok (.putfield 117, 3) := by decide +kernel
theorem dX12_readsStatement_241 : decode cX12_readsStatement 241 = .ok (.iconst 1, 1) := by decide +kernel
theorem dX12_readsStatement_242 : decode cX12_readsStatement 242 = .ok (.ireturn, 1) := by decide +kernel
theorem dX12_addsBlade_0 : decode cX12_addsBlade 0 = .ok (.aload_n 0, 1) := by decide +kernel
theorem dX12_addsBlade_1 : decode cX12_addsBlade 1 = .ok (.getfield 9, 3) := by decide +kernel
theorem dX12_addsBlade_4 : decode cX12_addsBlade 4 = .ok (.aload_n 0, 1) := by decide +kernel
theorem dX12_addsBlade_5 : decode cX12_addsBlade 5 = .ok (.getfield 9, 3) := by decide +kernel
theorem dX12_addsBlade_8 : decode cX12_addsBlade 8 = .ok (.iconst 0, 1) := by decide +kernel
theorem dX12_addsBlade_9 : decode cX12_addsBlade 9 = .ok (.iaload, 1) := by decide +kernel
theorem dX12_addsBlade_10 : decode cX12_addsBlade 10 = .ok (.iconst 0, 1) := by decide +kernel
theorem dX12_addsBlade_11 : decode cX12_addsBlade 11 = .ok (.invokestatic 51, 3) := by decide +kernel
theorem dX12_addsBlade_14 : decode cX12_addsBlade 14 = .ok (.iload_n 1, 1) := by decide +kernel
theorem dX12_addsBlade_15 : decode cX12_addsBlade 15 = .ok (.iastore, 1) := by decide +kernel
theorem dX12_addsBlade_16 : decode cX12_addsBlade 16 = .ok (.aload_n 0, 1) := by decide +kernel
theorem dX12_addsBlade_17 : decode cX12_addsBlade 17 = .ok (.getfield 9, 3) := by decide +kernel
theorem dX12_addsBlade_20 : decode cX12_addsBlade 20 = .ok (.aload_n 0, 1) := by decide +kernel
theorem dX12_addsBlade_21 : decode cX12_addsBlade 21 = .ok (.getfield 9, 3) := by decide +kernel
theorem dX12_addsBlade_24 : decode cX12_addsBlade 24 = .ok (.iconst 0, 1) := by decide +kernel
theorem dX12_addsBlade_25 : decode cX12_addsBlade 25 = .ok (.iaload, 1) := by decide +kernel
theorem dX12_addsBlade_26 : decode cX12_addsBlade 26 = .ok (.iconst 1, 1) := by decide +kernel
theorem dX12_addsBlade_27 : decode cX12_addsBlade 27 = .ok (.invokestatic 51, 3) := by decide +kernel
theorem dX12_addsBlade_30 : decode cX12_addsBlade 30 = .ok (.iload_n 2, 1) := by decide +kernel
theorem dX12_addsBlade_31 : decode cX12_addsBlade 31 = .ok (.iastore, 1) := by decide +kernel
theorem dX12_addsBlade_32 : decode cX12_addsBlade 32 = .ok (.aload_n 0, 1) := by decide +kernel
theorem dX12_addsBlade_33 : decode cX12_addsBlade 33 = .ok (.getfield 9, 3) := by decide +kernel
theorem dX12_addsBlade_36 : decode cX12_addsBlade 36 = .ok (.aload_n 0, 1) := by decide +kernel
theorem dX12_addsBlade_37 : decode cX12_addsBlade 37 = .ok (.getfield 9, 3) := by decide +kernel
theorem dX12_addsBlade_40 : decode cX12_addsBlade 40 = .ok (.iconst 0, 1) := by decide +kernel
theorem dX12_addsBlade_41 : decode cX12_addsBlade 41 = .ok (.iaload, 1) := by decide +kernel
theorem dX12_addsBlade_42 : decode cX12_addsBlade 42 = .ok (.iconst 2, 1) := by decide +kernel
theorem dX12_addsBlade_43 : decode cX12_addsBlade 43 = .ok (.invokestatic 51, 3) := by decide +kernel
theorem dX12_addsBlade_46 : decode cX12_addsBlade 46 = .ok (.iload_n 3, 1) := by decide +kernel
theorem dX12_addsBlade_47 : decode cX12_addsBlade 47 = .ok (.iastore, 1) := by decide +kernel
theorem dX12_addsBlade_48 : decode cX12_addsBlade 48 = .ok (.aload_n 0, 1) := by decide +kernel
theorem dX12_addsBlade_49 : decode cX12_addsBlade 49 = .ok (.getfield 9, 3) := by decide +kernel
theorem dX12_addsBlade_52 : decode cX12_addsBlade 52 = .ok (.aload_n 0, 1) := by decide +kernel
theorem dX12_addsBlade_53 : decode cX12_addsBlade 53 = .ok (.getfield 9, 3) := by decide +kernel
theorem dX12_addsBlade_56 : decode cX12_addsBlade 56 = .ok (.iconst 0, 1) := by decide +kernel
theorem dX12_addsBlade_57 : decode cX12_addsBlade 57 = .ok (.iaload, 1) := by decide +kernel
theorem dX12_addsBlade_58 : decode cX12_addsBlade 58 = .ok (.iconst 3, 1) := by decide +kernel
theorem dX12_addsBlade_59 : decode cX12_addsBlade 59 = .ok (.invokestatic 51, 3) := by decide +kernel
theorem dX12_addsBlade_62 : decode cX12_addsBlade 62 = .ok (.iconst 0, 1) := by decide +kernel
theorem dX12_addsBlade_63 : decode cX12_addsBlade 63 = .ok (.iastore, 1) := by decide +kernel
theorem dX12_addsBlade_64 : decode cX12_addsBlade 64 = .ok (.aload_n 0, 1) := by decide +kernel
theorem dX12_addsBlade_65 : decode cX12_addsBlade 65 = .ok (.getfield 9, 3) := by decide +kernel
theorem dX12_addsBlade_68 : decode cX12_addsBlade 68 = .ok (.iconst 0, 1) := by decide +kernel
theorem dX12_addsBlade_69 : decode cX12_addsBlade 69 = .ok (.dup2, 1) := by decide +kernel
theorem dX12_addsBlade_70 : decode cX12_addsBlade 70 = .ok (.iaload, 1) := by decide +kernel
theorem dX12_addsBlade_71 : decode cX12_addsBlade 71 = .ok (.iconst 1, 1) := by decide +kernel
theorem dX12_addsBlade_72 : decode cX12_addsBlade 72 = .ok (.iadd, 1) := by decide +kernel
theorem dX12_addsBlade_73 : decode cX12_addsBlade 73 = .ok (.iastore, 1) := by decide +kernel
theorem dX12_addsBlade_74 : decode cX12_addsBlade 74 = .ok (.return_, 1) := by decide +kernel
theorem dX12_isBladeLike_0 : decode cX12_isBladeLike 0 = .ok (.iload_n 0, 1) := by decide +kernel
theorem dX12_isBladeLike_1 : decode cX12_isBladeLike 1 = .ok (.iconst 1, 1) := by decide +kernel
theorem dX12_isBladeLike_2 : decode cX12_isBladeLike 2 = .ok (.bipush 24, 2) := by decide +kernel
theorem dX12_isBladeLike_4 : decode cX12_isBladeLike 4 = .ok (.invokestatic 58, 3) := by decide +kernel
theorem dX12_isBladeLike_7 : decode cX12_isBladeLike 7 = .ok (.ifCond .eq 27, 3) := by decide +kernel
theorem dX12_isBladeLike_10 : decode cX12_isBladeLike 10 = .ok (.iload_n 1, 1) := by decide +kernel
theorem dX12_isBladeLike_11 : decode cX12_isBladeLike 11 = .ok (.iconst 1, 1) := by decide +kernel
theorem dX12_isBladeLike_12 : decode cX12_isBladeLike 12 = .ok (.bipush 24, 2) := by decide +kernel
theorem dX12_isBladeLike_14 : decode cX12_isBladeLike 14 = .ok (.invokestatic 58, 3) := by decide +kernel
theorem dX12_isBladeLike_17 : decode cX12_isBladeLike 17 = .ok (.ifCond .eq 17, 3) := by decide +kernel
theorem dX12_isBladeLike_20 : decode cX12_isBladeLike 20 = .ok (.iload_n 2, 1) := by decide +kernel
theorem dX12_isBladeLike_21 : decode cX12_isBladeLike 21 = .ok (.iconst 0, 1) := by decide +kernel
theorem dX12_isBladeLike_22 : decode cX12_isBladeLike 22 = .ok (.bipush 9, 2) := by decide +kernel
theorem dX12_isBladeLike_24 : decode cX12_isBladeLike 24 = .ok (.invokestatic 58, 3) := by decide +kernel
theorem dX12_isBladeLike_27 : decode cX12_isBladeLike 27 = .ok (.ifCond .eq 7, 3) := by decide +kernel
theorem dX12_isBladeLike_30 : decode cX12_isBladeLike 30 = .ok (.iconst 1, 1) := by decide +kernel
theorem dX12_isBladeLike_31 : decode cX12_isBladeLike 31 = .ok (.goto 4, 3) := by decide +kernel
theorem dX12_isBladeLike_34 : decode cX12_isBladeLike 34 = .ok (.iconst 0, 1) := by decide +kernel
theorem dX12_isBladeLike_35 : decode cX12_isBladeLike 35 = .ok (.ireturn, 1) := by decide +kernel
theorem dX12_addsThumbs_0 : decode cX12_addsThumbs 0 = .ok (.aload_n 0, 1) := by decide +kernel
theorem dX12_addsThumbs_1 : decode cX12_addsThumbs 1 = .ok (.getfield 9, 3) := by decide +kernel
theorem dX12_addsThumbs_4 : decode cX12_addsThumbs 4 = .ok (.aload_n 0, 1) := by decide +kernel
theorem dX12_addsThumbs_5 : decode cX12_addsThumbs 5 = .ok (.getfield 9, 3) := by decide +kernel
theorem dX12_addsThumbs_8 : decode cX12_addsThumbs 8 = .ok (.iconst 1, 1) := by decide +kernel
theorem dX12_addsThumbs_9 : decode cX12_addsThumbs 9 = .ok (.iaload, 1) := by decide +kernel
theorem dX12_addsThumbs_10 : decode cX12_addsThumbs 10 = .ok (.iconst 0, 1) := by decide +kernel
theorem dX12_addsThumbs_11 : decode cX12_addsThumbs 11 = .ok (.invokestatic 75, 3) := by decide +kernel
theorem dX12_addsThumbs_14 : decode cX12_addsThumbs 14 = .ok (.iload_n 1, 1) := by decide +kernel
theorem dX12_addsThumbs_15 : decode cX12_addsThumbs 15 = .ok (.iastore, 1) := by decide +kernel
theorem dX12_addsThumbs_16 : decode cX12_addsThumbs 16 = .ok (.aload_n 0, 1) := by decide +kernel
theorem dX12_addsThumbs_17 : decode cX12_addsThumbs 17 = .ok (.getfield 9, 3) := by decide +kernel
theorem dX12_addsThumbs_20 : decode cX12_addsThumbs 20 = .ok (.aload_n 0, 1) := by decide +kernel
theorem dX12_addsThumbs_21 : decode cX12_addsThumbs 21 = .ok (.getfield 9, 3) := by decide +kernel
theorem dX12_addsThumbs_24 : decode cX12_addsThumbs 24 = .ok (.iconst 1, 1) := by decide +kernel
theorem dX12_addsThumbs_25 : decode cX12_addsThumbs 25 = .ok (.iaload, 1) := by decide +kernel
theorem dX12_addsThumbs_26 : decode cX12_addsThumbs 26 = .ok (.iconst 1, 1) := by decide +kernel
theorem dX12_addsThumbs_27 : decode cX12_addsThumbs 27 = .ok (.invokestatic 75, 3) := by decide +kernel
theorem dX12_addsThumbs_30 : decode cX12_addsThumbs 30 = .ok (.iload_n 2, 1) := by decide +kernel
theorem dX12_addsThumbs_31 : decode cX12_addsThumbs 31 = .ok (.iastore, 1) := by decide +kernel
theorem dX12_addsThumbs_32 : decode cX12_addsThumbs 32 = .ok (.aload_n 0, 1) := by decide +kernel
theorem dX12_addsThumbs_33 : decode cX12_addsThumbs 33 = .ok (.getfield 9, 3) := by decide +kernel
theorem dX12_addsThumbs_36 : decode cX12_addsThumbs 36 = .ok (.iconst 1, 1) := by decide +kernel
theorem dX12_addsThumbs_37 : decode cX12_addsThumbs 37 = .ok (.dup2, 1) := by decide +kernel
theorem dX12_addsThumbs_38 : decode cX12_addsThumbs 38 = .ok (.iaload, 1) := by decide +kernel
theorem dX12_addsThumbs_39 : decode cX12_addsThumbs 39 = .ok (.iconst 1, 1) := by decide +kernel
theorem dX12_addsThumbs_40 : decode cX12_addsThumbs 40 = .ok (.iadd, 1) := by decide +kernel
theorem dX12_addsThumbs_41 : decode cX12_addsThumbs 41 = .ok (.iastore, 1) := by decide +kernel
theorem dX12_addsThumbs_42 : decode cX12_addsThumbs 42 = .ok (.return_, 1) := by decide +kernel
theorem dX12_addsBlow_0 : decode cX12_addsBlow 0 = .ok (.aload_n 0, 1) := by decide +kernel
theorem dX12_addsBlow_1 : decode cX12_addsBlow 1 = .ok (.getfield 9, 3) := by decide +kernel
theorem dX12_addsBlow_4 : decode cX12_addsBlow 4 = .ok (.aload_n 0, 1) := by decide +kernel
theorem dX12_addsBlow_5 : decode cX12_addsBlow 5 = .ok (.getfield 9, 3) := by decide +kernel
theorem dX12_addsBlow_8 : decode cX12_addsBlow 8 = .ok (.iconst 2, 1) := by decide +kernel
theorem dX12_addsBlow_9 : decode cX12_addsBlow 9 = .ok (.iaload, 1) := by decide +kernel
theorem dX12_addsBlow_10 : decode cX12_addsBlow 10 = .ok (.iconst 0, 1) := by decide +kernel
theorem dX12_addsBlow_11 : decode cX12_addsBlow 11 = .ok (.invokestatic 55, 3) := by decide +kernel
theorem dX12_addsBlow_14 : decode cX12_addsBlow 14 = .ok (.iload_n 1, 1) := by decide +kernel
theorem dX12_addsBlow_15 : decode cX12_addsBlow 15 = .ok (.iastore, 1) := by decide +kernel
theorem dX12_addsBlow_16 : decode cX12_addsBlow 16 = .ok (.aload_n 0, 1) := by decide +kernel
theorem dX12_addsBlow_17 : decode cX12_addsBlow 17 = .ok (.getfield 9, 3) := by decide +kernel
theorem dX12_addsBlow_20 : decode cX12_addsBlow 20 = .ok (.aload_n 0, 1) := by decide +kernel
theorem dX12_addsBlow_21 : decode cX12_addsBlow 21 = .ok (.getfield 9, 3) := by decide +kernel
theorem dX12_addsBlow_24 : decode cX12_addsBlow 24 = .ok (.iconst 2, 1) := by decide +kernel
theorem dX12_addsBlow_25 : decode cX12_addsBlow 25 = .ok (.iaload, 1) := by decide +kernel
theorem dX12_addsBlow_26 : decode cX12_addsBlow 26 = .ok (.iconst 1, 1) := by decide +kernel
theorem dX12_addsBlow_27 : decode cX12_addsBlow 27 = .ok (.invokestatic 55, 3) := by decide +kernel
theorem dX12_addsBlow_30 : decode cX12_addsBlow 30 = .ok (.iload_n 2, 1) := by decide +kernel
theorem dX12_addsBlow_31 : decode cX12_addsBlow 31 = .ok (.iastore, 1) := by decide +kernel
theorem dX12_addsBlow_32 : decode cX12_addsBlow 32 = .ok (.aload_n 0, 1) := by decide +kernel
theorem dX12_addsBlow_33 : decode cX12_addsBlow 33 = .ok (.getfield 9, 3) := by decide +kernel
theorem dX12_addsBlow_36 : decode cX12_addsBlow 36 = .ok (.iconst 2, 1) := by decide +kernel
theorem dX12_addsBlow_37 : decode cX12_addsBlow 37 = .ok (.dup2, 1) := by decide +kernel
theorem dX12_addsBlow_38 : decode cX12_addsBlow 38 = .ok (.iaload, 1) := by decide +kernel
theorem dX12_addsBlow_39 : decode cX12_addsBlow 39 = .ok (.iconst 1, 1) := by decide +kernel
theorem dX12_addsBlow_40 : decode cX12_addsBlow 40 = .ok (.iadd, 1) := by decide +kernel
theorem dX12_addsBlow_41 : decode cX12_addsBlow 41 = .ok (.iastore, 1) := by decide +kernel
theorem dX12_addsBlow_42 : decode cX12_addsBlow 42 = .ok (.return_, 1) := by decide +kernel
theorem dX12_isDone_0 : decode cX12_isDone 0 = .ok (.aload_n 0, 1) := by decide +kernel
theorem dX12_isDone_1 : decode cX12_isDone 1 = .ok (.getfield 23, 3) := by decide +kernel
theorem dX12_isDone_4 : decode cX12_isDone 4 = .ok (.iconst 0, 1) := by decide +kernel
theorem dX12_isDone_5 : decode cX12_isDone 5 = .ok (.iaload, 1) := by decide +kernel
theorem dX12_isDone_6 : decode cX12_isDone 6 = .ok (.istore_n 2, 1) := by decide +kernel
theorem dX12_isDone_7 : decode cX12_isDone 7 = .ok (.aload_n 0, 1) := by decide +kernel
theorem dX12_isDone_8 : decode cX12_isDone 8 = .ok (.getfield 23, 3) := by decide +kernel
theorem dX12_isDone_11 : decode cX12_isDone 11 = .ok (.iconst 1, 1) := by decide +kernel
theorem dX12_isDone_12 : decode cX12_isDone 12 = .ok (.iaload, 1) := by decide +kernel
theorem dX12_isDone_13 : decode cX12_isDone 13 = .ok (.istore_n 3, 1) := by decide +kernel
theorem dX12_isDone_14 : decode cX12_isDone 14 = .ok (.iload_n 1, 1) := by decide +kernel
theorem dX12_isDone_15 : decode cX12_isDone 15 = .ok (.lookupswitch 127 #[(98, 33), (107, 100), (116, 74)], 33) := by decide +kernel
theorem dX12_isDone_48 : decode cX12_isDone 48 = .ok (.iload_n 2, 1) := by decide +kernel
theorem dX12_isDone_49 : decode cX12_isDone 49 = .ok (.iload_n 3, 1) := by decide +kernel
theorem dX12_isDone_50 : decode cX12_isDone 50 = .ok (.aload_n 0, 1) := by decide +kernel
theorem dX12_isDone_51 : decode cX12_isDone 51 = .ok (.getfield 23, 3) := by decide +kernel
theorem dX12_isDone_54 : decode cX12_isDone 54 = .ok (.iconst 2, 1) := by decide +kernel
theorem dX12_isDone_55 : decode cX12_isDone 55 = .ok (.iaload, 1) := by decide +kernel
theorem dX12_isDone_56 : decode cX12_isDone 56 = .ok (.invokestatic 134, 3) := by decide +kernel
theorem dX12_isDone_59 : decode cX12_isDone 59 = .ok (.ifCond .eq 14, 3) := by decide +kernel
theorem dX12_isDone_62 : decode cX12_isDone 62 = .ok (.aload_n 0, 1) := by decide +kernel
theorem dX12_isDone_63 : decode cX12_isDone 63 = .ok (.getfield 9, 3) := by decide +kernel
theorem dX12_isDone_66 : decode cX12_isDone 66 = .ok (.iconst 0, 1) := by decide +kernel
theorem dX12_isDone_67 : decode cX12_isDone 67 = .ok (.iaload, 1) := by decide +kernel
theorem dX12_isDone_68 : decode cX12_isDone 68 = .ok (.bipush 6, 2) := by decide +kernel
theorem dX12_isDone_70 : decode cX12_isDone 70 = .ok (.if_icmp .ne 5, 3) := by decide +kernel
theorem dX12_isDone_73 : decode cX12_isDone 73 = .ok (.iconst 0, 1) := by decide +kernel
theorem dX12_isDone_74 : decode cX12_isDone 74 = .ok (.ireturn, 1) := by decide +kernel
theorem dX12_isDone_75 : decode cX12_isDone 75 = .ok (.aload_n 0, 1) := by decide +kernel
theorem dX12_isDone_76 : decode cX12_isDone 76 = .ok (.iload_n 2, 1) := by decide +kernel
theorem dX12_isDone_77 : decode cX12_isDone 77 = .ok (.iload_n 3, 1) := by decide +kernel
theorem dX12_isDone_78 : decode cX12_isDone 78 = .ok (.aload_n 0, 1) := by decide +kernel
theorem dX12_isDone_79 : decode cX12_isDone 79 = .ok (.getfield 23, 3) := by decide +kernel
theorem dX12_isDone_82 : decode cX12_isDone 82 = .ok (.iconst 2, 1) := by decide +kernel
theorem dX12_isDone_83 : decode cX12_isDone 83 = .ok (.iaload, 1) := by decide +kernel
theorem dX12_isDone_84 : decode cX12_isDone 84 = .ok (.invokevirtual 137, 3) := by decide +kernel
theorem dX12_isDone_87 : decode cX12_isDone 87 = .ok (.iconst 1, 1) := by decide +kernel
theorem dX12_isDone_88 : decode cX12_isDone 88 = .ok (.ireturn, 1) := by decide +kernel
theorem dX12_isDone_89 : decode cX12_isDone 89 = .ok (.iload_n 3, 1) := by decide +kernel
theorem dX12_isDone_90 : decode cX12_isDone 90 = .ok (.bipush 60, 2) := by decide +kernel
theorem dX12_isDone_92 : decode cX12_isDone 92 = .ok (.if_icmp .gt 13, 3) := by decide +kernel
theorem dX12_isDone_95 : decode cX12_isDone 95 = .ok (.aload_n 0, 1) := by decide +kernel
theorem dX12_isDone_96 : decode cX12_isDone 96 = .ok (.getfield 9, 3) := by decide +kernel
theorem dX12_isDone_99 : decode cX12_isDone 99 = .ok (.iconst 1, 1) := by decide +kernel
theorem dX12_isDone_100 : decode cX12_isDone 100 = .ok (.iaload, 1) := by decide +kernel
theorem dX12_isDone_101 : decode cX12_isDone 101 = .ok (.iconst 4, 1) := by decide +kernel
theorem dX12_isDone_102 : decode cX12_isDone 102 = .ok (.if_icmp .ne 5, 3) := by decide +kernel
theorem dX12_isDone_105 : decode cX12_isDone 105 = .ok (.iconst 0, 1) := by decide +kernel
theorem dX12_isDone_106 : decode cX12_isDone 106 = .ok (.ireturn, 1) := by decide +kernel
theorem dX12_isDone_107 : decode cX12_isDone 107 = .ok (.aload_n 0, 1) := by decide +kernel
theorem dX12_isDone_108 : decode cX12_isDone 108 = .ok (.iload_n 2, 1) := by decide +kernel
theorem dX12_isDone_109 : decode cX12_isDone 109 = .ok (.iload_n 3, 1) := by decide +kernel
theorem dX12_isDone_110 : decode cX12_isDone 110 = .ok (.invokevirtual 141, 3) := by decide +kernel
theorem dX12_isDone_113 : decode cX12_isDone 113 = .ok (.iconst 1, 1) := by decide +kernel
theorem dX12_isDone_114 : decode cX12_isDone 114 = .ok (.ireturn, 1) := by decide +kernel
theorem dX12_isDone_115 : decode cX12_isDone 115 = .ok (.iload_n 2, 1) := by decide +kernel
theorem dX12_isDone_116 : decode cX12_isDone 116 = .ok (.bipush 8, 2) := by decide +kernel
theorem dX12_isDone_118 : decode cX12_isDone 118 = .ok (.if_icmp .ge 14, 3) := by decide +kernel
theorem dX12_isDone_121 : decode cX12_isDone 121 = .ok (.aload_n 0, 1) := by decide +kernel
theorem dX12_isDone_122 : decode cX12_isDone 122 = .ok (.getfield 9, 3) := by decide +kernel
theorem dX12_isDone_125 : decode cX12_isDone 125 = .ok (.iconst 2, 1) := by decide +kernel
theorem dX12_isDone_126 : decode cX12_isDone 126 = .ok (.iaload, 1) := by decide +kernel
theorem dX12_isDone_127 : decode cX12_isDone 127 = .ok (.bipush 6, 2) := by decide +kernel
theorem dX12_isDone_129 : decode cX12_isDone 129 = .ok (.if_icmp .ne 5, 3) := by decide +kernel
theorem dX12_isDone_132 : decode cX12_isDone 132 = .ok (.iconst 0, 1) := by decide +kernel
theorem dX12_isDone_133 : decode cX12_isDone 133 = .ok (.ireturn, 1) := by decide +kernel
theorem dX12_isDone_134 : decode cX12_isDone 134 = .ok (.aload_n 0, 1) := by decide +kernel
theorem dX12_isDone_135 : decode cX12_isDone 135 = .ok (.iload_n 2, 1) := by decide +kernel
theorem dX12_isDone_136 : decode cX12_isDone 136 = .ok (.iload_n 3, 1) := by decide +kernel
theorem dX12_isDone_137 : decode cX12_isDone 137 = .ok (.invokevirtual 145, 3) := by decide +kernel
theorem dX12_isDone_140 : decode cX12_isDone 140 = .ok (.iconst 1, 1) := by decide +kernel
theorem dX12_isDone_141 : decode cX12_isDone 141 = .ok (.ireturn, 1) := by decide +kernel
theorem dX12_isDone_142 : decode cX12_isDone 142 = .ok (.aload_n 0, 1) := by decide +kernel
theorem dX12_isDone_143 : decode cX12_isDone 143 = .ok (.iload_n 2, 1) := by decide +kernel
theorem dX12_isDone_144 : decode cX12_isDone 144 = .ok (.iload_n 3, 1) := by decide +kernel
theorem dX12_isDone_145 : decode cX12_isDone 145 = .ok (.aload_n 0, 1) := by decide +kernel
theorem dX12_isDone_146 : decode cX12_isDone 146 = .ok (.getfield 23, 3) := by decide +kernel
theorem dX12_isDone_149 : decode cX12_isDone 149 = .ok (.iconst 2, 1) := by decide +kernel
theorem dX12_isDone_150 : decode cX12_isDone 150 = .ok (.iaload, 1) := by decide +kernel
theorem dX12_isDone_151 : decode cX12_isDone 151 = .ok (.invokevirtual 148, 3) := by decide +kernel
theorem dX12_isDone_154 : decode cX12_isDone 154 = .ok (.ifCond .eq 33, 3) := by decide +kernel
theorem dX12_isDone_157 : decode cX12_isDone 157 = .ok (.aload_n 0, 1) := by decide +kernel
theorem dX12_isDone_158 : decode cX12_isDone 158 = .ok (.getfield 23, 3) := by decide +kernel
theorem dX12_isDone_161 : decode cX12_isDone 161 = .ok (.iconst 3, 1) := by decide +kernel
theorem dX12_isDone_162 : decode cX12_isDone 162 = .ok (.iaload, 1) := by decide +kernel
theorem dX12_isDone_163 : decode cX12_isDone 163 = .ok (.bipush 60, 2) := by decide +kernel
theorem dX12_isDone_165 : decode cX12_isDone 165 = .ok (.if_icmp .gt 22, 3) := by decide +kernel
theorem dX12_isDone_168 : decode cX12_isDone 168 = .ok (.aload_n 0, 1) := by decide +kernel
theorem dX12_isDone_169 : decode cX12_isDone 169 = .ok (.getfield 23, 3) := by decide +kernel
theorem dX12_isDone_172 : decode cX12_isDone 172 = .ok (.iconst 4, 1) := by decide +kernel
theorem dX12_isDone_173 : decode cX12_isDone 173 = .ok (.iaload, 1) := by decide +kernel
theorem dX12_isDone_174 : decode cX12_isDone 174 = .ok (.bipush 60, 2) := by decide +kernel
theorem dX12_isDone_176 : decode cX12_isDone 176 = .ok (.if_icmp .gt 11, 3) := by decide +kernel
theorem dX12_isDone_179 : decode cX12_isDone 179 = .ok (.aload_n 0, 1) := by decide +kernel
theorem dX12_isDone_180 : decode cX12_isDone 180 = .ok (.iload_n 2, 1) := by decide +kernel
theorem dX12_isDone_181 : decode cX12_isDone 181 = .ok (.invokevirtual 151, 3) := by decide +kernel
theorem dX12_isDone_184 : decode cX12_isDone 184 = .ok (.ifCond .eq 5, 3) := by decide +kernel
theorem dX12_isDone_187 : decode cX12_isDone 187 = .ok (.iconst 0, 1) := by decide +kernel
theorem dX12_isDone_188 : decode cX12_isDone 188 = .ok (.ireturn, 1) := by decide +kernel
theorem dX12_isDone_189 : decode cX12_isDone 189 = .ok (.aload_n 0, 1) := by decide +kernel
theorem dX12_isDone_190 : decode cX12_isDone 190 = .ok (.getfield 9, 3) := by decide +kernel
theorem dX12_isDone_193 : decode cX12_isDone 193 = .ok (.iload_n 2, 1) := by decide +kernel
theorem dX12_isDone_194 : decode cX12_isDone 194 = .ok (.iconst 3, 1) := by decide +kernel
theorem dX12_isDone_195 : decode cX12_isDone 195 = .ok (.invokestatic 51, 3) := by decide +kernel
theorem dX12_isDone_198 : decode cX12_isDone 198 = .ok (.dup2, 1) := by decide +kernel
theorem dX12_isDone_199 : decode cX12_isDone 199 = .ok (.iaload, 1) := by decide +kernel
theorem dX12_isDone_200 : decode cX12_isDone 200 = .ok (.aload_n 0, 1) := by decide +kernel
theorem dX12_isDone_201 : decode cX12_isDone 201 = .ok (.aload_n 0, 1) := by decide +kernel
theorem dX12_isDone_202 : decode cX12_isDone 202 = .ok (.getfield 23, 3) := by decide +kernel
theorem dX12_isDone_205 : decode cX12_isDone 205 = .ok (.iconst 2, 1) := by decide +kernel
theorem dX12_isDone_206 : decode cX12_isDone 206 = .ok (.iaload, 1) := by decide +kernel
theorem dX12_isDone_207 : decode cX12_isDone 207 = .ok (.aload_n 0, 1) := by decide +kernel
theorem dX12_isDone_208 : decode cX12_isDone 208 = .ok (.getfield 23, 3) := by decide +kernel
theorem dX12_isDone_211 : decode cX12_isDone 211 = .ok (.iconst 4, 1) := by decide +kernel
theorem dX12_isDone_212 : decode cX12_isDone 212 = .ok (.iaload, 1) := by decide +kernel
theorem dX12_isDone_213 : decode cX12_isDone 213 = .ok (.invokevirtual 154, 3) := by decide +kernel
theorem dX12_isDone_216 : decode cX12_isDone 216 = .ok (.iadd, 1) := by decide +kernel
theorem dX12_isDone_217 : decode cX12_isDone 217 = .ok (.iastore, 1) := by decide +kernel
theorem dX12_isDone_218 : decode cX12_isDone 218 = .ok (.iconst 1, 1) := by decide +kernel
theorem dX12_isDone_219 : decode cX12_isDone 219 = .ok (.ireturn, 1) := by decide +kernel
theorem dX12_hedge_0 : decode cX12_hedge 0 = .ok (.aload_n 0, 1) := by decide +kernel
theorem dX12_hedge_1 : decode cX12_hedge 1 = .ok (.iload_n 1, 1) := by decide +kernel
theorem dX12_hedge_2 : decode cX12_hedge 2 = .ok (.iconst 0, 1) := by decide +kernel
theorem dX12_hedge_3 : decode cX12_hedge 3 = .ok (.invokevirtual 157, 3) := by decide +kernel
theorem dX12_hedge_6 : decode cX12_hedge 6 = .ok (.istore_n 2, 1) := by decide +kernel
theorem dX12_hedge_7 : decode cX12_hedge 7 = .ok (.iload_n 2, 1) := by decide +kernel
theorem dX12_hedge_8 : decode cX12_hedge 8 = .ok (.ifCond .eq 5, 3) := by decide +kernel
theorem dX12_hedge_11 : decode cX12_hedge 11 = .ok (.iload_n 2, 1) := by decide +kernel
theorem dX12_hedge_12 : decode cX12_hedge 12 = .ok (.ireturn, 1) := by decide +kernel
theorem dX12_hedge_13 : decode cX12_hedge 13 = .ok (.aload_n 0, 1) := by decide +kernel
theorem dX12_hedge_14 : decode cX12_hedge 14 = .ok (.bipush 100, 2) := by decide +kernel
theorem dX12_hedge_16 : decode cX12_hedge 16 = .ok (.iload_n 1, 1) := by decide +kernel
theorem dX12_hedge_17 : decode cX12_hedge 17 = .ok (.imul, 1) := by decide +kernel
theorem dX12_hedge_18 : decode cX12_hedge 18 = .ok (.putfield 123, 3) := by decide +kernel
theorem dX12_hedge_21 : decode cX12_hedge 21 = .ok (.aload_n 0, 1) := by decide +kernel
theorem dX12_hedge_22 : decode cX12_hedge 22 = .ok (.aload_n 0, 1) := by decide +kernel
theorem dX12_hedge_23 : decode cX12_hedge 23 = .ok (.getfield 45, 3) := by decide +kernel
theorem dX12_hedge_26 : decode cX12_hedge 26 = .ok (.iload_n 1, 1) := by decide +kernel
theorem dX12_hedge_27 : decode cX12_hedge 27 = .ok (.iaload, 1) := by decide +kernel
theorem dX12_hedge_28 : decode cX12_hedge 28 = .ok (.putfield 120, 3) := by decide +kernel
theorem dX12_hedge_31 : decode cX12_hedge 31 = .ok (.aload_n 0, 1) := by decide +kernel
theorem dX12_hedge_32 : decode cX12_hedge 32 = .ok (.iconst 0, 1) := by decide +kernel
theorem dX12_hedge_33 : decode cX12_hedge 33 = .ok (.putfield 117, 3) := by decide +kernel
theorem dX12_hedge_36 : decode cX12_hedge 36 = .ok (.iconst 0, 1) := by decide +kernel
theorem dX12_hedge_37 : decode cX12_hedge 37 = .ok (.istore_n 3, 1) := by decide +kernel
theorem dX12_hedge_38 : decode cX12_hedge 38 = .ok (.iconst 0, 1) := by decide +kernel
theorem dX12_hedge_39 : decode cX12_hedge 39 = .ok (.istore 4, 2) := by decide +kernel
theorem dX12_hedge_41 : decode cX12_hedge 41 = .ok (.aload_n 0, 1) := by decide +kernel
theorem dX12_hedge_42 : decode cX12_hedge 42 = .ok (.invokevirtual 160, 3) := by decide +kernel
theorem dX12_hedge_45 : decode cX12_hedge 45 = .ok (.ifCond .ne 13, 3) := by decide +kernel
theorem dX12_hedge_48 : decode cX12_hedge 48 = .ok (.sipush (-1000), 3) := by decide +kernel
theorem dX12_hedge_51 : decode cX12_hedge 51 = .ok (.aload_n 0, 1) := by decide +kernel
theorem dX12_hedge_52 : decode cX12_hedge 52 = .ok (.getfield 117, 3) := by decide +kernel
theorem dX12_hedge_55 : decode cX12_hedge 55 = .ok (.isub, 1) := by decide +kernel
theorem dX12_hedge_56 : decode cX12_hedge 56 = .ok (.istore 4, 2) := by decide +kernel
theorem dX12_hedge_58 : decode cX12_hedge 58 = .ok (.iinc 3 1, 3) := by decide +kernel
theorem dX12_hedge_61 : decode cX12_hedge 61 = .ok (.iload 4, 2) := by decide +kernel
theorem dX12_hedge_63 : decode cX12_hedge 63 = .ok (.ifCond .ne 14, 3) := by decide +kernel
theorem dX12_hedge_66 : decode cX12_hedge 66 = .ok (.aload_n 0, 1) := by decide +kernel
theorem dX12_hedge_67 : decode cX12_hedge 67 = .ok (.getfield 117, 3) := by decide +kernel
theorem dX12_hedge_70 : decode cX12_hedge 70 = .ok (.aload_n 0, 1) := by decide +kernel
theorem dX12_hedge_71 : decode cX12_hedge 71 = .ok (.getfield 120, 3) := by decide +kernel
theorem dX12_hedge_74 : decode cX12_hedge 74 = .ok (.if_icmp .lt (-33), 3) := by decide +kernel
theorem dX12_hedge_77 : decode cX12_hedge 77 = .ok (.aload_n 0, 1) := by decide +kernel
theorem dX12_hedge_78 : decode cX12_hedge 78 = .ok (.getfield 9, 3) := by decide +kernel
theorem dX12_hedge_81 : decode cX12_hedge 81 = .ok (.aload_n 0, 1) := by decide +kernel
theorem dX12_hedge_82 : decode cX12_hedge 82 = .ok (.getfield 16, 3) := by decide +kernel
theorem dX12_hedge_85 : decode cX12_hedge 85 = .ok (.invokestatic 164, 3) := by decide +kernel
theorem dX12_hedge_88 : decode cX12_hedge 88 = .ok (.aload_n 0, 1) := by decide +kernel
theorem dX12_hedge_89 : decode cX12_hedge 89 = .ok (.iconst 0, 1) := by decide +kernel
theorem dX12_hedge_90 : decode cX12_hedge 90 = .ok (.putfield 117, 3) := by decide +kernel
theorem dX12_hedge_93 : decode cX12_hedge 93 = .ok (.iload 4, 2) := by decide +kernel
theorem dX12_hedge_95 : decode cX12_hedge 95 = .ok (.ifCond .ne 66, 3) := by decide +kernel
theorem dX12_hedge_98 : decode cX12_hedge 98 = .ok (.aload_n 0, 1) := by decide +kernel
theorem dX12_hedge_99 : decode cX12_hedge 99 = .ok (.getfield 117, 3) := by decide +kernel
theorem dX12_hedge_102 : decode cX12_hedge 102 = .ok (.aload_n 0, 1) := by decide +kernel
theorem dX12_hedge_103 : decode cX12_hedge 103 = .ok (.getfield 120, 3) := by decide +kernel
theorem dX12_hedge_106 : decode cX12_hedge 106 = .ok (.if_icmp .ge 55, 3) := by decide +kernel
theorem dX12_hedge_109 : decode cX12_hedge 109 = .ok (.aload_n 0, 1) := by decide +kernel
theorem dX12_hedge_110 : decode cX12_hedge 110 = .ok (.getfield 117, 3) := by decide +kernel
theorem dX12_hedge_113 : decode cX12_hedge 113 = .ok (.istore 5, 2) := by decide +kernel
theorem dX12_hedge_115 : decode cX12_hedge 115 = .ok (.aload_n 0, 1) := by decide +kernel
theorem dX12_hedge_116 : decode cX12_hedge 116 = .ok (.invokevirtual 126, 3) := by decide +kernel
theorem dX12_hedge_119 : decode cX12_hedge 119 = .ok (.istore 6, 2) := by decide +kernel
theorem dX12_hedge_121 : decode cX12_hedge 121 = .ok (.aload_n 0, 1) := by decide +kernel
theorem dX12_hedge_122 : decode cX12_hedge 122 = .ok (.invokevirtual 160, 3) := by decide +kernel
theorem dX12_hedge_125 : decode cX12_hedge 125 = .ok (.istore 7, 2) := by decide +kernel
theorem dX12_hedge_127 : decode cX12_hedge 127 = .ok (.aload_n 0, 1) := by decide +kernel
theorem dX12_hedge_128 : decode cX12_hedge 128 = .ok (.iload 6, 2) := by decide +kernel
theorem dX12_hedge_130 : decode cX12_hedge 130 = .ok (.invokevirtual 168, 3) := by decide +kernel
theorem dX12_hedge_133 : decode cX12_hedge 133 = .ok (.ifCond .eq 6, 3) := by decide +kernel
theorem dX12_hedge_136 : decode cX12_hedge 136 = .ok (.goto (-43), 3) := by decide +kernel
theorem dX12_hedge_139 : decode cX12_hedge 139 = .ok (.sipush (-2000), 3) := by decide +kernel
theorem dX12_hedge_142 : decode cX12_hedge 142 = .ok (.iload 5, 2) := by decide +kernel
theorem dX12_hedge_144 : decode cX12_hedge 144 = .ok (.isub, 1) := by decide +kernel
theorem dX12_hedge_145 : decode cX12_hedge 145 = .ok (.istore 4, 2) := by decide +kernel
theorem dX12_hedge_147 : decode cX12_hedge 147 = .ok (.aload_n 0, 1) := by decide +kernel
theorem dX12_hedge_148 : decode cX12_hedge 148 = .ok (.getfield 16, 3) := by decide +kernel
theorem dX12_hedge_151 : decode cX12_hedge 151 = .ok (.aload_n 0, 1) := by decide +kernel
theorem dX12_hedge_152 : decode cX12_hedge 152 = .ok (.getfield 9, 3) := by decide +kernel
theorem dX12_hedge_155 : decode cX12_hedge 155 = .ok (.invokestatic 164, 3) := by decide +kernel
theorem dX12_hedge_158 : decode cX12_hedge 158 = .ok (.goto (-65), 3) := by decide +kernel
theorem dX12_hedge_161 : decode cX12_hedge 161 = .ok (.iload 4, 2) := by decide +kernel
theorem dX12_hedge_163 : decode cX12_hedge 163 = .ok (.ifCond .ne 7, 3) := by decide +kernel
theorem dX12_hedge_166 : decode cX12_hedge 166 = .ok (.iload_n 3, 1) := by decide +kernel
theorem dX12_hedge_167 : decode cX12_hedge 167 = .ok (.goto 5, 3) := by decide +kernel
theorem dX12_hedge_170 : decode cX12_hedge 170 = .ok (.iload 4, 2) := by decide +kernel
theorem dX12_hedge_172 : decode cX12_hedge 172 = .ok (.ireturn, 1) := by decide +kernel
theorem dX12_blade_0 : decode cX12_blade 0 = .ok (.aload_n 0, 1) := by decide +kernel
theorem dX12_blade_1 : decode cX12_blade 1 = .ok (.iload_n 1, 1) := by decide +kernel
theorem dX12_blade_2 : decode cX12_blade 2 = .ok (.invokevirtual 62, 3) := by decide +kernel
theorem dX12_blade_5 : decode cX12_blade 5 = .ok (.ifCond .eq 12, 3) := by decide +kernel
theorem dX12_blade_8 : decode cX12_blade 8 = .ok (.iload_n 2, 1) := by decide +kernel
theorem dX12_blade_9 : decode cX12_blade 9 = .ok (.iconst 0, 1) := by decide +kernel
theorem dX12_blade_10 : decode cX12_blade 10 = .ok (.iconst 4, 1) := by decide +kernel
theorem dX12_blade_11 : decode cX12_blade 11 = .ok (.invokestatic 58, 3) := by decide +kernel
theorem dX12_blade_14 : decode cX12_blade 14 = .ok (.ifCond .ne 5, 3) := by decide +kernel
theorem dX12_blade_17 : decode cX12_blade 17 = .ok (.iconst (-1), 1) := by decide +kernel
theorem dX12_blade_18 : decode cX12_blade 18 = .ok (.ireturn, 1) := by decide +kernel
theorem dX12_blade_19 : decode cX12_blade 19 = .ok (.iload_n 2, 1) := by decide +kernel
theorem dX12_blade_20 : decode cX12_blade 20 = .ok (.iconst 4, 1) := by decide +kernel
theorem dX12_blade_21 : decode cX12_blade 21 = .ok (.if_icmp .ge 12, 3) := by decide +kernel
theorem dX12_blade_24 : decode cX12_blade 24 = .ok (.aload_n 0, 1) := by decide +kernel
theorem dX12_blade_25 : decode cX12_blade 25 = .ok (.iload_n 1, 1) := by decide +kernel
theorem dX12_blade_26 : decode cX12_blade 26 = .ok (.iload_n 2, 1) := by decide +kernel
theorem dX12_blade_27 : decode cX12_blade 27 = .ok (.invokevirtual 72, 3) := by decide +kernel
theorem dX12_blade_30 : decode cX12_blade 30 = .ok (.goto 16, 3) := by decide +kernel
theorem dX12_blade_33 : decode cX12_blade 33 = .ok (.aload_n 0, 1) := by decide +kernel
theorem dX12_blade_34 : decode cX12_blade 34 = .ok (.iload_n 1, 1) := by decide +kernel
theorem dX12_blade_35 : decode cX12_blade 35 = .ok (.invokevirtual 151, 3) := by decide +kernel
theorem dX12_blade_38 : decode cX12_blade 38 = .ok (.ifCond .eq 7, 3) := by decide +kernel
theorem dX12_blade_41 : decode cX12_blade 41 = .ok (.iconst 1, 1) := by decide +kernel
theorem dX12_blade_42 : decode cX12_blade 42 = .ok (.goto 4, 3) := by decide +kernel
theorem dX12_blade_45 : decode cX12_blade 45 = .ok (.iconst 0, 1) := by decide +kernel
theorem dX12_blade_46 : decode cX12_blade 46 = .ok (.ireturn, 1) := by decide +kernel
theorem dX12_thumbs_0 : decode cX12_thumbs 0 = .ok (.aload_n 0, 1) := by decide +kernel
theorem dX12_thumbs_1 : decode cX12_thumbs 1 = .ok (.iload_n 1, 1) := by decide +kernel
theorem dX12_thumbs_2 : decode cX12_thumbs 2 = .ok (.invokevirtual 66, 3) := by decide +kernel
theorem dX12_thumbs_5 : decode cX12_thumbs 5 = .ok (.ifCond .eq 25, 3) := by decide +kernel
theorem dX12_thumbs_8 : decode cX12_thumbs 8 = .ok (.iload_n 2, 1) := by decide +kernel
theorem dX12_thumbs_9 : decode cX12_thumbs 9 = .ok (.iconst 0, 1) := by decide +kernel
theorem dX12_thumbs_10 : decode cX12_thumbs 10 = .ok (.iconst 1, 1) := by decide +kernel
theorem dX12_thumbs_11 : decode cX12_thumbs 11 = .ok (.invokestatic 58, 3) := by decide +kernel
theorem dX12_thumbs_14 : decode cX12_thumbs 14 = .ok (.ifCond .eq 16, 3) := by decide +kernel
theorem dX12_thumbs_17 : decode cX12_thumbs 17 = .ok (.aload_n 0, 1) := by decide +kernel
theorem dX12_thumbs_18 : decode cX12_thumbs 18 = .ok (.getfield 9, 3) := by decide +kernel
theorem dX12_thumbs_21 : decode cX12_thumbs 21 = .ok (.iload_n 1, 1) := by decide +kernel
theorem dX12_thumbs_22 : decode cX12_thumbs 22 = .ok (.iload_n 2, 1) := by decide +kernel
theorem dX12_thumbs_23 : decode cX12_thumbs 23 = .ok (.invokestatic 75, 3) := by decide +kernel
theorem dX12_thumbs_26 : decode cX12_thumbs 26 = .ok (.iaload, 1) := by decide +kernel
theorem dX12_thumbs_27 : decode cX12_thumbs 27 = .ok (.goto 4, 3) := by decide +kernel
theorem dX12_thumbs_30 : decode cX12_thumbs 30 = .ok (.iconst (-1), 1) := by decide +kernel
theorem dX12_thumbs_31 : decode cX12_thumbs 31 = .ok (.ireturn, 1) := by decide +kernel
theorem dX12_blow_0 : decode cX12_blow 0 = .ok (.aload_n 0, 1) := by decide +kernel
theorem dX12_blow_1 : decode cX12_blow 1 = .ok (.iload_n 1, 1) := by decide +kernel
theorem dX12_blow_2 : decode cX12_blow 2 = .ok (.invokevirtual 69, 3) := by decide +kernel
theorem dX12_blow_5 : decode cX12_blow 5 = .ok (.ifCond .eq 12, 3) := by decide +kernel
theorem dX12_blow_8 : decode cX12_blow 8 = .ok (.iload_n 2, 1) := by decide +kernel
theorem dX12_blow_9 : decode cX12_blow 9 = .ok (.iconst 0, 1) := by decide +kernel
theorem dX12_blow_10 : decode cX12_blow 10 = .ok (.iconst 2, 1) := by decide +kernel
theorem dX12_blow_11 : decode cX12_blow 11 = .ok (.invokestatic 58, 3) := by decide +kernel
theorem dX12_blow_14 : decode cX12_blow 14 = .ok (.ifCond .ne 5, 3) := by decide +kernel
theorem dX12_blow_17 : decode cX12_blow 17 = .ok (.iconst (-1), 1) := by decide +kernel
theorem dX12_blow_18 : decode cX12_blow 18 = .ok (.ireturn, 1) := by decide +kernel
theorem dX12_blow_19 : decode cX12_blow 19 = .ok (.iload_n 2, 1) := by decide +kernel
theorem dX12_blow_20 : decode cX12_blow 20 = .ok (.iconst 2, 1) := by decide +kernel
theorem dX12_blow_21 : decode cX12_blow 21 = .ok (.if_icmp .ge 16, 3) := by decide +kernel
theorem dX12_blow_24 : decode cX12_blow 24 = .ok (.aload_n 0, 1) := by decide +kernel
theorem dX12_blow_25 : decode cX12_blow 25 = .ok (.getfield 9, 3) := by decide +kernel
theorem dX12_blow_28 : decode cX12_blow 28 = .ok (.iload_n 1, 1) := by decide +kernel
theorem dX12_blow_29 : decode cX12_blow 29 = .ok (.iload_n 2, 1) := by decide +kernel
theorem dX12_blow_30 : decode cX12_blow 30 = .ok (.invokestatic 55, 3) := by decide +kernel
theorem dX12_blow_33 : decode cX12_blow 33 = .ok (.iaload, 1) := by decide +kernel
theorem dX12_blow_34 : decode cX12_blow 34 = .ok (.goto 10, 3) := by decide +kernel
theorem dX12_blow_37 : decode cX12_blow 37 = .ok (.aload_n 0, 1) := by decide +kernel
theorem dX12_blow_38 : decode cX12_blow 38 = .ok (.iload_n 1, 1) := by decide +kernel
theorem dX12_blow_39 : decode cX12_blow 39 = .ok (.bipush 30, 2) := by decide +kernel
theorem dX12_blow_41 : decode cX12_blow 41 = .ok (.invokevirtual 154, 3) := by decide +kernel
theorem dX12_blow_44 : decode cX12_blow 44 = .ok (.ireturn, 1) := by decide +kernel
theorem dX12_grows_0 : decode cX12_grows 0 = .ok (.iload_n 1, 1) := by decide +kernel
theorem dX12_grows_1 : decode cX12_grows 1 = .ok (.iload_n 2, 1) := by decide +kernel
theorem dX12_grows_2 : decode cX12_grows 2 = .ok (.iload_n 3, 1) := by decide +kernel
theorem dX12_grows_3 : decode cX12_grows 3 = .ok (.invokestatic 134, 3) := by decide +kernel
theorem dX12_grows_6 : decode cX12_grows 6 = .ok (.ifCond .ne 5, 3) := by decide +kernel
theorem dX12_grows_9 : decode cX12_grows 9 = .ok (.iconst (-1), 1) := by decide +kernel
theorem dX12_grows_10 : decode cX12_grows 10 = .ok (.ireturn, 1) := by decide +kernel
theorem dX12_grows_11 : decode cX12_grows 11 = .ok (.aload_n 0, 1) := by decide +kernel
theorem dX12_grows_12 : decode cX12_grows 12 = .ok (.getfield 9, 3) := by decide +kernel
theorem dX12_grows_15 : decode cX12_grows 15 = .ok (.iconst 0, 1) := by decide +kernel
theorem dX12_grows_16 : decode cX12_grows 16 = .ok (.iaload, 1) := by decide +kernel
theorem dX12_grows_17 : decode cX12_grows 17 = .ok (.bipush 6, 2) := by decide +kernel
theorem dX12_grows_19 : decode cX12_grows 19 = .ok (.if_icmp .ne 6, 3) := by decide +kernel
theorem dX12_grows_22 : decode cX12_grows 22 = .ok (.bipush (-2), 2) := by decide +kernel
theorem dX12_grows_24 : decode cX12_grows 24 = .ok (.ireturn, 1) := by decide +kernel
theorem dX12_grows_25 : decode cX12_grows 25 = .ok (.aload_n 0, 1) := by decide +kernel
theorem dX12_grows_26 : decode cX12_grows 26 = .ok (.iload_n 1, 1) := by decide +kernel
theorem dX12_grows_27 : decode cX12_grows 27 = .ok (.iload_n 2, 1) := by decide +kernel
theorem dX12_grows_28 : decode cX12_grows 28 = .ok (.iload_n 3, 1) := by decide +kernel
theorem dX12_grows_29 : decode cX12_grows 29 = .ok (.invokevirtual 137, 3) := by decide +kernel
theorem dX12_grows_32 : decode cX12_grows 32 = .ok (.aload_n 0, 1) := by decide +kernel
theorem dX12_grows_33 : decode cX12_grows 33 = .ok (.getfield 9, 3) := by decide +kernel
theorem dX12_grows_36 : decode cX12_grows 36 = .ok (.iconst 0, 1) := by decide +kernel
theorem dX12_grows_37 : decode cX12_grows 37 = .ok (.iaload, 1) := by decide +kernel
theorem dX12_grows_38 : decode cX12_grows 38 = .ok (.iconst 1, 1) := by decide +kernel
theorem dX12_grows_39 : decode cX12_grows 39 = .ok (.isub, 1) := by decide +kernel
theorem dX12_grows_40 : decode cX12_grows 40 = .ok (.ireturn, 1) := by decide +kernel
theorem dX12_learns_0 : decode cX12_learns 0 = .ok (.aload_n 0, 1) := by decide +kernel
theorem dX12_learns_1 : decode cX12_learns 1 = .ok (.iload_n 1, 1) := by decide +kernel
theorem dX12_learns_2 : decode cX12_learns 2 = .ok (.invokevirtual 171, 3) := by decide +kernel
theorem dX12_learns_5 : decode cX12_learns 5 = .ok (.istore_n 2, 1) := by decide +kernel
theorem dX12_learns_6 : decode cX12_learns 6 = .ok (.iload_n 2, 1) := by decide +kernel
theorem dX12_learns_7 : decode cX12_learns 7 = .ok (.ifCond .eq 5, 3) := by decide +kernel
theorem dX12_learns_10 : decode cX12_learns 10 = .ok (.iload_n 2, 1) := by decide +kernel
theorem dX12_learns_11 : decode cX12_learns 11 = .ok (.ireturn, 1) := by decide +kernel
theorem dX12_learns_12 : decode cX12_learns 12 = .ok (.aload_n 0, 1) := by decide +kernel
theorem dX12_learns_13 : decode cX12_learns 13 = .ok (.getfield 9, 3) := by decide +kernel
theorem dX12_learns_16 : decode cX12_learns 16 = .ok (.iconst 2, 1) := by decide +kernel
theorem dX12_learns_17 : decode cX12_learns 17 = .ok (.iaload, 1) := by decide +kernel
theorem dX12_learns_18 : decode cX12_learns 18 = .ok (.bipush 6, 2) := by decide +kernel
theorem dX12_learns_20 : decode cX12_learns 20 = .ok (.if_icmp .ne 6, 3) := by decide +kernel
theorem dX12_learns_23 : decode cX12_learns 23 = .ok (.bipush (-2), 2) := by decide +kernel
theorem dX12_learns_25 : decode cX12_learns 25 = .ok (.ireturn, 1) := by decide +kernel
theorem dX12_learns_26 : decode cX12_learns 26 = .ok (.aload_n 0, 1) := by decide +kernel
theorem dX12_learns_27 : decode cX12_learns 27 = .ok (.aload_n 0, 1) := by decide +kernel
theorem dX12_learns_28 : decode cX12_learns 28 = .ok (.getfield 36, 3) := by decide +kernel
theorem dX12_learns_31 : decode cX12_learns 31 = .ok (.iload_n 1, 1) := by decide +kernel
theorem dX12_learns_32 : decode cX12_learns 32 = .ok (.iaload, 1) := by decide +kernel
theorem dX12_learns_33 : decode cX12_learns 33 = .ok (.aload_n 0, 1) := by decide +kernel
theorem dX12_learns_34 : decode cX12_learns 34 = .ok (.getfield 39, 3) := by decide +kernel
theorem dX12_learns_37 : decode cX12_learns 37 = .ok (.iload_n 1, 1) := by decide +kernel
theorem dX12_learns_38 : decode cX12_learns 38 = .ok (.iaload, 1) := by decide +kernel
theorem dX12_learns_39 : decode cX12_learns 39 = .ok (.invokevirtual 145, 3) := by decide +kernel
theorem dX12_learns_42 : decode cX12_learns 42 = .ok (.aload_n 0, 1) := by decide +kernel
theorem dX12_learns_43 : decode cX12_learns 43 = .ok (.getfield 9, 3) := by decide +kernel
theorem dX12_learns_46 : decode cX12_learns 46 = .ok (.iconst 2, 1) := by decide +kernel
theorem dX12_learns_47 : decode cX12_learns 47 = .ok (.iaload, 1) := by decide +kernel
theorem dX12_learns_48 : decode cX12_learns 48 = .ok (.iconst 1, 1) := by decide +kernel
theorem dX12_learns_49 : decode cX12_learns 49 = .ok (.isub, 1) := by decide +kernel
theorem dX12_learns_50 : decode cX12_learns 50 = .ok (.ireturn, 1) := by decide +kernel
theorem dX12_comes_0 : decode cX12_comes 0 = .ok (.iload_n 1, 1) := by decide +kernel
theorem dX12_comes_1 : decode cX12_comes 1 = .ok (.iconst 0, 1) := by decide +kernel
theorem dX12_comes_2 : decode cX12_comes 2 = .ok (.bipush 9, 2) := by decide +kernel
theorem dX12_comes_4 : decode cX12_comes 4 = .ok (.invokestatic 58, 3) := by decide +kernel
theorem dX12_comes_7 : decode cX12_comes 7 = .ok (.ifCond .eq 10, 3) := by decide +kernel
theorem dX12_comes_10 : decode cX12_comes 10 = .ok (.iload_n 2, 1) := by decide +kernel
theorem dX12_comes_11 : decode cX12_comes 11 = .ok (.invokestatic 174, 3) := by decide +kernel
theorem dX12_comes_14 : decode cX12_comes 14 = .ok (.ifCond .ne 5, 3) := by decide +kernel
theorem dX12_comes_17 : decode cX12_comes 17 = .ok (.iconst (-1), 1) := by decide +kernel
theorem dX12_comes_18 : decode cX12_comes 18 = .ok (.ireturn, 1) := by decide +kernel
theorem dX12_comes_19 : decode cX12_comes 19 = .ok (.aload_n 0, 1) := by decide +kernel
theorem dX12_comes_20 : decode cX12_comes 20 = .ok (.getfield 9, 3) := by decide +kernel
theorem dX12_comes_23 : decode cX12_comes 23 = .ok (.iconst 1, 1) := by decide +kernel
theorem dX12_comes_24 : decode cX12_comes 24 = .ok (.iaload, 1) := by decide +kernel
theorem dX12_comes_25 : decode cX12_comes 25 = .ok (.iconst 4, 1) := by decide +kernel
theorem dX12_comes_26 : decode cX12_comes 26 = .ok (.if_icmp .ne 6, 3) := by decide +kernel
theorem dX12_comes_29 : decode cX12_comes 29 = .ok (.bipush (-2), 2) := by decide +kernel
theorem dX12_comes_31 : decode cX12_comes 31 = .ok (.ireturn, 1) := by decide +kernel
theorem dX12_comes_32 : decode cX12_comes 32 = .ok (.aload_n 0, 1) := by decide +kernel
theorem dX12_comes_33 : decode cX12_comes 33 = .ok (.iload_n 1, 1) := by decide +kernel
theorem dX12_comes_34 : decode cX12_comes 34 = .ok (.iload_n 2, 1) := by decide +kernel
theorem dX12_comes_35 : decode cX12_comes 35 = .ok (.invokevirtual 141, 3) := by decide +kernel
theorem dX12_comes_38 : decode cX12_comes 38 = .ok (.aload_n 0, 1) := by decide +kernel
theorem dX12_comes_39 : decode cX12_comes 39 = .ok (.getfield 9, 3) := by decide +kernel
theorem dX12_comes_42 : decode cX12_comes 42 = .ok (.iconst 1, 1) := by decide +kernel
theorem dX12_comes_43 : decode cX12_comes 43 = .ok (.iaload, 1) := by decide +kernel
theorem dX12_comes_44 : decode cX12_comes 44 = .ok (.iconst 1, 1) := by decide +kernel
theorem dX12_comes_45 : decode cX12_comes 45 = .ok (.isub, 1) := by decide +kernel
theorem dX12_comes_46 : decode cX12_comes 46 = .ok (.ireturn, 1) := by decide +kernel
theorem dX12_wets_0 : decode cX12_wets 0 = .ok (.aload_n 0, 1) := by decide +kernel
theorem dX12_wets_1 : decode cX12_wets 1 = .ok (.iload_n 1, 1) := by decide +kernel
theorem dX12_wets_2 : decode cX12_wets 2 = .ok (.invokevirtual 62, 3) := by decide +kernel
theorem dX12_wets_5 : decode cX12_wets 5 = .ok (.ifCond .eq 13, 3) := by decide +kernel
theorem dX12_wets_8 : decode cX12_wets 8 = .ok (.iload_n 2, 1) := by decide +kernel
theorem dX12_wets_9 : decode cX12_wets 9 = .ok (.iconst 0, 1) := by decide +kernel
theorem dX12_wets_10 : decode cX12_wets 10 = .ok (.bipush 9, 2) := by decide +kernel
theorem dX12_wets_12 : decode cX12_wets 12 = .ok (.invokestatic 58, 3) := by decide +kernel
theorem dX12_wets_15 : decode cX12_wets 15 = .ok (.ifCond .ne 5, 3) := by decide +kernel
theorem dX12_wets_18 : decode cX12_wets 18 = .ok (.iconst (-1), 1) := by decide +kernel
theorem dX12_wets_19 : decode cX12_wets 19 = .ok (.ireturn, 1) := by decide +kernel
theorem dX12_wets_20 : decode cX12_wets 20 = .ok (.aload_n 0, 1) := by decide +kernel
theorem dX12_wets_21 : decode cX12_wets 21 = .ok (.iload_n 1, 1) := by decide +kernel
theorem dX12_wets_22 : decode cX12_wets 22 = .ok (.iconst 2, 1) := by decide +kernel
theorem dX12_wets_23 : decode cX12_wets 23 = .ok (.invokevirtual 72, 3) := by decide +kernel
theorem dX12_wets_26 : decode cX12_wets 26 = .ok (.istore_n 3, 1) := by decide +kernel
theorem dX12_wets_27 : decode cX12_wets 27 = .ok (.aload_n 0, 1) := by decide +kernel
theorem dX12_wets_28 : decode cX12_wets 28 = .ok (.getfield 9, 3) := by decide +kernel
theorem dX12_wets_31 : decode cX12_wets 31 = .ok (.iload_n 1, 1) := by decide +kernel
theorem dX12_wets_32 : decode cX12_wets 32 = .ok (.iconst 2, 1) := by decide +kernel
theorem dX12_wets_33 : decode cX12_wets 33 = .ok (.invokestatic 51, 3) := by decide +kernel
theorem dX12_wets_36 : decode cX12_wets 36 = .ok (.iload_n 2, 1) := by decide +kernel
theorem dX12_wets_37 : decode cX12_wets 37 = .ok (.iastore, 1) := by decide +kernel
theorem dX12_wets_38 : decode cX12_wets 38 = .ok (.iload_n 3, 1) := by decide +kernel
theorem dX12_wets_39 : decode cX12_wets 39 = .ok (.ireturn, 1) := by decide +kernel
theorem dX12_span_0 : decode cX12_span 0 = .ok (.aload_n 0, 1) := by decide +kernel
theorem dX12_span_1 : decode cX12_span 1 = .ok (.iload_n 1, 1) := by decide +kernel
theorem dX12_span_2 : decode cX12_span 2 = .ok (.iload_n 2, 1) := by decide +kernel
theorem dX12_span_3 : decode cX12_span 3 = .ok (.iload_n 3, 1) := by decide +kernel
theorem dX12_span_4 : decode cX12_span 4 = .ok (.invokevirtual 148, 3) := by decide +kernel
theorem dX12_span_7 : decode cX12_span 7 = .ok (.ifCond .eq 13, 3) := by decide +kernel
theorem dX12_span_10 : decode cX12_span 10 = .ok (.iload 4, 2) := by decide +kernel
theorem dX12_span_12 : decode cX12_span 12 = .ok (.iconst 0, 1) := by decide +kernel
theorem dX12_span_13 : decode cX12_span 13 = .ok (.iconst 3, 1) := by decide +kernel
theorem dX12_span_14 : decode cX12_span 14 = .ok (.invokestatic 58, 3) := by decide +kernel
theorem dX12_span_17 : decode cX12_span 17 = .ok (.ifCond .ne 5, 3) := by decide +kernel
theorem dX12_span_20 : decode cX12_span 20 = .ok (.iconst (-1), 1) := by decide +kernel
theorem dX12_span_21 : decode cX12_span 21 = .ok (.ireturn, 1) := by decide +kernel
theorem dX12_span_22 : decode cX12_span 22 = .ok (.iload 4, 2) := by decide +kernel
theorem dX12_span_24 : decode cX12_span 24 = .ok (.ifCond .ne 13, 3) := by decide +kernel
theorem dX12_span_27 : decode cX12_span 27 = .ok (.aload_n 0, 1) := by decide +kernel
theorem dX12_span_28 : decode cX12_span 28 = .ok (.iload_n 1, 1) := by decide +kernel
theorem dX12_span_29 : decode cX12_span 29 = .ok (.iload_n 2, 1) := by decide +kernel
theorem dX12_span_30 : decode cX12_span 30 = .ok (.iload_n 3, 1) := by decide +kernel
theorem dX12_span_31 : decode cX12_span 31 = .ok (.invokevirtual 98, 3) := by decide +kernel
theorem dX12_span_34 : decode cX12_span 34 = .ok (.goto 40, 3) := by decide +kernel
theorem dX12_span_37 : decode cX12_span 37 = .ok (.iload 4, 2) := by decide +kernel
theorem dX12_span_39 : decode cX12_span 39 = .ok (.iconst 1, 1) := by decide +kernel
theorem dX12_span_40 : decode cX12_span 40 = .ok (.if_icmp .ne 13, 3) := by decide +kernel
theorem dX12_span_43 : decode cX12_span 43 = .ok (.aload_n 0, 1) := by decide +kernel
theorem dX12_span_44 : decode cX12_span 44 = .ok (.iload_n 1, 1) := by decide +kernel
theorem dX12_span_45 : decode cX12_span 45 = .ok (.iload_n 2, 1) := by decide +kernel
theorem dX12_span_46 : decode cX12_span 46 = .ok (.iload_n 3, 1) := by decide +kernel
theorem dX12_span_47 : decode cX12_span 47 = .ok (.invokevirtual 101, 3) := by decide +kernel
theorem dX12_span_50 : decode cX12_span 50 = .ok (.goto 24, 3) := by decide +kernel
theorem dX12_span_53 : decode cX12_span 53 = .ok (.iload 4, 2) := by decide +kernel
theorem dX12_span_55 : decode cX12_span 55 = .ok (.iconst 2, 1) := by decide +kernel
theorem dX12_span_56 : decode cX12_span 56 = .ok (.if_icmp .ne 12, 3) := by decide +kernel
theorem dX12_span_59 : decode cX12_span 59 = .ok (.aload_n 0, 1) := by decide +kernel
theorem dX12_span_60 : decode cX12_span 60 = .ok (.iload_n 2, 1) := by decide +kernel
theorem dX12_span_61 : decode cX12_span 61 = .ok (.iload_n 3, 1) := by decide +kernel
theorem dX12_span_62 : decode cX12_span 62 = .ok (.invokevirtual 92, 3) := by decide +kernel
theorem dX12_span_65 : decode cX12_span 65 = .ok (.goto 9, 3) := by decide +kernel
theorem dX12_span_68 : decode cX12_span 68 = .ok (.aload_n 0, 1) := by decide +kernel
theorem dX12_span_69 : decode cX12_span 69 = .ok (.iload_n 2, 1) := by decide +kernel
theorem dX12_span_70 : decode cX12_span 70 = .ok (.iload_n 3, 1) := by decide +kernel
theorem dX12_span_71 : decode cX12_span 71 = .ok (.invokevirtual 107, 3) := by decide +kernel
theorem dX12_span_74 : decode cX12_span 74 = .ok (.ireturn, 1) := by decide +kernel
theorem dX12_isTold_0 : decode cX12_isTold 0 = .ok (.aload_n 0, 1) := by decide +kernel
theorem dX12_isTold_1 : decode cX12_isTold 1 = .ok (.iload_n 1, 1) := by decide +kernel
theorem dX12_isTold_2 : decode cX12_isTold 2 = .ok (.iload_n 2, 1) := by decide +kernel
theorem dX12_isTold_3 : decode cX12_isTold 3 = .ok (.iload_n 3, 1) := by decide +kernel
theorem dX12_isTold_4 : decode cX12_isTold 4 = .ok (.invokevirtual 148, 3) := by decide +kernel
theorem dX12_isTold_7 : decode cX12_isTold 7 = .ok (.ifCond .eq 23, 3) := by decide +kernel
theorem dX12_isTold_10 : decode cX12_isTold 10 = .ok (.iload 4, 2) := by decide +kernel
theorem dX12_isTold_12 : decode cX12_isTold 12 = .ok (.invokestatic 174, 3) := by decide +kernel
theorem dX12_isTold_15 : decode cX12_isTold 15 = .ok (.ifCond .eq 15, 3) := by decide +kernel
theorem dX12_isTold_18 : decode cX12_isTold 18 = .ok (.iload 5, 2) := by decide +kernel
theorem dX12_isTold_20 : decode cX12_isTold 20 = .ok (.invokestatic 174, 3) := by decide +kernel
theorem dX12_isTold_23 : decode cX12_isTold 23 = .ok (.ifCond .eq 7, 3) := by decide +kernel
theorem dX12_isTold_26 : decode cX12_isTold 26 = .ok (.iconst 1, 1) := by decide +kernel
theorem dX12_isTold_27 : decode cX12_isTold 27 = .ok (.goto 4, 3) := by decide +kernel
theorem dX12_isTold_30 : decode cX12_isTold 30 = .ok (.iconst 0, 1) := by decide +kernel
theorem dX12_isTold_31 : decode cX12_isTold 31 = .ok (.ireturn, 1) := by decide +kernel
theorem dX12_sounds_0 : decode cX12_sounds 0 = .ok (.aload_n 0, 1) := by decide +kernel
theorem dX12_sounds_1 : decode cX12_sounds 1 = .ok (.iload_n 1, 1) := by decide +kernel
theorem dX12_sounds_2 : decode cX12_sounds 2 = .ok (.iload_n 2, 1) := by decide +kernel
theorem dX12_sounds_3 : decode cX12_sounds 3 = .ok (.iload_n 3, 1) := by decide +kernel
theorem dX12_sounds_4 : decode cX12_sounds 4 = .ok (.iload 4, 2) := by decide +kernel
theorem dX12_sounds_6 : decode cX12_sounds 6 = .ok (.iload 5, 2) := by decide +kernel
theorem dX12_sounds_8 : decode cX12_sounds 8 = .ok (.invokevirtual 177, 3) := by decide +kernel
theorem dX12_sounds_11 : decode cX12_sounds 11 = .ok (.ifCond .ne 7, 3) := by decide +kernel
theorem dX12_sounds_14 : decode cX12_sounds 14 = .ok (.iconst (-1), 1) := by decide +kernel
theorem dX12_sounds_15 : decode cX12_sounds 15 = .ok (.goto 22, 3) := by decide +kernel
theorem dX12_sounds_18 : decode cX12_sounds 18 = .ok (.aload_n 0, 1) := by decide +kernel
theorem dX12_sounds_19 : decode cX12_sounds 19 = .ok (.iload_n 1, 1) := by decide +kernel
theorem dX12_sounds_20 : decode cX12_sounds 20 = .ok (.iload_n 2, 1) := by decide +kernel
theorem dX12_sounds_21 : decode cX12_sounds 21 = .ok (.iload_n 3, 1) := by decide +kernel
theorem dX12_sounds_22 : decode cX12_sounds 22 = .ok (.iload 4, 2) := by decide +kernel
theorem dX12_sounds_24 : decode cX12_sounds 24 = .ok (.iload 5, 2) := by decide +kernel
theorem dX12_sounds_26 : decode cX12_sounds 26 = .ok (.invokevirtual 181, 3) := by decide +kernel
theorem dX12_sounds_29 : decode cX12_sounds 29 = .ok (.ifCond .eq 7, 3) := by decide +kernel
theorem dX12_sounds_32 : decode cX12_sounds 32 = .ok (.iconst 1, 1) := by decide +kernel
theorem dX12_sounds_33 : decode cX12_sounds 33 = .ok (.goto 4, 3) := by decide +kernel
theorem dX12_sounds_36 : decode cX12_sounds 36 = .ok (.iconst 0, 1) := by decide +kernel
theorem dX12_sounds_37 : decode cX12_sounds 37 = .ok (.ireturn, 1) := by decide +kernel
theorem dX12_pitch_0 : decode cX12_pitch 0 = .ok (.aload_n 0, 1) := by decide +kernel
theorem dX12_pitch_1 : decode cX12_pitch 1 = .ok (.iload_n 1, 1) := by decide +kernel
theorem dX12_pitch_2 : decode cX12_pitch 2 = .ok (.invokevirtual 62, 3) := by decide +kernel
theorem dX12_pitch_5 : decode cX12_pitch 5 = .ok (.ifCond .eq 41, 3) := by decide +kernel
theorem dX12_pitch_8 : decode cX12_pitch 8 = .ok (.aload_n 0, 1) := by decide +kernel
theorem dX12_pitch_9 : decode cX12_pitch 9 = .ok (.iload_n 2, 1) := by decide +kernel
theorem dX12_pitch_10 : decode cX12_pitch 10 = .ok (.invokevirtual 69, 3) := by decide +kernel
theorem dX12_pitch_13 : decode cX12_pitch 13 = .ok (.ifCond .eq 33, 3) := by decide +kernel
theorem dX12_pitch_16 : decode cX12_pitch 16 = .ok (.iload_n 3, 1) := by decide +kernel
theorem dX12_pitch_17 : decode cX12_pitch 17 = .ok (.invokestatic 174, 3) := by decide +kernel
theorem dX12_pitch_20 : decode cX12_pitch 20 = .ok (.ifCond .eq 26, 3) := by decide +kernel
theorem dX12_pitch_23 : decode cX12_pitch 23 = .ok (.iload 4, 2) := by decide +kernel
theorem dX12_pitch_25 : decode cX12_pitch 25 = .ok (.iconst 0, 1) := by decide +kernel
theorem dX12_pitch_26 : decode cX12_pitch 26 = .ok (.bipush 9, 2) := by decide +kernel
theorem dX12_pitch_28 : decode cX12_pitch 28 = .ok (.invokestatic 58, 3) := by decide +kernel
theorem dX12_pitch_31 : decode cX12_pitch 31 = .ok (.ifCond .eq 15, 3) := by decide +kernel
theorem dX12_pitch_34 : decode cX12_pitch 34 = .ok (.aload_n 0, 1) := by decide +kernel
theorem dX12_pitch_35 : decode cX12_pitch 35 = .ok (.iload_n 1, 1) := by decide +kernel
theorem dX12_pitch_36 : decode cX12_pitch 36 = .ok (.iload_n 2, 1) := by decide +kernel
theorem dX12_pitch_37 : decode cX12_pitch 37 = .ok (.iload_n 3, 1) := by decide +kernel
theorem dX12_pitch_38 : decode cX12_pitch 38 = .ok (.iload 4, 2) := by decide +kernel
theorem dX12_pitch_40 : decode cX12_pitch 40 = .ok (.invokevirtual 184, 3) := by decide +kernel
theorem dX12_pitch_43 : decode cX12_pitch 43 = .ok (.goto 5, 3) := by decide +kernel
theorem dX12_pitch_46 : decode cX12_pitch 46 = .ok (.ldc 188, 2) := by decide +kernel
theorem dX12_pitch_48 : decode cX12_pitch 48 = .ok (.ireturn, 1) := by decide +kernel
theorem dX12_tries_0 : decode cX12_tries 0 = .ok (.aload_n 0, 1) := by decide +kernel
theorem dX12_tries_1 : decode cX12_tries 1 = .ok (.iload_n 1, 1) := by decide +kernel
theorem dX12_tries_2 : decode cX12_tries 2 = .ok (.iload_n 2, 1) := by decide +kernel
theorem dX12_tries_3 : decode cX12_tries 3 = .ok (.iload_n 3, 1) := by decide +kernel
theorem dX12_tries_4 : decode cX12_tries 4 = .ok (.iload 4, 2) := by decide +kernel
theorem dX12_tries_6 : decode cX12_tries 6 = .ok (.iload 5, 2) := by decide +kernel
theorem dX12_tries_8 : decode cX12_tries 8 = .ok (.invokevirtual 177, 3) := by decide +kernel
theorem dX12_tries_11 : decode cX12_tries 11 = .ok (.ifCond .ne 5, 3) := by decide +kernel
theorem dX12_tries_14 : decode cX12_tries 14 = .ok (.iconst (-1), 1) := by decide +kernel
theorem dX12_tries_15 : decode cX12_tries 15 = .ok (.ireturn, 1) := by decide +kernel
theorem dX12_tries_16 : decode cX12_tries 16 = .ok (.aload_n 0, 1) := by decide +kernel
theorem dX12_tries_17 : decode cX12_tries 17 = .ok (.iload_n 1, 1) := by decide +kernel
theorem dX12_tries_18 : decode cX12_tries 18 = .ok (.invokevirtual 151, 3) := by decide +kernel
theorem dX12_tries_21 : decode cX12_tries 21 = .ok (.ifCond .eq 6, 3) := by decide +kernel
theorem dX12_tries_24 : decode cX12_tries 24 = .ok (.bipush (-3), 2) := by decide +kernel
theorem dX12_tries_26 : decode cX12_tries 26 = .ok (.ireturn, 1) := by decide +kernel
theorem dX12_tries_27 : decode cX12_tries 27 = .ok (.aload_n 0, 1) := by decide +kernel
theorem dX12_tries_28 : decode cX12_tries 28 = .ok (.getfield 9, 3) := by decide +kernel
theorem dX12_tries_31 : decode cX12_tries 31 = .ok (.iload_n 1, 1) := by decide +kernel
theorem dX12_tries_32 : decode cX12_tries 32 = .ok (.iconst 3, 1) := by decide +kernel
theorem dX12_tries_33 : decode cX12_tries 33 = .ok (.invokestatic 51, 3) := by decide +kernel
theorem dX12_tries_36 : decode cX12_tries 36 = .ok (.dup2, 1) := by decide +kernel
theorem dX12_tries_37 : decode cX12_tries 37 = .ok (.iaload, 1) := by decide +kernel
theorem dX12_tries_38 : decode cX12_tries 38 = .ok (.aload_n 0, 1) := by decide +kernel
theorem dX12_tries_39 : decode cX12_tries 39 = .ok (.iload_n 3, 1) := by decide +kernel
theorem dX12_tries_40 : decode cX12_tries 40 = .ok (.iload 5, 2) := by decide +kernel
theorem dX12_tries_42 : decode cX12_tries 42 = .ok (.invokevirtual 154, 3) := by decide +kernel
theorem dX12_tries_45 : decode cX12_tries 45 = .ok (.iadd, 1) := by decide +kernel
theorem dX12_tries_46 : decode cX12_tries 46 = .ok (.iastore, 1) := by decide +kernel
theorem dX12_tries_47 : decode cX12_tries 47 = .ok (.aload_n 0, 1) := by decide +kernel
theorem dX12_tries_48 : decode cX12_tries 48 = .ok (.iload_n 1, 1) := by decide +kernel
theorem dX12_tries_49 : decode cX12_tries 49 = .ok (.iload_n 2, 1) := by decide +kernel
theorem dX12_tries_50 : decode cX12_tries 50 = .ok (.iload_n 3, 1) := by decide +kernel
theorem dX12_tries_51 : decode cX12_tries 51 = .ok (.iload 4, 2) := by decide +kernel
theorem dX12_tries_53 : decode cX12_tries 53 = .ok (.iload 5, 2) := by decide +kernel
theorem dX12_tries_55 : decode cX12_tries 55 = .ok (.invokevirtual 181, 3) := by decide +kernel
theorem dX12_tries_58 : decode cX12_tries 58 = .ok (.ifCond .eq 7, 3) := by decide +kernel
theorem dX12_tries_61 : decode cX12_tries 61 = .ok (.iconst 1, 1) := by decide +kernel
theorem dX12_tries_62 : decode cX12_tries 62 = .ok (.goto 4, 3) := by decide +kernel
theorem dX12_tries_65 : decode cX12_tries 65 = .ok (.iconst 0, 1) := by decide +kernel
theorem dX12_tries_66 : decode cX12_tries 66 = .ok (.aload_n 0, 1) := by decide +kernel
theorem dX12_tries_67 : decode cX12_tries 67 = .ok (.iload_n 1, 1) := by decide +kernel
theorem dX12_tries_68 : decode cX12_tries 68 = .ok (.invokevirtual 151, 3) := by decide +kernel
theorem dX12_tries_71 : decode cX12_tries 71 = .ok (.ifCond .eq 7, 3) := by decide +kernel
theorem dX12_tries_74 : decode cX12_tries 74 = .ok (.iconst 2, 1) := by decide +kernel
theorem dX12_tries_75 : decode cX12_tries 75 = .ok (.goto 4, 3) := by decide +kernel
theorem dX12_tries_78 : decode cX12_tries 78 = .ok (.iconst 0, 1) := by decide +kernel
theorem dX12_tries_79 : decode cX12_tries 79 = .ok (.iadd, 1) := by decide +kernel
theorem dX12_tries_80 : decode cX12_tries 80 = .ok (.ireturn, 1) := by decide +kernel
theorem dX12_looks_0 : decode cX12_looks 0 = .ok (.iconst 0, 1) := by decide +kernel
theorem dX12_looks_1 : decode cX12_looks 1 = .ok (.istore 4, 2) := by decide +kernel
theorem dX12_looks_3 : decode cX12_looks 3 = .ok (.iconst 0, 1) := by decide +kernel
theorem dX12_looks_4 : decode cX12_looks 4 = .ok (.istore 5, 2) := by decide +kernel
theorem dX12_looks_6 : decode cX12_looks 6 = .ok (.aload_n 0, 1) := by decide +kernel
theorem dX12_looks_7 : decode cX12_looks 7 = .ok (.bipush (-4), 2) := by decide +kernel
theorem dX12_looks_9 : decode cX12_looks 9 = .ok (.putfield 189, 3) := by decide +kernel
theorem dX12_looks_12 : decode cX12_looks 12 = .ok (.aload_n 0, 1) := by decide +kernel
theorem dX12_looks_13 : decode cX12_looks 13 = .ok (.bipush (-4), 2) := by decide +kernel
theorem dX12_looks_15 : decode cX12_looks 15 = .ok (.putfield 192, 3) := by decide +kernel
theorem dX12_looks_18 : decode cX12_looks 18 = .ok (.bipush 60, 2) := by decide +kernel
theorem dX12_looks_20 : decode cX12_looks 20 = .ok (.istore 6, 2) := by decide +kernel
theorem dX12_looks_22 : decode cX12_looks 22 = .ok (.iload 6, 2) := by decide +kernel
theorem dX12_looks_24 : decode cX12_looks 24 = .ok (.ifCond .lt 50, 3) := by decide +kernel
theorem dX12_looks_27 : decode cX12_looks 27 = .ok (.aload_n 0, 1) := by decide +kernel
theorem dX12_looks_28 : decode cX12_looks 28 = .ok (.iload_n 1, 1) := by decide +kernel
theorem dX12_looks_29 : decode cX12_looks 29 = .ok (.iload_n 2, 1) := by decide +kernel
theorem dX12_looks_30 : decode cX12_looks 30 = .ok (.iload_n 3, 1) := by decide +kernel
theorem dX12_looks_31 : decode cX12_looks 31 = .ok (.iload 6, 2) := by decide +kernel
theorem dX12_looks_33 : decode cX12_looks 33 = .ok (.invokevirtual 110, 3) := by decide +kernel
theorem dX12_looks_36 : decode cX12_looks 36 = .ok (.ifCond .eq 12, 3) := by decide +kernel
theorem dX12_looks_39 : decode cX12_looks 39 = .ok (.iinc 4 1, 3) := by decide +kernel
theorem dX12_looks_42 : decode cX12_looks 42 = .ok (.aload_n 0, 1) := by decide +kernel
theorem dX12_looks_43 : decode cX12_looks 43 = .ok (.iload 6, 2) := by decide +kernel
theorem dX12_looks_45 : decode cX12_looks 45 = .ok (.putfield 189, 3) := by decide +kernel
theorem dX12_looks_48 : decode cX12_looks 48 = .ok (.aload_n 0, 1) := by decide +kernel
theorem dX12_looks_49 : decode cX12_looks 49 = .ok (.iload_n 2, 1) := by decide +kernel
theorem dX12_looks_50 : decode cX12_looks 50 = .ok (.iload_n 3, 1) := by decide +kernel
theorem dX12_looks_51 : decode cX12_looks 51 = .ok (.iload 6, 2) := by decide +kernel
theorem dX12_looks_53 : decode cX12_looks 53 = .ok (.invokevirtual 114, 3) := by decide +kernel
theorem dX12_looks_56 : decode cX12_looks 56 = .ok (.ifCond .eq 12, 3) := by decide +kernel
theorem dX12_looks_59 : decode cX12_looks 59 = .ok (.iinc 5 1, 3) := by decide +kernel
theorem dX12_looks_62 : decode cX12_looks 62 = .ok (.aload_n 0, 1) := by decide +kernel
theorem dX12_looks_63 : decode cX12_looks 63 = .ok (.iload 6, 2) := by decide +kernel
theorem dX12_looks_65 : decode cX12_looks 65 = .ok (.putfield 192, 3) := by decide +kernel
theorem dX12_looks_68 : decode cX12_looks 68 = .ok (.iinc 6 (-1), 3) := by decide +kernel
theorem dX12_looks_71 : decode cX12_looks 71 = .ok (.goto (-49), 3) := by decide +kernel
theorem dX12_looks_74 : decode cX12_looks 74 = .ok (.aload_n 0, 1) := by decide +kernel
theorem dX12_looks_75 : decode cX12_looks 75 = .ok (.iload 4, 2) := by decide +kernel
theorem dX12_looks_77 : decode cX12_looks 77 = .ok (.iload 5, 2) := by decide +kernel
theorem dX12_looks_79 : decode cX12_looks 79 = .ok (.imul, 1) := by decide +kernel
theorem dX12_looks_80 : decode cX12_looks 80 = .ok (.putfield 195, 3) := by decide +kernel
theorem dX12_looks_83 : decode cX12_looks 83 = .ok (.aload_n 0, 1) := by decide +kernel
theorem dX12_looks_84 : decode cX12_looks 84 = .ok (.getfield 195, 3) := by decide +kernel
theorem dX12_looks_87 : decode cX12_looks 87 = .ok (.ifCond .le 4, 3) := by decide +kernel
theorem dX12_looks_90 : decode cX12_looks 90 = .ok (.return_, 1) := by decide +kernel
theorem dX12_looks_91 : decode cX12_looks 91 = .ok (.aload_n 0, 1) := by decide +kernel
theorem dX12_looks_92 : decode cX12_looks 92 = .ok (.bipush (-4), 2) := by decide +kernel
theorem dX12_looks_94 : decode cX12_looks 94 = .ok (.putfield 189, 3) := by decide +kernel
theorem dX12_looks_97 : decode cX12_looks 97 = .ok (.aload_n 0, 1) := by decide +kernel
theorem dX12_looks_98 : decode cX12_looks 98 = .ok (.bipush (-4), 2) := by decide +kernel
theorem dX12_looks_100 : decode cX12_looks 100 = .ok (.putfield 192, 3) := by decide +kernel
theorem dX12_looks_103 : decode cX12_looks 103 = .ok (.return_, 1) := by decide +kernel
theorem dX12_where_0 : decode cX12_where 0 = .ok (.aload_n 0, 1) := by decide +kernel
theorem dX12_where_1 : decode cX12_where 1 = .ok (.iload_n 1, 1) := by decide +kernel
theorem dX12_where_2 : decode cX12_where 2 = .ok (.iload_n 2, 1) := by decide +kernel
theorem dX12_where_3 : decode cX12_where 3 = .ok (.iload_n 3, 1) := by decide +kernel
theorem dX12_where_4 : decode cX12_where 4 = .ok (.invokevirtual 148, 3) := by decide +kernel
theorem dX12_where_7 : decode cX12_where 7 = .ok (.ifCond .eq 13, 3) := by decide +kernel
theorem dX12_where_10 : decode cX12_where 10 = .ok (.iload 4, 2) := by decide +kernel
theorem dX12_where_12 : decode cX12_where 12 = .ok (.iconst 0, 1) := by decide +kernel
theorem dX12_where_13 : decode cX12_where 13 = .ok (.iconst 2, 1) := by decide +kernel
theorem dX12_where_14 : decode cX12_where 14 = .ok (.invokestatic 58, 3) := by decide +kernel
theorem dX12_where_17 : decode cX12_where 17 = .ok (.ifCond .ne 5, 3) := by decide +kernel
theorem dX12_where_20 : decode cX12_where 20 = .ok (.iconst (-1), 1) := by decide +kernel
theorem dX12_where_21 : decode cX12_where 21 = .ok (.ireturn, 1) := by decide +kernel
theorem dX12_where_22 : decode cX12_where 22 = .ok (.aload_n 0, 1) := by decide +kernel
theorem dX12_where_23 : decode cX12_where 23 = .ok (.iload_n 1, 1) := by decide +kernel
theorem dX12_where_24 : decode cX12_where 24 = .ok (.iload_n 2, 1) := by decide +kernel
theorem dX12_where_25 : decode cX12_where 25 = .ok (.iload_n 3, 1) := by decide +kernel
theorem dX12_where_26 : decode cX12_where 26 = .ok (.invokevirtual 198, 3) := by decide +kernel
theorem dX12_where_29 : decode cX12_where 29 = .ok (.iload 4, 2) := by decide +kernel
theorem dX12_where_31 : decode cX12_where 31 = .ok (.ifCond .ne 10, 3) := by decide +kernel
theorem dX12_where_34 : decode cX12_where 34 = .ok (.aload_n 0, 1) := by decide +kernel
theorem dX12_where_35 : decode cX12_where 35 = .ok (.getfield 195, 3) := by decide +kernel
theorem dX12_where_38 : decode cX12_where 38 = .ok (.goto 20, 3) := by decide +kernel
theorem dX12_where_41 : decode cX12_where 41 = .ok (.iload 4, 2) := by decide +kernel
theorem dX12_where_43 : decode cX12_where 43 = .ok (.iconst 1, 1) := by decide +kernel
theorem dX12_where_44 : decode cX12_where 44 = .ok (.if_icmp .ne 10, 3) := by decide +kernel
theorem dX12_where_47 : decode cX12_where 47 = .ok (.aload_n 0, 1) := by decide +kernel
theorem dX12_where_48 : decode cX12_where 48 = .ok (.getfield 189, 3) := by decide +kernel
theorem dX12_where_51 : decode cX12_where 51 = .ok (.goto 7, 3) := by decide +kernel
theorem dX12_where_54 : decode cX12_where 54 = .ok (.aload_n 0, 1) := by decide +kernel
theorem dX12_where_55 : decode cX12_where 55 = .ok (.getfield 192, 3) := by decide +kernel
theorem dX12_where_58 : decode cX12_where 58 = .ok (.ireturn, 1) := by decide +kernel
theorem dX12_whoCan_0 : decode cX12_whoCan 0 = .ok (.iconst 0, 1) := by decide +kernel
theorem dX12_whoCan_1 : decode cX12_whoCan 1 = .ok (.istore_n 1, 1) := by decide +kernel
theorem dX12_whoCan_2 : decode cX12_whoCan 2 = .ok (.iconst 0, 1) := by decide +kernel
theorem dX12_whoCan_3 : decode cX12_whoCan 3 = .ok (.istore_n 2, 1) := by decide +kernel
theorem dX12_whoCan_4 : decode cX12_whoCan 4 = .ok (.iload_n 2, 1) := by decide +kernel
theorem dX12_whoCan_5 : decode cX12_whoCan 5 = .ok (.aload_n 0, 1) := by decide +kernel
theorem dX12_whoCan_6 : decode cX12_whoCan 6 = .ok (.getfield 9, 3) := by decide +kernel
theorem dX12_whoCan_9 : decode cX12_whoCan 9 = .ok (.iconst 1, 1) := by decide +kernel
theorem dX12_whoCan_10 : decode cX12_whoCan 10 = .ok (.iaload, 1) := by decide +kernel
theorem dX12_whoCan_11 : decode cX12_whoCan 11 = .ok (.if_icmp .ge 42, 3) := by decide +kernel
theorem dX12_whoCan_14 : decode cX12_whoCan 14 = .ok (.iconst 0, 1) := by decide +kernel
theorem dX12_whoCan_15 : decode cX12_whoCan 15 = .ok (.istore_n 3, 1) := by decide +kernel
theorem dX12_whoCan_16 : decode cX12_whoCan 16 = .ok (.iload_n 3, 1) := by decide +kernel
theorem dX12_whoCan_17 : decode cX12_whoCan 17 = .ok (.aload_n 0, 1) := by decide +kernel
theorem dX12_whoCan_18 : decode cX12_whoCan 18 = .ok (.getfield 9, 3) := by decide +kernel
theorem dX12_whoCan_21 : decode cX12_whoCan 21 = .ok (.iconst 2, 1) := by decide +kernel
theorem dX12_whoCan_22 : decode cX12_whoCan 22 = .ok (.iaload, 1) := by decide +kernel
theorem dX12_whoCan_23 : decode cX12_whoCan 23 = .ok (.if_icmp .ge 24, 3) := by decide +kernel
theorem dX12_whoCan_26 : decode cX12_whoCan 26 = .ok (.aload_n 0, 1) := by decide +kernel
theorem dX12_whoCan_27 : decode cX12_whoCan 27 = .ok (.iload_n 2, 1) := by decide +kernel
theorem dX12_whoCan_28 : decode cX12_whoCan 28 = .ok (.iload_n 3, 1) := by decide +kernel
theorem dX12_whoCan_29 : decode cX12_whoCan 29 = .ok (.invokevirtual 201, 3) := by decide +kernel
theorem dX12_whoCan_32 : decode cX12_whoCan 32 = .ok (.ifCond .lt 9, 3) := by decide +kernel
theorem dX12_whoCan_35 : decode cX12_whoCan 35 = .ok (.iload_n 1, 1) := by decide +kernel
theorem dX12_whoCan_36 : decode cX12_whoCan 36 = .ok (.iconst 1, 1) := by decide +kernel
theorem dX12_whoCan_37 : decode cX12_whoCan 37 = .ok (.iload_n 2, 1) := by decide +kernel
theorem dX12_whoCan_38 : decode cX12_whoCan 38 = .ok (.ishl, 1) := by decide +kernel
theorem dX12_whoCan_39 : decode cX12_whoCan 39 = .ok (.ior, 1) := by decide +kernel
theorem dX12_whoCan_40 : decode cX12_whoCan 40 = .ok (.istore_n 1, 1) := by decide +kernel
theorem dX12_whoCan_41 : decode cX12_whoCan 41 = .ok (.iinc 3 1, 3) := by decide +kernel
theorem dX12_whoCan_44 : decode cX12_whoCan 44 = .ok (.goto (-28), 3) := by decide +kernel
theorem dX12_whoCan_47 : decode cX12_whoCan 47 = .ok (.iinc 2 1, 3) := by decide +kernel
theorem dX12_whoCan_50 : decode cX12_whoCan 50 = .ok (.goto (-46), 3) := by decide +kernel
theorem dX12_whoCan_53 : decode cX12_whoCan 53 = .ok (.iload_n 1, 1) := by decide +kernel
theorem dX12_whoCan_54 : decode cX12_whoCan 54 = .ok (.ireturn, 1) := by decide +kernel
theorem dX12_bestBlade_0 : decode cX12_bestBlade 0 = .ok (.bipush (-4), 2) := by decide +kernel
theorem dX12_bestBlade_2 : decode cX12_bestBlade 2 = .ok (.istore_n 3, 1) := by decide +kernel
theorem dX12_bestBlade_3 : decode cX12_bestBlade 3 = .ok (.iconst 0, 1) := by decide +kernel
theorem dX12_bestBlade_4 : decode cX12_bestBlade 4 = .ok (.istore 4, 2) := by decide +kernel
theorem dX12_bestBlade_6 : decode cX12_bestBlade 6 = .ok (.iconst 0, 1) := by decide +kernel
theorem dX12_bestBlade_7 : decode cX12_bestBlade 7 = .ok (.istore 5, 2) := by decide +kernel
theorem dX12_bestBlade_9 : decode cX12_bestBlade 9 = .ok (.iload 5, 2) := by decide +kernel
theorem dX12_bestBlade_11 : decode cX12_bestBlade 11 = .ok (.aload_n 0, 1) := by decide +kernel
theorem dX12_bestBlade_12 : decode cX12_bestBlade 12 = .ok (.getfield 9, 3) := by decide +kernel
theorem dX12_bestBlade_15 : decode cX12_bestBlade 15 = .ok (.iconst 0, 1) := by decide +kernel
theorem dX12_bestBlade_16 : decode cX12_bestBlade 16 = .ok (.iaload, 1) := by decide +kernel
theorem dX12_bestBlade_17 : decode cX12_bestBlade 17 = .ok (.if_icmp .ge 50, 3) := by decide +kernel
theorem dX12_bestBlade_20 : decode cX12_bestBlade 20 = .ok (.aload_n 0, 1) := by decide +kernel
theorem dX12_bestBlade_21 : decode cX12_bestBlade 21 = .ok (.iload 5, 2) := by decide +kernel
theorem dX12_bestBlade_23 : decode cX12_bestBlade 23 = .ok (.invokevirtual 151, 3) := by decide +kernel
theorem dX12_bestBlade_26 : decode cX12_bestBlade 26 = .ok (.ifCond .eq 6, 3) := by decide +kernel
theorem dX12_bestBlade_29 : decode cX12_bestBlade 29 = .ok (.goto 32, 3) := by decide +kernel
theorem dX12_bestBlade_32 : decode cX12_bestBlade 32 = .ok (.aload_n 0, 1) := by decide +kernel
theorem dX12_bestBlade_33 : decode cX12_bestBlade 33 = .ok (.iload 5, 2) := by decide +kernel
theorem dX12_bestBlade_35 : decode cX12_bestBlade 35 = .ok (.iload_n 1, 1) := by decide +kernel
theorem dX12_bestBlade_36 : decode cX12_bestBlade 36 = .ok (.iload_n 2, 1) := by decide +kernel
theorem dX12_bestBlade_37 : decode cX12_bestBlade 37 = .ok (.invokevirtual 198, 3) := by decide +kernel
theorem dX12_bestBlade_40 : decode cX12_bestBlade 40 = .ok (.aload_n 0, 1) := by decide +kernel
theorem dX12_bestBlade_41 : decode cX12_bestBlade 41 = .ok (.getfield 195, 3) := by decide +kernel
theorem dX12_bestBlade_44 : decode cX12_bestBlade 44 = .ok (.iload 4, 2) := by decide +kernel
theorem dX12_bestBlade_46 : decode cX12_bestBlade 46 = .ok (.if_icmp .gt 6, 3) := by decide +kernel
theorem dX12_bestBlade_49 : decode cX12_bestBlade 49 = .ok (.goto 12, 3) := by decide +kernel
theorem dX12_bestBlade_52 : decode cX12_bestBlade 52 = .ok (.iload 5, 2) := by decide +kernel
theorem dX12_bestBlade_54 : decode cX12_bestBlade 54 = .ok (.istore_n 3, 1) := by decide +kernel
theorem dX12_bestBlade_55 : decode cX12_bestBlade 55 = .ok (.aload_n 0, 1) := by decide +kernel
theorem dX12_bestBlade_56 : decode cX12_bestBlade 56 = .ok (.getfield 195, 3) := by decide +kernel
theorem dX12_bestBlade_59 : decode cX12_bestBlade 59 = .ok (.istore 4, 2) := by decide +kernel
theorem dX12_bestBlade_61 : decode cX12_bestBlade 61 = .ok (.iinc 5 1, 3) := by decide +kernel
theorem dX12_bestBlade_64 : decode cX12_bestBlade 64 = .ok (.goto (-55), 3) := by decide +kernel
theorem dX12_bestBlade_67 : decode cX12_bestBlade 67 = .ok (.iload_n 3, 1) := by decide +kernel
theorem dX12_bestBlade_68 : decode cX12_bestBlade 68 = .ok (.ireturn, 1) := by decide +kernel
theorem dX12_which_0 : decode cX12_which 0 = .ok (.aload_n 0, 1) := by decide +kernel
theorem dX12_which_1 : decode cX12_which 1 = .ok (.iload_n 1, 1) := by decide +kernel
theorem dX12_which_2 : decode cX12_which 2 = .ok (.invokevirtual 66, 3) := by decide +kernel
theorem dX12_which_5 : decode cX12_which 5 = .ok (.ifCond .eq 20, 3) := by decide +kernel
theorem dX12_which_8 : decode cX12_which 8 = .ok (.aload_n 0, 1) := by decide +kernel
theorem dX12_which_9 : decode cX12_which 9 = .ok (.iload_n 2, 1) := by decide +kernel
theorem dX12_which_10 : decode cX12_which 10 = .ok (.invokevirtual 69, 3) := by decide +kernel
theorem dX12_which_13 : decode cX12_which 13 = .ok (.ifCond .eq 12, 3) := by decide +kernel
theorem dX12_which_16 : decode cX12_which 16 = .ok (.aload_n 0, 1) := by decide +kernel
theorem dX12_which_17 : decode cX12_which 17 = .ok (.iload_n 1, 1) := by decide +kernel
theorem dX12_which_18 : decode cX12_which 18 = .ok (.iload_n 2, 1) := by decide +kernel
theorem dX12_which_19 : decode cX12_which 19 = .ok (.invokevirtual 201, 3) := by decide +kernel
theorem dX12_which_22 : decode cX12_which 22 = .ok (.goto 4, 3) := by decide +kernel
theorem dX12_which_25 : decode cX12_which 25 = .ok (.iconst (-1), 1) := by decide +kernel
theorem dX12_which_26 : decode cX12_which 26 = .ok (.ireturn, 1) := by decide +kernel
theorem dX12_wrong_0 : decode cX12_wrong 0 = .ok (.aload_n 0, 1) := by decide +kernel
theorem dX12_wrong_1 : decode cX12_wrong 1 = .ok (.iload_n 1, 1) := by decide +kernel
theorem dX12_wrong_2 : decode cX12_wrong 2 = .ok (.iload_n 2, 1) := by decide +kernel
theorem dX12_wrong_3 : decode cX12_wrong 3 = .ok (.iload_n 3, 1) := by decide +kernel
theorem dX12_wrong_4 : decode cX12_wrong 4 = .ok (.iload 4, 2) := by decide +kernel
theorem dX12_wrong_6 : decode cX12_wrong 6 = .ok (.iload 5, 2) := by decide +kernel
theorem dX12_wrong_8 : decode cX12_wrong 8 = .ok (.invokevirtual 177, 3) := by decide +kernel
theorem dX12_wrong_11 : decode cX12_wrong 11 = .ok (.ifCond .ne 5, 3) := by decide +kernel
theorem dX12_wrong_14 : decode cX12_wrong 14 = .ok (.iconst (-1), 1) := by decide +kernel
theorem dX12_wrong_15 : decode cX12_wrong 15 = .ok (.ireturn, 1) := by decide +kernel
theorem dX12_wrong_16 : decode cX12_wrong 16 = .ok (.iload 4, 2) := by decide +kernel
theorem dX12_wrong_18 : decode cX12_wrong 18 = .ok (.aload_n 0, 1) := by decide +kernel
theorem dX12_wrong_19 : decode cX12_wrong 19 = .ok (.iload_n 1, 1) := by decide +kernel
theorem dX12_wrong_20 : decode cX12_wrong 20 = .ok (.iload_n 2, 1) := by decide +kernel
theorem dX12_wrong_21 : decode cX12_wrong 21 = .ok (.iload_n 3, 1) := by decide +kernel
theorem dX12_wrong_22 : decode cX12_wrong 22 = .ok (.invokevirtual 98, 3) := by decide +kernel
theorem dX12_wrong_25 : decode cX12_wrong 25 = .ok (.if_icmp .ge 7, 3) := by decide +kernel
theorem dX12_wrong_28 : decode cX12_wrong 28 = .ok (.iconst 1, 1) := by decide +kernel
theorem dX12_wrong_29 : decode cX12_wrong 29 = .ok (.goto 4, 3) := by decide +kernel
theorem dX12_wrong_32 : decode cX12_wrong 32 = .ok (.iconst 0, 1) := by decide +kernel
theorem dX12_wrong_33 : decode cX12_wrong 33 = .ok (.istore 6, 2) := by decide +kernel
theorem dX12_wrong_35 : decode cX12_wrong 35 = .ok (.iload 6, 2) := by decide +kernel
theorem dX12_wrong_37 : decode cX12_wrong 37 = .ok (.iload 4, 2) := by decide +kernel
theorem dX12_wrong_39 : decode cX12_wrong 39 = .ok (.aload_n 0, 1) := by decide +kernel
theorem dX12_wrong_40 : decode cX12_wrong 40 = .ok (.iload_n 1, 1) := by decide +kernel
theorem dX12_wrong_41 : decode cX12_wrong 41 = .ok (.iload_n 2, 1) := by decide +kernel
theorem dX12_wrong_42 : decode cX12_wrong 42 = .ok (.iload_n 3, 1) := by decide +kernel
theorem dX12_wrong_43 : decode cX12_wrong 43 = .ok (.invokevirtual 101, 3) := by decide +kernel
theorem dX12_wrong_46 : decode cX12_wrong 46 = .ok (.if_icmp .le 7, 3) := by decide +kernel
theorem dX12_wrong_49 : decode cX12_wrong 49 = .ok (.iconst 2, 1) := by decide +kernel
theorem dX12_wrong_50 : decode cX12_wrong 50 = .ok (.goto 4, 3) := by decide +kernel
theorem dX12_wrong_53 : decode cX12_wrong 53 = .ok (.iconst 0, 1) := by decide +kernel
theorem dX12_wrong_54 : decode cX12_wrong 54 = .ok (.ior, 1) := by decide +kernel
theorem dX12_wrong_55 : decode cX12_wrong 55 = .ok (.istore 6, 2) := by decide +kernel
theorem dX12_wrong_57 : decode cX12_wrong 57 = .ok (.iload 6, 2) := by decide +kernel
theorem dX12_wrong_59 : decode cX12_wrong 59 = .ok (.iload 4, 2) := by decide +kernel
theorem dX12_wrong_61 : decode cX12_wrong 61 = .ok (.aload_n 0, 1) := by decide +kernel
theorem dX12_wrong_62 : decode cX12_wrong 62 = .ok (.iload_n 2, 1) := by decide +kernel
theorem dX12_wrong_63 : decode cX12_wrong 63 = .ok (.invokevirtual 104, 3) := by decide +kernel
theorem dX12_wrong_66 : decode cX12_wrong 66 = .ok (.if_icmp .le 7, 3) := by decide +kernel
theorem dX12_wrong_69 : decode cX12_wrong 69 = .ok (.iconst 4, 1) := by decide +kernel
theorem dX12_wrong_70 : decode cX12_wrong 70 = .ok (.goto 4, 3) := by decide +kernel
theorem dX12_wrong_73 : decode cX12_wrong 73 = .ok (.iconst 0, 1) := by decide +kernel
theorem dX12_wrong_74 : decode cX12_wrong 74 = .ok (.ior, 1) := by decide +kernel
theorem dX12_wrong_75 : decode cX12_wrong 75 = .ok (.istore 6, 2) := by decide +kernel
theorem dX12_wrong_77 : decode cX12_wrong 77 = .ok (.iload 6, 2) := by decide +kernel
theorem dX12_wrong_79 : decode cX12_wrong 79 = .ok (.iload 5, 2) := by decide +kernel
theorem dX12_wrong_81 : decode cX12_wrong 81 = .ok (.aload_n 0, 1) := by decide +kernel
theorem dX12_wrong_82 : decode cX12_wrong 82 = .ok (.iload_n 2, 1) := by decide +kernel
theorem dX12_wrong_83 : decode cX12_wrong 83 = .ok (.iload_n 3, 1) := by decide +kernel
theorem dX12_wrong_84 : decode cX12_wrong 84 = .ok (.invokevirtual 92, 3) := by decide +kernel
theorem dX12_wrong_87 : decode cX12_wrong 87 = .ok (.if_icmp .ge 8, 3) := by decide +kernel
theorem dX12_wrong_90 : decode cX12_wrong 90 = .ok (.bipush 8, 2) := by decide +kernel
theorem dX12_wrong_92 : decode cX12_wrong 92 = .ok (.goto 4, 3) := by decide +kernel
theorem dX12_wrong_95 : decode cX12_wrong 95 = .ok (.iconst 0, 1) := by decide +kernel
theorem dX12_wrong_96 : decode cX12_wrong 96 = .ok (.ior, 1) := by decide +kernel
theorem dX12_wrong_97 : decode cX12_wrong 97 = .ok (.istore 6, 2) := by decide +kernel
theorem dX12_wrong_99 : decode cX12_wrong 99 = .ok (.iload 6, 2) := by decide +kernel
theorem dX12_wrong_101 : decode cX12_wrong 101 = .ok (.iload 5, 2) := by decide +kernel
theorem dX12_wrong_103 : decode cX12_wrong 103 = .ok (.aload_n 0, 1) := by decide +kernel
theorem dX12_wrong_104 : decode cX12_wrong 104 = .ok (.iload_n 2, 1) := by decide +kernel
theorem dX12_wrong_105 : decode cX12_wrong 105 = .ok (.iload_n 3, 1) := by decide +kernel
theorem dX12_wrong_106 : decode cX12_wrong 106 = .ok (.invokevirtual 107, 3) := by decide +kernel
theorem dX12_wrong_109 : decode cX12_wrong 109 = .ok (.if_icmp .le 8, 3) := by decide +kernel
theorem dX12_wrong_112 : decode cX12_wrong 112 = .ok (.bipush 16, 2) := by decide +kernel
theorem dX12_wrong_114 : decode cX12_wrong 114 = .ok (.goto 4, 3) := by decide +kernel
theorem dX12_wrong_117 : decode cX12_wrong 117 = .ok (.iconst 0, 1) := by decide +kernel
theorem dX12_wrong_118 : decode cX12_wrong 118 = .ok (.ior, 1) := by decide +kernel
theorem dX12_wrong_119 : decode cX12_wrong 119 = .ok (.ireturn, 1) := by decide +kernel
theorem dX12_next_0 : decode cX12_next 0 = .ok (.aload_n 0, 1) := by decide +kernel
theorem dX12_next_1 : decode cX12_next 1 = .ok (.iload_n 1, 1) := by decide +kernel
theorem dX12_next_2 : decode cX12_next 2 = .ok (.iload_n 2, 1) := by decide +kernel
theorem dX12_next_3 : decode cX12_next 3 = .ok (.iload_n 3, 1) := by decide +kernel
theorem dX12_next_4 : decode cX12_next 4 = .ok (.invokevirtual 148, 3) := by decide +kernel
theorem dX12_next_7 : decode cX12_next 7 = .ok (.ifCond .eq 38, 3) := by decide +kernel
theorem dX12_next_10 : decode cX12_next 10 = .ok (.iload 4, 2) := by decide +kernel
theorem dX12_next_12 : decode cX12_next 12 = .ok (.ifCond .lt 33, 3) := by decide +kernel
theorem dX12_next_15 : decode cX12_next 15 = .ok (.iload 4, 2) := by decide +kernel
theorem dX12_next_17 : decode cX12_next 17 = .ok (.bipush 100, 2) := by decide +kernel
theorem dX12_next_19 : decode cX12_next 19 = .ok (.idiv, 1) := by decide +kernel
theorem dX12_next_20 : decode cX12_next 20 = .ok (.bipush 60, 2) := by decide +kernel
theorem dX12_next_22 : decode cX12_next 22 = .ok (.if_icmp .gt 23, 3) := by decide +kernel
theorem dX12_next_25 : decode cX12_next 25 = .ok (.iload 4, 2) := by decide +kernel
theorem dX12_next_27 : decode cX12_next 27 = .ok (.bipush 100, 2) := by decide +kernel
theorem dX12_next_29 : decode cX12_next 29 = .ok (.irem, 1) := by decide +kernel
theorem dX12_next_30 : decode cX12_next 30 = .ok (.bipush 60, 2) := by decide +kernel
theorem dX12_next_32 : decode cX12_next 32 = .ok (.if_icmp .gt 13, 3) := by decide +kernel
theorem dX12_next_35 : decode cX12_next 35 = .ok (.iload 5, 2) := by decide +kernel
theorem dX12_next_37 : decode cX12_next 37 = .ok (.iconst 0, 1) := by decide +kernel
theorem dX12_next_38 : decode cX12_next 38 = .ok (.iconst 1, 1) := by decide +kernel
theorem dX12_next_39 : decode cX12_next 39 = .ok (.invokestatic 58, 3) := by decide +kernel
theorem dX12_next_42 : decode cX12_next 42 = .ok (.ifCond .ne 5, 3) := by decide +kernel
theorem dX12_next_45 : decode cX12_next 45 = .ok (.iconst (-1), 1) := by decide +kernel
theorem dX12_next_46 : decode cX12_next 46 = .ok (.ireturn, 1) := by decide +kernel
theorem dX12_next_47 : decode cX12_next 47 = .ok (.bipush (-4), 2) := by decide +kernel
theorem dX12_next_49 : decode cX12_next 49 = .ok (.istore 6, 2) := by decide +kernel
theorem dX12_next_51 : decode cX12_next 51 = .ok (.ldc 204, 2) := by decide +kernel
theorem dX12_next_53 : decode cX12_next 53 = .ok (.istore 7, 2) := by decide +kernel
theorem dX12_next_55 : decode cX12_next 55 = .ok (.iconst 0, 1) := by decide +kernel
theorem dX12_next_56 : decode cX12_next 56 = .ok (.istore 8, 2) := by decide +kernel
theorem dX12_next_58 : decode cX12_next 58 = .ok (.iload 8, 2) := by decide +kernel
theorem dX12_next_60 : decode cX12_next 60 = .ok (.bipush 60, 2) := by decide +kernel
theorem dX12_next_62 : decode cX12_next 62 = .ok (.if_icmp .gt 91, 3) := by decide +kernel
theorem dX12_next_65 : decode cX12_next 65 = .ok (.iconst 0, 1) := by decide +kernel
theorem dX12_next_66 : decode cX12_next 66 = .ok (.istore 9, 2) := by decide +kernel
theorem dX12_next_68 : decode cX12_next 68 = .ok (.iload 9, 2) := by decide +kernel
theorem dX12_next_70 : decode cX12_next 70 = .ok (.bipush 60, 2) := by decide +kernel
theorem dX12_next_72 : decode cX12_next 72 = .ok (.if_icmp .gt 75, 3) := by decide +kernel
theorem dX12_next_75 : decode cX12_next 75 = .ok (.aload_n 0, 1) := by decide +kernel
theorem dX12_next_76 : decode cX12_next 76 = .ok (.iload_n 1, 1) := by decide +kernel
theorem dX12_next_77 : decode cX12_next 77 = .ok (.iload_n 2, 1) := by decide +kernel
theorem dX12_next_78 : decode cX12_next 78 = .ok (.iload_n 3, 1) := by decide +kernel
theorem dX12_next_79 : decode cX12_next 79 = .ok (.iload 8, 2) := by decide +kernel
theorem dX12_next_81 : decode cX12_next 81 = .ok (.iload 9, 2) := by decide +kernel
theorem dX12_next_83 : decode cX12_next 83 = .ok (.invokevirtual 181, 3) := by decide +kernel
theorem dX12_next_86 : decode cX12_next 86 = .ok (.ifCond .ne 6, 3) := by decide +kernel
theorem dX12_next_89 : decode cX12_next 89 = .ok (.goto 52, 3) := by decide +kernel
theorem dX12_next_92 : decode cX12_next 92 = .ok (.iload 8, 2) := by decide +kernel
theorem dX12_next_94 : decode cX12_next 94 = .ok (.iload 4, 2) := by decide +kernel
theorem dX12_next_96 : decode cX12_next 96 = .ok (.bipush 100, 2) := by decide +kernel
theorem dX12_next_98 : decode cX12_next 98 = .ok (.idiv, 1) := by decide +kernel
theorem dX12_next_99 : decode cX12_next 99 = .ok (.isub, 1) := by decide +kernel
theorem dX12_next_100 : decode cX12_next 100 = .ok (.invokestatic 205, 3) := by decide +kernel
theorem dX12_next_103 : decode cX12_next 103 = .ok (.iload 9, 2) := by decide +kernel
theorem dX12_next_105 : decode cX12_next 105 = .ok (.iload 4, 2) := by decide +kernel
theorem dX12_next_107 : decode cX12_next 107 = .ok (.bipush 100, 2) := by decide +kernel
theorem dX12_next_109 : decode cX12_next 109 = .ok (.irem, 1) := by decide +kernel
theorem dX12_next_110 : decode cX12_next 110 = .ok (.isub, 1) := by decide +kernel
theorem dX12_next_111 : decode cX12_next 111 = .ok (.invokestatic 205, 3) := by decide +kernel
theorem dX12_next_114 : decode cX12_next 114 = .ok (.iadd, 1) := by decide +kernel
theorem dX12_next_115 : decode cX12_next 115 = .ok (.istore 10, 2) := by decide +kernel
theorem dX12_next_117 : decode cX12_next 117 = .ok (.iload 10, 2) := by decide +kernel
theorem dX12_next_119 : decode cX12_next 119 = .ok (.iload 7, 2) := by decide +kernel
theorem dX12_next_121 : decode cX12_next 121 = .ok (.if_icmp .lt 6, 3) := by decide +kernel
theorem dX12_next_124 : decode cX12_next 124 = .ok (.goto 17, 3) := by decide +kernel
theorem dX12_next_127 : decode cX12_next 127 = .ok (.bipush 100, 2) := by decide +kernel
theorem dX12_next_129 : decode cX12_next 129 = .ok (.iload 8, 2) := by decide +kernel
theorem dX12_next_131 : decode cX12_next 131 = .ok (.imul, 1) := by decide +kernel
theorem dX12_next_132 : decode cX12_next 132 = .ok (.iload 9, 2) := by decide +kernel
theorem dX12_next_134 : decode cX12_next 134 = .ok (.iadd, 1) := by decide +kernel
theorem dX12_next_135 : decode cX12_next 135 = .ok (.istore 6, 2) := by decide +kernel
theorem dX12_next_137 : decode cX12_next 137 = .ok (.iload 10, 2) := by decide +kernel
theorem dX12_next_139 : decode cX12_next 139 = .ok (.istore 7, 2) := by decide +kernel
theorem dX12_next_141 : decode cX12_next 141 = .ok (.iinc 9 1, 3) := by decide +kernel
theorem dX12_next_144 : decode cX12_next 144 = .ok (.goto (-76), 3) := by decide +kernel
theorem dX12_next_147 : decode cX12_next 147 = .ok (.iinc 8 1, 3) := by decide +kernel
theorem dX12_next_150 : decode cX12_next 150 = .ok (.goto (-92), 3) := by decide +kernel
theorem dX12_next_153 : decode cX12_next 153 = .ok (.iload 6, 2) := by decide +kernel
theorem dX12_next_155 : decode cX12_next 155 = .ok (.ifCond .lt 8, 3) := by decide +kernel
theorem dX12_next_158 : decode cX12_next 158 = .ok (.iload 5, 2) := by decide +kernel
theorem dX12_next_160 : decode cX12_next 160 = .ok (.ifCond .ne 8, 3) := by decide +kernel
theorem dX12_next_163 : decode cX12_next 163 = .ok (.iload 6, 2) := by decide +kernel
theorem dX12_next_165 : decode cX12_next 165 = .ok (.goto 5, 3) := by decide +kernel
theorem dX12_next_168 : decode cX12_next 168 = .ok (.iload 7, 2) := by decide +kernel
theorem dX12_next_170 : decode cX12_next 170 = .ok (.ireturn, 1) := by decide +kernel
theorem dX12_halves_0 : decode cX12_halves 0 = .ok (.aload_n 0, 1) := by decide +kernel
theorem dX12_halves_1 : decode cX12_halves 1 = .ok (.iload_n 1, 1) := by decide +kernel
theorem dX12_halves_2 : decode cX12_halves 2 = .ok (.iload_n 2, 1) := by decide +kernel
theorem dX12_halves_3 : decode cX12_halves 3 = .ok (.iload_n 3, 1) := by decide +kernel
theorem dX12_halves_4 : decode cX12_halves 4 = .ok (.invokevirtual 148, 3) := by decide +kernel
theorem dX12_halves_7 : decode cX12_halves 7 = .ok (.ifCond .ne 5, 3) := by decide +kernel
theorem dX12_halves_10 : decode cX12_halves 10 = .ok (.iconst (-1), 1) := by decide +kernel
theorem dX12_halves_11 : decode cX12_halves 11 = .ok (.ireturn, 1) := by decide +kernel
theorem dX12_halves_12 : decode cX12_halves 12 = .ok (.iconst 0, 1) := by decide +kernel
theorem dX12_halves_13 : decode cX12_halves 13 = .ok (.istore 4, 2) := by decide +kernel
theorem dX12_halves_15 : decode cX12_halves 15 = .ok (.bipush 60, 2) := by decide +kernel
theorem dX12_halves_17 : decode cX12_halves 17 = .ok (.istore 5, 2) := by decide +kernel
theorem dX12_halves_19 : decode cX12_halves 19 = .ok (.iconst 1, 1) := by decide +kernel
theorem dX12_halves_20 : decode cX12_halves 20 = .ok (.istore 6, 2) := by decide +kernel
theorem dX12_halves_22 : decode cX12_halves 22 = .ok (.iload 4, 2) := by decide +kernel
theorem dX12_halves_24 : decode cX12_halves 24 = .ok (.iload 5, 2) := by decide +kernel
theorem dX12_halves_26 : decode cX12_halves 26 = .ok (.if_icmp .gt 63, 3) := by decide +kernel
theorem dX12_halves_29 : decode cX12_halves 29 = .ok (.iload 4, 2) := by decide +kernel
theorem dX12_halves_31 : decode cX12_halves 31 = .ok (.iload 5, 2) := by decide +kernel
theorem dX12_halves_33 : decode cX12_halves 33 = .ok (.iadd, 1) := by decide +kernel
theorem dX12_halves_34 : decode cX12_halves 34 = .ok (.iconst 2, 1) := by decide +kernel
theorem dX12_halves_35 : decode cX12_halves 35 = .ok (.idiv, 1) := by decide +kernel
theorem dX12_halves_36 : decode cX12_halves 36 = .ok (.istore 7, 2) := by decide +kernel
theorem dX12_halves_38 : decode cX12_halves 38 = .ok (.iload 7, 2) := by decide +kernel
theorem dX12_halves_40 : decode cX12_halves 40 = .ok (.aload_n 0, 1) := by decide +kernel
theorem dX12_halves_41 : decode cX12_halves 41 = .ok (.iload_n 1, 1) := by decide +kernel
theorem dX12_halves_42 : decode cX12_halves 42 = .ok (.iload_n 2, 1) := by decide +kernel
theorem dX12_halves_43 : decode cX12_halves 43 = .ok (.iload_n 3, 1) := by decide +kernel
theorem dX12_halves_44 : decode cX12_halves 44 = .ok (.invokevirtual 98, 3) := by decide +kernel
theorem dX12_halves_47 : decode cX12_halves 47 = .ok (.if_icmp .ge 12, 3) := by decide +kernel
theorem dX12_halves_50 : decode cX12_halves 50 = .ok (.iload 7, 2) := by decide +kernel
theorem dX12_halves_52 : decode cX12_halves 52 = .ok (.iconst 1, 1) := by decide +kernel
theorem dX12_halves_53 : decode cX12_halves 53 = .ok (.iadd, 1) := by decide +kernel
theorem dX12_halves_54 : decode cX12_halves 54 = .ok (.istore 4, 2) := by decide +kernel
theorem dX12_halves_56 : decode cX12_halves 56 = .ok (.goto 27, 3) := by decide +kernel
theorem dX12_halves_59 : decode cX12_halves 59 = .ok (.iload 7, 2) := by decide +kernel
theorem dX12_halves_61 : decode cX12_halves 61 = .ok (.aload_n 0, 1) := by decide +kernel
theorem dX12_halves_62 : decode cX12_halves 62 = .ok (.iload_n 1, 1) := by decide +kernel
theorem dX12_halves_63 : decode cX12_halves 63 = .ok (.iload_n 2, 1) := by decide +kernel
theorem dX12_halves_64 : decode cX12_halves 64 = .ok (.iload_n 3, 1) := by decide +kernel
theorem dX12_halves_65 : decode cX12_halves 65 = .ok (.invokevirtual 101, 3) := by decide +kernel
theorem dX12_halves_68 : decode cX12_halves 68 = .ok (.if_icmp .le 12, 3) := by decide +kernel
theorem dX12_halves_71 : decode cX12_halves 71 = .ok (.iload 7, 2) := by decide +kernel
theorem dX12_halves_73 : decode cX12_halves 73 = .ok (.iconst 1, 1) := by decide +kernel
theorem dX12_halves_74 : decode cX12_halves 74 = .ok (.isub, 1) := by decide +kernel
theorem dX12_halves_75 : decode cX12_halves 75 = .ok (.istore 5, 2) := by decide +kernel
theorem dX12_halves_77 : decode cX12_halves 77 = .ok (.goto 6, 3) := by decide +kernel
theorem dX12_halves_80 : decode cX12_halves 80 = .ok (.iload 6, 2) := by decide +kernel
theorem dX12_halves_82 : decode cX12_halves 82 = .ok (.ireturn, 1) := by decide +kernel
theorem dX12_halves_83 : decode cX12_halves 83 = .ok (.iinc 6 1, 3) := by decide +kernel
theorem dX12_halves_86 : decode cX12_halves 86 = .ok (.goto (-64), 3) := by decide +kernel
theorem dX12_halves_89 : decode cX12_halves 89 = .ok (.bipush (-4), 2) := by decide +kernel
theorem dX12_halves_91 : decode cX12_halves 91 = .ok (.ireturn, 1) := by decide +kernel
theorem dX12_canAnyForce_0 : decode cX12_canAnyForce 0 = .ok (.iconst 0, 1) := by decide +kernel
theorem dX12_canAnyForce_1 : decode cX12_canAnyForce 1 = .ok (.istore_n 3, 1) := by decide +kernel
theorem dX12_canAnyForce_2 : decode cX12_canAnyForce 2 = .ok (.iload_n 3, 1) := by decide +kernel
theorem dX12_canAnyForce_3 : decode cX12_canAnyForce 3 = .ok (.bipush 60, 2) := by decide +kernel
theorem dX12_canAnyForce_5 : decode cX12_canAnyForce 5 = .ok (.if_icmp .gt 21, 3) := by decide +kernel
theorem dX12_canAnyForce_8 : decode cX12_canAnyForce 8 = .ok (.aload_n 0, 1) := by decide +kernel
theorem dX12_canAnyForce_9 : decode cX12_canAnyForce 9 = .ok (.iload_n 1, 1) := by decide +kernel
theorem dX12_canAnyForce_10 : decode cX12_canAnyForce 10 = .ok (.iload_n 2, 1) := by decide +kernel
theorem dX12_canAnyForce_11 : decode cX12_canAnyForce 11 = .ok (.iload_n 3, 1) := by decide +kernel
theorem dX12_canAnyForce_12 : decode cX12_canAnyForce 12 = .ok (.invokevirtual 114, 3) := by decide +kernel
theorem dX12_canAnyForce_15 : decode cX12_canAnyForce 15 = .ok (.ifCond .eq 5, 3) := by decide +kernel
theorem dX12_canAnyForce_18 : decode cX12_canAnyForce 18 = .ok (.iconst 1, 1) := by decide +kernel
theorem dX12_canAnyForce_19 : decode cX12_canAnyForce 19 = .ok (.ireturn, 1) := by decide +kernel
theorem dX12_canAnyForce_20 : decode cX12_canAnyForce 20 = .ok (.iinc 3 1, 3) := by decide +kernel
theorem dX12_canAnyForce_23 : decode cX12_canAnyForce 23 = .ok (.goto (-21), 3) := by decide +kernel
theorem dX12_canAnyForce_26 : decode cX12_canAnyForce 26 = .ok (.iconst 0, 1) := by decide +kernel
theorem dX12_canAnyForce_27 : decode cX12_canAnyForce 27 = .ok (.ireturn, 1) := by decide +kernel
theorem dX12_waysBy_0 : decode cX12_waysBy 0 = .ok (.aload_n 0, 1) := by decide +kernel
theorem dX12_waysBy_1 : decode cX12_waysBy 1 = .ok (.iload_n 1, 1) := by decide +kernel
theorem dX12_waysBy_2 : decode cX12_waysBy 2 = .ok (.invokevirtual 151, 3) := by decide +kernel
theorem dX12_waysBy_5 : decode cX12_waysBy 5 = .ok (.ifCond .eq 5, 3) := by decide +kernel
theorem dX12_waysBy_8 : decode cX12_waysBy 8 = .ok (.iconst 0, 1) := by decide +kernel
theorem dX12_waysBy_9 : decode cX12_waysBy 9 = .ok (.ireturn, 1) := by decide +kernel
theorem dX12_waysBy_10 : decode cX12_waysBy 10 = .ok (.iconst 0, 1) := by decide +kernel
theorem dX12_waysBy_11 : decode cX12_waysBy 11 = .ok (.istore 4, 2) := by decide +kernel
theorem dX12_waysBy_13 : decode cX12_waysBy 13 = .ok (.iconst 0, 1) := by decide +kernel
theorem dX12_waysBy_14 : decode cX12_waysBy 14 = .ok (.istore 5, 2) := by decide +kernel
theorem dX12_waysBy_16 : decode cX12_waysBy 16 = .ok (.iload 5, 2) := by decide +kernel
theorem dX12_waysBy_18 : decode cX12_waysBy 18 = .ok (.aload_n 0, 1) := by decide +kernel
theorem dX12_waysBy_19 : decode cX12_waysBy 19 = .ok (.getfield 9, 3) := by decide +kernel
theorem dX12_waysBy_22 : decode cX12_waysBy 22 = .ok (.iconst 2, 1) := by decide +kernel
theorem dX12_waysBy_23 : decode cX12_waysBy 23 = .ok (.iaload, 1) := by decide +kernel
theorem dX12_waysBy_24 : decode cX12_waysBy 24 = .ok (.if_icmp .ge 95, 3) := by decide +kernel
theorem dX12_waysBy_27 : decode cX12_waysBy 27 = .ok (.aload_n 0, 1) := by decide +kernel
theorem dX12_waysBy_28 : decode cX12_waysBy 28 = .ok (.iload_n 2, 1) := by decide +kernel
theorem dX12_waysBy_29 : decode cX12_waysBy 29 = .ok (.iload 5, 2) := by decide +kernel
theorem dX12_waysBy_31 : decode cX12_waysBy 31 = .ok (.invokevirtual 207, 3) := by decide +kernel
theorem dX12_waysBy_34 : decode cX12_waysBy 34 = .ok (.ifCond .ne 6, 3) := by decide +kernel
theorem dX12_waysBy_37 : decode cX12_waysBy 37 = .ok (.goto 76, 3) := by decide +kernel
theorem dX12_waysBy_40 : decode cX12_waysBy 40 = .ok (.iconst 0, 1) := by decide +kernel
theorem dX12_waysBy_41 : decode cX12_waysBy 41 = .ok (.istore 6, 2) := by decide +kernel
theorem dX12_waysBy_43 : decode cX12_waysBy 43 = .ok (.iload 6, 2) := by decide +kernel
theorem dX12_waysBy_45 : decode cX12_waysBy 45 = .ok (.bipush 60, 2) := by decide +kernel
theorem dX12_waysBy_47 : decode cX12_waysBy 47 = .ok (.if_icmp .gt 66, 3) := by decide +kernel
theorem dX12_waysBy_50 : decode cX12_waysBy 50 = .ok (.aload_n 0, 1) := by decide +kernel
theorem dX12_waysBy_51 : decode cX12_waysBy 51 = .ok (.iload_n 1, 1) := by decide +kernel
theorem dX12_waysBy_52 : decode cX12_waysBy 52 = .ok (.iload_n 2, 1) := by decide +kernel
theorem dX12_waysBy_53 : decode cX12_waysBy 53 = .ok (.iload 5, 2) := by decide +kernel
theorem dX12_waysBy_55 : decode cX12_waysBy 55 = .ok (.iload 6, 2) := by decide +kernel
theorem dX12_waysBy_57 : decode cX12_waysBy 57 = .ok (.invokevirtual 110, 3) := by decide +kernel
theorem dX12_waysBy_60 : decode cX12_waysBy 60 = .ok (.ifCond .ne 6, 3) := by decide +kernel
theorem dX12_waysBy_63 : decode cX12_waysBy 63 = .ok (.goto 44, 3) := by decide +kernel
theorem dX12_waysBy_66 : decode cX12_waysBy 66 = .ok (.iconst 0, 1) := by decide +kernel
theorem dX12_waysBy_67 : decode cX12_waysBy 67 = .ok (.istore 7, 2) := by decide +kernel
theorem dX12_waysBy_69 : decode cX12_waysBy 69 = .ok (.iload 7, 2) := by decide +kernel
theorem dX12_waysBy_71 : decode cX12_waysBy 71 = .ok (.bipush 10, 2) := by decide +kernel
theorem dX12_waysBy_73 : decode cX12_waysBy 73 = .ok (.if_icmp .ge 34, 3) := by decide +kernel
theorem dX12_waysBy_76 : decode cX12_waysBy 76 = .ok (.iload 4, 2) := by decide +kernel
theorem dX12_waysBy_78 : decode cX12_waysBy 78 = .ok (.aload_n 0, 1) := by decide +kernel
theorem dX12_waysBy_79 : decode cX12_waysBy 79 = .ok (.iload_n 1, 1) := by decide +kernel
theorem dX12_waysBy_80 : decode cX12_waysBy 80 = .ok (.iload 5, 2) := by decide +kernel
theorem dX12_waysBy_82 : decode cX12_waysBy 82 = .ok (.iload 6, 2) := by decide +kernel
theorem dX12_waysBy_84 : decode cX12_waysBy 84 = .ok (.iload 7, 2) := by decide +kernel
theorem dX12_waysBy_86 : decode cX12_waysBy 86 = .ok (.invokevirtual 184, 3) := by decide +kernel
theorem dX12_waysBy_89 : decode cX12_waysBy 89 = .ok (.iload_n 3, 1) := by decide +kernel
theorem dX12_waysBy_90 : decode cX12_waysBy 90 = .ok (.if_icmp .ne 7, 3) := by decide +kernel
theorem dX12_waysBy_93 : decode cX12_waysBy 93 = .ok (.iconst 1, 1) := by decide +kernel
theorem dX12_waysBy_94 : decode cX12_waysBy 94 = .ok (.goto 4, 3) := by decide +kernel
theorem dX12_waysBy_97 : decode cX12_waysBy 97 = .ok (.iconst 0, 1) := by decide +kernel
theorem dX12_waysBy_98 : decode cX12_waysBy 98 = .ok (.iadd, 1) := by decide +kernel
theorem dX12_waysBy_99 : decode cX12_waysBy 99 = .ok (.istore 4, 2) := by decide +kernel
theorem dX12_waysBy_101 : decode cX12_waysBy 101 = .ok (.iinc 7 1, 3) := by decide +kernel
theorem dX12_waysBy_104 : decode cX12_waysBy 104 = .ok (.goto (-35), 3) := by decide +kernel
theorem dX12_waysBy_107 : decode cX12_waysBy 107 = .ok (.iinc 6 1, 3) := by decide +kernel
theorem dX12_waysBy_110 : decode cX12_waysBy 110 = .ok (.goto (-67), 3) := by decide +kernel
theorem dX12_waysBy_113 : decode cX12_waysBy 113 = .ok (.iinc 5 1, 3) := by decide +kernel
theorem dX12_waysBy_116 : decode cX12_waysBy 116 = .ok (.goto (-100), 3) := by decide +kernel
theorem dX12_waysBy_119 : decode cX12_waysBy 119 = .ok (.iload 4, 2) := by decide +kernel
theorem dX12_waysBy_121 : decode cX12_waysBy 121 = .ok (.ireturn, 1) := by decide +kernel
theorem dX12_bladesFor_0 : decode cX12_bladesFor 0 = .ok (.iconst 0, 1) := by decide +kernel
theorem dX12_bladesFor_1 : decode cX12_bladesFor 1 = .ok (.istore_n 3, 1) := by decide +kernel
theorem dX12_bladesFor_2 : decode cX12_bladesFor 2 = .ok (.iconst 0, 1) := by decide +kernel
theorem dX12_bladesFor_3 : decode cX12_bladesFor 3 = .ok (.istore 4, 2) := by decide +kernel
theorem dX12_bladesFor_5 : decode cX12_bladesFor 5 = .ok (.iload 4, 2) := by decide +kernel
theorem dX12_bladesFor_7 : decode cX12_bladesFor 7 = .ok (.aload_n 0, 1) := by decide +kernel
theorem dX12_bladesFor_8 : decode cX12_bladesFor 8 = .ok (.getfield 9, 3) := by decide +kernel
theorem dX12_bladesFor_11 : decode cX12_bladesFor 11 = .ok (.iconst 0, 1) := by decide +kernel
theorem dX12_bladesFor_12 : decode cX12_bladesFor 12 = .ok (.iaload, 1) := by decide +kernel
theorem dX12_bladesFor_13 : decode cX12_bladesFor 13 = .ok (.if_icmp .ge 27, 3) := by decide +kernel
theorem dX12_bladesFor_16 : decode cX12_bladesFor 16 = .ok (.aload_n 0, 1) := by decide +kernel
theorem dX12_bladesFor_17 : decode cX12_bladesFor 17 = .ok (.iload 4, 2) := by decide +kernel
theorem dX12_bladesFor_19 : decode cX12_bladesFor 19 = .ok (.iload_n 1, 1) := by decide +kernel
theorem dX12_bladesFor_20 : decode cX12_bladesFor 20 = .ok (.iload_n 2, 1) := by decide +kernel
theorem dX12_bladesFor_21 : decode cX12_bladesFor 21 = .ok (.invokevirtual 210, 3) := by decide +kernel
theorem dX12_bladesFor_24 : decode cX12_bladesFor 24 = .ok (.ifCond .le 10, 3) := by decide +kernel
theorem dX12_bladesFor_27 : decode cX12_bladesFor 27 = .ok (.iload_n 3, 1) := by decide +kernel
theorem dX12_bladesFor_28 : decode cX12_bladesFor 28 = .ok (.iconst 1, 1) := by decide +kernel
theorem dX12_bladesFor_29 : decode cX12_bladesFor 29 = .ok (.iload 4, 2) := by decide +kernel
theorem dX12_bladesFor_31 : decode cX12_bladesFor 31 = .ok (.ishl, 1) := by decide +kernel
theorem dX12_bladesFor_32 : decode cX12_bladesFor 32 = .ok (.ior, 1) := by decide +kernel
theorem dX12_bladesFor_33 : decode cX12_bladesFor 33 = .ok (.istore_n 3, 1) := by decide +kernel
theorem dX12_bladesFor_34 : decode cX12_bladesFor 34 = .ok (.iinc 4 1, 3) := by decide +kernel
theorem dX12_bladesFor_37 : decode cX12_bladesFor 37 = .ok (.goto (-32), 3) := by decide +kernel
theorem dX12_bladesFor_40 : decode cX12_bladesFor 40 = .ok (.iload_n 3, 1) := by decide +kernel
theorem dX12_bladesFor_41 : decode cX12_bladesFor 41 = .ok (.ireturn, 1) := by decide +kernel
theorem dX12_ways_0 : decode cX12_ways 0 = .ok (.aload_n 0, 1) := by decide +kernel
theorem dX12_ways_1 : decode cX12_ways 1 = .ok (.iload_n 1, 1) := by decide +kernel
theorem dX12_ways_2 : decode cX12_ways 2 = .ok (.invokevirtual 66, 3) := by decide +kernel
theorem dX12_ways_5 : decode cX12_ways 5 = .ok (.ifCond .eq 13, 3) := by decide +kernel
theorem dX12_ways_8 : decode cX12_ways 8 = .ok (.iload_n 2, 1) := by decide +kernel
theorem dX12_ways_9 : decode cX12_ways 9 = .ok (.iconst 0, 1) := by decide +kernel
theorem dX12_ways_10 : decode cX12_ways 10 = .ok (.bipush 99, 2) := by decide +kernel
theorem dX12_ways_12 : decode cX12_ways 12 = .ok (.invokestatic 58, 3) := by decide +kernel
theorem dX12_ways_15 : decode cX12_ways 15 = .ok (.ifCond .ne 5, 3) := by decide +kernel
theorem dX12_ways_18 : decode cX12_ways 18 = .ok (.iconst (-1), 1) := by decide +kernel
theorem dX12_ways_19 : decode cX12_ways 19 = .ok (.ireturn, 1) := by decide +kernel
theorem dX12_ways_20 : decode cX12_ways 20 = .ok (.iconst 0, 1) := by decide +kernel
theorem dX12_ways_21 : decode cX12_ways 21 = .ok (.istore_n 3, 1) := by decide +kernel
theorem dX12_ways_22 : decode cX12_ways 22 = .ok (.iconst 0, 1) := by decide +kernel
theorem dX12_ways_23 : decode cX12_ways 23 = .ok (.istore 4, 2) := by decide +kernel
theorem dX12_ways_25 : decode cX12_ways 25 = .ok (.iload 4, 2) := by decide +kernel
theorem dX12_ways_27 : decode cX12_ways 27 = .ok (.aload_n 0, 1) := by decide +kernel
theorem dX12_ways_28 : decode cX12_ways 28 = .ok (.getfield 9, 3) := by decide +kernel
theorem dX12_ways_31 : decode cX12_ways 31 = .ok (.iconst 0, 1) := by decide +kernel
theorem dX12_ways_32 : decode cX12_ways 32 = .ok (.iaload, 1) := by decide +kernel
theorem dX12_ways_33 : decode cX12_ways 33 = .ok (.if_icmp .ge 20, 3) := by decide +kernel
theorem dX12_ways_36 : decode cX12_ways 36 = .ok (.iload_n 3, 1) := by decide +kernel
theorem dX12_ways_37 : decode cX12_ways 37 = .ok (.aload_n 0, 1) := by decide +kernel
theorem dX12_ways_38 : decode cX12_ways 38 = .ok (.iload 4, 2) := by decide +kernel
theorem dX12_ways_40 : decode cX12_ways 40 = .ok (.iload_n 1, 1) := by decide +kernel
theorem dX12_ways_41 : decode cX12_ways 41 = .ok (.iload_n 2, 1) := by decide +kernel
theorem dX12_ways_42 : decode cX12_ways 42 = .ok (.invokevirtual 210, 3) := by decide +kernel
theorem dX12_ways_45 : decode cX12_ways 45 = .ok (.iadd, 1) := by decide +kernel
theorem dX12_ways_46 : decode cX12_ways 46 = .ok (.istore_n 3, 1) := by decide +kernel
theorem dX12_ways_47 : decode cX12_ways 47 = .ok (.iinc 4 1, 3) := by decide +kernel
theorem dX12_ways_50 : decode cX12_ways 50 = .ok (.goto (-25), 3) := by decide +kernel
theorem dX12_ways_53 : decode cX12_ways 53 = .ok (.iload_n 3, 1) := by decide +kernel
theorem dX12_ways_54 : decode cX12_ways 54 = .ok (.ireturn, 1) := by decide +kernel
theorem dX12_tune_0 : decode cX12_tune 0 = .ok (.aload_n 0, 1) := by decide +kernel
theorem dX12_tune_1 : decode cX12_tune 1 = .ok (.iload_n 1, 1) := by decide +kernel
theorem dX12_tune_2 : decode cX12_tune 2 = .ok (.invokevirtual 66, 3) := by decide +kernel
theorem dX12_tune_5 : decode cX12_tune 5 = .ok (.ifCond .eq 22, 3) := by decide +kernel
theorem dX12_tune_8 : decode cX12_tune 8 = .ok (.iload_n 2, 1) := by decide +kernel
theorem dX12_tune_9 : decode cX12_tune 9 = .ok (.iconst 0, 1) := by decide +kernel
theorem dX12_tune_10 : decode cX12_tune 10 = .ok (.ldc 213, 2) := by decide +kernel
theorem dX12_tune_12 : decode cX12_tune 12 = .ok (.invokestatic 58, 3) := by decide +kernel
theorem dX12_tune_15 : decode cX12_tune 15 = .ok (.ifCond .eq 12, 3) := by decide +kernel
theorem dX12_tune_18 : decode cX12_tune 18 = .ok (.iload_n 3, 1) := by decide +kernel
theorem dX12_tune_19 : decode cX12_tune 19 = .ok (.iconst 0, 1) := by decide +kernel
theorem dX12_tune_20 : decode cX12_tune 20 = .ok (.iconst 1, 1) := by decide +kernel
theorem dX12_tune_21 : decode cX12_tune 21 = .ok (.invokestatic 58, 3) := by decide +kernel
theorem dX12_tune_24 : decode cX12_tune 24 = .ok (.ifCond .ne 5, 3) := by decide +kernel
theorem dX12_tune_27 : decode cX12_tune 27 = .ok (.iconst (-1), 1) := by decide +kernel
theorem dX12_tune_28 : decode cX12_tune 28 = .ok (.ireturn, 1) := by decide +kernel
theorem dX12_tune_29 : decode cX12_tune 29 = .ok (.aload_n 0, 1) := by decide +kernel
theorem dX12_tune_30 : decode cX12_tune 30 = .ok (.iload_n 1, 1) := by decide +kernel
theorem dX12_tune_31 : decode cX12_tune 31 = .ok (.iload_n 2, 1) := by decide +kernel
theorem dX12_tune_32 : decode cX12_tune 32 = .ok (.sipush 10000, 3) := by decide +kernel
theorem dX12_tune_35 : decode cX12_tune 35 = .ok (.idiv, 1) := by decide +kernel
theorem dX12_tune_36 : decode cX12_tune 36 = .ok (.invokevirtual 214, 3) := by decide +kernel
theorem dX12_tune_39 : decode cX12_tune 39 = .ok (.istore 4, 2) := by decide +kernel
theorem dX12_tune_41 : decode cX12_tune 41 = .ok (.aload_n 0, 1) := by decide +kernel
theorem dX12_tune_42 : decode cX12_tune 42 = .ok (.iload_n 1, 1) := by decide +kernel
theorem dX12_tune_43 : decode cX12_tune 43 = .ok (.iload_n 2, 1) := by decide +kernel
theorem dX12_tune_44 : decode cX12_tune 44 = .ok (.bipush 100, 2) := by decide +kernel
theorem dX12_tune_46 : decode cX12_tune 46 = .ok (.idiv, 1) := by decide +kernel
theorem dX12_tune_47 : decode cX12_tune 47 = .ok (.bipush 100, 2) := by decide +kernel
theorem dX12_tune_49 : decode cX12_tune 49 = .ok (.irem, 1) := by decide +kernel
theorem dX12_tune_50 : decode cX12_tune 50 = .ok (.invokevirtual 214, 3) := by decide +kernel
theorem dX12_tune_53 : decode cX12_tune 53 = .ok (.istore 5, 2) := by decide +kernel
theorem dX12_tune_55 : decode cX12_tune 55 = .ok (.aload_n 0, 1) := by decide +kernel
theorem dX12_tune_56 : decode cX12_tune 56 = .ok (.iload_n 1, 1) := by decide +kernel
theorem dX12_tune_57 : decode cX12_tune 57 = .ok (.iload_n 2, 1) := by decide +kernel
theorem dX12_tune_58 : decode cX12_tune 58 = .ok (.bipush 100, 2) := by decide +kernel
theorem dX12_tune_60 : decode cX12_tune 60 = .ok (.irem, 1) := by decide +kernel
theorem dX12_tune_61 : decode cX12_tune 61 = .ok (.invokevirtual 214, 3) := by decide +kernel
theorem dX12_tune_64 : decode cX12_tune 64 = .ok (.istore 6, 2) := by decide +kernel
theorem dX12_tune_66 : decode cX12_tune 66 = .ok (.iload_n 3, 1) := by decide +kernel
theorem dX12_tune_67 : decode cX12_tune 67 = .ok (.iconst 1, 1) := by decide +kernel
theorem dX12_tune_68 : decode cX12_tune 68 = .ok (.if_icmp .ne 36, 3) := by decide +kernel
theorem dX12_tune_71 : decode cX12_tune 71 = .ok (.iload 4, 2) := by decide +kernel
theorem dX12_tune_73 : decode cX12_tune 73 = .ok (.ifCond .le 7, 3) := by decide +kernel
theorem dX12_tune_76 : decode cX12_tune 76 = .ok (.iconst 1, 1) := by decide +kernel
theorem dX12_tune_77 : decode cX12_tune 77 = .ok (.goto 4, 3) := by decide +kernel
theorem dX12_tune_80 : decode cX12_tune 80 = .ok (.iconst 0, 1) := by decide +kernel
theorem dX12_tune_81 : decode cX12_tune 81 = .ok (.iload 5, 2) := by decide +kernel
theorem dX12_tune_83 : decode cX12_tune 83 = .ok (.ifCond .le 7, 3) := by decide +kernel
theorem dX12_tune_86 : decode cX12_tune 86 = .ok (.iconst 1, 1) := by decide +kernel
theorem dX12_tune_87 : decode cX12_tune 87 = .ok (.goto 4, 3) := by decide +kernel
theorem dX12_tune_90 : decode cX12_tune 90 = .ok (.iconst 0, 1) := by decide +kernel
theorem dX12_tune_91 : decode cX12_tune 91 = .ok (.iadd, 1) := by decide +kernel
theorem dX12_tune_92 : decode cX12_tune 92 = .ok (.iload 6, 2) := by decide +kernel
theorem dX12_tune_94 : decode cX12_tune 94 = .ok (.ifCond .le 7, 3) := by decide +kernel
theorem dX12_tune_97 : decode cX12_tune 97 = .ok (.iconst 1, 1) := by decide +kernel
theorem dX12_tune_98 : decode cX12_tune 98 = .ok (.goto 4, 3) := by decide +kernel
theorem dX12_tune_101 : decode cX12_tune 101 = .ok (.iconst 0, 1) := by decide +kernel
theorem dX12_tune_102 : decode cX12_tune 102 = .ok (.iadd, 1) := by decide +kernel
theorem dX12_tune_103 : decode cX12_tune 103 = .ok (.ireturn, 1) := by decide +kernel
theorem dX12_tune_104 : decode cX12_tune 104 = .ok (.iconst 0, 1) := by decide +kernel
theorem dX12_tune_105 : decode cX12_tune 105 = .ok (.istore 7, 2) := by decide +kernel
theorem dX12_tune_107 : decode cX12_tune 107 = .ok (.iload 7, 2) := by decide +kernel
theorem dX12_tune_109 : decode cX12_tune 109 = .ok (.bipush 6, 2) := by decide +kernel
theorem dX12_tune_111 : decode cX12_tune 111 = .ok (.if_icmp .ge 79, 3) := by decide +kernel
theorem dX12_tune_114 : decode cX12_tune 114 = .ok (.iconst 0, 1) := by decide +kernel
theorem dX12_tune_115 : decode cX12_tune 115 = .ok (.istore 8, 2) := by decide +kernel
theorem dX12_tune_117 : decode cX12_tune 117 = .ok (.iload 8, 2) := by decide +kernel
theorem dX12_tune_119 : decode cX12_tune 119 = .ok (.bipush 6, 2) := by decide +kernel
theorem dX12_tune_121 : decode cX12_tune 121 = .ok (.if_icmp .ge 63, 3) := by decide +kernel
theorem dX12_tune_124 : decode cX12_tune 124 = .ok (.iload 6, 2) := by decide +kernel
theorem dX12_tune_126 : decode cX12_tune 126 = .ok (.iconst 1, 1) := by decide +kernel
theorem dX12_tune_127 : decode cX12_tune 127 = .ok (.iload 7, 2) := by decide +kernel
theorem dX12_tune_129 : decode cX12_tune 129 = .ok (.ishl, 1) := by decide +kernel
theorem dX12_tune_130 : decode cX12_tune 130 = .ok (.iconst (-1), 1) := by decide +kernel
theorem dX12_tune_131 : decode cX12_tune 131 = .ok (.ixor, 1) := by decide +kernel
theorem dX12_tune_132 : decode cX12_tune 132 = .ok (.iand, 1) := by decide +kernel
theorem dX12_tune_133 : decode cX12_tune 133 = .ok (.iconst 1, 1) := by decide +kernel
theorem dX12_tune_134 : decode cX12_tune 134 = .ok (.iload 8, 2) := by decide +kernel
theorem dX12_tune_136 : decode cX12_tune 136 = .ok (.ishl, 1) := by decide +kernel
theorem dX12_tune_137 : decode cX12_tune 137 = .ok (.iconst (-1), 1) := by decide +kernel
theorem dX12_tune_138 : decode cX12_tune 138 = .ok (.ixor, 1) := by decide +kernel
theorem dX12_tune_139 : decode cX12_tune 139 = .ok (.iand, 1) := by decide +kernel
theorem dX12_tune_140 : decode cX12_tune 140 = .ok (.istore 9, 2) := by decide +kernel
theorem dX12_tune_142 : decode cX12_tune 142 = .ok (.iload 7, 2) := by decide +kernel
theorem dX12_tune_144 : decode cX12_tune 144 = .ok (.iload 8, 2) := by decide +kernel
theorem dX12_tune_146 : decode cX12_tune 146 = .ok (.if_icmp .eq 32, 3) := by decide +kernel
theorem dX12_tune_149 : decode cX12_tune 149 = .ok (.iload 4, 2) := by decide +kernel
theorem dX12_tune_151 : decode cX12_tune 151 = .ok (.iload 7, 2) := by decide +kernel
theorem dX12_tune_153 : decode cX12_tune 153 = .ok (.ishr, 1) := by decide +kernel
theorem dX12_tune_154 : decode cX12_tune 154 = .ok (.iconst 1, 1) := by decide +kernel
theorem dX12_tune_155 : decode cX12_tune 155 = .ok (.iand, 1) := by decide +kernel
theorem dX12_tune_156 : decode cX12_tune 156 = .ok (.iconst 1, 1) := by decide +kernel
theorem dX12_tune_157 : decode cX12_tune 157 = .ok (.if_icmp .ne 21, 3) := by decide +kernel
theorem dX12_tune_160 : decode cX12_tune 160 = .ok (.iload 5, 2) := by decide +kernel
theorem dX12_tune_162 : decode cX12_tune 162 = .ok (.iload 8, 2) := by decide +kernel
theorem dX12_tune_164 : decode cX12_tune 164 = .ok (.ishr, 1) := by decide +kernel
theorem dX12_tune_165 : decode cX12_tune 165 = .ok (.iconst 1, 1) := by decide +kernel
theorem dX12_tune_166 : decode cX12_tune 166 = .ok (.iand, 1) := by decide +kernel
theorem dX12_tune_167 : decode cX12_tune 167 = .ok (.iconst 1, 1) := by decide +kernel
theorem dX12_tune_168 : decode cX12_tune 168 = .ok (.if_icmp .ne 10, 3) := by decide +kernel
theorem dX12_tune_171 : decode cX12_tune 171 = .ok (.iload 9, 2) := by decide +kernel
theorem dX12_tune_173 : decode cX12_tune 173 = .ok (.ifCond .eq 5, 3) := by decide +kernel
theorem dX12_tune_176 : decode cX12_tune 176 = .ok (.iconst 1, 1) := by decide +kernel
theorem dX12_tune_177 : decode cX12_tune 177 = .ok (.ireturn, 1) := by decide +kernel
theorem dX12_tune_178 : decode cX12_tune 178 = .ok (.iinc 8 1, 3) := by decide +kernel
theorem dX12_tune_181 : decode cX12_tune 181 = .ok (.goto (-64), 3) := by decide +kernel
theorem dX12_tune_184 : decode cX12_tune 184 = .ok (.iinc 7 1, 3) := by decide +kernel
theorem dX12_tune_187 : decode cX12_tune 187 = .ok (.goto (-80), 3) := by decide +kernel
theorem dX12_tune_190 : decode cX12_tune 190 = .ok (.iconst 0, 1) := by decide +kernel
theorem dX12_tune_191 : decode cX12_tune 191 = .ok (.ireturn, 1) := by decide +kernel
theorem dX12_lastsOf_0 : decode cX12_lastsOf 0 = .ok (.aload_n 0, 1) := by decide +kernel
theorem dX12_lastsOf_1 : decode cX12_lastsOf 1 = .ok (.iload_n 1, 1) := by decide +kernel
theorem dX12_lastsOf_2 : decode cX12_lastsOf 2 = .ok (.iconst 3, 1) := by decide +kernel
theorem dX12_lastsOf_3 : decode cX12_lastsOf 3 = .ok (.invokevirtual 72, 3) := by decide +kernel
theorem dX12_lastsOf_6 : decode cX12_lastsOf 6 = .ok (.istore 4, 2) := by decide +kernel
theorem dX12_lastsOf_8 : decode cX12_lastsOf 8 = .ok (.iconst 1, 1) := by decide +kernel
theorem dX12_lastsOf_9 : decode cX12_lastsOf 9 = .ok (.istore 5, 2) := by decide +kernel
theorem dX12_lastsOf_11 : decode cX12_lastsOf 11 = .ok (.iload 5, 2) := by decide +kernel
theorem dX12_lastsOf_13 : decode cX12_lastsOf 13 = .ok (.bipush 99, 2) := by decide +kernel
theorem dX12_lastsOf_15 : decode cX12_lastsOf 15 = .ok (.if_icmp .ge 41, 3) := by decide +kernel
theorem dX12_lastsOf_18 : decode cX12_lastsOf 18 = .ok (.iload 4, 2) := by decide +kernel
theorem dX12_lastsOf_20 : decode cX12_lastsOf 20 = .ok (.aload_n 0, 1) := by decide +kernel
theorem dX12_lastsOf_21 : decode cX12_lastsOf 21 = .ok (.iload_n 2, 1) := by decide +kernel
theorem dX12_lastsOf_22 : decode cX12_lastsOf 22 = .ok (.iload_n 3, 1) := by decide +kernel
theorem dX12_lastsOf_23 : decode cX12_lastsOf 23 = .ok (.invokevirtual 154, 3) := by decide +kernel
theorem dX12_lastsOf_26 : decode cX12_lastsOf 26 = .ok (.iadd, 1) := by decide +kernel
theorem dX12_lastsOf_27 : decode cX12_lastsOf 27 = .ok (.istore 4, 2) := by decide +kernel
theorem dX12_lastsOf_29 : decode cX12_lastsOf 29 = .ok (.iload 4, 2) := by decide +kernel
theorem dX12_lastsOf_31 : decode cX12_lastsOf 31 = .ok (.aload_n 0, 1) := by decide +kernel
theorem dX12_lastsOf_32 : decode cX12_lastsOf 32 = .ok (.iload_n 1, 1) := by decide +kernel
theorem dX12_lastsOf_33 : decode cX12_lastsOf 33 = .ok (.iconst 1, 1) := by decide +kernel
theorem dX12_lastsOf_34 : decode cX12_lastsOf 34 = .ok (.invokevirtual 72, 3) := by decide +kernel
theorem dX12_lastsOf_37 : decode cX12_lastsOf 37 = .ok (.aload_n 0, 1) := by decide +kernel
theorem dX12_lastsOf_38 : decode cX12_lastsOf 38 = .ok (.iload_n 1, 1) := by decide +kernel
theorem dX12_lastsOf_39 : decode cX12_lastsOf 39 = .ok (.iconst 2, 1) := by decide +kernel
theorem dX12_lastsOf_40 : decode cX12_lastsOf 40 = .ok (.invokevirtual 72, 3) := by decide +kernel
theorem dX12_lastsOf_43 : decode cX12_lastsOf 43 = .ok (.iadd, 1) := by decide +kernel
theorem dX12_lastsOf_44 : decode cX12_lastsOf 44 = .ok (.if_icmp .le 6, 3) := by decide +kernel
theorem dX12_lastsOf_47 : decode cX12_lastsOf 47 = .ok (.iload 5, 2) := by decide +kernel
theorem dX12_lastsOf_49 : decode cX12_lastsOf 49 = .ok (.ireturn, 1) := by decide +kernel
theorem dX12_lastsOf_50 : decode cX12_lastsOf 50 = .ok (.iinc 5 1, 3) := by decide +kernel
theorem dX12_lastsOf_53 : decode cX12_lastsOf 53 = .ok (.goto (-42), 3) := by decide +kernel
theorem dX12_lastsOf_56 : decode cX12_lastsOf 56 = .ok (.bipush 99, 2) := by decide +kernel
theorem dX12_lastsOf_58 : decode cX12_lastsOf 58 = .ok (.ireturn, 1) := by decide +kernel
theorem dX12_lasts_0 : decode cX12_lasts 0 = .ok (.aload_n 0, 1) := by decide +kernel
theorem dX12_lasts_1 : decode cX12_lasts 1 = .ok (.iload_n 1, 1) := by decide +kernel
theorem dX12_lasts_2 : decode cX12_lasts 2 = .ok (.invokevirtual 62, 3) := by decide +kernel
theorem dX12_lasts_5 : decode cX12_lasts 5 = .ok (.ifCond .eq 18, 3) := by decide +kernel
theorem dX12_lasts_8 : decode cX12_lasts 8 = .ok (.aload_n 0, 1) := by decide +kernel
theorem dX12_lasts_9 : decode cX12_lasts 9 = .ok (.iload_n 2, 1) := by decide +kernel
theorem dX12_lasts_10 : decode cX12_lasts 10 = .ok (.invokevirtual 69, 3) := by decide +kernel
theorem dX12_lasts_13 : decode cX12_lasts 13 = .ok (.ifCond .eq 10, 3) := by decide +kernel
theorem dX12_lasts_16 : decode cX12_lasts 16 = .ok (.iload_n 3, 1) := by decide +kernel
theorem dX12_lasts_17 : decode cX12_lasts 17 = .ok (.invokestatic 174, 3) := by decide +kernel
theorem dX12_lasts_20 : decode cX12_lasts 20 = .ok (.ifCond .ne 5, 3) := by decide +kernel
theorem dX12_lasts_23 : decode cX12_lasts 23 = .ok (.iconst (-1), 1) := by decide +kernel
theorem dX12_lasts_24 : decode cX12_lasts 24 = .ok (.ireturn, 1) := by decide +kernel
theorem dX12_lasts_25 : decode cX12_lasts 25 = .ok (.aload_n 0, 1) := by decide +kernel
theorem dX12_lasts_26 : decode cX12_lasts 26 = .ok (.iload_n 1, 1) := by decide +kernel
theorem dX12_lasts_27 : decode cX12_lasts 27 = .ok (.invokevirtual 151, 3) := by decide +kernel
theorem dX12_lasts_30 : decode cX12_lasts 30 = .ok (.ifCond .eq 8, 3) := by decide +kernel
theorem dX12_lasts_33 : decode cX12_lasts 33 = .ok (.bipush (-3), 2) := by decide +kernel
theorem dX12_lasts_35 : decode cX12_lasts 35 = .ok (.goto 10, 3) := by decide +kernel
theorem dX12_lasts_38 : decode cX12_lasts 38 = .ok (.aload_n 0, 1) := by decide +kernel
theorem dX12_lasts_39 : decode cX12_lasts 39 = .ok (.iload_n 1, 1) := by decide +kernel
theorem dX12_lasts_40 : decode cX12_lasts 40 = .ok (.iload_n 2, 1) := by decide +kernel
theorem dX12_lasts_41 : decode cX12_lasts 41 = .ok (.iload_n 3, 1) := by decide +kernel
theorem dX12_lasts_42 : decode cX12_lasts 42 = .ok (.invokevirtual 217, 3) := by decide +kernel
theorem dX12_lasts_45 : decode cX12_lasts 45 = .ok (.ireturn, 1) := by decide +kernel
theorem dX12_bestForce_0 : decode cX12_bestForce 0 = .ok (.aload_n 0, 1) := by decide +kernel
theorem dX12_bestForce_1 : decode cX12_bestForce 1 = .ok (.iload_n 1, 1) := by decide +kernel
theorem dX12_bestForce_2 : decode cX12_bestForce 2 = .ok (.iload_n 2, 1) := by decide +kernel
theorem dX12_bestForce_3 : decode cX12_bestForce 3 = .ok (.iload_n 3, 1) := by decide +kernel
theorem dX12_bestForce_4 : decode cX12_bestForce 4 = .ok (.invokevirtual 148, 3) := by decide +kernel
theorem dX12_bestForce_7 : decode cX12_bestForce 7 = .ok (.ifCond .ne 5, 3) := by decide +kernel
theorem dX12_bestForce_10 : decode cX12_bestForce 10 = .ok (.iconst (-1), 1) := by decide +kernel
theorem dX12_bestForce_11 : decode cX12_bestForce 11 = .ok (.ireturn, 1) := by decide +kernel
theorem dX12_bestForce_12 : decode cX12_bestForce 12 = .ok (.aload_n 0, 1) := by decide +kernel
theorem dX12_bestForce_13 : decode cX12_bestForce 13 = .ok (.iload_n 1, 1) := by decide +kernel
theorem dX12_bestForce_14 : decode cX12_bestForce 14 = .ok (.invokevirtual 151, 3) := by decide +kernel
theorem dX12_bestForce_17 : decode cX12_bestForce 17 = .ok (.ifCond .eq 6, 3) := by decide +kernel
theorem dX12_bestForce_20 : decode cX12_bestForce 20 = .ok (.bipush (-3), 2) := by decide +kernel
theorem dX12_bestForce_22 : decode cX12_bestForce 22 = .ok (.ireturn, 1) := by decide +kernel
theorem dX12_bestForce_23 : decode cX12_bestForce 23 = .ok (.aload_n 0, 1) := by decide +kernel
theorem dX12_bestForce_24 : decode cX12_bestForce 24 = .ok (.iload_n 1, 1) := by decide +kernel
theorem dX12_bestForce_25 : decode cX12_bestForce 25 = .ok (.iload_n 2, 1) := by decide +kernel
theorem dX12_bestForce_26 : decode cX12_bestForce 26 = .ok (.iload_n 3, 1) := by decide +kernel
theorem dX12_bestForce_27 : decode cX12_bestForce 27 = .ok (.invokevirtual 198, 3) := by decide +kernel
theorem dX12_bestForce_30 : decode cX12_bestForce 30 = .ok (.bipush (-4), 2) := by decide +kernel
theorem dX12_bestForce_32 : decode cX12_bestForce 32 = .ok (.istore 4, 2) := by decide +kernel
theorem dX12_bestForce_34 : decode cX12_bestForce 34 = .ok (.iconst 0, 1) := by decide +kernel
theorem dX12_bestForce_35 : decode cX12_bestForce 35 = .ok (.istore 5, 2) := by decide +kernel
theorem dX12_bestForce_37 : decode cX12_bestForce 37 = .ok (.iload 5, 2) := by decide +kernel
theorem dX12_bestForce_39 : decode cX12_bestForce 39 = .ok (.bipush 60, 2) := by decide +kernel
theorem dX12_bestForce_41 : decode cX12_bestForce 41 = .ok (.if_icmp .gt 55, 3) := by decide +kernel
theorem dX12_bestForce_44 : decode cX12_bestForce 44 = .ok (.aload_n 0, 1) := by decide +kernel
theorem dX12_bestForce_45 : decode cX12_bestForce 45 = .ok (.getfield 195, 3) := by decide +kernel
theorem dX12_bestForce_48 : decode cX12_bestForce 48 = .ok (.ifCond .le 48, 3) := by decide +kernel
theorem dX12_bestForce_51 : decode cX12_bestForce 51 = .ok (.aload_n 0, 1) := by decide +kernel
theorem dX12_bestForce_52 : decode cX12_bestForce 52 = .ok (.iload_n 2, 1) := by decide +kernel
theorem dX12_bestForce_53 : decode cX12_bestForce 53 = .ok (.iload_n 3, 1) := by decide +kernel
theorem dX12_bestForce_54 : decode cX12_bestForce 54 = .ok (.iload 5, 2) := by decide +kernel
theorem dX12_bestForce_56 : decode cX12_bestForce 56 = .ok (.invokevirtual 114, 3) := by decide +kernel
theorem dX12_bestForce_59 : decode cX12_bestForce 59 = .ok (.ifCond .eq 31, 3) := by decide +kernel
theorem dX12_bestForce_62 : decode cX12_bestForce 62 = .ok (.iload 4, 2) := by decide +kernel
theorem dX12_bestForce_64 : decode cX12_bestForce 64 = .ok (.ifCond .lt 22, 3) := by decide +kernel
theorem dX12_bestForce_67 : decode cX12_bestForce 67 = .ok (.aload_n 0, 1) := by decide +kernel
theorem dX12_bestForce_68 : decode cX12_bestForce 68 = .ok (.iload_n 1, 1) := by decide +kernel
theorem dX12_bestForce_69 : decode cX12_bestForce 69 = .ok (.iload_n 3, 1) := by decide +kernel
theorem dX12_bestForce_70 : decode cX12_bestForce 70 = .ok (.iload 5, 2) := by decide +kernel
theorem dX12_bestForce_72 : decode cX12_bestForce 72 = .ok (.invokevirtual 217, 3) := by decide +kernel
theorem dX12_bestForce_75 : decode cX12_bestForce 75 = .ok (.aload_n 0, 1) := by decide +kernel
theorem dX12_bestForce_76 : decode cX12_bestForce 76 = .ok (.iload_n 1, 1) := by decide +kernel
theorem dX12_bestForce_77 : decode cX12_bestForce 77 = .ok (.iload_n 3, 1) := by decide +kernel
theorem dX12_bestForce_78 : decode cX12_bestForce 78 = .ok (.iload 4, 2) := by decide +kernel
theorem dX12_bestForce_80 : decode cX12_bestForce 80 = .ok (.invokevirtual 217, 3) := by decide +kernel
theorem dX12_bestForce_83 : decode cX12_bestForce 83 = .ok (.if_icmp .le 7, 3) := by decide +kernel
theorem dX12_bestForce_86 : decode cX12_bestForce 86 = .ok (.iload 5, 2) := by decide +kernel
theorem dX12_bestForce_88 : decode cX12_bestForce 88 = .ok (.istore 4, 2) := by decide +kernel
theorem dX12_bestForce_90 : decode cX12_bestForce 90 = .ok (.iinc 5 1, 3) := by decide +kernel
theorem dX12_bestForce_93 : decode cX12_bestForce 93 = .ok (.goto (-56), 3) := by decide +kernel
theorem dX12_bestForce_96 : decode cX12_bestForce 96 = .ok (.iload 4, 2) := by decide +kernel
theorem dX12_bestForce_98 : decode cX12_bestForce 98 = .ok (.ireturn, 1) := by decide +kernel
theorem dX12_clash_0 : decode cX12_clash 0 = .ok (.aload_n 0, 1) := by decide +kernel
theorem dX12_clash_1 : decode cX12_clash 1 = .ok (.iload_n 1, 1) := by decide +kernel
theorem dX12_clash_2 : decode cX12_clash 2 = .ok (.invokevirtual 69, 3) := by decide +kernel
theorem dX12_clash_5 : decode cX12_clash 5 = .ok (.ifCond .eq 19, 3) := by decide +kernel
theorem dX12_clash_8 : decode cX12_clash 8 = .ok (.iload_n 2, 1) := by decide +kernel
theorem dX12_clash_9 : decode cX12_clash 9 = .ok (.invokestatic 174, 3) := by decide +kernel
theorem dX12_clash_12 : decode cX12_clash 12 = .ok (.ifCond .eq 12, 3) := by decide +kernel
theorem dX12_clash_15 : decode cX12_clash 15 = .ok (.iload_n 3, 1) := by decide +kernel
theorem dX12_clash_16 : decode cX12_clash 16 = .ok (.iconst 0, 1) := by decide +kernel
theorem dX12_clash_17 : decode cX12_clash 17 = .ok (.iconst 1, 1) := by decide +kernel
theorem dX12_clash_18 : decode cX12_clash 18 = .ok (.invokestatic 58, 3) := by decide +kernel
theorem dX12_clash_21 : decode cX12_clash 21 = .ok (.ifCond .ne 5, 3) := by decide +kernel
theorem dX12_clash_24 : decode cX12_clash 24 = .ok (.iconst (-1), 1) := by decide +kernel
theorem dX12_clash_25 : decode cX12_clash 25 = .ok (.ireturn, 1) := by decide +kernel
theorem dX12_clash_26 : decode cX12_clash 26 = .ok (.iconst 0, 1) := by decide +kernel
theorem dX12_clash_27 : decode cX12_clash 27 = .ok (.istore 4, 2) := by decide +kernel
theorem dX12_clash_29 : decode cX12_clash 29 = .ok (.bipush (-4), 2) := by decide +kernel
theorem dX12_clash_31 : decode cX12_clash 31 = .ok (.istore 5, 2) := by decide +kernel
theorem dX12_clash_33 : decode cX12_clash 33 = .ok (.iconst 0, 1) := by decide +kernel
theorem dX12_clash_34 : decode cX12_clash 34 = .ok (.istore 6, 2) := by decide +kernel
theorem dX12_clash_36 : decode cX12_clash 36 = .ok (.iload 6, 2) := by decide +kernel
theorem dX12_clash_38 : decode cX12_clash 38 = .ok (.aload_n 0, 1) := by decide +kernel
theorem dX12_clash_39 : decode cX12_clash 39 = .ok (.getfield 9, 3) := by decide +kernel
theorem dX12_clash_42 : decode cX12_clash 42 = .ok (.iconst 0, 1) := by decide +kernel
theorem dX12_clash_43 : decode cX12_clash 43 = .ok (.iaload, 1) := by decide +kernel
theorem dX12_clash_44 : decode cX12_clash 44 = .ok (.if_icmp .ge 88, 3) := by decide +kernel
theorem dX12_clash_47 : decode cX12_clash 47 = .ok (.iload 6, 2) := by decide +kernel
theorem dX12_clash_49 : decode cX12_clash 49 = .ok (.iconst 1, 1) := by decide +kernel
theorem dX12_clash_50 : decode cX12_clash 50 = .ok (.iadd, 1) := by decide +kernel
theorem dX12_clash_51 : decode cX12_clash 51 = .ok (.istore 7, 2) := by decide +kernel
theorem dX12_clash_53 : decode cX12_clash 53 = .ok (.iload 7, 2) := by decide +kernel
theorem dX12_clash_55 : decode cX12_clash 55 = .ok (.aload_n 0, 1) := by decide +kernel
theorem dX12_clash_56 : decode cX12_clash 56 = .ok (.getfield 9, 3) := by decide +kernel
theorem dX12_clash_59 : decode cX12_clash 59 = .ok (.iconst 0, 1) := by decide +kernel
theorem dX12_clash_60 : decode cX12_clash 60 = .ok (.iaload, 1) := by decide +kernel
theorem dX12_clash_61 : decode cX12_clash 61 = .ok (.if_icmp .ge 65, 3) := by decide +kernel
theorem dX12_clash_64 : decode cX12_clash 64 = .ok (.aload_n 0, 1) := by decide +kernel
theorem dX12_clash_65 : decode cX12_clash 65 = .ok (.iload 6, 2) := by decide +kernel
theorem dX12_clash_67 : decode cX12_clash 67 = .ok (.iload_n 1, 1) := by decide +kernel
theorem dX12_clash_68 : decode cX12_clash 68 = .ok (.iload_n 2, 1) := by decide +kernel
theorem dX12_clash_69 : decode cX12_clash 69 = .ok (.iconst 0, 1) := by decide +kernel
theorem dX12_clash_70 : decode cX12_clash 70 = .ok (.invokevirtual 184, 3) := by decide +kernel
theorem dX12_clash_73 : decode cX12_clash 73 = .ok (.aload_n 0, 1) := by decide +kernel
theorem dX12_clash_74 : decode cX12_clash 74 = .ok (.iload 7, 2) := by decide +kernel
theorem dX12_clash_76 : decode cX12_clash 76 = .ok (.iload_n 1, 1) := by decide +kernel
theorem dX12_clash_77 : decode cX12_clash 77 = .ok (.iload_n 2, 1) := by decide +kernel
theorem dX12_clash_78 : decode cX12_clash 78 = .ok (.iconst 0, 1) := by decide +kernel
theorem dX12_clash_79 : decode cX12_clash 79 = .ok (.invokevirtual 184, 3) := by decide +kernel
theorem dX12_clash_82 : decode cX12_clash 82 = .ok (.isub, 1) := by decide +kernel
theorem dX12_clash_83 : decode cX12_clash 83 = .ok (.invokestatic 205, 3) := by decide +kernel
theorem dX12_clash_86 : decode cX12_clash 86 = .ok (.iconst 1, 1) := by decide +kernel
theorem dX12_clash_87 : decode cX12_clash 87 = .ok (.iconst 2, 1) := by decide +kernel
theorem dX12_clash_88 : decode cX12_clash 88 = .ok (.invokestatic 58, 3) := by decide +kernel
theorem dX12_clash_91 : decode cX12_clash 91 = .ok (.ifCond .ne 6, 3) := by decide +kernel
theorem dX12_clash_94 : decode cX12_clash 94 = .ok (.goto 26, 3) := by decide +kernel
theorem dX12_clash_97 : decode cX12_clash 97 = .ok (.iload 4, 2) := by decide +kernel
theorem dX12_clash_99 : decode cX12_clash 99 = .ok (.ifCond .ne 14, 3) := by decide +kernel
theorem dX12_clash_102 : decode cX12_clash 102 = .ok (.bipush 10, 2) := by decide +kernel
theorem dX12_clash_104 : decode cX12_clash 104 = .ok (.iload 6, 2) := by decide +kernel
theorem dX12_clash_106 : decode cX12_clash 106 = .ok (.imul, 1) := by decide +kernel
theorem dX12_clash_107 : decode cX12_clash 107 = .ok (.iload 7, 2) := by decide +kernel
theorem dX12_clash_109 : decode cX12_clash 109 = .ok (.iadd, 1) := by decide +kernel
theorem dX12_clash_110 : decode cX12_clash 110 = .ok (.goto 5, 3) := by decide +kernel
theorem dX12_clash_113 : decode cX12_clash 113 = .ok (.iload 5, 2) := by decide +kernel
theorem dX12_clash_115 : decode cX12_clash 115 = .ok (.istore 5, 2) := by decide +kernel
theorem dX12_clash_117 : decode cX12_clash 117 = .ok (.iinc 4 1, 3) := by decide +kernel
theorem dX12_clash_120 : decode cX12_clash 120 = .ok (.iinc 7 1, 3) := by decide +kernel
theorem dX12_clash_123 : decode cX12_clash 123 = .ok (.goto (-70), 3) := by decide +kernel
theorem dX12_clash_126 : decode cX12_clash 126 = .ok (.iinc 6 1, 3) := by decide +kernel
theorem dX12_clash_129 : decode cX12_clash 129 = .ok (.goto (-93), 3) := by decide +kernel
theorem dX12_clash_132 : decode cX12_clash 132 = .ok (.iload_n 3, 1) := by decide +kernel
theorem dX12_clash_133 : decode cX12_clash 133 = .ok (.ifCond .ne 8, 3) := by decide +kernel
theorem dX12_clash_136 : decode cX12_clash 136 = .ok (.iload 4, 2) := by decide +kernel
theorem dX12_clash_138 : decode cX12_clash 138 = .ok (.goto 5, 3) := by decide +kernel
theorem dX12_clash_141 : decode cX12_clash 141 = .ok (.iload 5, 2) := by decide +kernel
theorem dX12_clash_143 : decode cX12_clash 143 = .ok (.ireturn, 1) := by decide +kernel
theorem dX12_heard_0 : decode cX12_heard 0 = .ok (.iload_n 1, 1) := by decide +kernel
theorem dX12_heard_1 : decode cX12_heard 1 = .ok (.iconst 0, 1) := by decide +kernel
theorem dX12_heard_2 : decode cX12_heard 2 = .ok (.bipush 99, 2) := by decide +kernel
theorem dX12_heard_4 : decode cX12_heard 4 = .ok (.invokestatic 58, 3) := by decide +kernel
theorem dX12_heard_7 : decode cX12_heard 7 = .ok (.ifCond .eq 10, 3) := by decide +kernel
theorem dX12_heard_10 : decode cX12_heard 10 = .ok (.iload_n 2, 1) := by decide +kernel
theorem dX12_heard_11 : decode cX12_heard 11 = .ok (.invokestatic 174, 3) := by decide +kernel
theorem dX12_heard_14 : decode cX12_heard 14 = .ok (.ifCond .ne 5, 3) := by decide +kernel
theorem dX12_heard_17 : decode cX12_heard 17 = .ok (.iconst (-1), 1) := by decide +kernel
theorem dX12_heard_18 : decode cX12_heard 18 = .ok (.ireturn, 1) := by decide +kernel
theorem dX12_heard_19 : decode cX12_heard 19 = .ok (.iload_n 1, 1) := by decide +kernel
theorem dX12_heard_20 : decode cX12_heard 20 = .ok (.bipush 70, 2) := by decide +kernel
theorem dX12_heard_22 : decode cX12_heard 22 = .ok (.if_icmp .le 7, 3) := by decide +kernel
theorem dX12_heard_25 : decode cX12_heard 25 = .ok (.iconst 1, 1) := by decide +kernel
theorem dX12_heard_26 : decode cX12_heard 26 = .ok (.goto 4, 3) := by decide +kernel
theorem dX12_heard_29 : decode cX12_heard 29 = .ok (.iconst 0, 1) := by decide +kernel
theorem dX12_heard_30 : decode cX12_heard 30 = .ok (.istore_n 3, 1) := by decide +kernel
theorem dX12_heard_31 : decode cX12_heard 31 = .ok (.iload_n 3, 1) := by decide +kernel
theorem dX12_heard_32 : decode cX12_heard 32 = .ok (.iload_n 1, 1) := by decide +kernel
theorem dX12_heard_33 : decode cX12_heard 33 = .ok (.bipush 50, 2) := by decide +kernel
theorem dX12_heard_35 : decode cX12_heard 35 = .ok (.bipush 70, 2) := by decide +kernel
theorem dX12_heard_37 : decode cX12_heard 37 = .ok (.invokestatic 58, 3) := by decide +kernel
theorem dX12_heard_40 : decode cX12_heard 40 = .ok (.ifCond .eq 13, 3) := by decide +kernel
theorem dX12_heard_43 : decode cX12_heard 43 = .ok (.iload_n 2, 1) := by decide +kernel
theorem dX12_heard_44 : decode cX12_heard 44 = .ok (.bipush 20, 2) := by decide +kernel
theorem dX12_heard_46 : decode cX12_heard 46 = .ok (.if_icmp .gt 7, 3) := by decide +kernel
theorem dX12_heard_49 : decode cX12_heard 49 = .ok (.iconst 2, 1) := by decide +kernel
theorem dX12_heard_50 : decode cX12_heard 50 = .ok (.goto 4, 3) := by decide +kernel
theorem dX12_heard_53 : decode cX12_heard 53 = .ok (.iconst 0, 1) := by decide +kernel
theorem dX12_heard_54 : decode cX12_heard 54 = .ok (.ior, 1) := by decide +kernel
theorem dX12_heard_55 : decode cX12_heard 55 = .ok (.istore_n 3, 1) := by decide +kernel
theorem dX12_heard_56 : decode cX12_heard 56 = .ok (.iload_n 3, 1) := by decide +kernel
theorem dX12_heard_57 : decode cX12_heard 57 = .ok (.iload_n 1, 1) := by decide +kernel
theorem dX12_heard_58 : decode cX12_heard 58 = .ok (.bipush 60, 2) := by decide +kernel
theorem dX12_heard_60 : decode cX12_heard 60 = .ok (.if_icmp .le 13, 3) := by decide +kernel
theorem dX12_heard_63 : decode cX12_heard 63 = .ok (.iload_n 2, 1) := by decide +kernel
theorem dX12_heard_64 : decode cX12_heard 64 = .ok (.bipush 20, 2) := by decide +kernel
theorem dX12_heard_66 : decode cX12_heard 66 = .ok (.if_icmp .le 7, 3) := by decide +kernel
theorem dX12_heard_69 : decode cX12_heard 69 = .ok (.iconst 4, 1) := by decide +kernel
theorem dX12_heard_70 : decode cX12_heard 70 = .ok (.goto 4, 3) := by decide +kernel
theorem dX12_heard_73 : decode cX12_heard 73 = .ok (.iconst 0, 1) := by decide +kernel
theorem dX12_heard_74 : decode cX12_heard 74 = .ok (.ior, 1) := by decide +kernel
theorem dX12_heard_75 : decode cX12_heard 75 = .ok (.istore_n 3, 1) := by decide +kernel
theorem dX12_heard_76 : decode cX12_heard 76 = .ok (.iload_n 3, 1) := by decide +kernel
theorem dX12_heard_77 : decode cX12_heard 77 = .ok (.iload_n 1, 1) := by decide +kernel
theorem dX12_heard_78 : decode cX12_heard 78 = .ok (.bipush 7, 2) := by decide +kernel
theorem dX12_heard_80 : decode cX12_heard 80 = .ok (.irem, 1) := by decide +kernel
theorem dX12_heard_81 : decode cX12_heard 81 = .ok (.iconst 3, 1) := by decide +kernel
theorem dX12_heard_82 : decode cX12_heard 82 = .ok (.if_icmp .ne 8, 3) := by decide +kernel
theorem dX12_heard_85 : decode cX12_heard 85 = .ok (.bipush 8, 2) := by decide +kernel
theorem dX12_heard_87 : decode cX12_heard 87 = .ok (.goto 4, 3) := by decide +kernel
theorem dX12_heard_90 : decode cX12_heard 90 = .ok (.iconst 0, 1) := by decide +kernel
theorem dX12_heard_91 : decode cX12_heard 91 = .ok (.ior, 1) := by decide +kernel
theorem dX12_heard_92 : decode cX12_heard 92 = .ok (.ireturn, 1) := by decide +kernel
theorem dX12_gcd_0 : decode cX12_gcd 0 = .ok (.lload_n 0, 1) := by decide +kernel
theorem dX12_gcd_1 : decode cX12_gcd 1 = .ok (.lstore 4, 2) := by decide +kernel
theorem dX12_gcd_3 : decode cX12_gcd 3 = .ok (.lload_n 2, 1) := by decide +kernel
theorem dX12_gcd_4 : decode cX12_gcd 4 = .ok (.lstore 6, 2) := by decide +kernel
theorem dX12_gcd_6 : decode cX12_gcd 6 = .ok (.lload 6, 2) := by decide +kernel
theorem dX12_gcd_8 : decode cX12_gcd 8 = .ok (.lconst 0, 1) := by decide +kernel
theorem dX12_gcd_9 : decode cX12_gcd 9 = .ok (.lcmp, 1) := by decide +kernel
theorem dX12_gcd_10 : decode cX12_gcd 10 = .ok (.ifCond .eq 21, 3) := by decide +kernel
theorem dX12_gcd_13 : decode cX12_gcd 13 = .ok (.lload 4, 2) := by decide +kernel
theorem dX12_gcd_15 : decode cX12_gcd 15 = .ok (.lload 6, 2) := by decide +kernel
theorem dX12_gcd_17 : decode cX12_gcd 17 = .ok (.lrem, 1) := by decide +kernel
theorem dX12_gcd_18 : decode cX12_gcd 18 = .ok (.lstore 8, 2) := by decide +kernel
theorem dX12_gcd_20 : decode cX12_gcd 20 = .ok (.lload 6, 2) := by decide +kernel
theorem dX12_gcd_22 : decode cX12_gcd 22 = .ok (.lstore 4, 2) := by decide +kernel
theorem dX12_gcd_24 : decode cX12_gcd 24 = .ok (.lload 8, 2) := by decide +kernel
theorem dX12_gcd_26 : decode cX12_gcd 26 = .ok (.lstore 6, 2) := by decide +kernel
theorem dX12_gcd_28 : decode cX12_gcd 28 = .ok (.goto (-22), 3) := by decide +kernel
theorem dX12_gcd_31 : decode cX12_gcd 31 = .ok (.lload 4, 2) := by decide +kernel
theorem dX12_gcd_33 : decode cX12_gcd 33 = .ok (.lreturn, 1) := by decide +kernel
theorem dX12_partOf_0 : decode cX12_partOf 0 = .ok (.lload_n 0, 1) := by decide +kernel
theorem dX12_partOf_1 : decode cX12_partOf 1 = .ok (.lconst 0, 1) := by decide +kernel
theorem dX12_partOf_2 : decode cX12_partOf 2 = .ok (.lcmp, 1) := by decide +kernel
theorem dX12_partOf_3 : decode cX12_partOf 3 = .ok (.ifCond .ne 7, 3) := by decide +kernel
theorem dX12_partOf_6 : decode cX12_partOf 6 = .ok (.iload 4, 2) := by decide +kernel
theorem dX12_partOf_8 : decode cX12_partOf 8 = .ok (.i2l, 1) := by decide +kernel
theorem dX12_partOf_9 : decode cX12_partOf 9 = .ok (.lreturn, 1) := by decide +kernel
theorem dX12_partOf_10 : decode cX12_partOf 10 = .ok (.iload 4, 2) := by decide +kernel
theorem dX12_partOf_12 : decode cX12_partOf 12 = .ok (.ifCond .ne 7, 3) := by decide +kernel
theorem dX12_partOf_15 : decode cX12_partOf 15 = .ok (.lload_n 0, 1) := by decide +kernel
theorem dX12_partOf_16 : decode cX12_partOf 16 = .ok (.goto 4, 3) := by decide +kernel
theorem dX12_partOf_19 : decode cX12_partOf 19 = .ok (.lload_n 2, 1) := by decide +kernel
theorem dX12_partOf_20 : decode cX12_partOf 20 = .ok (.lload_n 0, 1) := by decide +kernel
theorem dX12_partOf_21 : decode cX12_partOf 21 = .ok (.lload_n 2, 1) := by decide +kernel
theorem dX12_partOf_22 : decode cX12_partOf 22 = .ok (.invokestatic 220, 3) := by decide +kernel
theorem dX12_partOf_25 : decode cX12_partOf 25 = .ok (.ldiv, 1) := by decide +kernel
theorem dX12_partOf_26 : decode cX12_partOf 26 = .ok (.lreturn, 1) := by decide +kernel
theorem dX12_nearParts_0 : decode cX12_nearParts 0 = .ok (.iload_n 2, 1) := by decide +kernel
theorem dX12_nearParts_1 : decode cX12_nearParts 1 = .ok (.bipush 100, 2) := by decide +kernel
theorem dX12_nearParts_3 : decode cX12_nearParts 3 = .ok (.idiv, 1) := by decide +kernel
theorem dX12_nearParts_4 : decode cX12_nearParts 4 = .ok (.istore 4, 2) := by decide +kernel
theorem dX12_nearParts_6 : decode cX12_nearParts 6 = .ok (.iload_n 2, 1) := by decide +kernel
theorem dX12_nearParts_7 : decode cX12_nearParts 7 = .ok (.bipush 100, 2) := by decide +kernel
theorem dX12_nearParts_9 : decode cX12_nearParts 9 = .ok (.irem, 1) := by decide +kernel
theorem dX12_nearParts_10 : decode cX12_nearParts 10 = .ok (.istore 5, 2) := by decide +kernel
theorem dX12_nearParts_12 : decode cX12_nearParts 12 = .ok (.iconst 0, 1) := by decide +kernel
theorem dX12_nearParts_13 : decode cX12_nearParts 13 = .ok (.istore 6, 2) := by decide +kernel
theorem dX12_nearParts_15 : decode cX12_nearParts 15 = .ok (.iload 6, 2) := by decide +kernel
theorem dX12_nearParts_17 : decode cX12_nearParts 17 = .ok (.bipush 13, 2) := by decide +kernel
theorem dX12_nearParts_19 : decode cX12_nearParts 19 = .ok (.if_icmp .ge 27, 3) := by decide +kernel
theorem dX12_nearParts_22 : decode cX12_nearParts 22 = .ok (.aload_n 0, 1) := by decide +kernel
theorem dX12_nearParts_23 : decode cX12_nearParts 23 = .ok (.getfield 26, 3) := by decide +kernel
theorem dX12_nearParts_26 : decode cX12_nearParts 26 = .ok (.iload 6, 2) := by decide +kernel
theorem dX12_nearParts_28 : decode cX12_nearParts 28 = .ok (.iload 6, 2) := by decide +kernel
theorem dX12_nearParts_30 : decode cX12_nearParts 30 = .ok (.iload_n 1, 1) := by decide +kernel
theorem dX12_nearParts_31 : decode cX12_nearParts 31 = .ok (.if_icmp .ne 7, 3) := by decide +kernel
theorem dX12_nearParts_34 : decode cX12_nearParts 34 = .ok (.lconst 1, 1) := by decide +kernel
theorem dX12_nearParts_35 : decode cX12_nearParts 35 = .ok (.goto 4, 3) := by decide +kernel
theorem dX12_nearParts_38 : decode cX12_nearParts 38 = .ok (.lconst 0, 1) := by decide +kernel
theorem dX12_nearParts_39 : decode cX12_nearParts 39 = .ok (.lastore, 1) := by decide +kernel
theorem dX12_nearParts_40 : decode cX12_nearParts 40 = .ok (.iinc 6 1, 3) := by decide +kernel
theorem dX12_nearParts_43 : decode cX12_nearParts 43 = .ok (.goto (-28), 3) := by decide +kernel
theorem dX12_nearParts_46 : decode cX12_nearParts 46 = .ok (.iconst 0, 1) := by decide +kernel
theorem dX12_nearParts_47 : decode cX12_nearParts 47 = .ok (.istore 6, 2) := by decide +kernel
theorem dX12_nearParts_49 : decode cX12_nearParts 49 = .ok (.iload 6, 2) := by decide +kernel
theorem dX12_nearParts_51 : decode cX12_nearParts 51 = .ok (.iload_n 3, 1) := by decide +kernel
theorem dX12_nearParts_52 : decode cX12_nearParts 52 = .ok (.if_icmp .ge 184, 3) := by decide +kernel
theorem dX12_nearParts_55 : decode cX12_nearParts 55 = .ok (.iconst 0, 1) := by decide +kernel
theorem dX12_nearParts_56 : decode cX12_nearParts 56 = .ok (.istore 7, 2) := by decide +kernel
theorem dX12_nearParts_58 : decode cX12_nearParts 58 = .ok (.iload 7, 2) := by decide +kernel
theorem dX12_nearParts_60 : decode cX12_nearParts 60 = .ok (.bipush 13, 2) := by decide +kernel
theorem dX12_nearParts_62 : decode cX12_nearParts 62 = .ok (.if_icmp .ge 17, 3) := by decide +kernel
theorem dX12_nearParts_65 : decode cX12_nearParts 65 = .ok (.aload_n 0, 1) := by decide +kernel
theorem dX12_nearParts_66 : decode cX12_nearParts 66 = .ok (.getfield 30, 3) := by decide +kernel
theorem dX12_nearParts_69 : decode cX12_nearParts 69 = .ok (.iload 7, 2) := by decide +kernel
theorem dX12_nearParts_71 : decode cX12_nearParts 71 = .ok (.lconst 0, 1) := by decide +kernel
theorem dX12_nearParts_72 : decode cX12_nearParts 72 = .ok (.lastore, 1) := by decide +kernel
theorem dX12_nearParts_73 : decode cX12_nearParts 73 = .ok (.iinc 7 1, 3) := by decide +kernel
theorem dX12_nearParts_76 : decode cX12_nearParts 76 = .ok (.goto (-18), 3) := by decide +kernel
theorem dX12_nearParts_79 : decode cX12_nearParts 79 = .ok (.aload_n 0, 1) := by decide +kernel
theorem dX12_nearParts_80 : decode cX12_nearParts 80 = .ok (.getfield 30, 3) := by decide +kernel
theorem dX12_nearParts_83 : decode cX12_nearParts 83 = .ok (.iconst 0, 1) := by decide +kernel
theorem dX12_nearParts_84 : decode cX12_nearParts 84 = .ok (.ldc2_w 224, 3) := by decide +kernel
theorem dX12_nearParts_87 : decode cX12_nearParts 87 = .ok (.aload_n 0, 1) := by decide +kernel
theorem dX12_nearParts_88 : decode cX12_nearParts 88 = .ok (.getfield 26, 3) := by decide +kernel
theorem dX12_nearParts_91 : decode cX12_nearParts 91 = .ok (.iconst 0, 1) := by decide +kernel
theorem dX12_nearParts_92 : decode cX12_nearParts 92 = .ok (.laload, 1) := by decide +kernel
theorem dX12_nearParts_93 : decode cX12_nearParts 93 = .ok (.lmul, 1) := by decide +kernel
theorem dX12_nearParts_94 : decode cX12_nearParts 94 = .ok (.lastore, 1) := by decide +kernel
theorem dX12_nearParts_95 : decode cX12_nearParts 95 = .ok (.iconst 1, 1) := by decide +kernel
theorem dX12_nearParts_96 : decode cX12_nearParts 96 = .ok (.istore 7, 2) := by decide +kernel
theorem dX12_nearParts_98 : decode cX12_nearParts 98 = .ok (.iload 7, 2) := by decide +kernel
theorem dX12_nearParts_100 : decode cX12_nearParts 100 = .ok (.bipush 13, 2) := by decide +kernel
theorem dX12_nearParts_102 : decode cX12_nearParts 102 = .ok (.if_icmp .ge 98, 3) := by decide +kernel
theorem dX12_nearParts_105 : decode cX12_nearParts 105 = .ok (.iload 7, 2) := by decide +kernel
theorem dX12_nearParts_107 : decode cX12_nearParts 107 = .ok (.bipush 12, 2) := by decide +kernel
theorem dX12_nearParts_109 : decode cX12_nearParts 109 = .ok (.if_icmp .ne 8, 3) := by decide +kernel
theorem dX12_nearParts_112 : decode cX12_nearParts 112 = .ok (.bipush 12, 2) := by decide +kernel
theorem dX12_nearParts_114 : decode cX12_nearParts 114 = .ok (.goto 7, 3) := by decide +kernel
theorem dX12_nearParts_117 : decode cX12_nearParts 117 = .ok (.iload 7, 2) := by decide +kernel
theorem dX12_nearParts_119 : decode cX12_nearParts 119 = .ok (.iconst 1, 1) := by decide +kernel
theorem dX12_nearParts_120 : decode cX12_nearParts 120 = .ok (.iadd, 1) := by decide +kernel
theorem dX12_nearParts_121 : decode cX12_nearParts 121 = .ok (.istore 8, 2) := by decide +kernel
theorem dX12_nearParts_123 : decode cX12_nearParts 123 = .ok (.aload_n 0, 1) := by decide +kernel
theorem dX12_nearParts_124 : decode cX12_nearParts 124 = .ok (.getfield 30, 3) := by decide +kernel
theorem dX12_nearParts_127 : decode cX12_nearParts 127 = .ok (.iload 7, 2) := by decide +kernel
theorem dX12_nearParts_129 : decode cX12_nearParts 129 = .ok (.iconst 1, 1) := by decide +kernel
theorem dX12_nearParts_130 : decode cX12_nearParts 130 = .ok (.isub, 1) := by decide +kernel
theorem dX12_nearParts_131 : decode cX12_nearParts 131 = .ok (.dup2, 1) := by decide +kernel
theorem dX12_nearParts_132 : decode cX12_nearParts 132 = .ok (.laload, 1) := by decide +kernel
theorem dX12_nearParts_133 : decode cX12_nearParts 133 = .ok (.iload 4, 2) := by decide +kernel
theorem dX12_nearParts_135 : decode cX12_nearParts 135 = .ok (.i2l, 1) := by decide +kernel
theorem dX12_nearParts_136 : decode cX12_nearParts 136 = .ok (.aload_n 0, 1) := by decide +kernel
theorem dX12_nearParts_137 : decode cX12_nearParts 137 = .ok (.getfield 26, 3) := by decide +kernel
theorem dX12_nearParts_140 : decode cX12_nearParts 140 = .ok (.iload 7, 2) := by decide +kernel
theorem dX12_nearParts_142 : decode cX12_nearParts 142 = .ok (.laload, 1) := by decide +kernel
theorem dX12_nearParts_143 : decode cX12_nearParts 143 = .ok (.lmul, 1) := by decide +kernel
theorem dX12_nearParts_144 : decode cX12_nearParts 144 = .ok (.ladd, 1) := by decide +kernel
theorem dX12_nearParts_145 : decode cX12_nearParts 145 = .ok (.lastore, 1) := by decide +kernel
theorem dX12_nearParts_146 : decode cX12_nearParts 146 = .ok (.aload_n 0, 1) := by decide +kernel
theorem dX12_nearParts_147 : decode cX12_nearParts 147 = .ok (.getfield 30, 3) := by decide +kernel
theorem dX12_nearParts_150 : decode cX12_nearParts 150 = .ok (.iload 8, 2) := by decide +kernel
theorem dX12_nearParts_152 : decode cX12_nearParts 152 = .ok (.dup2, 1) := by decide +kernel
theorem dX12_nearParts_153 : decode cX12_nearParts 153 = .ok (.laload, 1) := by decide +kernel
theorem dX12_nearParts_154 : decode cX12_nearParts 154 = .ok (.iload 5, 2) := by decide +kernel
theorem dX12_nearParts_156 : decode cX12_nearParts 156 = .ok (.i2l, 1) := by decide +kernel
theorem dX12_nearParts_157 : decode cX12_nearParts 157 = .ok (.aload_n 0, 1) := by decide +kernel
theorem dX12_nearParts_158 : decode cX12_nearParts 158 = .ok (.getfield 26, 3) := by decide +kernel
theorem dX12_nearParts_161 : decode cX12_nearParts 161 = .ok (.iload 7, 2) := by decide +kernel
theorem dX12_nearParts_163 : decode cX12_nearParts 163 = .ok (.laload, 1) := by decide +kernel
theorem dX12_nearParts_164 : decode cX12_nearParts 164 = .ok (.lmul, 1) := by decide +kernel
theorem dX12_nearParts_165 : decode cX12_nearParts 165 = .ok (.ladd, 1) := by decide +kernel
theorem dX12_nearParts_166 : decode cX12_nearParts 166 = .ok (.lastore, 1) := by decide +kernel
theorem dX12_nearParts_167 : decode cX12_nearParts 167 = .ok (.aload_n 0, 1) := by decide +kernel
theorem dX12_nearParts_168 : decode cX12_nearParts 168 = .ok (.getfield 30, 3) := by decide +kernel
theorem dX12_nearParts_171 : decode cX12_nearParts 171 = .ok (.iload 7, 2) := by decide +kernel
theorem dX12_nearParts_173 : decode cX12_nearParts 173 = .ok (.dup2, 1) := by decide +kernel
theorem dX12_nearParts_174 : decode cX12_nearParts 174 = .ok (.laload, 1) := by decide +kernel
theorem dX12_nearParts_175 : decode cX12_nearParts 175 = .ok (.bipush 10, 2) := by decide +kernel
theorem dX12_nearParts_177 : decode cX12_nearParts 177 = .ok (.iload 4, 2) := by decide +kernel
theorem dX12_nearParts_179 : decode cX12_nearParts 179 = .ok (.isub, 1) := by decide +kernel
theorem dX12_nearParts_180 : decode cX12_nearParts 180 = .ok (.iload 5, 2) := by decide +kernel
theorem dX12_nearParts_182 : decode cX12_nearParts 182 = .ok (.isub, 1) := by decide +kernel
theorem dX12_nearParts_183 : decode cX12_nearParts 183 = .ok (.i2l, 1) := by decide +kernel
theorem dX12_nearParts_184 : decode cX12_nearParts 184 = .ok (.aload_n 0, 1) := by decide +kernel
theorem dX12_nearParts_185 : decode cX12_nearParts 185 = .ok (.getfield 26, 3) := by decide +kernel
theorem dX12_nearParts_188 : decode cX12_nearParts 188 = .ok (.iload 7, 2) := by decide +kernel
theorem dX12_nearParts_190 : decode cX12_nearParts 190 = .ok (.laload, 1) := by decide +kernel
theorem dX12_nearParts_191 : decode cX12_nearParts 191 = .ok (.lmul, 1) := by decide +kernel
theorem dX12_nearParts_192 : decode cX12_nearParts 192 = .ok (.ladd, 1) := by decide +kernel
theorem dX12_nearParts_193 : decode cX12_nearParts 193 = .ok (.lastore, 1) := by decide +kernel
theorem dX12_nearParts_194 : decode cX12_nearParts 194 = .ok (.iinc 7 1, 3) := by decide +kernel
theorem dX12_nearParts_197 : decode cX12_nearParts 197 = .ok (.goto (-99), 3) := by decide +kernel
theorem dX12_nearParts_200 : decode cX12_nearParts 200 = .ok (.iconst 0, 1) := by decide +kernel
theorem dX12_nearParts_201 : decode cX12_nearParts 201 = .ok (.istore 7, 2) := by decide +kernel
theorem dX12_nearParts_203 : decode cX12_nearParts 203 = .ok (.iload 7, 2) := by decide +kernel
theorem dX12_nearParts_205 : decode cX12_nearParts 205 = .ok (.bipush 13, 2) := by decide +kernel
theorem dX12_nearParts_207 : decode cX12_nearParts 207 = .ok (.if_icmp .ge 23, 3) := by decide +kernel
theorem dX12_nearParts_210 : decode cX12_nearParts 210 = .ok (.aload_n 0, 1) := by decide +kernel
theorem dX12_nearParts_211 : decode cX12_nearParts 211 = .ok (.getfield 26, 3) := by decide +kernel
theorem dX12_nearParts_214 : decode cX12_nearParts 214 = .ok (.iload 7, 2) := by decide +kernel
theorem dX12_nearParts_216 : decode cX12_nearParts 216 = .ok (.aload_n 0, 1) := by decide +kernel
theorem dX12_nearParts_217 : decode cX12_nearParts 217 = .ok (.getfield 30, 3) := by decide +kernel
theorem dX12_nearParts_220 : decode cX12_nearParts 220 = .ok (.iload 7, 2) := by decide +kernel
theorem dX12_nearParts_222 : decode cX12_nearParts 222 = .ok (.laload, 1) := by decide +kernel
theorem dX12_nearParts_223 : decode cX12_nearParts 223 = .ok (.lastore, 1) := by decide +kernel
theorem dX12_nearParts_224 : decode cX12_nearParts 224 = .ok (.iinc 7 1, 3) := by decide +kernel
theorem dX12_nearParts_227 : decode cX12_nearParts 227 = .ok (.goto (-24), 3) := by decide +kernel
theorem dX12_nearParts_230 : decode cX12_nearParts 230 = .ok (.iinc 6 1, 3) := by decide +kernel
theorem dX12_nearParts_233 : decode cX12_nearParts 233 = .ok (.goto (-184), 3) := by decide +kernel
theorem dX12_nearParts_236 : decode cX12_nearParts 236 = .ok (.aload_n 0, 1) := by decide +kernel
theorem dX12_nearParts_237 : decode cX12_nearParts 237 = .ok (.getfield 26, 3) := by decide +kernel
theorem dX12_nearParts_240 : decode cX12_nearParts 240 = .ok (.iconst 0, 1) := by decide +kernel
theorem dX12_nearParts_241 : decode cX12_nearParts 241 = .ok (.laload, 1) := by decide +kernel
theorem dX12_nearParts_242 : decode cX12_nearParts 242 = .ok (.lreturn, 1) := by decide +kernel
theorem dX12_tens_0 : decode cX12_tens 0 = .ok (.lconst 1, 1) := by decide +kernel
theorem dX12_tens_1 : decode cX12_tens 1 = .ok (.lstore_n 1, 1) := by decide +kernel
theorem dX12_tens_2 : decode cX12_tens 2 = .ok (.iconst 0, 1) := by decide +kernel
theorem dX12_tens_3 : decode cX12_tens 3 = .ok (.istore_n 3, 1) := by decide +kernel
theorem dX12_tens_4 : decode cX12_tens 4 = .ok (.iload_n 3, 1) := by decide +kernel
theorem dX12_tens_5 : decode cX12_tens 5 = .ok (.iload_n 0, 1) := by decide +kernel
theorem dX12_tens_6 : decode cX12_tens 6 = .ok (.if_icmp .ge 15, 3) := by decide +kernel
theorem dX12_tens_9 : decode cX12_tens 9 = .ok (.lload_n 1, 1) := by decide +kernel
theorem dX12_tens_10 : decode cX12_tens 10 = .ok (.ldc2_w 224, 3) := by decide +kernel
theorem dX12_tens_13 : decode cX12_tens 13 = .ok (.lmul, 1) := by decide +kernel
theorem dX12_tens_14 : decode cX12_tens 14 = .ok (.lstore_n 1, 1) := by decide +kernel
theorem dX12_tens_15 : decode cX12_tens 15 = .ok (.iinc 3 1, 3) := by decide +kernel
theorem dX12_tens_18 : decode cX12_tens 18 = .ok (.goto (-14), 3) := by decide +kernel
theorem dX12_tens_21 : decode cX12_tens 21 = .ok (.lload_n 1, 1) := by decide +kernel
theorem dX12_tens_22 : decode cX12_tens 22 = .ok (.lreturn, 1) := by decide +kernel
theorem dX12_areOdds_0 : decode cX12_areOdds 0 = .ok (.iload_n 0, 1) := by decide +kernel
theorem dX12_areOdds_1 : decode cX12_areOdds 1 = .ok (.iconst 0, 1) := by decide +kernel
theorem dX12_areOdds_2 : decode cX12_areOdds 2 = .ok (.bipush 12, 2) := by decide +kernel
theorem dX12_areOdds_4 : decode cX12_areOdds 4 = .ok (.invokestatic 58, 3) := by decide +kernel
theorem dX12_areOdds_7 : decode cX12_areOdds 7 = .ok (.ifCond .eq 34, 3) := by decide +kernel
theorem dX12_areOdds_10 : decode cX12_areOdds 10 = .ok (.iload_n 1, 1) := by decide +kernel
theorem dX12_areOdds_11 : decode cX12_areOdds 11 = .ok (.ifCond .lt 30, 3) := by decide +kernel
theorem dX12_areOdds_14 : decode cX12_areOdds 14 = .ok (.iload_n 1, 1) := by decide +kernel
theorem dX12_areOdds_15 : decode cX12_areOdds 15 = .ok (.bipush 100, 2) := by decide +kernel
theorem dX12_areOdds_17 : decode cX12_areOdds 17 = .ok (.idiv, 1) := by decide +kernel
theorem dX12_areOdds_18 : decode cX12_areOdds 18 = .ok (.bipush 10, 2) := by decide +kernel
theorem dX12_areOdds_20 : decode cX12_areOdds 20 = .ok (.if_icmp .gt 21, 3) := by decide +kernel
theorem dX12_areOdds_23 : decode cX12_areOdds 23 = .ok (.iload_n 1, 1) := by decide +kernel
theorem dX12_areOdds_24 : decode cX12_areOdds 24 = .ok (.bipush 100, 2) := by decide +kernel
theorem dX12_areOdds_26 : decode cX12_areOdds 26 = .ok (.idiv, 1) := by decide +kernel
theorem dX12_areOdds_27 : decode cX12_areOdds 27 = .ok (.iload_n 1, 1) := by decide +kernel
theorem dX12_areOdds_28 : decode cX12_areOdds 28 = .ok (.bipush 100, 2) := by decide +kernel
theorem dX12_areOdds_30 : decode cX12_areOdds 30 = .ok (.irem, 1) := by decide +kernel
theorem dX12_areOdds_31 : decode cX12_areOdds 31 = .ok (.iadd, 1) := by decide +kernel
theorem dX12_areOdds_32 : decode cX12_areOdds 32 = .ok (.bipush 10, 2) := by decide +kernel
theorem dX12_areOdds_34 : decode cX12_areOdds 34 = .ok (.if_icmp .gt 7, 3) := by decide +kernel
theorem dX12_areOdds_37 : decode cX12_areOdds 37 = .ok (.iconst 1, 1) := by decide +kernel
theorem dX12_areOdds_38 : decode cX12_areOdds 38 = .ok (.goto 4, 3) := by decide +kernel
theorem dX12_areOdds_41 : decode cX12_areOdds 41 = .ok (.iconst 0, 1) := by decide +kernel
theorem dX12_areOdds_42 : decode cX12_areOdds 42 = .ok (.ireturn, 1) := by decide +kernel
theorem dX12_nearer_0 : decode cX12_nearer 0 = .ok (.iload_n 1, 1) := by decide +kernel
theorem dX12_nearer_1 : decode cX12_nearer 1 = .ok (.iload_n 2, 1) := by decide +kernel
theorem dX12_nearer_2 : decode cX12_nearer 2 = .ok (.invokestatic 226, 3) := by decide +kernel
theorem dX12_nearer_5 : decode cX12_nearer 5 = .ok (.ifCond .eq 23, 3) := by decide +kernel
theorem dX12_nearer_8 : decode cX12_nearer 8 = .ok (.iload_n 3, 1) := by decide +kernel
theorem dX12_nearer_9 : decode cX12_nearer 9 = .ok (.iconst 0, 1) := by decide +kernel
theorem dX12_nearer_10 : decode cX12_nearer 10 = .ok (.bipush 9, 2) := by decide +kernel
theorem dX12_nearer_12 : decode cX12_nearer 12 = .ok (.invokestatic 58, 3) := by decide +kernel
theorem dX12_nearer_15 : decode cX12_nearer 15 = .ok (.ifCond .eq 13, 3) := by decide +kernel
theorem dX12_nearer_18 : decode cX12_nearer 18 = .ok (.iload 4, 2) := by decide +kernel
theorem dX12_nearer_20 : decode cX12_nearer 20 = .ok (.iconst 0, 1) := by decide +kernel
theorem dX12_nearer_21 : decode cX12_nearer 21 = .ok (.iconst 1, 1) := by decide +kernel
theorem dX12_nearer_22 : decode cX12_nearer 22 = .ok (.invokestatic 58, 3) := by decide +kernel
theorem dX12_nearer_25 : decode cX12_nearer 25 = .ok (.ifCond .ne 7, 3) := by decide +kernel
theorem dX12_nearer_28 : decode cX12_nearer 28 = .ok (.ldc2_w 229, 3) := by decide +kernel
theorem dX12_nearer_31 : decode cX12_nearer 31 = .ok (.lreturn, 1) := by decide +kernel
theorem dX12_nearer_32 : decode cX12_nearer 32 = .ok (.aload_n 0, 1) := by decide +kernel
theorem dX12_nearer_33 : decode cX12_nearer 33 = .ok (.iload_n 1, 1) := by decide +kernel
theorem dX12_nearer_34 : decode cX12_nearer 34 = .ok (.iload_n 2, 1) := by decide +kernel
theorem dX12_nearer_35 : decode cX12_nearer 35 = .ok (.iload_n 3, 1) := by decide +kernel
theorem dX12_nearer_36 : decode cX12_nearer 36 = .ok (.invokevirtual 231, 3) := by decide +kernel
theorem dX12_nearer_39 : decode cX12_nearer 39 = .ok (.iload_n 3, 1) := by decide +kernel
theorem dX12_nearer_40 : decode cX12_nearer 40 = .ok (.invokestatic 235, 3) := by decide +kernel
theorem dX12_nearer_43 : decode cX12_nearer 43 = .ok (.iload 4, 2) := by decide +kernel
theorem dX12_nearer_45 : decode cX12_nearer 45 = .ok (.invokestatic 239, 3) := by decide +kernel
theorem dX12_nearer_48 : decode cX12_nearer 48 = .ok (.lreturn, 1) := by decide +kernel
theorem dX12_often_0 : decode cX12_often 0 = .ok (.iload_n 1, 1) := by decide +kernel
theorem dX12_often_1 : decode cX12_often 1 = .ok (.iload_n 2, 1) := by decide +kernel
theorem dX12_often_2 : decode cX12_often 2 = .ok (.invokestatic 226, 3) := by decide +kernel
theorem dX12_often_5 : decode cX12_often 5 = .ok (.ifCond .ne 5, 3) := by decide +kernel
theorem dX12_often_8 : decode cX12_often 8 = .ok (.iconst (-1), 1) := by decide +kernel
theorem dX12_often_9 : decode cX12_often 9 = .ok (.ireturn, 1) := by decide +kernel
theorem dX12_often_10 : decode cX12_often 10 = .ok (.iconst 0, 1) := by decide +kernel
theorem dX12_often_11 : decode cX12_often 11 = .ok (.istore_n 3, 1) := by decide +kernel
theorem dX12_often_12 : decode cX12_often 12 = .ok (.iload_n 3, 1) := by decide +kernel
theorem dX12_often_13 : decode cX12_often 13 = .ok (.bipush 10, 2) := by decide +kernel
theorem dX12_often_15 : decode cX12_often 15 = .ok (.if_icmp .ge 30, 3) := by decide +kernel
theorem dX12_often_18 : decode cX12_often 18 = .ok (.ldc2_w 243, 3) := by decide +kernel
theorem dX12_often_21 : decode cX12_often 21 = .ok (.aload_n 0, 1) := by decide +kernel
theorem dX12_often_22 : decode cX12_often 22 = .ok (.iload_n 1, 1) := by decide +kernel
theorem dX12_often_23 : decode cX12_often 23 = .ok (.iload_n 2, 1) := by decide +kernel
theorem dX12_often_24 : decode cX12_often 24 = .ok (.iload_n 3, 1) := by decide +kernel
theorem dX12_often_25 : decode cX12_often 25 = .ok (.invokevirtual 231, 3) := by decide +kernel
theorem dX12_often_28 : decode cX12_often 28 = .ok (.lmul, 1) := by decide +kernel
theorem dX12_often_29 : decode cX12_often 29 = .ok (.iload_n 3, 1) := by decide +kernel
theorem dX12_often_30 : decode cX12_often 30 = .ok (.invokestatic 235, 3) := by decide +kernel
theorem dX12_often_33 : decode cX12_often 33 = .ok (.lcmp, 1) := by decide +kernel
theorem dX12_often_34 : decode cX12_often 34 = .ok (.ifCond .lt 5, 3) := by decide +kernel
theorem dX12_often_37 : decode cX12_often 37 = .ok (.iload_n 3, 1) := by decide +kernel
theorem dX12_often_38 : decode cX12_often 38 = .ok (.ireturn, 1) := by decide +kernel
theorem dX12_often_39 : decode cX12_often 39 = .ok (.iinc 3 1, 3) := by decide +kernel
theorem dX12_often_42 : decode cX12_often 42 = .ok (.goto (-30), 3) := by decide +kernel
theorem dX12_often_45 : decode cX12_often 45 = .ok (.bipush (-4), 2) := by decide +kernel
theorem dX12_often_47 : decode cX12_often 47 = .ok (.ireturn, 1) := by decide +kernel
theorem dX12_answer_0 : decode cX12_answer 0 = .ok (.iload_n 1, 1) := by decide +kernel
theorem dX12_answer_1 : decode cX12_answer 1 = .ok (.iconst 0, 1) := by decide +kernel
theorem dX12_answer_2 : decode cX12_answer 2 = .ok (.bipush 9, 2) := by decide +kernel
theorem dX12_answer_4 : decode cX12_answer 4 = .ok (.invokestatic 58, 3) := by decide +kernel
theorem dX12_answer_7 : decode cX12_answer 7 = .ok (.ifCond .eq 22, 3) := by decide +kernel
theorem dX12_answer_10 : decode cX12_answer 10 = .ok (.iload_n 2, 1) := by decide +kernel
theorem dX12_answer_11 : decode cX12_answer 11 = .ok (.iconst 0, 1) := by decide +kernel
theorem dX12_answer_12 : decode cX12_answer 12 = .ok (.bipush 9, 2) := by decide +kernel
theorem dX12_answer_14 : decode cX12_answer 14 = .ok (.invokestatic 58, 3) := by decide +kernel
theorem dX12_answer_17 : decode cX12_answer 17 = .ok (.ifCond .eq 12, 3) := by decide +kernel
theorem dX12_answer_20 : decode cX12_answer 20 = .ok (.iload_n 3, 1) := by decide +kernel
theorem dX12_answer_21 : decode cX12_answer 21 = .ok (.iconst 0, 1) := by decide +kernel
theorem dX12_answer_22 : decode cX12_answer 22 = .ok (.iconst 1, 1) := by decide +kernel
theorem dX12_answer_23 : decode cX12_answer 23 = .ok (.invokestatic 58, 3) := by decide +kernel
theorem dX12_answer_26 : decode cX12_answer 26 = .ok (.ifCond .ne 7, 3) := by decide +kernel
theorem dX12_answer_29 : decode cX12_answer 29 = .ok (.ldc2_w 229, 3) := by decide +kernel
theorem dX12_answer_32 : decode cX12_answer 32 = .ok (.lreturn, 1) := by decide +kernel
theorem dX12_answer_33 : decode cX12_answer 33 = .ok (.iload_n 2, 1) := by decide +kernel
theorem dX12_answer_34 : decode cX12_answer 34 = .ok (.ifCond .ne 14, 3) := by decide +kernel
theorem dX12_answer_37 : decode cX12_answer 37 = .ok (.iload_n 1, 1) := by decide +kernel
theorem dX12_answer_38 : decode cX12_answer 38 = .ok (.iconst 2, 1) := by decide +kernel
theorem dX12_answer_39 : decode cX12_answer 39 = .ok (.if_icmp .ne 9, 3) := by decide +kernel
theorem dX12_answer_42 : decode cX12_answer 42 = .ok (.ldc2_w 224, 3) := by decide +kernel
theorem dX12_answer_45 : decode cX12_answer 45 = .ok (.goto 4, 3) := by decide +kernel
theorem dX12_answer_48 : decode cX12_answer 48 = .ok (.lconst 0, 1) := by decide +kernel
theorem dX12_answer_49 : decode cX12_answer 49 = .ok (.lstore 4, 2) := by decide +kernel
theorem dX12_answer_51 : decode cX12_answer 51 = .ok (.iload_n 2, 1) := by decide +kernel
theorem dX12_answer_52 : decode cX12_answer 52 = .ok (.iconst 1, 1) := by decide +kernel
theorem dX12_answer_53 : decode cX12_answer 53 = .ok (.if_icmp .ne 9, 3) := by decide +kernel
theorem dX12_answer_56 : decode cX12_answer 56 = .ok (.ldc2_w 224, 3) := by decide +kernel
theorem dX12_answer_59 : decode cX12_answer 59 = .ok (.goto 14, 3) := by decide +kernel
theorem dX12_answer_62 : decode cX12_answer 62 = .ok (.iload_n 2, 1) := by decide +kernel
theorem dX12_answer_63 : decode cX12_answer 63 = .ok (.ifCond .ne 9, 3) := by decide +kernel
theorem dX12_answer_66 : decode cX12_answer 66 = .ok (.ldc2_w 245, 3) := by decide +kernel
theorem dX12_answer_69 : decode cX12_answer 69 = .ok (.goto 4, 3) := by decide +kernel
theorem dX12_answer_72 : decode cX12_answer 72 = .ok (.lconst 0, 1) := by decide +kernel
theorem dX12_answer_73 : decode cX12_answer 73 = .ok (.lstore 6, 2) := by decide +kernel
theorem dX12_answer_75 : decode cX12_answer 75 = .ok (.lload 6, 2) := by decide +kernel
theorem dX12_answer_77 : decode cX12_answer 77 = .ok (.lload 4, 2) := by decide +kernel
theorem dX12_answer_79 : decode cX12_answer 79 = .ok (.lload 6, 2) := by decide +kernel
theorem dX12_answer_81 : decode cX12_answer 81 = .ok (.ladd, 1) := by decide +kernel
theorem dX12_answer_82 : decode cX12_answer 82 = .ok (.ldc2_w 247, 3) := by decide +kernel
theorem dX12_answer_85 : decode cX12_answer 85 = .ok (.ladd, 1) := by decide +kernel
theorem dX12_answer_86 : decode cX12_answer 86 = .ok (.iload_n 3, 1) := by decide +kernel
theorem dX12_answer_87 : decode cX12_answer 87 = .ok (.invokestatic 239, 3) := by decide +kernel
theorem dX12_answer_90 : decode cX12_answer 90 = .ok (.lreturn, 1) := by decide +kernel
theorem dX12_whereBy_0 : decode cX12_whereBy 0 = .ok (.aload_n 0, 1) := by decide +kernel
theorem dX12_whereBy_1 : decode cX12_whereBy 1 = .ok (.iload 4, 2) := by decide +kernel
theorem dX12_whereBy_3 : decode cX12_whereBy 3 = .ok (.putfield 19, 3) := by decide +kernel
theorem dX12_whereBy_6 : decode cX12_whereBy 6 = .ok (.aload_n 0, 1) := by decide +kernel
theorem dX12_whereBy_7 : decode cX12_whereBy 7 = .ok (.iload_n 1, 1) := by decide +kernel
theorem dX12_whereBy_8 : decode cX12_whereBy 8 = .ok (.iload_n 2, 1) := by decide +kernel
theorem dX12_whereBy_9 : decode cX12_whereBy 9 = .ok (.iload_n 3, 1) := by decide +kernel
theorem dX12_whereBy_10 : decode cX12_whereBy 10 = .ok (.invokevirtual 198, 3) := by decide +kernel
theorem dX12_whereBy_13 : decode cX12_whereBy 13 = .ok (.aload_n 0, 1) := by decide +kernel
theorem dX12_whereBy_14 : decode cX12_whereBy 14 = .ok (.iconst 3, 1) := by decide +kernel
theorem dX12_whereBy_15 : decode cX12_whereBy 15 = .ok (.putfield 19, 3) := by decide +kernel
theorem dX12_whereBy_18 : decode cX12_whereBy 18 = .ok (.aload_n 0, 1) := by decide +kernel
theorem dX12_whereBy_19 : decode cX12_whereBy 19 = .ok (.getfield 195, 3) := by decide +kernel
theorem dX12_whereBy_22 : decode cX12_whereBy 22 = .ok (.ireturn, 1) := by decide +kernel
theorem dX12_telling_0 : decode cX12_telling 0 = .ok (.aload_n 0, 1) := by decide +kernel
theorem dX12_telling_1 : decode cX12_telling 1 = .ok (.iload_n 1, 1) := by decide +kernel
theorem dX12_telling_2 : decode cX12_telling 2 = .ok (.iload_n 2, 1) := by decide +kernel
theorem dX12_telling_3 : decode cX12_telling 3 = .ok (.iload_n 3, 1) := by decide +kernel
theorem dX12_telling_4 : decode cX12_telling 4 = .ok (.invokevirtual 148, 3) := by decide +kernel
theorem dX12_telling_7 : decode cX12_telling 7 = .ok (.ifCond .eq 13, 3) := by decide +kernel
theorem dX12_telling_10 : decode cX12_telling 10 = .ok (.iload 4, 2) := by decide +kernel
theorem dX12_telling_12 : decode cX12_telling 12 = .ok (.iconst 0, 1) := by decide +kernel
theorem dX12_telling_13 : decode cX12_telling 13 = .ok (.iconst 3, 1) := by decide +kernel
theorem dX12_telling_14 : decode cX12_telling 14 = .ok (.invokestatic 58, 3) := by decide +kernel
theorem dX12_telling_17 : decode cX12_telling 17 = .ok (.ifCond .ne 5, 3) := by decide +kernel
theorem dX12_telling_20 : decode cX12_telling 20 = .ok (.iconst (-1), 1) := by decide +kernel
theorem dX12_telling_21 : decode cX12_telling 21 = .ok (.ireturn, 1) := by decide +kernel
theorem dX12_telling_22 : decode cX12_telling 22 = .ok (.iload 4, 2) := by decide +kernel
theorem dX12_telling_24 : decode cX12_telling 24 = .ok (.iconst 3, 1) := by decide +kernel
theorem dX12_telling_25 : decode cX12_telling 25 = .ok (.if_icmp .ge 13, 3) := by decide +kernel
theorem dX12_telling_28 : decode cX12_telling 28 = .ok (.aload_n 0, 1) := by decide +kernel
theorem dX12_telling_29 : decode cX12_telling 29 = .ok (.iload_n 1, 1) := by decide +kernel
theorem dX12_telling_30 : decode cX12_telling 30 = .ok (.iload_n 2, 1) := by decide +kernel
theorem dX12_telling_31 : decode cX12_telling 31 = .ok (.iload_n 3, 1) := by decide +kernel
theorem dX12_telling_32 : decode cX12_telling 32 = .ok (.iload 4, 2) := by decide +kernel
theorem dX12_telling_34 : decode cX12_telling 34 = .ok (.invokevirtual 249, 3) := by decide +kernel
theorem dX12_telling_37 : decode cX12_telling 37 = .ok (.ireturn, 1) := by decide +kernel
theorem dX12_telling_38 : decode cX12_telling 38 = .ok (.bipush (-4), 2) := by decide +kernel
theorem dX12_telling_40 : decode cX12_telling 40 = .ok (.istore 5, 2) := by decide +kernel
theorem dX12_telling_42 : decode cX12_telling 42 = .ok (.iconst 0, 1) := by decide +kernel
theorem dX12_telling_43 : decode cX12_telling 43 = .ok (.istore 6, 2) := by decide +kernel
theorem dX12_telling_45 : decode cX12_telling 45 = .ok (.iconst 0, 1) := by decide +kernel
theorem dX12_telling_46 : decode cX12_telling 46 = .ok (.istore 7, 2) := by decide +kernel
theorem dX12_telling_48 : decode cX12_telling 48 = .ok (.iload 7, 2) := by decide +kernel
theorem dX12_telling_50 : decode cX12_telling 50 = .ok (.iconst 3, 1) := by decide +kernel
theorem dX12_telling_51 : decode cX12_telling 51 = .ok (.if_icmp .ge 36, 3) := by decide +kernel
theorem dX12_telling_54 : decode cX12_telling 54 = .ok (.aload_n 0, 1) := by decide +kernel
theorem dX12_telling_55 : decode cX12_telling 55 = .ok (.iload_n 1, 1) := by decide +kernel
theorem dX12_telling_56 : decode cX12_telling 56 = .ok (.iload_n 2, 1) := by decide +kernel
theorem dX12_telling_57 : decode cX12_telling 57 = .ok (.iload_n 3, 1) := by decide +kernel
theorem dX12_telling_58 : decode cX12_telling 58 = .ok (.iload 7, 2) := by decide +kernel
theorem dX12_telling_60 : decode cX12_telling 60 = .ok (.invokevirtual 249, 3) := by decide +kernel
theorem dX12_telling_63 : decode cX12_telling 63 = .ok (.iload 6, 2) := by decide +kernel
theorem dX12_telling_65 : decode cX12_telling 65 = .ok (.if_icmp .gt 6, 3) := by decide +kernel
theorem dX12_telling_68 : decode cX12_telling 68 = .ok (.goto 13, 3) := by decide +kernel
theorem dX12_telling_71 : decode cX12_telling 71 = .ok (.iload 7, 2) := by decide +kernel
theorem dX12_telling_73 : decode cX12_telling 73 = .ok (.istore 5, 2) := by decide +kernel
theorem dX12_telling_75 : decode cX12_telling 75 = .ok (.aload_n 0, 1) := by decide +kernel
theorem dX12_telling_76 : decode cX12_telling 76 = .ok (.getfield 195, 3) := by decide +kernel
theorem dX12_telling_79 : decode cX12_telling 79 = .ok (.istore 6, 2) := by decide +kernel
theorem dX12_telling_81 : decode cX12_telling 81 = .ok (.iinc 7 1, 3) := by decide +kernel
theorem dX12_telling_84 : decode cX12_telling 84 = .ok (.goto (-36), 3) := by decide +kernel
theorem dX12_telling_87 : decode cX12_telling 87 = .ok (.iload 5, 2) := by decide +kernel
theorem dX12_telling_89 : decode cX12_telling 89 = .ok (.ireturn, 1) := by decide +kernel
theorem dX12_allPairs_0 : decode cX12_allPairs 0 = .ok (.aload_n 0, 1) := by decide +kernel
theorem dX12_allPairs_1 : decode cX12_allPairs 1 = .ok (.iload_n 1, 1) := by decide +kernel
theorem dX12_allPairs_2 : decode cX12_allPairs 2 = .ok (.invokevirtual 104, 3) := by decide +kernel
theorem dX12_allPairs_5 : decode cX12_allPairs 5 = .ok (.iconst 1, 1) := by decide +kernel
theorem dX12_allPairs_6 : decode cX12_allPairs 6 = .ok (.iadd, 1) := by decide +kernel
theorem dX12_allPairs_7 : decode cX12_allPairs 7 = .ok (.bipush 61, 2) := by decide +kernel
theorem dX12_allPairs_9 : decode cX12_allPairs 9 = .ok (.imul, 1) := by decide +kernel
theorem dX12_allPairs_10 : decode cX12_allPairs 10 = .ok (.ireturn, 1) := by decide +kernel
theorem dX12_odds_0 : decode cX12_odds 0 = .ok (.aload_n 0, 1) := by decide +kernel
theorem dX12_odds_1 : decode cX12_odds 1 = .ok (.iload_n 1, 1) := by decide +kernel
theorem dX12_odds_2 : decode cX12_odds 2 = .ok (.iload_n 2, 1) := by decide +kernel
theorem dX12_odds_3 : decode cX12_odds 3 = .ok (.iload_n 3, 1) := by decide +kernel
theorem dX12_odds_4 : decode cX12_odds 4 = .ok (.invokevirtual 148, 3) := by decide +kernel
theorem dX12_odds_7 : decode cX12_odds 7 = .ok (.ifCond .eq 13, 3) := by decide +kernel
theorem dX12_odds_10 : decode cX12_odds 10 = .ok (.iload 4, 2) := by decide +kernel
theorem dX12_odds_12 : decode cX12_odds 12 = .ok (.iconst 0, 1) := by decide +kernel
theorem dX12_odds_13 : decode cX12_odds 13 = .ok (.iconst 1, 1) := by decide +kernel
theorem dX12_odds_14 : decode cX12_odds 14 = .ok (.invokestatic 58, 3) := by decide +kernel
theorem dX12_odds_17 : decode cX12_odds 17 = .ok (.ifCond .ne 7, 3) := by decide +kernel
theorem dX12_odds_20 : decode cX12_odds 20 = .ok (.ldc2_w 229, 3) := by decide +kernel
theorem dX12_odds_23 : decode cX12_odds 23 = .ok (.lreturn, 1) := by decide +kernel
theorem dX12_odds_24 : decode cX12_odds 24 = .ok (.aload_n 0, 1) := by decide +kernel
theorem dX12_odds_25 : decode cX12_odds 25 = .ok (.iload_n 1, 1) := by decide +kernel
theorem dX12_odds_26 : decode cX12_odds 26 = .ok (.iload_n 2, 1) := by decide +kernel
theorem dX12_odds_27 : decode cX12_odds 27 = .ok (.iload_n 3, 1) := by decide +kernel
theorem dX12_odds_28 : decode cX12_odds 28 = .ok (.invokevirtual 198, 3) := by decide +kernel
theorem dX12_odds_31 : decode cX12_odds 31 = .ok (.aload_n 0, 1) := by decide +kernel
theorem dX12_odds_32 : decode cX12_odds 32 = .ok (.getfield 195, 3) := by decide +kernel
theorem dX12_odds_35 : decode cX12_odds 35 = .ok (.i2l, 1) := by decide +kernel
theorem dX12_odds_36 : decode cX12_odds 36 = .ok (.aload_n 0, 1) := by decide +kernel
theorem dX12_odds_37 : decode cX12_odds 37 = .ok (.iload_n 2, 1) := by decide +kernel
theorem dX12_odds_38 : decode cX12_odds 38 = .ok (.invokevirtual 252, 3) := by decide +kernel
theorem dX12_odds_41 : decode cX12_odds 41 = .ok (.i2l, 1) := by decide +kernel
theorem dX12_odds_42 : decode cX12_odds 42 = .ok (.iload 4, 2) := by decide +kernel
theorem dX12_odds_44 : decode cX12_odds 44 = .ok (.invokestatic 239, 3) := by decide +kernel
theorem dX12_odds_47 : decode cX12_odds 47 = .ok (.lreturn, 1) := by decide +kernel
theorem dX12_enough_0 : decode cX12_enough 0 = .ok (.aload_n 0, 1) := by decide +kernel
theorem dX12_enough_1 : decode cX12_enough 1 = .ok (.iload_n 1, 1) := by decide +kernel
theorem dX12_enough_2 : decode cX12_enough 2 = .ok (.iload_n 2, 1) := by decide +kernel
theorem dX12_enough_3 : decode cX12_enough 3 = .ok (.iload_n 3, 1) := by decide +kernel
theorem dX12_enough_4 : decode cX12_enough 4 = .ok (.invokevirtual 148, 3) := by decide +kernel
theorem dX12_enough_7 : decode cX12_enough 7 = .ok (.ifCond .ne 5, 3) := by decide +kernel
theorem dX12_enough_10 : decode cX12_enough 10 = .ok (.iconst (-1), 1) := by decide +kernel
theorem dX12_enough_11 : decode cX12_enough 11 = .ok (.ireturn, 1) := by decide +kernel
theorem dX12_enough_12 : decode cX12_enough 12 = .ok (.aload_n 0, 1) := by decide +kernel
theorem dX12_enough_13 : decode cX12_enough 13 = .ok (.iload_n 1, 1) := by decide +kernel
theorem dX12_enough_14 : decode cX12_enough 14 = .ok (.iload_n 2, 1) := by decide +kernel
theorem dX12_enough_15 : decode cX12_enough 15 = .ok (.iload_n 3, 1) := by decide +kernel
theorem dX12_enough_16 : decode cX12_enough 16 = .ok (.invokevirtual 198, 3) := by decide +kernel
theorem dX12_enough_19 : decode cX12_enough 19 = .ok (.iconst 1, 1) := by decide +kernel
theorem dX12_enough_20 : decode cX12_enough 20 = .ok (.istore 4, 2) := by decide +kernel
theorem dX12_enough_22 : decode cX12_enough 22 = .ok (.iload 4, 2) := by decide +kernel
theorem dX12_enough_24 : decode cX12_enough 24 = .ok (.bipush 50, 2) := by decide +kernel
theorem dX12_enough_26 : decode cX12_enough 26 = .ok (.if_icmp .gt 27, 3) := by decide +kernel
theorem dX12_enough_29 : decode cX12_enough 29 = .ok (.iload 4, 2) := by decide +kernel
theorem dX12_enough_31 : decode cX12_enough 31 = .ok (.aload_n 0, 1) := by decide +kernel
theorem dX12_enough_32 : decode cX12_enough 32 = .ok (.getfield 195, 3) := by decide +kernel
theorem dX12_enough_35 : decode cX12_enough 35 = .ok (.imul, 1) := by decide +kernel
theorem dX12_enough_36 : decode cX12_enough 36 = .ok (.aload_n 0, 1) := by decide +kernel
theorem dX12_enough_37 : decode cX12_enough 37 = .ok (.iload_n 2, 1) := by decide +kernel
theorem dX12_enough_38 : decode cX12_enough 38 = .ok (.invokevirtual 252, 3) := by decide +kernel
theorem dX12_enough_41 : decode cX12_enough 41 = .ok (.if_icmp .lt 6, 3) := by decide +kernel
theorem dX12_enough_44 : decode cX12_enough 44 = .ok (.iload 4, 2) := by decide +kernel
theorem dX12_enough_46 : decode cX12_enough 46 = .ok (.ireturn, 1) := by decide +kernel
theorem dX12_enough_47 : decode cX12_enough 47 = .ok (.iinc 4 1, 3) := by decide +kernel
theorem dX12_enough_50 : decode cX12_enough 50 = .ok (.goto (-28), 3) := by decide +kernel
theorem dX12_enough_53 : decode cX12_enough 53 = .ok (.bipush (-4), 2) := by decide +kernel
theorem dX12_enough_55 : decode cX12_enough 55 = .ok (.ireturn, 1) := by decide +kernel
theorem dX12_forcesFor_0 : decode cX12_forcesFor 0 = .ok (.iconst 0, 1) := by decide +kernel
theorem dX12_forcesFor_1 : decode cX12_forcesFor 1 = .ok (.istore_n 3, 1) := by decide +kernel
theorem dX12_forcesFor_2 : decode cX12_forcesFor 2 = .ok (.aload_n 0, 1) := by decide +kernel
theorem dX12_forcesFor_3 : decode cX12_forcesFor 3 = .ok (.bipush (-4), 2) := by decide +kernel
theorem dX12_forcesFor_5 : decode cX12_forcesFor 5 = .ok (.putfield 192, 3) := by decide +kernel
theorem dX12_forcesFor_8 : decode cX12_forcesFor 8 = .ok (.bipush 60, 2) := by decide +kernel
theorem dX12_forcesFor_10 : decode cX12_forcesFor 10 = .ok (.istore 4, 2) := by decide +kernel
theorem dX12_forcesFor_12 : decode cX12_forcesFor 12 = .ok (.iload 4, 2) := by decide +kernel
theorem dX12_forcesFor_14 : decode cX12_forcesFor 14 = .ok (.ifCond .lt 32, 3) := by decide +kernel
theorem dX12_forcesFor_17 : decode cX12_forcesFor 17 = .ok (.aload_n 0, 1) := by decide +kernel
theorem dX12_forcesFor_18 : decode cX12_forcesFor 18 = .ok (.iload_n 1, 1) := by decide +kernel
theorem dX12_forcesFor_19 : decode cX12_forcesFor 19 = .ok (.iload 4, 2) := by decide +kernel
theorem dX12_forcesFor_21 : decode cX12_forcesFor 21 = .ok (.invokevirtual 154, 3) := by decide +kernel
theorem dX12_forcesFor_24 : decode cX12_forcesFor 24 = .ok (.iload_n 2, 1) := by decide +kernel
theorem dX12_forcesFor_25 : decode cX12_forcesFor 25 = .ok (.if_icmp .eq 6, 3) := by decide +kernel
theorem dX12_forcesFor_28 : decode cX12_forcesFor 28 = .ok (.goto 12, 3) := by decide +kernel
theorem dX12_forcesFor_31 : decode cX12_forcesFor 31 = .ok (.iinc 3 1, 3) := by decide +kernel
theorem dX12_forcesFor_34 : decode cX12_forcesFor 34 = .ok (.aload_n 0, 1) := by decide +kernel
theorem dX12_forcesFor_35 : decode cX12_forcesFor 35 = .ok (.iload 4, 2) := by decide +kernel
theorem dX12_forcesFor_37 : decode cX12_forcesFor 37 = .ok (.putfield 192, 3) := by decide +kernel
theorem dX12_forcesFor_40 : decode cX12_forcesFor 40 = .ok (.iinc 4 (-1), 3) := by decide +kernel
theorem dX12_forcesFor_43 : decode cX12_forcesFor 43 = .ok (.goto (-31), 3) := by decide +kernel
theorem dX12_forcesFor_46 : decode cX12_forcesFor 46 = .ok (.iload_n 3, 1) := by decide +kernel
theorem dX12_forcesFor_47 : decode cX12_forcesFor 47 = .ok (.ireturn, 1) := by decide +kernel
theorem dX12_heap_0 : decode cX12_heap 0 = .ok (.aload_n 0, 1) := by decide +kernel
theorem dX12_heap_1 : decode cX12_heap 1 = .ok (.iload_n 1, 1) := by decide +kernel
theorem dX12_heap_2 : decode cX12_heap 2 = .ok (.invokevirtual 69, 3) := by decide +kernel
theorem dX12_heap_5 : decode cX12_heap 5 = .ok (.ifCond .eq 12, 3) := by decide +kernel
theorem dX12_heap_8 : decode cX12_heap 8 = .ok (.iload_n 3, 1) := by decide +kernel
theorem dX12_heap_9 : decode cX12_heap 9 = .ok (.iconst 0, 1) := by decide +kernel
theorem dX12_heap_10 : decode cX12_heap 10 = .ok (.iconst 1, 1) := by decide +kernel
theorem dX12_heap_11 : decode cX12_heap 11 = .ok (.invokestatic 58, 3) := by decide +kernel
theorem dX12_heap_14 : decode cX12_heap 14 = .ok (.ifCond .ne 5, 3) := by decide +kernel
theorem dX12_heap_17 : decode cX12_heap 17 = .ok (.iconst (-1), 1) := by decide +kernel
theorem dX12_heap_18 : decode cX12_heap 18 = .ok (.ireturn, 1) := by decide +kernel
theorem dX12_heap_19 : decode cX12_heap 19 = .ok (.aload_n 0, 1) := by decide +kernel
theorem dX12_heap_20 : decode cX12_heap 20 = .ok (.iload_n 2, 1) := by decide +kernel
theorem dX12_heap_21 : decode cX12_heap 21 = .ok (.iconst (-1), 1) := by decide +kernel
theorem dX12_heap_22 : decode cX12_heap 22 = .ok (.invokevirtual 157, 3) := by decide +kernel
theorem dX12_heap_25 : decode cX12_heap 25 = .ok (.istore 4, 2) := by decide +kernel
theorem dX12_heap_27 : decode cX12_heap 27 = .ok (.iload 4, 2) := by decide +kernel
theorem dX12_heap_29 : decode cX12_heap 29 = .ok (.ifCond .eq 6, 3) := by decide +kernel
theorem dX12_heap_32 : decode cX12_heap 32 = .ok (.iload 4, 2) := by decide +kernel
theorem dX12_heap_34 : decode cX12_heap 34 = .ok (.ireturn, 1) := by decide +kernel
theorem dX12_heap_35 : decode cX12_heap 35 = .ok (.iconst 0, 1) := by decide +kernel
theorem dX12_heap_36 : decode cX12_heap 36 = .ok (.istore 5, 2) := by decide +kernel
theorem dX12_heap_38 : decode cX12_heap 38 = .ok (.bipush (-4), 2) := by decide +kernel
theorem dX12_heap_40 : decode cX12_heap 40 = .ok (.istore 6, 2) := by decide +kernel
theorem dX12_heap_42 : decode cX12_heap 42 = .ok (.aload_n 0, 1) := by decide +kernel
theorem dX12_heap_43 : decode cX12_heap 43 = .ok (.getfield 45, 3) := by decide +kernel
theorem dX12_heap_46 : decode cX12_heap 46 = .ok (.iload_n 2, 1) := by decide +kernel
theorem dX12_heap_47 : decode cX12_heap 47 = .ok (.iaload, 1) := by decide +kernel
theorem dX12_heap_48 : decode cX12_heap 48 = .ok (.iconst 1, 1) := by decide +kernel
theorem dX12_heap_49 : decode cX12_heap 49 = .ok (.isub, 1) := by decide +kernel
theorem dX12_heap_50 : decode cX12_heap 50 = .ok (.istore 7, 2) := by decide +kernel
theorem dX12_heap_52 : decode cX12_heap 52 = .ok (.iload 7, 2) := by decide +kernel
theorem dX12_heap_54 : decode cX12_heap 54 = .ok (.ifCond .lt 58, 3) := by decide +kernel
theorem dX12_heap_57 : decode cX12_heap 57 = .ok (.aload_n 0, 1) := by decide +kernel
theorem dX12_heap_58 : decode cX12_heap 58 = .ok (.iload_n 1, 1) := by decide +kernel
theorem dX12_heap_59 : decode cX12_heap 59 = .ok (.aload_n 0, 1) := by decide +kernel
theorem dX12_heap_60 : decode cX12_heap 60 = .ok (.getfield 48, 3) := by decide +kernel
theorem dX12_heap_63 : decode cX12_heap 63 = .ok (.bipush 100, 2) := by decide +kernel
theorem dX12_heap_65 : decode cX12_heap 65 = .ok (.iload_n 2, 1) := by decide +kernel
theorem dX12_heap_66 : decode cX12_heap 66 = .ok (.imul, 1) := by decide +kernel
theorem dX12_heap_67 : decode cX12_heap 67 = .ok (.iload 7, 2) := by decide +kernel
theorem dX12_heap_69 : decode cX12_heap 69 = .ok (.iadd, 1) := by decide +kernel
theorem dX12_heap_70 : decode cX12_heap 70 = .ok (.iaload, 1) := by decide +kernel
theorem dX12_heap_71 : decode cX12_heap 71 = .ok (.invokevirtual 255, 3) := by decide +kernel
theorem dX12_heap_74 : decode cX12_heap 74 = .ok (.istore 8, 2) := by decide +kernel
theorem dX12_heap_76 : decode cX12_heap 76 = .ok (.iload 8, 2) := by decide +kernel
theorem dX12_heap_78 : decode cX12_heap 78 = .ok (.ifCond .ne 6, 3) := by decide +kernel
theorem dX12_heap_81 : decode cX12_heap 81 = .ok (.bipush (-4), 2) := by decide +kernel
theorem dX12_heap_83 : decode cX12_heap 83 = .ok (.ireturn, 1) := by decide +kernel
theorem dX12_heap_84 : decode cX12_heap 84 = .ok (.iload 5, 2) := by decide +kernel
theorem dX12_heap_86 : decode cX12_heap 86 = .ok (.iload 8, 2) := by decide +kernel
theorem dX12_heap_88 : decode cX12_heap 88 = .ok (.iconst 1, 1) := by decide +kernel
theorem dX12_heap_89 : decode cX12_heap 89 = .ok (.if_icmp .ne 7, 3) := by decide +kernel
theorem dX12_heap_92 : decode cX12_heap 92 = .ok (.iconst 1, 1) := by decide +kernel
theorem dX12_heap_93 : decode cX12_heap 93 = .ok (.goto 4, 3) := by decide +kernel
theorem dX12_heap_96 : decode cX12_heap 96 = .ok (.iconst 0, 1) := by decide +kernel
theorem dX12_heap_97 : decode cX12_heap 97 = .ok (.iadd, 1) := by decide +kernel
theorem dX12_heap_98 : decode cX12_heap 98 = .ok (.istore 5, 2) := by decide +kernel
theorem dX12_heap_100 : decode cX12_heap 100 = .ok (.aload_n 0, 1) := by decide +kernel
theorem dX12_heap_101 : decode cX12_heap 101 = .ok (.getfield 192, 3) := by decide +kernel
theorem dX12_heap_104 : decode cX12_heap 104 = .ok (.istore 6, 2) := by decide +kernel
theorem dX12_heap_106 : decode cX12_heap 106 = .ok (.iinc 7 (-1), 3) := by decide +kernel
theorem dX12_heap_109 : decode cX12_heap 109 = .ok (.goto (-57), 3) := by decide +kernel
theorem dX12_heap_112 : decode cX12_heap 112 = .ok (.iload_n 3, 1) := by decide +kernel
theorem dX12_heap_113 : decode cX12_heap 113 = .ok (.ifCond .ne 8, 3) := by decide +kernel
theorem dX12_heap_116 : decode cX12_heap 116 = .ok (.iload 5, 2) := by decide +kernel
theorem dX12_heap_118 : decode cX12_heap 118 = .ok (.goto 5, 3) := by decide +kernel
theorem dX12_heap_121 : decode cX12_heap 121 = .ok (.iload 6, 2) := by decide +kernel
theorem dX12_heap_123 : decode cX12_heap 123 = .ok (.ireturn, 1) := by decide +kernel
theorem dX12_forged_0 : decode cX12_forged 0 = .ok (.aload_n 0, 1) := by decide +kernel
theorem dX12_forged_1 : decode cX12_forged 1 = .ok (.iload_n 1, 1) := by decide +kernel
theorem dX12_forged_2 : decode cX12_forged 2 = .ok (.invokevirtual 69, 3) := by decide +kernel
theorem dX12_forged_5 : decode cX12_forged 5 = .ok (.ifCond .ne 5, 3) := by decide +kernel
theorem dX12_forged_8 : decode cX12_forged 8 = .ok (.iconst (-1), 1) := by decide +kernel
theorem dX12_forged_9 : decode cX12_forged 9 = .ok (.ireturn, 1) := by decide +kernel
theorem dX12_forged_10 : decode cX12_forged 10 = .ok (.aload_n 0, 1) := by decide +kernel
theorem dX12_forged_11 : decode cX12_forged 11 = .ok (.iload_n 2, 1) := by decide +kernel
theorem dX12_forged_12 : decode cX12_forged 12 = .ok (.iconst (-1), 1) := by decide +kernel
theorem dX12_forged_13 : decode cX12_forged 13 = .ok (.invokevirtual 157, 3) := by decide +kernel
theorem dX12_forged_16 : decode cX12_forged 16 = .ok (.istore_n 3, 1) := by decide +kernel
theorem dX12_forged_17 : decode cX12_forged 17 = .ok (.iload_n 3, 1) := by decide +kernel
theorem dX12_forged_18 : decode cX12_forged 18 = .ok (.ifCond .eq 5, 3) := by decide +kernel
theorem dX12_forged_21 : decode cX12_forged 21 = .ok (.iload_n 3, 1) := by decide +kernel
theorem dX12_forged_22 : decode cX12_forged 22 = .ok (.ireturn, 1) := by decide +kernel
theorem dX12_forged_23 : decode cX12_forged 23 = .ok (.iconst 0, 1) := by decide +kernel
theorem dX12_forged_24 : decode cX12_forged 24 = .ok (.istore 4, 2) := by decide +kernel
theorem dX12_forged_26 : decode cX12_forged 26 = .ok (.iload 4, 2) := by decide +kernel
theorem dX12_forged_28 : decode cX12_forged 28 = .ok (.aload_n 0, 1) := by decide +kernel
theorem dX12_forged_29 : decode cX12_forged 29 = .ok (.getfield 45, 3) := by decide +kernel
theorem dX12_forged_32 : decode cX12_forged 32 = .ok (.iload_n 2, 1) := by decide +kernel
theorem dX12_forged_33 : decode cX12_forged 33 = .ok (.iaload, 1) := by decide +kernel
theorem dX12_forged_34 : decode cX12_forged 34 = .ok (.if_icmp .ge 32, 3) := by decide +kernel
theorem dX12_forged_37 : decode cX12_forged 37 = .ok (.aload_n 0, 1) := by decide +kernel
theorem dX12_forged_38 : decode cX12_forged 38 = .ok (.iload_n 1, 1) := by decide +kernel
theorem dX12_forged_39 : decode cX12_forged 39 = .ok (.aload_n 0, 1) := by decide +kernel
theorem dX12_forged_40 : decode cX12_forged 40 = .ok (.getfield 48, 3) := by decide +kernel
theorem dX12_forged_43 : decode cX12_forged 43 = .ok (.bipush 100, 2) := by decide +kernel
theorem dX12_forged_45 : decode cX12_forged 45 = .ok (.iload_n 2, 1) := by decide +kernel
theorem dX12_forged_46 : decode cX12_forged 46 = .ok (.imul, 1) := by decide +kernel
theorem dX12_forged_47 : decode cX12_forged 47 = .ok (.iload 4, 2) := by decide +kernel
theorem dX12_forged_49 : decode cX12_forged 49 = .ok (.iadd, 1) := by decide +kernel
theorem dX12_forged_50 : decode cX12_forged 50 = .ok (.iaload, 1) := by decide +kernel
theorem dX12_forged_51 : decode cX12_forged 51 = .ok (.invokevirtual 255, 3) := by decide +kernel
theorem dX12_forged_54 : decode cX12_forged 54 = .ok (.ifCond .ne 6, 3) := by decide +kernel
theorem dX12_forged_57 : decode cX12_forged 57 = .ok (.iload 4, 2) := by decide +kernel
theorem dX12_forged_59 : decode cX12_forged 59 = .ok (.ireturn, 1) := by decide +kernel
theorem dX12_forged_60 : decode cX12_forged 60 = .ok (.iinc 4 1, 3) := by decide +kernel
theorem dX12_forged_63 : decode cX12_forged 63 = .ok (.goto (-37), 3) := by decide +kernel
theorem dX12_forged_66 : decode cX12_forged 66 = .ok (.bipush (-4), 2) := by decide +kernel
theorem dX12_forged_68 : decode cX12_forged 68 = .ok (.ireturn, 1) := by decide +kernel
theorem dX12_remainder_0 : decode cX12_remainder 0 = .ok (.aload_n 0, 1) := by decide +kernel
theorem dX12_remainder_1 : decode cX12_remainder 1 = .ok (.iload_n 1, 1) := by decide +kernel
theorem dX12_remainder_2 : decode cX12_remainder 2 = .ok (.iconst (-1), 1) := by decide +kernel
theorem dX12_remainder_3 : decode cX12_remainder 3 = .ok (.invokevirtual 157, 3) := by decide +kernel
theorem dX12_remainder_6 : decode cX12_remainder 6 = .ok (.istore 4, 2) := by decide +kernel
theorem dX12_remainder_8 : decode cX12_remainder 8 = .ok (.iload 4, 2) := by decide +kernel
theorem dX12_remainder_10 : decode cX12_remainder 10 = .ok (.ifCond .ne 39, 3) := by decide +kernel
theorem dX12_remainder_13 : decode cX12_remainder 13 = .ok (.iload_n 2, 1) := by decide +kernel
theorem dX12_remainder_14 : decode cX12_remainder 14 = .ok (.iconst 0, 1) := by decide +kernel
theorem dX12_remainder_15 : decode cX12_remainder 15 = .ok (.aload_n 0, 1) := by decide +kernel
theorem dX12_remainder_16 : decode cX12_remainder 16 = .ok (.getfield 45, 3) := by decide +kernel
theorem dX12_remainder_19 : decode cX12_remainder 19 = .ok (.iload_n 1, 1) := by decide +kernel
theorem dX12_remainder_20 : decode cX12_remainder 20 = .ok (.iaload, 1) := by decide +kernel
theorem dX12_remainder_21 : decode cX12_remainder 21 = .ok (.iconst 1, 1) := by decide +kernel
theorem dX12_remainder_22 : decode cX12_remainder 22 = .ok (.isub, 1) := by decide +kernel
theorem dX12_remainder_23 : decode cX12_remainder 23 = .ok (.invokestatic 58, 3) := by decide +kernel
theorem dX12_remainder_26 : decode cX12_remainder 26 = .ok (.ifCond .eq 19, 3) := by decide +kernel
theorem dX12_remainder_29 : decode cX12_remainder 29 = .ok (.iload_n 3, 1) := by decide +kernel
theorem dX12_remainder_30 : decode cX12_remainder 30 = .ok (.iconst 0, 1) := by decide +kernel
theorem dX12_remainder_31 : decode cX12_remainder 31 = .ok (.aload_n 0, 1) := by decide +kernel
theorem dX12_remainder_32 : decode cX12_remainder 32 = .ok (.getfield 45, 3) := by decide +kernel
theorem dX12_remainder_35 : decode cX12_remainder 35 = .ok (.iload_n 1, 1) := by decide +kernel
theorem dX12_remainder_36 : decode cX12_remainder 36 = .ok (.iaload, 1) := by decide +kernel
theorem dX12_remainder_37 : decode cX12_remainder 37 = .ok (.iconst 1, 1) := by decide +kernel
theorem dX12_remainder_38 : decode cX12_remainder 38 = .ok (.isub, 1) := by decide +kernel
theorem dX12_remainder_39 : decode cX12_remainder 39 = .ok (.invokestatic 58, 3) := by decide +kernel
theorem dX12_remainder_42 : decode cX12_remainder 42 = .ok (.ifCond .ne 7, 3) := by decide +kernel
theorem dX12_remainder_45 : decode cX12_remainder 45 = .ok (.bipush (-13), 2) := by decide +kernel
theorem dX12_remainder_47 : decode cX12_remainder 47 = .ok (.istore 4, 2) := by decide +kernel
theorem dX12_remainder_49 : decode cX12_remainder 49 = .ok (.iload 4, 2) := by decide +kernel
theorem dX12_remainder_51 : decode cX12_remainder 51 = .ok (.ifCond .ne 21, 3) := by decide +kernel
theorem dX12_remainder_54 : decode cX12_remainder 54 = .ok (.aload_n 0, 1) := by decide +kernel
theorem dX12_remainder_55 : decode cX12_remainder 55 = .ok (.getfield 48, 3) := by decide +kernel
theorem dX12_remainder_58 : decode cX12_remainder 58 = .ok (.bipush 100, 2) := by decide +kernel
theorem dX12_remainder_60 : decode cX12_remainder 60 = .ok (.iload_n 1, 1) := by decide +kernel
theorem dX12_remainder_61 : decode cX12_remainder 61 = .ok (.imul, 1) := by decide +kernel
theorem dX12_remainder_62 : decode cX12_remainder 62 = .ok (.iload_n 3, 1) := by decide +kernel
theorem dX12_remainder_63 : decode cX12_remainder 63 = .ok (.iadd, 1) := by decide +kernel
theorem dX12_remainder_64 : decode cX12_remainder 64 = .ok (.iaload, 1) := by decide +kernel
theorem dX12_remainder_65 : decode cX12_remainder 65 = .ok (.ifCond .ne 7, 3) := by decide +kernel
theorem dX12_remainder_68 : decode cX12_remainder 68 = .ok (.bipush (-16), 2) := by decide +kernel
theorem dX12_remainder_70 : decode cX12_remainder 70 = .ok (.istore 4, 2) := by decide +kernel
theorem dX12_remainder_72 : decode cX12_remainder 72 = .ok (.iload 4, 2) := by decide +kernel
theorem dX12_remainder_74 : decode cX12_remainder 74 = .ok (.ifCond .eq 11, 3) := by decide +kernel
theorem dX12_remainder_77 : decode cX12_remainder 77 = .ok (.ldc 204, 2) := by decide +kernel
theorem dX12_remainder_79 : decode cX12_remainder 79 = .ok (.iload 4, 2) := by decide +kernel
theorem dX12_remainder_81 : decode cX12_remainder 81 = .ok (.isub, 1) := by decide +kernel
theorem dX12_remainder_82 : decode cX12_remainder 82 = .ok (.goto 26, 3) := by decide +kernel
theorem dX12_remainder_85 : decode cX12_remainder 85 = .ok (.aload_n 0, 1) := by decide +kernel
theorem dX12_remainder_86 : decode cX12_remainder 86 = .ok (.getfield 48, 3) := by decide +kernel
theorem dX12_remainder_89 : decode cX12_remainder 89 = .ok (.bipush 100, 2) := by decide +kernel
theorem dX12_remainder_91 : decode cX12_remainder 91 = .ok (.iload_n 1, 1) := by decide +kernel
theorem dX12_remainder_92 : decode cX12_remainder 92 = .ok (.imul, 1) := by decide +kernel
theorem dX12_remainder_93 : decode cX12_remainder 93 = .ok (.iload_n 2, 1) := by decide +kernel
theorem dX12_remainder_94 : decode cX12_remainder 94 = .ok (.iadd, 1) := by decide +kernel
theorem dX12_remainder_95 : decode cX12_remainder 95 = .ok (.iaload, 1) := by decide +kernel
theorem dX12_remainder_96 : decode cX12_remainder 96 = .ok (.aload_n 0, 1) := by decide +kernel
theorem dX12_remainder_97 : decode cX12_remainder 97 = .ok (.getfield 48, 3) := by decide +kernel
theorem dX12_remainder_100 : decode cX12_remainder 100 = .ok (.bipush 100, 2) := by decide +kernel
theorem dX12_remainder_102 : decode cX12_remainder 102 = .ok (.iload_n 1, 1) := by decide +kernel
theorem dX12_remainder_103 : decode cX12_remainder 103 = .ok (.imul, 1) := by decide +kernel
theorem dX12_remainder_104 : decode cX12_remainder 104 = .ok (.iload_n 3, 1) := by decide +kernel
theorem dX12_remainder_105 : decode cX12_remainder 105 = .ok (.iadd, 1) := by decide +kernel
theorem dX12_remainder_106 : decode cX12_remainder 106 = .ok (.iaload, 1) := by decide +kernel
theorem dX12_remainder_107 : decode cX12_remainder 107 = .ok (.irem, 1) := by decide +kernel
theorem dX12_remainder_108 : decode cX12_remainder 108 = .ok (.ireturn, 1) := by decide +kernel
theorem dX12_leastOf_0 : decode cX12_leastOf 0 = .ok (.iload_n 0, 1) := by decide +kernel
theorem dX12_leastOf_1 : decode cX12_leastOf 1 = .ok (.ifCond .ne 8, 3) := by decide +kernel
theorem dX12_leastOf_4 : decode cX12_leastOf 4 = .ok (.bipush (-128), 2) := by decide +kernel
theorem dX12_leastOf_6 : decode cX12_leastOf 6 = .ok (.goto 17, 3) := by decide +kernel
theorem dX12_leastOf_9 : decode cX12_leastOf 9 = .ok (.iload_n 0, 1) := by decide +kernel
theorem dX12_leastOf_10 : decode cX12_leastOf 10 = .ok (.iconst 1, 1) := by decide +kernel
theorem dX12_leastOf_11 : decode cX12_leastOf 11 = .ok (.if_icmp .ne 9, 3) := by decide +kernel
theorem dX12_leastOf_14 : decode cX12_leastOf 14 = .ok (.sipush (-32768), 3) := by decide +kernel
theorem dX12_leastOf_17 : decode cX12_leastOf 17 = .ok (.goto 6, 3) := by decide +kernel
theorem dX12_leastOf_20 : decode cX12_leastOf 20 = .ok (.ldc_w 258, 3) := by decide +kernel
theorem dX12_leastOf_23 : decode cX12_leastOf 23 = .ok (.ireturn, 1) := by decide +kernel
theorem dX12_judge_0 : decode cX12_judge 0 = .ok (.iload_n 1, 1) := by decide +kernel
theorem dX12_judge_1 : decode cX12_judge 1 = .ok (.bipush 100, 2) := by decide +kernel
theorem dX12_judge_3 : decode cX12_judge 3 = .ok (.idiv, 1) := by decide +kernel
theorem dX12_judge_4 : decode cX12_judge 4 = .ok (.istore 5, 2) := by decide +kernel
theorem dX12_judge_6 : decode cX12_judge 6 = .ok (.iload_n 1, 1) := by decide +kernel
theorem dX12_judge_7 : decode cX12_judge 7 = .ok (.bipush 10, 2) := by decide +kernel
theorem dX12_judge_9 : decode cX12_judge 9 = .ok (.idiv, 1) := by decide +kernel
theorem dX12_judge_10 : decode cX12_judge 10 = .ok (.bipush 10, 2) := by decide +kernel
theorem dX12_judge_12 : decode cX12_judge 12 = .ok (.irem, 1) := by decide +kernel
theorem dX12_judge_13 : decode cX12_judge 13 = .ok (.istore 6, 2) := by decide +kernel
theorem dX12_judge_15 : decode cX12_judge 15 = .ok (.iload_n 1, 1) := by decide +kernel
theorem dX12_judge_16 : decode cX12_judge 16 = .ok (.bipush 10, 2) := by decide +kernel
theorem dX12_judge_18 : decode cX12_judge 18 = .ok (.irem, 1) := by decide +kernel
theorem dX12_judge_19 : decode cX12_judge 19 = .ok (.istore 7, 2) := by decide +kernel
theorem dX12_judge_21 : decode cX12_judge 21 = .ok (.iload_n 1, 1) := by decide +kernel
theorem dX12_judge_22 : decode cX12_judge 22 = .ok (.ifCond .lt 38, 3) := by decide +kernel
theorem dX12_judge_25 : decode cX12_judge 25 = .ok (.aload_n 0, 1) := by decide +kernel
theorem dX12_judge_26 : decode cX12_judge 26 = .ok (.iload 5, 2) := by decide +kernel
theorem dX12_judge_28 : decode cX12_judge 28 = .ok (.iload 6, 2) := by decide +kernel
theorem dX12_judge_30 : decode cX12_judge 30 = .ok (.iload 7, 2) := by decide +kernel
theorem dX12_judge_32 : decode cX12_judge 32 = .ok (.invokevirtual 148, 3) := by decide +kernel
theorem dX12_judge_35 : decode cX12_judge 35 = .ok (.ifCond .eq 25, 3) := by decide +kernel
theorem dX12_judge_38 : decode cX12_judge 38 = .ok (.iload_n 2, 1) := by decide +kernel
theorem dX12_judge_39 : decode cX12_judge 39 = .ok (.invokestatic 174, 3) := by decide +kernel
theorem dX12_judge_42 : decode cX12_judge 42 = .ok (.ifCond .eq 18, 3) := by decide +kernel
theorem dX12_judge_45 : decode cX12_judge 45 = .ok (.iload_n 3, 1) := by decide +kernel
theorem dX12_judge_46 : decode cX12_judge 46 = .ok (.invokestatic 259, 3) := by decide +kernel
theorem dX12_judge_49 : decode cX12_judge 49 = .ok (.ifCond .eq 11, 3) := by decide +kernel
theorem dX12_judge_52 : decode cX12_judge 52 = .ok (.iload 4, 2) := by decide +kernel
theorem dX12_judge_54 : decode cX12_judge 54 = .ok (.invokestatic 259, 3) := by decide +kernel
theorem dX12_judge_57 : decode cX12_judge 57 = .ok (.ifCond .ne 5, 3) := by decide +kernel
theorem dX12_judge_60 : decode cX12_judge 60 = .ok (.iconst (-1), 1) := by decide +kernel
theorem dX12_judge_61 : decode cX12_judge 61 = .ok (.ireturn, 1) := by decide +kernel
theorem dX12_judge_62 : decode cX12_judge 62 = .ok (.aload_n 0, 1) := by decide +kernel
theorem dX12_judge_63 : decode cX12_judge 63 = .ok (.getfield 33, 3) := by decide +kernel
theorem dX12_judge_66 : decode cX12_judge 66 = .ok (.iload_n 3, 1) := by decide +kernel
theorem dX12_judge_67 : decode cX12_judge 67 = .ok (.iaload, 1) := by decide +kernel
theorem dX12_judge_68 : decode cX12_judge 68 = .ok (.ifCond .eq 13, 3) := by decide +kernel
theorem dX12_judge_71 : decode cX12_judge 71 = .ok (.aload_n 0, 1) := by decide +kernel
theorem dX12_judge_72 : decode cX12_judge 72 = .ok (.getfield 33, 3) := by decide +kernel
theorem dX12_judge_75 : decode cX12_judge 75 = .ok (.iload 4, 2) := by decide +kernel
theorem dX12_judge_77 : decode cX12_judge 77 = .ok (.iaload, 1) := by decide +kernel
theorem dX12_judge_78 : decode cX12_judge 78 = .ok (.ifCond .ne 6, 3) := by decide +kernel
theorem dX12_judge_81 : decode cX12_judge 81 = .ok (.bipush (-11), 2) := by decide +kernel
theorem dX12_judge_83 : decode cX12_judge 83 = .ok (.ireturn, 1) := by decide +kernel
theorem dX12_judge_84 : decode cX12_judge 84 = .ok (.aload_n 0, 1) := by decide +kernel
theorem dX12_judge_85 : decode cX12_judge 85 = .ok (.getfield 33, 3) := by decide +kernel
theorem dX12_judge_88 : decode cX12_judge 88 = .ok (.iload_n 3, 1) := by decide +kernel
theorem dX12_judge_89 : decode cX12_judge 89 = .ok (.iaload, 1) := by decide +kernel
theorem dX12_judge_90 : decode cX12_judge 90 = .ok (.iconst 2, 1) := by decide +kernel
theorem dX12_judge_91 : decode cX12_judge 91 = .ok (.if_icmp .ne 14, 3) := by decide +kernel
theorem dX12_judge_94 : decode cX12_judge 94 = .ok (.aload_n 0, 1) := by decide +kernel
theorem dX12_judge_95 : decode cX12_judge 95 = .ok (.getfield 33, 3) := by decide +kernel
theorem dX12_judge_98 : decode cX12_judge 98 = .ok (.iload 4, 2) := by decide +kernel
theorem dX12_judge_100 : decode cX12_judge 100 = .ok (.iaload, 1) := by decide +kernel
theorem dX12_judge_101 : decode cX12_judge 101 = .ok (.iconst 2, 1) := by decide +kernel
theorem dX12_judge_102 : decode cX12_judge 102 = .ok (.if_icmp .eq 6, 3) := by decide +kernel
theorem dX12_judge_105 : decode cX12_judge 105 = .ok (.bipush (-12), 2) := by decide +kernel
theorem dX12_judge_107 : decode cX12_judge 107 = .ok (.ireturn, 1) := by decide +kernel
theorem dX12_judge_108 : decode cX12_judge 108 = .ok (.iconst 0, 1) := by decide +kernel
theorem dX12_judge_109 : decode cX12_judge 109 = .ok (.istore 8, 2) := by decide +kernel
theorem dX12_judge_111 : decode cX12_judge 111 = .ok (.iload 8, 2) := by decide +kernel
theorem dX12_judge_113 : decode cX12_judge 113 = .ok (.aload_n 0, 1) := by decide +kernel
theorem dX12_judge_114 : decode cX12_judge 114 = .ok (.getfield 45, 3) := by decide +kernel
theorem dX12_judge_117 : decode cX12_judge 117 = .ok (.iload 4, 2) := by decide +kernel
theorem dX12_judge_119 : decode cX12_judge 119 = .ok (.iaload, 1) := by decide +kernel
theorem dX12_judge_120 : decode cX12_judge 120 = .ok (.if_icmp .ge 31, 3) := by decide +kernel
theorem dX12_judge_123 : decode cX12_judge 123 = .ok (.aload_n 0, 1) := by decide +kernel
theorem dX12_judge_124 : decode cX12_judge 124 = .ok (.getfield 48, 3) := by decide +kernel
theorem dX12_judge_127 : decode cX12_judge 127 = .ok (.bipush 100, 2) := by decide +kernel
theorem dX12_judge_129 : decode cX12_judge 129 = .ok (.iload 4, 2) := by decide +kernel
theorem dX12_judge_131 : decode cX12_judge 131 = .ok (.imul, 1) := by decide +kernel
theorem dX12_judge_132 : decode cX12_judge 132 = .ok (.iload 8, 2) := by decide +kernel
theorem dX12_judge_134 : decode cX12_judge 134 = .ok (.iadd, 1) := by decide +kernel
theorem dX12_judge_135 : decode cX12_judge 135 = .ok (.iaload, 1) := by decide +kernel
theorem dX12_judge_136 : decode cX12_judge 136 = .ok (.invokestatic 174, 3) := by decide +kernel
theorem dX12_judge_139 : decode cX12_judge 139 = .ok (.ifCond .ne 6, 3) := by decide +kernel
theorem dX12_judge_142 : decode cX12_judge 142 = .ok (.bipush (-13), 2) := by decide +kernel
theorem dX12_judge_144 : decode cX12_judge 144 = .ok (.ireturn, 1) := by decide +kernel
theorem dX12_judge_145 : decode cX12_judge 145 = .ok (.iinc 8 1, 3) := by decide +kernel
theorem dX12_judge_148 : decode cX12_judge 148 = .ok (.goto (-37), 3) := by decide +kernel
theorem dX12_judge_151 : decode cX12_judge 151 = .ok (.aload_n 0, 1) := by decide +kernel
theorem dX12_judge_152 : decode cX12_judge 152 = .ok (.iload 5, 2) := by decide +kernel
theorem dX12_judge_154 : decode cX12_judge 154 = .ok (.iconst 3, 1) := by decide +kernel
theorem dX12_judge_155 : decode cX12_judge 155 = .ok (.invokevirtual 72, 3) := by decide +kernel
theorem dX12_judge_158 : decode cX12_judge 158 = .ok (.istore 8, 2) := by decide +kernel
theorem dX12_judge_160 : decode cX12_judge 160 = .ok (.iconst 0, 1) := by decide +kernel
theorem dX12_judge_161 : decode cX12_judge 161 = .ok (.istore 9, 2) := by decide +kernel
theorem dX12_judge_163 : decode cX12_judge 163 = .ok (.iload 9, 2) := by decide +kernel
theorem dX12_judge_165 : decode cX12_judge 165 = .ok (.aload_n 0, 1) := by decide +kernel
theorem dX12_judge_166 : decode cX12_judge 166 = .ok (.getfield 45, 3) := by decide +kernel
theorem dX12_judge_169 : decode cX12_judge 169 = .ok (.iload_n 3, 1) := by decide +kernel
theorem dX12_judge_170 : decode cX12_judge 170 = .ok (.iaload, 1) := by decide +kernel
theorem dX12_judge_171 : decode cX12_judge 171 = .ok (.if_icmp .ge 203, 3) := by decide +kernel
theorem dX12_judge_174 : decode cX12_judge 174 = .ok (.iload 9, 2) := by decide +kernel
theorem dX12_judge_176 : decode cX12_judge 176 = .ok (.aload_n 0, 1) := by decide +kernel
theorem dX12_judge_177 : decode cX12_judge 177 = .ok (.getfield 45, 3) := by decide +kernel
theorem dX12_judge_180 : decode cX12_judge 180 = .ok (.iload 4, 2) := by decide +kernel
theorem dX12_judge_182 : decode cX12_judge 182 = .ok (.iaload, 1) := by decide +kernel
theorem dX12_judge_183 : decode cX12_judge 183 = .ok (.if_icmp .lt 30, 3) := by decide +kernel
theorem dX12_judge_186 : decode cX12_judge 186 = .ok (.aload_n 0, 1) := by decide +kernel
theorem dX12_judge_187 : decode cX12_judge 187 = .ok (.getfield 48, 3) := by decide +kernel
theorem dX12_judge_190 : decode cX12_judge 190 = .ok (.bipush 100, 2) := by decide +kernel
theorem dX12_judge_192 : decode cX12_judge 192 = .ok (.iload_n 3, 1) := by decide +kernel
theorem dX12_judge_193 : decode cX12_judge 193 = .ok (.imul, 1) := by decide +kernel
theorem dX12_judge_194 : decode cX12_judge 194 = .ok (.iload 9, 2) := by decide +kernel
theorem dX12_judge_196 : decode cX12_judge 196 = .ok (.iadd, 1) := by decide +kernel
theorem dX12_judge_197 : decode cX12_judge 197 = .ok (.iaload, 1) := by decide +kernel
theorem dX12_judge_198 : decode cX12_judge 198 = .ok (.aload_n 0, 1) := by decide +kernel
theorem dX12_judge_199 : decode cX12_judge 199 = .ok (.getfield 42, 3) := by decide +kernel
theorem dX12_judge_202 : decode cX12_judge 202 = .ok (.iload_n 3, 1) := by decide +kernel
theorem dX12_judge_203 : decode cX12_judge 203 = .ok (.iaload, 1) := by decide +kernel
theorem dX12_judge_204 : decode cX12_judge 204 = .ok (.invokestatic 262, 3) := by decide +kernel
theorem dX12_judge_207 : decode cX12_judge 207 = .ok (.if_icmp .ne 6, 3) := by decide +kernel
theorem dX12_judge_210 : decode cX12_judge 210 = .ok (.goto 158, 3) := by decide +kernel
theorem dX12_judge_213 : decode cX12_judge 213 = .ok (.iload 9, 2) := by decide +kernel
theorem dX12_judge_215 : decode cX12_judge 215 = .ok (.aload_n 0, 1) := by decide +kernel
theorem dX12_judge_216 : decode cX12_judge 216 = .ok (.getfield 45, 3) := by decide +kernel
theorem dX12_judge_219 : decode cX12_judge 219 = .ok (.iload 4, 2) := by decide +kernel
theorem dX12_judge_221 : decode cX12_judge 221 = .ok (.iaload, 1) := by decide +kernel
theorem dX12_judge_222 : decode cX12_judge 222 = .ok (.if_icmp .lt 6, 3) := by decide +kernel
theorem dX12_judge_225 : decode cX12_judge 225 = .ok (.iload 9, 2) := by decide +kernel
theorem dX12_judge_227 : decode cX12_judge 227 = .ok (.ireturn, 1) := by decide +kernel
theorem dX12_judge_228 : decode cX12_judge 228 = .ok (.aload_n 0, 1) := by decide +kernel
theorem dX12_judge_229 : decode cX12_judge 229 = .ok (.getfield 48, 3) := by decide +kernel
theorem dX12_judge_232 : decode cX12_judge 232 = .ok (.bipush 100, 2) := by decide +kernel
theorem dX12_judge_234 : decode cX12_judge 234 = .ok (.iload 4, 2) := by decide +kernel
theorem dX12_judge_236 : decode cX12_judge 236 = .ok (.imul, 1) := by decide +kernel
theorem dX12_judge_237 : decode cX12_judge 237 = .ok (.iload 9, 2) := by decide +kernel
theorem dX12_judge_239 : decode cX12_judge 239 = .ok (.iadd, 1) := by decide +kernel
theorem dX12_judge_240 : decode cX12_judge 240 = .ok (.iaload, 1) := by decide +kernel
theorem dX12_judge_241 : decode cX12_judge 241 = .ok (.istore 10, 2) := by decide +kernel
theorem dX12_judge_243 : decode cX12_judge 243 = .ok (.iload 8, 2) := by decide +kernel
theorem dX12_judge_245 : decode cX12_judge 245 = .ok (.aload_n 0, 1) := by decide +kernel
theorem dX12_judge_246 : decode cX12_judge 246 = .ok (.iload 5, 2) := by decide +kernel
theorem dX12_judge_248 : decode cX12_judge 248 = .ok (.iconst 1, 1) := by decide +kernel
theorem dX12_judge_249 : decode cX12_judge 249 = .ok (.invokevirtual 72, 3) := by decide +kernel
theorem dX12_judge_252 : decode cX12_judge 252 = .ok (.aload_n 0, 1) := by decide +kernel
theorem dX12_judge_253 : decode cX12_judge 253 = .ok (.iload 5, 2) := by decide +kernel
theorem dX12_judge_255 : decode cX12_judge 255 = .ok (.iconst 2, 1) := by decide +kernel
theorem dX12_judge_256 : decode cX12_judge 256 = .ok (.invokevirtual 72, 3) := by decide +kernel
theorem dX12_judge_259 : decode cX12_judge 259 = .ok (.iadd, 1) := by decide +kernel
theorem dX12_judge_260 : decode cX12_judge 260 = .ok (.if_icmp .le 7, 3) := by decide +kernel
theorem dX12_judge_263 : decode cX12_judge 263 = .ok (.iconst 1, 1) := by decide +kernel
theorem dX12_judge_264 : decode cX12_judge 264 = .ok (.goto 4, 3) := by decide +kernel
theorem dX12_judge_267 : decode cX12_judge 267 = .ok (.iconst 0, 1) := by decide +kernel
theorem dX12_judge_268 : decode cX12_judge 268 = .ok (.istore 11, 2) := by decide +kernel
theorem dX12_judge_270 : decode cX12_judge 270 = .ok (.iload 11, 2) := by decide +kernel
theorem dX12_judge_272 : decode cX12_judge 272 = .ok (.ifCond .eq 7, 3) := by decide +kernel
theorem dX12_judge_275 : decode cX12_judge 275 = .ok (.iconst 2, 1) := by decide +kernel
theorem dX12_judge_276 : decode cX12_judge 276 = .ok (.goto 24, 3) := by decide +kernel
theorem dX12_judge_279 : decode cX12_judge 279 = .ok (.aload_n 0, 1) := by decide +kernel
theorem dX12_judge_280 : decode cX12_judge 280 = .ok (.iload 5, 2) := by decide +kernel
theorem dX12_judge_282 : decode cX12_judge 282 = .ok (.iload 6, 2) := by decide +kernel
theorem dX12_judge_284 : decode cX12_judge 284 = .ok (.iload 7, 2) := by decide +kernel
theorem dX12_judge_286 : decode cX12_judge 286 = .ok (.iload_n 2, 1) := by decide +kernel
theorem dX12_judge_287 : decode cX12_judge 287 = .ok (.iload 10, 2) := by decide +kernel
theorem dX12_judge_289 : decode cX12_judge 289 = .ok (.invokevirtual 181, 3) := by decide +kernel
theorem dX12_judge_292 : decode cX12_judge 292 = .ok (.ifCond .eq 7, 3) := by decide +kernel
theorem dX12_judge_295 : decode cX12_judge 295 = .ok (.iconst 1, 1) := by decide +kernel
theorem dX12_judge_296 : decode cX12_judge 296 = .ok (.goto 4, 3) := by decide +kernel
theorem dX12_judge_299 : decode cX12_judge 299 = .ok (.iconst 0, 1) := by decide +kernel
theorem dX12_judge_300 : decode cX12_judge 300 = .ok (.istore 12, 2) := by decide +kernel
theorem dX12_judge_302 : decode cX12_judge 302 = .ok (.iload 8, 2) := by decide +kernel
theorem dX12_judge_304 : decode cX12_judge 304 = .ok (.iload 11, 2) := by decide +kernel
theorem dX12_judge_306 : decode cX12_judge 306 = .ok (.ifCond .eq 7, 3) := by decide +kernel
theorem dX12_judge_309 : decode cX12_judge 309 = .ok (.iconst 0, 1) := by decide +kernel
theorem dX12_judge_310 : decode cX12_judge 310 = .ok (.goto 11, 3) := by decide +kernel
theorem dX12_judge_313 : decode cX12_judge 313 = .ok (.aload_n 0, 1) := by decide +kernel
theorem dX12_judge_314 : decode cX12_judge 314 = .ok (.iload 7, 2) := by decide +kernel
theorem dX12_judge_316 : decode cX12_judge 316 = .ok (.iload 10, 2) := by decide +kernel
theorem dX12_judge_318 : decode cX12_judge 318 = .ok (.invokevirtual 154, 3) := by decide +kernel
theorem dX12_judge_321 : decode cX12_judge 321 = .ok (.iadd, 1) := by decide +kernel
theorem dX12_judge_322 : decode cX12_judge 322 = .ok (.istore 8, 2) := by decide +kernel
theorem dX12_judge_324 : decode cX12_judge 324 = .ok (.aload_n 0, 1) := by decide +kernel
theorem dX12_judge_325 : decode cX12_judge 325 = .ok (.getfield 48, 3) := by decide +kernel
theorem dX12_judge_328 : decode cX12_judge 328 = .ok (.bipush 100, 2) := by decide +kernel
theorem dX12_judge_330 : decode cX12_judge 330 = .ok (.iload_n 3, 1) := by decide +kernel
theorem dX12_judge_331 : decode cX12_judge 331 = .ok (.imul, 1) := by decide +kernel
theorem dX12_judge_332 : decode cX12_judge 332 = .ok (.iload 9, 2) := by decide +kernel
theorem dX12_judge_334 : decode cX12_judge 334 = .ok (.iadd, 1) := by decide +kernel
theorem dX12_judge_335 : decode cX12_judge 335 = .ok (.iaload, 1) := by decide +kernel
theorem dX12_judge_336 : decode cX12_judge 336 = .ok (.aload_n 0, 1) := by decide +kernel
theorem dX12_judge_337 : decode cX12_judge 337 = .ok (.getfield 42, 3) := by decide +kernel
theorem dX12_judge_340 : decode cX12_judge 340 = .ok (.iload_n 3, 1) := by decide +kernel
theorem dX12_judge_341 : decode cX12_judge 341 = .ok (.iaload, 1) := by decide +kernel
theorem dX12_judge_342 : decode cX12_judge 342 = .ok (.invokestatic 262, 3) := by decide +kernel
theorem dX12_judge_345 : decode cX12_judge 345 = .ok (.if_icmp .eq 23, 3) := by decide +kernel
theorem dX12_judge_348 : decode cX12_judge 348 = .ok (.aload_n 0, 1) := by decide +kernel
theorem dX12_judge_349 : decode cX12_judge 349 = .ok (.getfield 48, 3) := by decide +kernel
theorem dX12_judge_352 : decode cX12_judge 352 = .ok (.bipush 100, 2) := by decide +kernel
theorem dX12_judge_354 : decode cX12_judge 354 = .ok (.iload_n 3, 1) := by decide +kernel
theorem dX12_judge_355 : decode cX12_judge 355 = .ok (.imul, 1) := by decide +kernel
theorem dX12_judge_356 : decode cX12_judge 356 = .ok (.iload 9, 2) := by decide +kernel
theorem dX12_judge_358 : decode cX12_judge 358 = .ok (.iadd, 1) := by decide +kernel
theorem dX12_judge_359 : decode cX12_judge 359 = .ok (.iaload, 1) := by decide +kernel
theorem dX12_judge_360 : decode cX12_judge 360 = .ok (.iload 12, 2) := by decide +kernel
theorem dX12_judge_362 : decode cX12_judge 362 = .ok (.if_icmp .eq 6, 3) := by decide +kernel
theorem dX12_judge_365 : decode cX12_judge 365 = .ok (.iload 9, 2) := by decide +kernel
theorem dX12_judge_367 : decode cX12_judge 367 = .ok (.ireturn, 1) := by decide +kernel
theorem dX12_judge_368 : decode cX12_judge 368 = .ok (.iinc 9 1, 3) := by decide +kernel
theorem dX12_judge_371 : decode cX12_judge 371 = .ok (.goto (-208), 3) := by decide +kernel
theorem dX12_judge_374 : decode cX12_judge 374 = .ok (.bipush (-4), 2) := by decide +kernel
theorem dX12_judge_376 : decode cX12_judge 376 = .ok (.ireturn, 1) := by decide +kernel
theorem dX12_drawn_0 : decode cX12_drawn 0 = .ok (.aload_n 0, 1) := by decide +kernel
theorem dX12_drawn_1 : decode cX12_drawn 1 = .ok (.aload_n 0, 1) := by decide +kernel
theorem dX12_drawn_2 : decode cX12_drawn 2 = .ok (.getfield 265, 3) := by decide +kernel
theorem dX12_drawn_5 : decode cX12_drawn 5 = .ok (.ldc_w 268, 3) := by decide +kernel
theorem dX12_drawn_8 : decode cX12_drawn 8 = .ok (.imul, 1) := by decide +kernel
theorem dX12_drawn_9 : decode cX12_drawn 9 = .ok (.sipush 12345, 3) := by decide +kernel
theorem dX12_drawn_12 : decode cX12_drawn 12 = .ok (.iadd, 1) := by decide +kernel
theorem dX12_drawn_13 : decode cX12_drawn 13 = .ok (.putfield 265, 3) := by decide +kernel
theorem dX12_drawn_16 : decode cX12_drawn 16 = .ok (.aload_n 0, 1) := by decide +kernel
theorem dX12_drawn_17 : decode cX12_drawn 17 = .ok (.getfield 265, 3) := by decide +kernel
theorem dX12_drawn_20 : decode cX12_drawn 20 = .ok (.ldc_w 269, 3) := by decide +kernel
theorem dX12_drawn_23 : decode cX12_drawn 23 = .ok (.iand, 1) := by decide +kernel
theorem dX12_drawn_24 : decode cX12_drawn 24 = .ok (.ldc_w 270, 3) := by decide +kernel
theorem dX12_drawn_27 : decode cX12_drawn 27 = .ok (.idiv, 1) := by decide +kernel
theorem dX12_drawn_28 : decode cX12_drawn 28 = .ok (.iload_n 1, 1) := by decide +kernel
theorem dX12_drawn_29 : decode cX12_drawn 29 = .ok (.irem, 1) := by decide +kernel
theorem dX12_drawn_30 : decode cX12_drawn 30 = .ok (.ireturn, 1) := by decide +kernel
theorem dX12_walks_0 : decode cX12_walks 0 = .ok (.iload_n 1, 1) := by decide +kernel
theorem dX12_walks_1 : decode cX12_walks 1 = .ok (.iconst 1, 1) := by decide +kernel
theorem dX12_walks_2 : decode cX12_walks 2 = .ok (.bipush 20, 2) := by decide +kernel
theorem dX12_walks_4 : decode cX12_walks 4 = .ok (.invokestatic 58, 3) := by decide +kernel
theorem dX12_walks_7 : decode cX12_walks 7 = .ok (.ifCond .eq 12, 3) := by decide +kernel
theorem dX12_walks_10 : decode cX12_walks 10 = .ok (.iload_n 3, 1) := by decide +kernel
theorem dX12_walks_11 : decode cX12_walks 11 = .ok (.iconst 0, 1) := by decide +kernel
theorem dX12_walks_12 : decode cX12_walks 12 = .ok (.iconst 1, 1) := by decide +kernel
theorem dX12_walks_13 : decode cX12_walks 13 = .ok (.invokestatic 58, 3) := by decide +kernel
theorem dX12_walks_16 : decode cX12_walks 16 = .ok (.ifCond .ne 5, 3) := by decide +kernel
theorem dX12_walks_19 : decode cX12_walks 19 = .ok (.iconst (-1), 1) := by decide +kernel
theorem dX12_walks_20 : decode cX12_walks 20 = .ok (.ireturn, 1) := by decide +kernel
theorem dX12_walks_21 : decode cX12_walks 21 = .ok (.aload_n 0, 1) := by decide +kernel
theorem dX12_walks_22 : decode cX12_walks 22 = .ok (.getfield 9, 3) := by decide +kernel
theorem dX12_walks_25 : decode cX12_walks 25 = .ok (.iconst 0, 1) := by decide +kernel
theorem dX12_walks_26 : decode cX12_walks 26 = .ok (.iaload, 1) := by decide +kernel
theorem dX12_walks_27 : decode cX12_walks 27 = .ok (.ifCond .eq 21, 3) := by decide +kernel
theorem dX12_walks_30 : decode cX12_walks 30 = .ok (.aload_n 0, 1) := by decide +kernel
theorem dX12_walks_31 : decode cX12_walks 31 = .ok (.getfield 9, 3) := by decide +kernel
theorem dX12_walks_34 : decode cX12_walks 34 = .ok (.iconst 1, 1) := by decide +kernel
theorem dX12_walks_35 : decode cX12_walks 35 = .ok (.iaload, 1) := by decide +kernel
theorem dX12_walks_36 : decode cX12_walks 36 = .ok (.ifCond .eq 12, 3) := by decide +kernel
theorem dX12_walks_39 : decode cX12_walks 39 = .ok (.aload_n 0, 1) := by decide +kernel
theorem dX12_walks_40 : decode cX12_walks 40 = .ok (.getfield 9, 3) := by decide +kernel
theorem dX12_walks_43 : decode cX12_walks 43 = .ok (.iconst 2, 1) := by decide +kernel
theorem dX12_walks_44 : decode cX12_walks 44 = .ok (.iaload, 1) := by decide +kernel
theorem dX12_walks_45 : decode cX12_walks 45 = .ok (.ifCond .ne 6, 3) := by decide +kernel
theorem dX12_walks_48 : decode cX12_walks 48 = .ok (.bipush (-3), 2) := by decide +kernel
theorem dX12_walks_50 : decode cX12_walks 50 = .ok (.ireturn, 1) := by decide +kernel
theorem dX12_walks_51 : decode cX12_walks 51 = .ok (.aload_n 0, 1) := by decide +kernel
theorem dX12_walks_52 : decode cX12_walks 52 = .ok (.iload_n 2, 1) := by decide +kernel
theorem dX12_walks_53 : decode cX12_walks 53 = .ok (.putfield 265, 3) := by decide +kernel
theorem dX12_walks_56 : decode cX12_walks 56 = .ok (.aload_n 0, 1) := by decide +kernel
theorem dX12_walks_57 : decode cX12_walks 57 = .ok (.getfield 9, 3) := by decide +kernel
theorem dX12_walks_60 : decode cX12_walks 60 = .ok (.aload_n 0, 1) := by decide +kernel
theorem dX12_walks_61 : decode cX12_walks 61 = .ok (.getfield 16, 3) := by decide +kernel
theorem dX12_walks_64 : decode cX12_walks 64 = .ok (.invokestatic 164, 3) := by decide +kernel
theorem dX12_walks_67 : decode cX12_walks 67 = .ok (.iconst 0, 1) := by decide +kernel
theorem dX12_walks_68 : decode cX12_walks 68 = .ok (.istore 4, 2) := by decide +kernel
theorem dX12_walks_70 : decode cX12_walks 70 = .ok (.iconst 0, 1) := by decide +kernel
theorem dX12_walks_71 : decode cX12_walks 71 = .ok (.istore 5, 2) := by decide +kernel
theorem dX12_walks_73 : decode cX12_walks 73 = .ok (.iconst 0, 1) := by decide +kernel
theorem dX12_walks_74 : decode cX12_walks 74 = .ok (.istore 6, 2) := by decide +kernel
theorem dX12_walks_76 : decode cX12_walks 76 = .ok (.iload 6, 2) := by decide +kernel
theorem dX12_walks_78 : decode cX12_walks 78 = .ok (.iload_n 1, 1) := by decide +kernel
theorem dX12_walks_79 : decode cX12_walks 79 = .ok (.if_icmp .ge 162, 3) := by decide +kernel
theorem dX12_walks_82 : decode cX12_walks 82 = .ok (.aload_n 0, 1) := by decide +kernel
theorem dX12_walks_83 : decode cX12_walks 83 = .ok (.getfield 16, 3) := by decide +kernel
theorem dX12_walks_86 : decode cX12_walks 86 = .ok (.aload_n 0, 1) := by decide +kernel
theorem dX12_walks_87 : decode cX12_walks 87 = .ok (.getfield 9, 3) := by decide +kernel
theorem dX12_walks_90 : decode cX12_walks 90 = .ok (.invokestatic 164, 3) := by decide +kernel
theorem dX12_walks_93 : decode cX12_walks 93 = .ok (.iconst 0, 1) := by decide +kernel
theorem dX12_walks_94 : decode cX12_walks 94 = .ok (.istore 7, 2) := by decide +kernel
theorem dX12_walks_96 : decode cX12_walks 96 = .ok (.iload 7, 2) := by decide +kernel
theorem dX12_walks_98 : decode cX12_walks 98 = .ok (.bipush 10, 2) := by decide +kernel
theorem dX12_walks_100 : decode cX12_walks 100 = .ok (.if_icmp .ge 96, 3) := by decide +kernel
theorem dX12_walks_103 : decode cX12_walks 103 = .ok (.aload_n 0, 1) := by decide +kernel
theorem dX12_walks_104 : decode cX12_walks 104 = .ok (.aload_n 0, 1) := by decide +kernel
theorem dX12_walks_105 : decode cX12_walks 105 = .ok (.getfield 9, 3) := by decide +kernel
theorem dX12_walks_108 : decode cX12_walks 108 = .ok (.iconst 0, 1) := by decide +kernel
theorem dX12_walks_109 : decode cX12_walks 109 = .ok (.iaload, 1) := by decide +kernel
theorem dX12_walks_110 : decode cX12_walks 110 = .ok (.invokevirtual 271, 3) := by decide +kernel
theorem dX12_walks_113 : decode cX12_walks 113 = .ok (.istore 8, 2) := by decide +kernel
theorem dX12_walks_115 : decode cX12_walks 115 = .ok (.aload_n 0, 1) := by decide +kernel
theorem dX12_walks_116 : decode cX12_walks 116 = .ok (.aload_n 0, 1) := by decide +kernel
theorem dX12_walks_117 : decode cX12_walks 117 = .ok (.getfield 9, 3) := by decide +kernel
theorem dX12_walks_120 : decode cX12_walks 120 = .ok (.iconst 1, 1) := by decide +kernel
theorem dX12_walks_121 : decode cX12_walks 121 = .ok (.iaload, 1) := by decide +kernel
theorem dX12_walks_122 : decode cX12_walks 122 = .ok (.invokevirtual 271, 3) := by decide +kernel
theorem dX12_walks_125 : decode cX12_walks 125 = .ok (.istore 9, 2) := by decide +kernel
theorem dX12_walks_127 : decode cX12_walks 127 = .ok (.aload_n 0, 1) := by decide +kernel
theorem dX12_walks_128 : decode cX12_walks 128 = .ok (.aload_n 0, 1) := by decide +kernel
theorem dX12_walks_129 : decode cX12_walks 129 = .ok (.getfield 9, 3) := by decide +kernel
theorem dX12_walks_132 : decode cX12_walks 132 = .ok (.iconst 2, 1) := by decide +kernel
theorem dX12_walks_133 : decode cX12_walks 133 = .ok (.iaload, 1) := by decide +kernel
theorem dX12_walks_134 : decode cX12_walks 134 = .ok (.invokevirtual 271, 3) := by decide +kernel
theorem dX12_walks_137 : decode cX12_walks 137 = .ok (.istore 10, 2) := by decide +kernel
theorem dX12_walks_139 : decode cX12_walks 139 = .ok (.aload_n 0, 1) := by decide +kernel
theorem dX12_walks_140 : decode cX12_walks 140 = .ok (.bipush 61, 2) := by decide +kernel
theorem dX12_walks_142 : decode cX12_walks 142 = .ok (.invokevirtual 271, 3) := by decide +kernel
theorem dX12_walks_145 : decode cX12_walks 145 = .ok (.istore 11, 2) := by decide +kernel
theorem dX12_walks_147 : decode cX12_walks 147 = .ok (.aload_n 0, 1) := by decide +kernel
theorem dX12_walks_148 : decode cX12_walks 148 = .ok (.iload 8, 2) := by decide +kernel
theorem dX12_walks_150 : decode cX12_walks 150 = .ok (.iload 9, 2) := by decide +kernel
theorem dX12_walks_152 : decode cX12_walks 152 = .ok (.iload 10, 2) := by decide +kernel
theorem dX12_walks_154 : decode cX12_walks 154 = .ok (.iload 11, 2) := by decide +kernel
theorem dX12_walks_156 : decode cX12_walks 156 = .ok (.aload_n 0, 1) := by decide +kernel
theorem dX12_walks_157 : decode cX12_walks 157 = .ok (.bipush 61, 2) := by decide +kernel
theorem dX12_walks_159 : decode cX12_walks 159 = .ok (.invokevirtual 271, 3) := by decide +kernel
theorem dX12_walks_162 : decode cX12_walks 162 = .ok (.invokevirtual 274, 3) := by decide +kernel
theorem dX12_walks_165 : decode cX12_walks 165 = .ok (.istore 12, 2) := by decide +kernel
theorem dX12_walks_167 : decode cX12_walks 167 = .ok (.iload 4, 2) := by decide +kernel
theorem dX12_walks_169 : decode cX12_walks 169 = .ok (.iload 12, 2) := by decide +kernel
theorem dX12_walks_171 : decode cX12_walks 171 = .ok (.ifCond .le 15, 3) := by decide +kernel
theorem dX12_walks_174 : decode cX12_walks 174 = .ok (.iload 12, 2) := by decide +kernel
theorem dX12_walks_176 : decode cX12_walks 176 = .ok (.iconst 2, 1) := by decide +kernel
theorem dX12_walks_177 : decode cX12_walks 177 = .ok (.irem, 1) := by decide +kernel
theorem dX12_walks_178 : decode cX12_walks 178 = .ok (.iconst 1, 1) := by decide +kernel
theorem dX12_walks_179 : decode cX12_walks 179 = .ok (.if_icmp .ne 7, 3) := by decide +kernel
theorem dX12_walks_182 : decode cX12_walks 182 = .ok (.iconst 1, 1) := by decide +kernel
theorem dX12_walks_183 : decode cX12_walks 183 = .ok (.goto 4, 3) := by decide +kernel
theorem dX12_walks_186 : decode cX12_walks 186 = .ok (.iconst 0, 1) := by decide +kernel
theorem dX12_walks_187 : decode cX12_walks 187 = .ok (.iadd, 1) := by decide +kernel
theorem dX12_walks_188 : decode cX12_walks 188 = .ok (.istore 4, 2) := by decide +kernel
theorem dX12_walks_190 : decode cX12_walks 190 = .ok (.iinc 7 1, 3) := by decide +kernel
theorem dX12_walks_193 : decode cX12_walks 193 = .ok (.goto (-97), 3) := by decide +kernel
theorem dX12_walks_196 : decode cX12_walks 196 = .ok (.iconst 0, 1) := by decide +kernel
theorem dX12_walks_197 : decode cX12_walks 197 = .ok (.istore 7, 2) := by decide +kernel
theorem dX12_walks_199 : decode cX12_walks 199 = .ok (.iload 7, 2) := by decide +kernel
theorem dX12_walks_201 : decode cX12_walks 201 = .ok (.aload_n 0, 1) := by decide +kernel
theorem dX12_walks_202 : decode cX12_walks 202 = .ok (.getfield 9, 3) := by decide +kernel
theorem dX12_walks_205 : decode cX12_walks 205 = .ok (.iconst 0, 1) := by decide +kernel
theorem dX12_walks_206 : decode cX12_walks 206 = .ok (.iaload, 1) := by decide +kernel
theorem dX12_walks_207 : decode cX12_walks 207 = .ok (.if_icmp .ge 28, 3) := by decide +kernel
theorem dX12_walks_210 : decode cX12_walks 210 = .ok (.iload 5, 2) := by decide +kernel
theorem dX12_walks_212 : decode cX12_walks 212 = .ok (.aload_n 0, 1) := by decide +kernel
theorem dX12_walks_213 : decode cX12_walks 213 = .ok (.iload 7, 2) := by decide +kernel
theorem dX12_walks_215 : decode cX12_walks 215 = .ok (.invokevirtual 151, 3) := by decide +kernel
theorem dX12_walks_218 : decode cX12_walks 218 = .ok (.ifCond .eq 7, 3) := by decide +kernel
theorem dX12_walks_221 : decode cX12_walks 221 = .ok (.iconst 1, 1) := by decide +kernel
theorem dX12_walks_222 : decode cX12_walks 222 = .ok (.goto 4, 3) := by decide +kernel
theorem dX12_walks_225 : decode cX12_walks 225 = .ok (.iconst 0, 1) := by decide +kernel
theorem dX12_walks_226 : decode cX12_walks 226 = .ok (.iadd, 1) := by decide +kernel
theorem dX12_walks_227 : decode cX12_walks 227 = .ok (.istore 5, 2) := by decide +kernel
theorem dX12_walks_229 : decode cX12_walks 229 = .ok (.iinc 7 1, 3) := by decide +kernel
theorem dX12_walks_232 : decode cX12_walks 232 = .ok (.goto (-33), 3) := by decide +kernel
theorem dX12_walks_235 : decode cX12_walks 235 = .ok (.iinc 6 1, 3) := by decide +kernel
theorem dX12_walks_238 : decode cX12_walks 238 = .ok (.goto (-162), 3) := by decide +kernel
theorem dX12_walks_241 : decode cX12_walks 241 = .ok (.aload_n 0, 1) := by decide +kernel
theorem dX12_walks_242 : decode cX12_walks 242 = .ok (.getfield 16, 3) := by decide +kernel
theorem dX12_walks_245 : decode cX12_walks 245 = .ok (.aload_n 0, 1) := by decide +kernel
theorem dX12_walks_246 : decode cX12_walks 246 = .ok (.getfield 9, 3) := by decide +kernel
theorem dX12_walks_249 : decode cX12_walks 249 = .ok (.invokestatic 164, 3) := by decide +kernel
theorem dX12_walks_252 : decode cX12_walks 252 = .ok (.iload_n 3, 1) := by decide +kernel
theorem dX12_walks_253 : decode cX12_walks 253 = .ok (.ifCond .ne 8, 3) := by decide +kernel
theorem dX12_walks_256 : decode cX12_walks 256 = .ok (.iload 4, 2) := by decide +kernel
theorem dX12_walks_258 : decode cX12_walks 258 = .ok (.goto 5, 3) := by decide +kernel
theorem dX12_walks_261 : decode cX12_walks 261 = .ok (.iload 5, 2) := by decide +kernel
theorem dX12_walks_263 : decode cX12_walks 263 = .ok (.ireturn, 1) := by decide +kernel
theorem dX12_image_0 : decode cX12_image 0 = .ok (.aload_n 0, 1) := by decide +kernel
theorem dX12_image_1 : decode cX12_image 1 = .ok (.getfield 9, 3) := by decide +kernel
theorem dX12_image_4 : decode cX12_image 4 = .ok (.aload_n 0, 1) := by decide +kernel
theorem dX12_image_5 : decode cX12_image 5 = .ok (.getfield 13, 3) := by decide +kernel
theorem dX12_image_8 : decode cX12_image 8 = .ok (.invokestatic 164, 3) := by decide +kernel
theorem dX12_image_11 : decode cX12_image 11 = .ok (.aload_n 0, 1) := by decide +kernel
theorem dX12_image_12 : decode cX12_image 12 = .ok (.iconst 1, 1) := by decide +kernel
theorem dX12_image_13 : decode cX12_image 13 = .ok (.putfield 278, 3) := by decide +kernel
theorem dX12_image_16 : decode cX12_image 16 = .ok (.aload_n 0, 1) := by decide +kernel
theorem dX12_image_17 : decode cX12_image 17 = .ok (.getfield 9, 3) := by decide +kernel
theorem dX12_image_20 : decode cX12_image 20 = .ok (.iconst 0, 1) := by decide +kernel
theorem dX12_image_21 : decode cX12_image 21 = .ok (.iaload, 1) := by decide +kernel
theorem dX12_image_22 : decode cX12_image 22 = .ok (.ireturn, 1) := by decide +kernel
theorem dX12_restore_0 : decode cX12_restore 0 = .ok (.aload_n 0, 1) := by decide +kernel
theorem dX12_restore_1 : decode cX12_restore 1 = .ok (.getfield 278, 3) := by decide +kernel
theorem dX12_restore_4 : decode cX12_restore 4 = .ok (.ifCond .ne 6, 3) := by decide +kernel
theorem dX12_restore_7 : decode cX12_restore 7 = .ok (.bipush (-3), 2) := by decide +kernel
theorem dX12_restore_9 : decode cX12_restore 9 = .ok (.ireturn, 1) := by decide +kernel
theorem dX12_restore_10 : decode cX12_restore 10 = .ok (.aload_n 0, 1) := by decide +kernel
theorem dX12_restore_11 : decode cX12_restore 11 = .ok (.getfield 13, 3) := by decide +kernel
theorem dX12_restore_14 : decode cX12_restore 14 = .ok (.aload_n 0, 1) := by decide +kernel
theorem dX12_restore_15 : decode cX12_restore 15 = .ok (.getfield 9, 3) := by decide +kernel
theorem dX12_restore_18 : decode cX12_restore 18 = .ok (.invokestatic 164, 3) := by decide +kernel
theorem dX12_restore_21 : decode cX12_restore 21 = .ok (.aload_n 0, 1) := by decide +kernel
theorem dX12_restore_22 : decode cX12_restore 22 = .ok (.getfield 9, 3) := by decide +kernel
theorem dX12_restore_25 : decode cX12_restore 25 = .ok (.iconst 0, 1) := by decide +kernel
theorem dX12_restore_26 : decode cX12_restore 26 = .ok (.iaload, 1) := by decide +kernel
theorem dX12_restore_27 : decode cX12_restore 27 = .ok (.ireturn, 1) := by decide +kernel
theorem dX12_count_0 : decode cX12_count 0 = .ok (.iload_n 1, 1) := by decide +kernel
theorem dX12_count_1 : decode cX12_count 1 = .ok (.iconst 0, 1) := by decide +kernel
theorem dX12_count_2 : decode cX12_count 2 = .ok (.iconst 2, 1) := by decide +kernel
theorem dX12_count_3 : decode cX12_count 3 = .ok (.invokestatic 58, 3) := by decide +kernel
theorem dX12_count_6 : decode cX12_count 6 = .ok (.ifCond .eq 10, 3) := by decide +kernel
theorem dX12_count_9 : decode cX12_count 9 = .ok (.aload_n 0, 1) := by decide +kernel
theorem dX12_count_10 : decode cX12_count 10 = .ok (.getfield 9, 3) := by decide +kernel
theorem dX12_count_13 : decode cX12_count 13 = .ok (.iload_n 1, 1) := by decide +kernel
theorem dX12_count_14 : decode cX12_count 14 = .ok (.iaload, 1) := by decide +kernel
theorem dX12_count_15 : decode cX12_count 15 = .ok (.ireturn, 1) := by decide +kernel
theorem dX12_count_16 : decode cX12_count 16 = .ok (.iconst 0, 1) := by decide +kernel
theorem dX12_count_17 : decode cX12_count 17 = .ok (.istore_n 2, 1) := by decide +kernel
theorem dX12_count_18 : decode cX12_count 18 = .ok (.iload_n 1, 1) := by decide +kernel
theorem dX12_count_19 : decode cX12_count 19 = .ok (.tableswitch 125 3 5 #[25, 63, 92], 25) := by decide +kernel
theorem dX12_count_44 : decode cX12_count 44 = .ok (.iconst 0, 1) := by decide +kernel
theorem dX12_count_45 : decode cX12_count 45 = .ok (.istore_n 3, 1) := by decide +kernel
theorem dX12_count_46 : decode cX12_count 46 = .ok (.iload_n 3, 1) := by decide +kernel
theorem dX12_count_47 : decode cX12_count 47 = .ok (.aload_n 0, 1) := by decide +kernel
theorem dX12_count_48 : decode cX12_count 48 = .ok (.getfield 9, 3) := by decide +kernel
theorem dX12_count_51 : decode cX12_count 51 = .ok (.iconst 0, 1) := by decide +kernel
theorem dX12_count_52 : decode cX12_count 52 = .ok (.iaload, 1) := by decide +kernel
theorem dX12_count_53 : decode cX12_count 53 = .ok (.if_icmp .ge 27, 3) := by decide +kernel
theorem dX12_count_56 : decode cX12_count 56 = .ok (.iload_n 2, 1) := by decide +kernel
theorem dX12_count_57 : decode cX12_count 57 = .ok (.aload_n 0, 1) := by decide +kernel
theorem dX12_count_58 : decode cX12_count 58 = .ok (.iload_n 3, 1) := by decide +kernel
theorem dX12_count_59 : decode cX12_count 59 = .ok (.invokevirtual 151, 3) := by decide +kernel
theorem dX12_count_62 : decode cX12_count 62 = .ok (.ifCond .eq 9, 3) := by decide +kernel
theorem dX12_count_65 : decode cX12_count 65 = .ok (.iconst 1, 1) := by decide +kernel
theorem dX12_count_66 : decode cX12_count 66 = .ok (.iload_n 3, 1) := by decide +kernel
theorem dX12_count_67 : decode cX12_count 67 = .ok (.ishl, 1) := by decide +kernel
theorem dX12_count_68 : decode cX12_count 68 = .ok (.goto 4, 3) := by decide +kernel
theorem dX12_count_71 : decode cX12_count 71 = .ok (.iconst 0, 1) := by decide +kernel
theorem dX12_count_72 : decode cX12_count 72 = .ok (.ior, 1) := by decide +kernel
theorem dX12_count_73 : decode cX12_count 73 = .ok (.istore_n 2, 1) := by decide +kernel
theorem dX12_count_74 : decode cX12_count 74 = .ok (.iinc 3 1, 3) := by decide +kernel
theorem dX12_count_77 : decode cX12_count 77 = .ok (.goto (-31), 3) := by decide +kernel
theorem dX12_count_80 : decode cX12_count 80 = .ok (.iload_n 2, 1) := by decide +kernel
theorem dX12_count_81 : decode cX12_count 81 = .ok (.ireturn, 1) := by decide +kernel
theorem dX12_count_82 : decode cX12_count 82 = .ok (.iconst 0, 1) := by decide +kernel
theorem dX12_count_83 : decode cX12_count 83 = .ok (.istore_n 3, 1) := by decide +kernel
theorem dX12_count_84 : decode cX12_count 84 = .ok (.iload_n 3, 1) := by decide +kernel
theorem dX12_count_85 : decode cX12_count 85 = .ok (.aload_n 0, 1) := by decide +kernel
theorem dX12_count_86 : decode cX12_count 86 = .ok (.getfield 9, 3) := by decide +kernel
theorem dX12_count_89 : decode cX12_count 89 = .ok (.iconst 0, 1) := by decide +kernel
theorem dX12_count_90 : decode cX12_count 90 = .ok (.iaload, 1) := by decide +kernel
theorem dX12_count_91 : decode cX12_count 91 = .ok (.if_icmp .ge 18, 3) := by decide +kernel
theorem dX12_count_94 : decode cX12_count 94 = .ok (.iload_n 2, 1) := by decide +kernel
theorem dX12_count_95 : decode cX12_count 95 = .ok (.aload_n 0, 1) := by decide +kernel
theorem dX12_count_96 : decode cX12_count 96 = .ok (.iload_n 3, 1) := by decide +kernel
theorem dX12_count_97 : decode cX12_count 97 = .ok (.iconst 3, 1) := by decide +kernel
theorem dX12_count_98 : decode cX12_count 98 = .ok (.invokevirtual 72, 3) := by decide +kernel
theorem dX12_count_101 : decode cX12_count 101 = .ok (.iadd, 1) := by decide +kernel
theorem dX12_count_102 : decode cX12_count 102 = .ok (.istore_n 2, 1) := by decide +kernel
theorem dX12_count_103 : decode cX12_count 103 = .ok (.iinc 3 1, 3) := by decide +kernel
theorem dX12_count_106 : decode cX12_count 106 = .ok (.goto (-22), 3) := by decide +kernel
theorem dX12_count_109 : decode cX12_count 109 = .ok (.iload_n 2, 1) := by decide +kernel
theorem dX12_count_110 : decode cX12_count 110 = .ok (.ireturn, 1) := by decide +kernel
theorem dX12_count_111 : decode cX12_count 111 = .ok (.iconst 0, 1) := by decide +kernel
theorem dX12_count_112 : decode cX12_count 112 = .ok (.istore_n 3, 1) := by decide +kernel
theorem dX12_count_113 : decode cX12_count 113 = .ok (.iload_n 3, 1) := by decide +kernel
theorem dX12_count_114 : decode cX12_count 114 = .ok (.aload_n 0, 1) := by decide +kernel
theorem dX12_count_115 : decode cX12_count 115 = .ok (.getfield 9, 3) := by decide +kernel
theorem dX12_count_118 : decode cX12_count 118 = .ok (.iconst 1, 1) := by decide +kernel
theorem dX12_count_119 : decode cX12_count 119 = .ok (.iaload, 1) := by decide +kernel
theorem dX12_count_120 : decode cX12_count 120 = .ok (.if_icmp .ge 22, 3) := by decide +kernel
theorem dX12_count_123 : decode cX12_count 123 = .ok (.iload_n 2, 1) := by decide +kernel
theorem dX12_count_124 : decode cX12_count 124 = .ok (.aload_n 0, 1) := by decide +kernel
theorem dX12_count_125 : decode cX12_count 125 = .ok (.getfield 9, 3) := by decide +kernel
theorem dX12_count_128 : decode cX12_count 128 = .ok (.iload_n 3, 1) := by decide +kernel
theorem dX12_count_129 : decode cX12_count 129 = .ok (.iconst 1, 1) := by decide +kernel
theorem dX12_count_130 : decode cX12_count 130 = .ok (.invokestatic 75, 3) := by decide +kernel
theorem dX12_count_133 : decode cX12_count 133 = .ok (.iaload, 1) := by decide +kernel
theorem dX12_count_134 : decode cX12_count 134 = .ok (.iadd, 1) := by decide +kernel
theorem dX12_count_135 : decode cX12_count 135 = .ok (.istore_n 2, 1) := by decide +kernel
theorem dX12_count_136 : decode cX12_count 136 = .ok (.iinc 3 1, 3) := by decide +kernel
theorem dX12_count_139 : decode cX12_count 139 = .ok (.goto (-26), 3) := by decide +kernel
theorem dX12_count_142 : decode cX12_count 142 = .ok (.iload_n 2, 1) := by decide +kernel
theorem dX12_count_143 : decode cX12_count 143 = .ok (.ireturn, 1) := by decide +kernel
theorem dX12_count_144 : decode cX12_count 144 = .ok (.iconst (-1), 1) := by decide +kernel
theorem dX12_count_145 : decode cX12_count 145 = .ok (.ireturn, 1) := by decide +kernel
theorem dX12_thrown_0 : decode cX12_thrown 0 = .ok (.aload_n 0, 1) := by decide +kernel
theorem dX12_thrown_1 : decode cX12_thrown 1 = .ok (.getfield 282, 3) := by decide +kernel
theorem dX12_thrown_4 : decode cX12_thrown 4 = .ok (.ireturn, 1) := by decide +kernel
theorem dX12_isShelf_0 : decode cX12_isShelf 0 = .ok (.iload_n 0, 1) := by decide +kernel
theorem dX12_isShelf_1 : decode cX12_isShelf 1 = .ok (.iconst 0, 1) := by decide +kernel
theorem dX12_isShelf_2 : decode cX12_isShelf 2 = .ok (.bipush 7, 2) := by decide +kernel
theorem dX12_isShelf_4 : decode cX12_isShelf 4 = .ok (.invokestatic 58, 3) := by decide +kernel
theorem dX12_isShelf_7 : decode cX12_isShelf 7 = .ok (.ireturn, 1) := by decide +kernel
theorem dX12_wrongRow_0 : decode cX12_wrongRow 0 = .ok (.iload_n 1, 1) := by decide +kernel
theorem dX12_wrongRow_1 : decode cX12_wrongRow 1 = .ok (.invokestatic 259, 3) := by decide +kernel
theorem dX12_wrongRow_4 : decode cX12_wrongRow 4 = .ok (.ifCond .ne 7, 3) := by decide +kernel
theorem dX12_wrongRow_7 : decode cX12_wrongRow 7 = .ok (.iconst (-1), 1) := by decide +kernel
theorem dX12_wrongRow_8 : decode cX12_wrongRow 8 = .ok (.goto 47, 3) := by decide +kernel
theorem dX12_wrongRow_11 : decode cX12_wrongRow 11 = .ok (.aload_n 0, 1) := by decide +kernel
theorem dX12_wrongRow_12 : decode cX12_wrongRow 12 = .ok (.getfield 33, 3) := by decide +kernel
theorem dX12_wrongRow_15 : decode cX12_wrongRow 15 = .ok (.iload_n 1, 1) := by decide +kernel
theorem dX12_wrongRow_16 : decode cX12_wrongRow 16 = .ok (.iaload, 1) := by decide +kernel
theorem dX12_wrongRow_17 : decode cX12_wrongRow 17 = .ok (.ifCond .ne 8, 3) := by decide +kernel
theorem dX12_wrongRow_20 : decode cX12_wrongRow 20 = .ok (.bipush (-11), 2) := by decide +kernel
theorem dX12_wrongRow_22 : decode cX12_wrongRow 22 = .ok (.goto 33, 3) := by decide +kernel
theorem dX12_wrongRow_25 : decode cX12_wrongRow 25 = .ok (.aload_n 0, 1) := by decide +kernel
theorem dX12_wrongRow_26 : decode cX12_wrongRow 26 = .ok (.getfield 33, 3) := by decide +kernel
theorem dX12_wrongRow_29 : decode cX12_wrongRow 29 = .ok (.iload_n 1, 1) := by decide +kernel
theorem dX12_wrongRow_30 : decode cX12_wrongRow 30 = .ok (.iaload, 1) := by decide +kernel
theorem dX12_wrongRow_31 : decode cX12_wrongRow 31 = .ok (.iconst 2, 1) := by decide +kernel
theorem dX12_wrongRow_32 : decode cX12_wrongRow 32 = .ok (.if_icmp .ne 17, 3) := by decide +kernel
theorem dX12_wrongRow_35 : decode cX12_wrongRow 35 = .ok (.iload_n 2, 1) := by decide +kernel
theorem dX12_wrongRow_36 : decode cX12_wrongRow 36 = .ok (.ifCond .lt 18, 3) := by decide +kernel
theorem dX12_wrongRow_39 : decode cX12_wrongRow 39 = .ok (.aload_n 0, 1) := by decide +kernel
theorem dX12_wrongRow_40 : decode cX12_wrongRow 40 = .ok (.getfield 42, 3) := by decide +kernel
theorem dX12_wrongRow_43 : decode cX12_wrongRow 43 = .ok (.iload_n 1, 1) := by decide +kernel
theorem dX12_wrongRow_44 : decode cX12_wrongRow 44 = .ok (.iaload, 1) := by decide +kernel
theorem dX12_wrongRow_45 : decode cX12_wrongRow 45 = .ok (.iload_n 2, 1) := by decide +kernel
theorem dX12_wrongRow_46 : decode cX12_wrongRow 46 = .ok (.if_icmp .eq 8, 3) := by decide +kernel
theorem dX12_wrongRow_49 : decode cX12_wrongRow 49 = .ok (.bipush (-12), 2) := by decide +kernel
theorem dX12_wrongRow_51 : decode cX12_wrongRow 51 = .ok (.goto 4, 3) := by decide +kernel
theorem dX12_wrongRow_54 : decode cX12_wrongRow 54 = .ok (.iconst 0, 1) := by decide +kernel
theorem dX12_wrongRow_55 : decode cX12_wrongRow 55 = .ok (.ireturn, 1) := by decide +kernel
theorem dX12_wrongKept_0 : decode cX12_wrongKept 0 = .ok (.iload_n 1, 1) := by decide +kernel
theorem dX12_wrongKept_1 : decode cX12_wrongKept 1 = .ok (.invokestatic 259, 3) := by decide +kernel
theorem dX12_wrongKept_4 : decode cX12_wrongKept 4 = .ok (.ifCond .ne 7, 3) := by decide +kernel
theorem dX12_wrongKept_7 : decode cX12_wrongKept 7 = .ok (.iconst (-1), 1) := by decide +kernel
theorem dX12_wrongKept_8 : decode cX12_wrongKept 8 = .ok (.goto 33, 3) := by decide +kernel
theorem dX12_wrongKept_11 : decode cX12_wrongKept 11 = .ok (.aload_n 0, 1) := by decide +kernel
theorem dX12_wrongKept_12 : decode cX12_wrongKept 12 = .ok (.getfield 33, 3) := by decide +kernel
theorem dX12_wrongKept_15 : decode cX12_wrongKept 15 = .ok (.iload_n 1, 1) := by decide +kernel
theorem dX12_wrongKept_16 : decode cX12_wrongKept 16 = .ok (.iaload, 1) := by decide +kernel
theorem dX12_wrongKept_17 : decode cX12_wrongKept 17 = .ok (.ifCond .ne 8, 3) := by decide +kernel
theorem dX12_wrongKept_20 : decode cX12_wrongKept 20 = .ok (.bipush (-11), 2) := by decide +kernel
theorem dX12_wrongKept_22 : decode cX12_wrongKept 22 = .ok (.goto 19, 3) := by decide +kernel
theorem dX12_wrongKept_25 : decode cX12_wrongKept 25 = .ok (.aload_n 0, 1) := by decide +kernel
theorem dX12_wrongKept_26 : decode cX12_wrongKept 26 = .ok (.getfield 33, 3) := by decide +kernel
theorem dX12_wrongKept_29 : decode cX12_wrongKept 29 = .ok (.iload_n 1, 1) := by decide +kernel
theorem dX12_wrongKept_30 : decode cX12_wrongKept 30 = .ok (.iaload, 1) := by decide +kernel
theorem dX12_wrongKept_31 : decode cX12_wrongKept 31 = .ok (.iconst 2, 1) := by decide +kernel
theorem dX12_wrongKept_32 : decode cX12_wrongKept 32 = .ok (.if_icmp .ne 8, 3) := by decide +kernel
theorem dX12_wrongKept_35 : decode cX12_wrongKept 35 = .ok (.bipush (-12), 2) := by decide +kernel
theorem dX12_wrongKept_37 : decode cX12_wrongKept 37 = .ok (.goto 4, 3) := by decide +kernel
theorem dX12_wrongKept_40 : decode cX12_wrongKept 40 = .ok (.iconst 0, 1) := by decide +kernel
theorem dX12_wrongKept_41 : decode cX12_wrongKept 41 = .ok (.ireturn, 1) := by decide +kernel
theorem dX12_keep_0 : decode cX12_keep 0 = .ok (.iload_n 1, 1) := by decide +kernel
theorem dX12_keep_1 : decode cX12_keep 1 = .ok (.invokestatic 259, 3) := by decide +kernel
theorem dX12_keep_4 : decode cX12_keep 4 = .ok (.ifCond .eq 38, 3) := by decide +kernel
theorem dX12_keep_7 : decode cX12_keep 7 = .ok (.iload_n 2, 1) := by decide +kernel
theorem dX12_keep_8 : decode cX12_keep 8 = .ok (.iconst 0, 1) := by decide +kernel
theorem dX12_keep_9 : decode cX12_keep 9 = .ok (.iconst 1, 1) := by decide +kernel
theorem dX12_keep_10 : decode cX12_keep 10 = .ok (.invokestatic 58, 3) := by decide +kernel
theorem dX12_keep_13 : decode cX12_keep 13 = .ok (.ifCond .eq 29, 3) := by decide +kernel
theorem dX12_keep_16 : decode cX12_keep 16 = .ok (.iload_n 2, 1) := by decide +kernel
theorem dX12_keep_17 : decode cX12_keep 17 = .ok (.iconst 1, 1) := by decide +kernel
theorem dX12_keep_18 : decode cX12_keep 18 = .ok (.if_icmp .ne 26, 3) := by decide +kernel
theorem dX12_keep_21 : decode cX12_keep 21 = .ok (.iload_n 3, 1) := by decide +kernel
theorem dX12_keep_22 : decode cX12_keep 22 = .ok (.iconst 0, 1) := by decide +kernel
theorem dX12_keep_23 : decode cX12_keep 23 = .ok (.bipush 7, 2) := by decide +kernel
theorem dX12_keep_25 : decode cX12_keep 25 = .ok (.invokestatic 58, 3) := by decide +kernel
theorem dX12_keep_28 : decode cX12_keep 28 = .ok (.ifCond .eq 14, 3) := by decide +kernel
theorem dX12_keep_31 : decode cX12_keep 31 = .ok (.iload 4, 2) := by decide +kernel
theorem dX12_keep_33 : decode cX12_keep 33 = .ok (.iconst 0, 1) := by decide +kernel
theorem dX12_keep_34 : decode cX12_keep 34 = .ok (.bipush 9, 2) := by decide +kernel
theorem dX12_keep_36 : decode cX12_keep 36 = .ok (.invokestatic 58, 3) := by decide +kernel
theorem dX12_keep_39 : decode cX12_keep 39 = .ok (.ifCond .ne 5, 3) := by decide +kernel
theorem dX12_keep_42 : decode cX12_keep 42 = .ok (.iconst (-1), 1) := by decide +kernel
theorem dX12_keep_43 : decode cX12_keep 43 = .ok (.ireturn, 1) := by decide +kernel
theorem dX12_keep_44 : decode cX12_keep 44 = .ok (.aload_n 0, 1) := by decide +kernel
theorem dX12_keep_45 : decode cX12_keep 45 = .ok (.getfield 33, 3) := by decide +kernel
theorem dX12_keep_48 : decode cX12_keep 48 = .ok (.iload_n 1, 1) := by decide +kernel
theorem dX12_keep_49 : decode cX12_keep 49 = .ok (.iload_n 2, 1) := by decide +kernel
theorem dX12_keep_50 : decode cX12_keep 50 = .ok (.iastore, 1) := by decide +kernel
theorem dX12_keep_51 : decode cX12_keep 51 = .ok (.aload_n 0, 1) := by decide +kernel
theorem dX12_keep_52 : decode cX12_keep 52 = .ok (.getfield 36, 3) := by decide +kernel
theorem dX12_keep_55 : decode cX12_keep 55 = .ok (.iload_n 1, 1) := by decide +kernel
theorem dX12_keep_56 : decode cX12_keep 56 = .ok (.iload_n 3, 1) := by decide +kernel
theorem dX12_keep_57 : decode cX12_keep 57 = .ok (.iastore, 1) := by decide +kernel
theorem dX12_keep_58 : decode cX12_keep 58 = .ok (.aload_n 0, 1) := by decide +kernel
theorem dX12_keep_59 : decode cX12_keep 59 = .ok (.getfield 39, 3) := by decide +kernel
theorem dX12_keep_62 : decode cX12_keep 62 = .ok (.iload_n 1, 1) := by decide +kernel
theorem dX12_keep_63 : decode cX12_keep 63 = .ok (.iload 4, 2) := by decide +kernel
theorem dX12_keep_65 : decode cX12_keep 65 = .ok (.iastore, 1) := by decide +kernel
theorem dX12_keep_66 : decode cX12_keep 66 = .ok (.iconst 0, 1) := by decide +kernel
theorem dX12_keep_67 : decode cX12_keep 67 = .ok (.ireturn, 1) := by decide +kernel
theorem dX12_row_0 : decode cX12_row 0 = .ok (.iload_n 1, 1) := by decide +kernel
theorem dX12_row_1 : decode cX12_row 1 = .ok (.invokestatic 259, 3) := by decide +kernel
theorem dX12_row_4 : decode cX12_row 4 = .ok (.ifCond .eq 18, 3) := by decide +kernel
theorem dX12_row_7 : decode cX12_row 7 = .ok (.iload_n 2, 1) := by decide +kernel
theorem dX12_row_8 : decode cX12_row 8 = .ok (.iconst 0, 1) := by decide +kernel
theorem dX12_row_9 : decode cX12_row 9 = .ok (.iconst 2, 1) := by decide +kernel
theorem dX12_row_10 : decode cX12_row 10 = .ok (.invokestatic 58, 3) := by decide +kernel
theorem dX12_row_13 : decode cX12_row 13 = .ok (.ifCond .eq 9, 3) := by decide +kernel
theorem dX12_row_16 : decode cX12_row 16 = .ok (.iload_n 3, 1) := by decide +kernel
theorem dX12_row_17 : decode cX12_row 17 = .ok (.bipush 100, 2) := by decide +kernel
theorem dX12_row_19 : decode cX12_row 19 = .ok (.if_icmp .le 5, 3) := by decide +kernel
theorem dX12_row_22 : decode cX12_row 22 = .ok (.iconst (-1), 1) := by decide +kernel
theorem dX12_row_23 : decode cX12_row 23 = .ok (.ireturn, 1) := by decide +kernel
theorem dX12_row_24 : decode cX12_row 24 = .ok (.iload_n 3, 1) := by decide +kernel
theorem dX12_row_25 : decode cX12_row 25 = .ok (.ifCond .ge 6, 3) := by decide +kernel
theorem dX12_row_28 : decode cX12_row 28 = .ok (.bipush (-14), 2) := by decide +kernel
theorem dX12_row_30 : decode cX12_row 30 = .ok (.ireturn, 1) := by decide +kernel
theorem dX12_row_31 : decode cX12_row 31 = .ok (.aload_n 0, 1) := by decide +kernel
theorem dX12_row_32 : decode cX12_row 32 = .ok (.getfield 33, 3) := by decide +kernel
theorem dX12_row_35 : decode cX12_row 35 = .ok (.iload_n 1, 1) := by decide +kernel
theorem dX12_row_36 : decode cX12_row 36 = .ok (.iconst 2, 1) := by decide +kernel
theorem dX12_row_37 : decode cX12_row 37 = .ok (.iastore, 1) := by decide +kernel
theorem dX12_row_38 : decode cX12_row 38 = .ok (.aload_n 0, 1) := by decide +kernel
theorem dX12_row_39 : decode cX12_row 39 = .ok (.getfield 42, 3) := by decide +kernel
theorem dX12_row_42 : decode cX12_row 42 = .ok (.iload_n 1, 1) := by decide +kernel
theorem dX12_row_43 : decode cX12_row 43 = .ok (.iload_n 2, 1) := by decide +kernel
theorem dX12_row_44 : decode cX12_row 44 = .ok (.iastore, 1) := by decide +kernel
theorem dX12_row_45 : decode cX12_row 45 = .ok (.aload_n 0, 1) := by decide +kernel
theorem dX12_row_46 : decode cX12_row 46 = .ok (.getfield 45, 3) := by decide +kernel
theorem dX12_row_49 : decode cX12_row 49 = .ok (.iload_n 1, 1) := by decide +kernel
theorem dX12_row_50 : decode cX12_row 50 = .ok (.iload_n 3, 1) := by decide +kernel
theorem dX12_row_51 : decode cX12_row 51 = .ok (.iastore, 1) := by decide +kernel
theorem dX12_row_52 : decode cX12_row 52 = .ok (.iconst 0, 1) := by decide +kernel
theorem dX12_row_53 : decode cX12_row 53 = .ok (.istore 4, 2) := by decide +kernel
theorem dX12_row_55 : decode cX12_row 55 = .ok (.iload 4, 2) := by decide +kernel
theorem dX12_row_57 : decode cX12_row 57 = .ok (.bipush 100, 2) := by decide +kernel
theorem dX12_row_59 : decode cX12_row 59 = .ok (.if_icmp .ge 22, 3) := by decide +kernel
theorem dX12_row_62 : decode cX12_row 62 = .ok (.aload_n 0, 1) := by decide +kernel
theorem dX12_row_63 : decode cX12_row 63 = .ok (.getfield 48, 3) := by decide +kernel
theorem dX12_row_66 : decode cX12_row 66 = .ok (.bipush 100, 2) := by decide +kernel
theorem dX12_row_68 : decode cX12_row 68 = .ok (.iload_n 1, 1) := by decide +kernel
theorem dX12_row_69 : decode cX12_row 69 = .ok (.imul, 1) := by decide +kernel
theorem dX12_row_70 : decode cX12_row 70 = .ok (.iload 4, 2) := by decide +kernel
theorem dX12_row_72 : decode cX12_row 72 = .ok (.iadd, 1) := by decide +kernel
theorem dX12_row_73 : decode cX12_row 73 = .ok (.iconst 0, 1) := by decide +kernel
theorem dX12_row_74 : decode cX12_row 74 = .ok (.iastore, 1) := by decide +kernel
theorem dX12_row_75 : decode cX12_row 75 = .ok (.iinc 4 1, 3) := by decide +kernel
theorem dX12_row_78 : decode cX12_row 78 = .ok (.goto (-23), 3) := by decide +kernel
theorem dX12_row_81 : decode cX12_row 81 = .ok (.iconst 0, 1) := by decide +kernel
theorem dX12_row_82 : decode cX12_row 82 = .ok (.ireturn, 1) := by decide +kernel
theorem dX12_put_0 : decode cX12_put 0 = .ok (.aload_n 0, 1) := by decide +kernel
theorem dX12_put_1 : decode cX12_put 1 = .ok (.iload_n 1, 1) := by decide +kernel
theorem dX12_put_2 : decode cX12_put 2 = .ok (.iconst (-1), 1) := by decide +kernel
theorem dX12_put_3 : decode cX12_put 3 = .ok (.invokevirtual 157, 3) := by decide +kernel
theorem dX12_put_6 : decode cX12_put 6 = .ok (.istore 4, 2) := by decide +kernel
theorem dX12_put_8 : decode cX12_put 8 = .ok (.iload 4, 2) := by decide +kernel
theorem dX12_put_10 : decode cX12_put 10 = .ok (.ifCond .eq 6, 3) := by decide +kernel
theorem dX12_put_13 : decode cX12_put 13 = .ok (.iload 4, 2) := by decide +kernel
theorem dX12_put_15 : decode cX12_put 15 = .ok (.ireturn, 1) := by decide +kernel
theorem dX12_put_16 : decode cX12_put 16 = .ok (.iload_n 2, 1) := by decide +kernel
theorem dX12_put_17 : decode cX12_put 17 = .ok (.iconst 0, 1) := by decide +kernel
theorem dX12_put_18 : decode cX12_put 18 = .ok (.aload_n 0, 1) := by decide +kernel
theorem dX12_put_19 : decode cX12_put 19 = .ok (.getfield 45, 3) := by decide +kernel
theorem dX12_put_22 : decode cX12_put 22 = .ok (.iload_n 1, 1) := by decide +kernel
theorem dX12_put_23 : decode cX12_put 23 = .ok (.iaload, 1) := by decide +kernel
theorem dX12_put_24 : decode cX12_put 24 = .ok (.iconst 1, 1) := by decide +kernel
theorem dX12_put_25 : decode cX12_put 25 = .ok (.isub, 1) := by decide +kernel
theorem dX12_put_26 : decode cX12_put 26 = .ok (.invokestatic 58, 3) := by decide +kernel
theorem dX12_put_29 : decode cX12_put 29 = .ok (.ifCond .ne 6, 3) := by decide +kernel
theorem dX12_put_32 : decode cX12_put 32 = .ok (.bipush (-13), 2) := by decide +kernel
theorem dX12_put_34 : decode cX12_put 34 = .ok (.ireturn, 1) := by decide +kernel
theorem dX12_put_35 : decode cX12_put 35 = .ok (.aload_n 0, 1) := by decide +kernel
theorem dX12_put_36 : decode cX12_put 36 = .ok (.getfield 48, 3) := by decide +kernel
theorem dX12_put_39 : decode cX12_put 39 = .ok (.bipush 100, 2) := by decide +kernel
theorem dX12_put_41 : decode cX12_put 41 = .ok (.iload_n 1, 1) := by decide +kernel
theorem dX12_put_42 : decode cX12_put 42 = .ok (.imul, 1) := by decide +kernel
theorem dX12_put_43 : decode cX12_put 43 = .ok (.iload_n 2, 1) := by decide +kernel
theorem dX12_put_44 : decode cX12_put 44 = .ok (.iadd, 1) := by decide +kernel
theorem dX12_put_45 : decode cX12_put 45 = .ok (.aload_n 0, 1) := by decide +kernel
theorem dX12_put_46 : decode cX12_put 46 = .ok (.getfield 42, 3) := by decide +kernel
theorem dX12_put_49 : decode cX12_put 49 = .ok (.iload_n 1, 1) := by decide +kernel
theorem dX12_put_50 : decode cX12_put 50 = .ok (.iaload, 1) := by decide +kernel
theorem dX12_put_51 : decode cX12_put 51 = .ok (.ifCond .ne 8, 3) := by decide +kernel
theorem dX12_put_54 : decode cX12_put 54 = .ok (.iload_n 3, 1) := by decide +kernel
theorem dX12_put_55 : decode cX12_put 55 = .ok (.i2b, 1) := by decide +kernel
theorem dX12_put_56 : decode cX12_put 56 = .ok (.goto 19, 3) := by decide +kernel
theorem dX12_put_59 : decode cX12_put 59 = .ok (.aload_n 0, 1) := by decide +kernel
theorem dX12_put_60 : decode cX12_put 60 = .ok (.getfield 42, 3) := by decide +kernel
theorem dX12_put_63 : decode cX12_put 63 = .ok (.iload_n 1, 1) := by decide +kernel
theorem dX12_put_64 : decode cX12_put 64 = .ok (.iaload, 1) := by decide +kernel
theorem dX12_put_65 : decode cX12_put 65 = .ok (.iconst 1, 1) := by decide +kernel
theorem dX12_put_66 : decode cX12_put 66 = .ok (.if_icmp .ne 8, 3) := by decide +kernel
theorem dX12_put_69 : decode cX12_put 69 = .ok (.iload_n 3, 1) := by decide +kernel
theorem dX12_put_70 : decode cX12_put 70 = .ok (.i2s, 1) := by decide +kernel
theorem dX12_put_71 : decode cX12_put 71 = .ok (.goto 4, 3) := by decide +kernel
theorem dX12_put_74 : decode cX12_put 74 = .ok (.iload_n 3, 1) := by decide +kernel
theorem dX12_put_75 : decode cX12_put 75 = .ok (.iastore, 1) := by decide +kernel
theorem dX12_put_76 : decode cX12_put 76 = .ok (.iconst 0, 1) := by decide +kernel
theorem dX12_put_77 : decode cX12_put 77 = .ok (.ireturn, 1) := by decide +kernel
theorem dX12_element_0 : decode cX12_element 0 = .ok (.aload_n 0, 1) := by decide +kernel
theorem dX12_element_1 : decode cX12_element 1 = .ok (.iload_n 1, 1) := by decide +kernel
theorem dX12_element_2 : decode cX12_element 2 = .ok (.invokestatic 259, 3) := by decide +kernel
theorem dX12_element_5 : decode cX12_element 5 = .ok (.ifCond .ne 7, 3) := by decide +kernel
theorem dX12_element_8 : decode cX12_element 8 = .ok (.iconst 1, 1) := by decide +kernel
theorem dX12_element_9 : decode cX12_element 9 = .ok (.goto 34, 3) := by decide +kernel
theorem dX12_element_12 : decode cX12_element 12 = .ok (.aload_n 0, 1) := by decide +kernel
theorem dX12_element_13 : decode cX12_element 13 = .ok (.getfield 33, 3) := by decide +kernel
theorem dX12_element_16 : decode cX12_element 16 = .ok (.iload_n 1, 1) := by decide +kernel
theorem dX12_element_17 : decode cX12_element 17 = .ok (.iaload, 1) := by decide +kernel
theorem dX12_element_18 : decode cX12_element 18 = .ok (.iconst 2, 1) := by decide +kernel
theorem dX12_element_19 : decode cX12_element 19 = .ok (.if_icmp .ne 19, 3) := by decide +kernel
theorem dX12_element_22 : decode cX12_element 22 = .ok (.iload_n 2, 1) := by decide +kernel
theorem dX12_element_23 : decode cX12_element 23 = .ok (.iconst 0, 1) := by decide +kernel
theorem dX12_element_24 : decode cX12_element 24 = .ok (.aload_n 0, 1) := by decide +kernel
theorem dX12_element_25 : decode cX12_element 25 = .ok (.getfield 45, 3) := by decide +kernel
theorem dX12_element_28 : decode cX12_element 28 = .ok (.iload_n 1, 1) := by decide +kernel
theorem dX12_element_29 : decode cX12_element 29 = .ok (.iaload, 1) := by decide +kernel
theorem dX12_element_30 : decode cX12_element 30 = .ok (.iconst 1, 1) := by decide +kernel
theorem dX12_element_31 : decode cX12_element 31 = .ok (.isub, 1) := by decide +kernel
theorem dX12_element_32 : decode cX12_element 32 = .ok (.invokestatic 58, 3) := by decide +kernel
theorem dX12_element_35 : decode cX12_element 35 = .ok (.ifCond .ne 7, 3) := by decide +kernel
theorem dX12_element_38 : decode cX12_element 38 = .ok (.iconst 2, 1) := by decide +kernel
theorem dX12_element_39 : decode cX12_element 39 = .ok (.goto 4, 3) := by decide +kernel
theorem dX12_element_42 : decode cX12_element 42 = .ok (.iconst 0, 1) := by decide +kernel
theorem dX12_element_43 : decode cX12_element 43 = .ok (.putfield 282, 3) := by decide +kernel
theorem dX12_element_46 : decode cX12_element 46 = .ok (.aload_n 0, 1) := by decide +kernel
theorem dX12_element_47 : decode cX12_element 47 = .ok (.getfield 282, 3) := by decide +kernel
theorem dX12_element_50 : decode cX12_element 50 = .ok (.ifCond .ne 18, 3) := by decide +kernel
theorem dX12_element_53 : decode cX12_element 53 = .ok (.aload_n 0, 1) := by decide +kernel
theorem dX12_element_54 : decode cX12_element 54 = .ok (.getfield 48, 3) := by decide +kernel
theorem dX12_element_57 : decode cX12_element 57 = .ok (.bipush 100, 2) := by decide +kernel
theorem dX12_element_59 : decode cX12_element 59 = .ok (.iload_n 1, 1) := by decide +kernel
theorem dX12_element_60 : decode cX12_element 60 = .ok (.imul, 1) := by decide +kernel
theorem dX12_element_61 : decode cX12_element 61 = .ok (.iload_n 2, 1) := by decide +kernel
theorem dX12_element_62 : decode cX12_element 62 = .ok (.iadd, 1) := by decide +kernel
theorem dX12_element_63 : decode cX12_element 63 = .ok (.iaload, 1) := by decide +kernel
theorem dX12_element_64 : decode cX12_element 64 = .ok (.i2l, 1) := by decide +kernel
theorem dX12_element_65 : decode cX12_element 65 = .ok (.goto 4, 3) := by decide +kernel
theorem dX12_element_68 : decode cX12_element 68 = .ok (.lconst 0, 1) := by decide +kernel
theorem dX12_element_69 : decode cX12_element 69 = .ok (.lreturn, 1) := by decide +kernel
theorem dX12_copy_0 : decode cX12_copy 0 = .ok (.iload_n 1, 1) := by decide +kernel
theorem dX12_copy_1 : decode cX12_copy 1 = .ok (.invokestatic 259, 3) := by decide +kernel
theorem dX12_copy_4 : decode cX12_copy 4 = .ok (.ifCond .eq 10, 3) := by decide +kernel
theorem dX12_copy_7 : decode cX12_copy 7 = .ok (.iload_n 3, 1) := by decide +kernel
theorem dX12_copy_8 : decode cX12_copy 8 = .ok (.invokestatic 259, 3) := by decide +kernel
theorem dX12_copy_11 : decode cX12_copy 11 = .ok (.ifCond .ne 5, 3) := by decide +kernel
theorem dX12_copy_14 : decode cX12_copy 14 = .ok (.iconst (-1), 1) := by decide +kernel
theorem dX12_copy_15 : decode cX12_copy 15 = .ok (.ireturn, 1) := by decide +kernel
theorem dX12_copy_16 : decode cX12_copy 16 = .ok (.aload_n 0, 1) := by decide +kernel
theorem dX12_copy_17 : decode cX12_copy 17 = .ok (.getfield 33, 3) := by decide +kernel
theorem dX12_copy_20 : decode cX12_copy 20 = .ok (.iload_n 1, 1) := by decide +kernel
theorem dX12_copy_21 : decode cX12_copy 21 = .ok (.iaload, 1) := by decide +kernel
theorem dX12_copy_22 : decode cX12_copy 22 = .ok (.ifCond .eq 12, 3) := by decide +kernel
theorem dX12_copy_25 : decode cX12_copy 25 = .ok (.aload_n 0, 1) := by decide +kernel
theorem dX12_copy_26 : decode cX12_copy 26 = .ok (.getfield 33, 3) := by decide +kernel
theorem dX12_copy_29 : decode cX12_copy 29 = .ok (.iload_n 3, 1) := by decide +kernel
theorem dX12_copy_30 : decode cX12_copy 30 = .ok (.iaload, 1) := by decide +kernel
theorem dX12_copy_31 : decode cX12_copy 31 = .ok (.ifCond .ne 6, 3) := by decide +kernel
theorem dX12_copy_34 : decode cX12_copy 34 = .ok (.bipush (-11), 2) := by decide +kernel
theorem dX12_copy_36 : decode cX12_copy 36 = .ok (.ireturn, 1) := by decide +kernel
theorem dX12_copy_37 : decode cX12_copy 37 = .ok (.aload_n 0, 1) := by decide +kernel
theorem dX12_copy_38 : decode cX12_copy 38 = .ok (.getfield 33, 3) := by decide +kernel
theorem dX12_copy_41 : decode cX12_copy 41 = .ok (.iload_n 1, 1) := by decide +kernel
theorem dX12_copy_42 : decode cX12_copy 42 = .ok (.iaload, 1) := by decide +kernel
theorem dX12_copy_43 : decode cX12_copy 43 = .ok (.iconst 2, 1) := by decide +kernel
theorem dX12_copy_44 : decode cX12_copy 44 = .ok (.if_icmp .ne 28, 3) := by decide +kernel
theorem dX12_copy_47 : decode cX12_copy 47 = .ok (.aload_n 0, 1) := by decide +kernel
theorem dX12_copy_48 : decode cX12_copy 48 = .ok (.getfield 33, 3) := by decide +kernel
theorem dX12_copy_51 : decode cX12_copy 51 = .ok (.iload_n 3, 1) := by decide +kernel
theorem dX12_copy_52 : decode cX12_copy 52 = .ok (.iaload, 1) := by decide +kernel
theorem dX12_copy_53 : decode cX12_copy 53 = .ok (.iconst 2, 1) := by decide +kernel
theorem dX12_copy_54 : decode cX12_copy 54 = .ok (.if_icmp .ne 18, 3) := by decide +kernel
theorem dX12_copy_57 : decode cX12_copy 57 = .ok (.aload_n 0, 1) := by decide +kernel
theorem dX12_copy_58 : decode cX12_copy 58 = .ok (.getfield 42, 3) := by decide +kernel
theorem dX12_copy_61 : decode cX12_copy 61 = .ok (.iload_n 1, 1) := by decide +kernel
theorem dX12_copy_62 : decode cX12_copy 62 = .ok (.iaload, 1) := by decide +kernel
theorem dX12_copy_63 : decode cX12_copy 63 = .ok (.aload_n 0, 1) := by decide +kernel
theorem dX12_copy_64 : decode cX12_copy 64 = .ok (.getfield 42, 3) := by decide +kernel
theorem dX12_copy_67 : decode cX12_copy 67 = .ok (.iload_n 3, 1) := by decide +kernel
theorem dX12_copy_68 : decode cX12_copy 68 = .ok (.iaload, 1) := by decide +kernel
theorem dX12_copy_69 : decode cX12_copy 69 = .ok (.if_icmp .eq 6, 3) := by decide +kernel
theorem dX12_copy_72 : decode cX12_copy 72 = .ok (.bipush (-12), 2) := by decide +kernel
theorem dX12_copy_74 : decode cX12_copy 74 = .ok (.ireturn, 1) := by decide +kernel
theorem dX12_copy_75 : decode cX12_copy 75 = .ok (.iload 5, 2) := by decide +kernel
theorem dX12_copy_77 : decode cX12_copy 77 = .ok (.ifCond .lt 39, 3) := by decide +kernel
theorem dX12_copy_80 : decode cX12_copy 80 = .ok (.iload_n 2, 1) := by decide +kernel
theorem dX12_copy_81 : decode cX12_copy 81 = .ok (.ifCond .lt 35, 3) := by decide +kernel
theorem dX12_copy_84 : decode cX12_copy 84 = .ok (.iload 4, 2) := by decide +kernel
theorem dX12_copy_86 : decode cX12_copy 86 = .ok (.ifCond .lt 30, 3) := by decide +kernel
theorem dX12_copy_89 : decode cX12_copy 89 = .ok (.iload 5, 2) := by decide +kernel
theorem dX12_copy_91 : decode cX12_copy 91 = .ok (.aload_n 0, 1) := by decide +kernel
theorem dX12_copy_92 : decode cX12_copy 92 = .ok (.getfield 45, 3) := by decide +kernel
theorem dX12_copy_95 : decode cX12_copy 95 = .ok (.iload_n 1, 1) := by decide +kernel
theorem dX12_copy_96 : decode cX12_copy 96 = .ok (.iaload, 1) := by decide +kernel
theorem dX12_copy_97 : decode cX12_copy 97 = .ok (.iload_n 2, 1) := by decide +kernel
theorem dX12_copy_98 : decode cX12_copy 98 = .ok (.isub, 1) := by decide +kernel
theorem dX12_copy_99 : decode cX12_copy 99 = .ok (.if_icmp .gt 17, 3) := by decide +kernel
theorem dX12_copy_102 : decode cX12_copy 102 = .ok (.iload 5, 2) := by decide +kernel
theorem dX12_copy_104 : decode cX12_copy 104 = .ok (.aload_n 0, 1) := by decide +kernel
theorem dX12_copy_105 : decode cX12_copy 105 = .ok (.getfield 45, 3) := by decide +kernel
theorem dX12_copy_108 : decode cX12_copy 108 = .ok (.iload_n 3, 1) := by decide +kernel
theorem dX12_copy_109 : decode cX12_copy 109 = .ok (.iaload, 1) := by decide +kernel
theorem dX12_copy_110 : decode cX12_copy 110 = .ok (.iload 4, 2) := by decide +kernel
theorem dX12_copy_112 : decode cX12_copy 112 = .ok (.isub, 1) := by decide +kernel
theorem dX12_copy_113 : decode cX12_copy 113 = .ok (.if_icmp .le 6, 3) := by decide +kernel
theorem dX12_copy_116 : decode cX12_copy 116 = .ok (.bipush (-13), 2) := by decide +kernel
theorem dX12_copy_118 : decode cX12_copy 118 = .ok (.ireturn, 1) := by decide +kernel
theorem dX12_copy_119 : decode cX12_copy 119 = .ok (.iconst 0, 1) := by decide +kernel
theorem dX12_copy_120 : decode cX12_copy 120 = .ok (.istore 6, 2) := by decide +kernel
theorem dX12_copy_122 : decode cX12_copy 122 = .ok (.iload 6, 2) := by decide +kernel
theorem dX12_copy_124 : decode cX12_copy 124 = .ok (.iload 5, 2) := by decide +kernel
theorem dX12_copy_126 : decode cX12_copy 126 = .ok (.if_icmp .ge 58, 3) := by decide +kernel
theorem dX12_copy_129 : decode cX12_copy 129 = .ok (.iload_n 2, 1) := by decide +kernel
theorem dX12_copy_130 : decode cX12_copy 130 = .ok (.iload 4, 2) := by decide +kernel
theorem dX12_copy_132 : decode cX12_copy 132 = .ok (.if_icmp .le 8, 3) := by decide +kernel
theorem dX12_copy_135 : decode cX12_copy 135 = .ok (.iload 6, 2) := by decide +kernel
theorem dX12_copy_137 : decode cX12_copy 137 = .ok (.goto 10, 3) := by decide +kernel
theorem dX12_copy_140 : decode cX12_copy 140 = .ok (.iload 5, 2) := by decide +kernel
theorem dX12_copy_142 : decode cX12_copy 142 = .ok (.iconst 1, 1) := by decide +kernel
theorem dX12_copy_143 : decode cX12_copy 143 = .ok (.isub, 1) := by decide +kernel
theorem dX12_copy_144 : decode cX12_copy 144 = .ok (.iload 6, 2) := by decide +kernel
theorem dX12_copy_146 : decode cX12_copy 146 = .ok (.isub, 1) := by decide +kernel
theorem dX12_copy_147 : decode cX12_copy 147 = .ok (.istore 7, 2) := by decide +kernel
theorem dX12_copy_149 : decode cX12_copy 149 = .ok (.aload_n 0, 1) := by decide +kernel
theorem dX12_copy_150 : decode cX12_copy 150 = .ok (.getfield 48, 3) := by decide +kernel
theorem dX12_copy_153 : decode cX12_copy 153 = .ok (.bipush 100, 2) := by decide +kernel
theorem dX12_copy_155 : decode cX12_copy 155 = .ok (.iload_n 3, 1) := by decide +kernel
theorem dX12_copy_156 : decode cX12_copy 156 = .ok (.imul, 1) := by decide +kernel
theorem dX12_copy_157 : decode cX12_copy 157 = .ok (.iload 4, 2) := by decide +kernel
theorem dX12_copy_159 : decode cX12_copy 159 = .ok (.iadd, 1) := by decide +kernel
theorem dX12_copy_160 : decode cX12_copy 160 = .ok (.iload 7, 2) := by decide +kernel
theorem dX12_copy_162 : decode cX12_copy 162 = .ok (.iadd, 1) := by decide +kernel
theorem dX12_copy_163 : decode cX12_copy 163 = .ok (.aload_n 0, 1) := by decide +kernel
theorem dX12_copy_164 : decode cX12_copy 164 = .ok (.getfield 48, 3) := by decide +kernel
theorem dX12_copy_167 : decode cX12_copy 167 = .ok (.bipush 100, 2) := by decide +kernel
theorem dX12_copy_169 : decode cX12_copy 169 = .ok (.iload_n 1, 1) := by decide +kernel
theorem dX12_copy_170 : decode cX12_copy 170 = .ok (.imul, 1) := by decide +kernel
theorem dX12_copy_171 : decode cX12_copy 171 = .ok (.iload_n 2, 1) := by decide +kernel
theorem dX12_copy_172 : decode cX12_copy 172 = .ok (.iadd, 1) := by decide +kernel
theorem dX12_copy_173 : decode cX12_copy 173 = .ok (.iload 7, 2) := by decide +kernel
theorem dX12_copy_175 : decode cX12_copy 175 = .ok (.iadd, 1) := by decide +kernel
theorem dX12_copy_176 : decode cX12_copy 176 = .ok (.iaload, 1) := by decide +kernel
theorem dX12_copy_177 : decode cX12_copy 177 = .ok (.iastore, 1) := by decide +kernel
theorem dX12_copy_178 : decode cX12_copy 178 = .ok (.iinc 6 1, 3) := by decide +kernel
theorem dX12_copy_181 : decode cX12_copy 181 = .ok (.goto (-59), 3) := by decide +kernel
theorem dX12_copy_184 : decode cX12_copy 184 = .ok (.iload 5, 2) := by decide +kernel
theorem dX12_copy_186 : decode cX12_copy 186 = .ok (.ireturn, 1) := by decide +kernel
theorem dX12_costBy_0 : decode cX12_costBy 0 = .ok (.iload_n 0, 1) := by decide +kernel
theorem dX12_costBy_1 : decode cX12_costBy 1 = .ok (.tableswitch 72 1 7 #[43, 45, 49, 55, 58, 62, 68], 43) := by decide +kernel
theorem dX12_costBy_44 : decode cX12_costBy 44 = .ok (.iconst 2, 1) := by decide +kernel
theorem dX12_costBy_45 : decode cX12_costBy 45 = .ok (.ireturn, 1) := by decide +kernel
theorem dX12_costBy_46 : decode cX12_costBy 46 = .ok (.iconst 3, 1) := by decide +kernel
theorem dX12_costBy_47 : decode cX12_costBy 47 = .ok (.iload_n 1, 1) := by decide +kernel
theorem dX12_costBy_48 : decode cX12_costBy 48 = .ok (.iadd, 1) := by decide +kernel
theorem dX12_costBy_49 : decode cX12_costBy 49 = .ok (.ireturn, 1) := by decide +kernel
theorem dX12_costBy_50 : decode cX12_costBy 50 = .ok (.iconst 2, 1) := by decide +kernel
theorem dX12_costBy_51 : decode cX12_costBy 51 = .ok (.iconst 3, 1) := by decide +kernel
theorem dX12_costBy_52 : decode cX12_costBy 52 = .ok (.iload_n 1, 1) := by decide +kernel
theorem dX12_costBy_53 : decode cX12_costBy 53 = .ok (.iadd, 1) := by decide +kernel
theorem dX12_costBy_54 : decode cX12_costBy 54 = .ok (.imul, 1) := by decide +kernel
theorem dX12_costBy_55 : decode cX12_costBy 55 = .ok (.ireturn, 1) := by decide +kernel
theorem dX12_costBy_56 : decode cX12_costBy 56 = .ok (.bipush 7, 2) := by decide +kernel
theorem dX12_costBy_58 : decode cX12_costBy 58 = .ok (.ireturn, 1) := by decide +kernel
theorem dX12_costBy_59 : decode cX12_costBy 59 = .ok (.iconst 5, 1) := by decide +kernel
theorem dX12_costBy_60 : decode cX12_costBy 60 = .ok (.iload_n 1, 1) := by decide +kernel
theorem dX12_costBy_61 : decode cX12_costBy 61 = .ok (.iadd, 1) := by decide +kernel
theorem dX12_costBy_62 : decode cX12_costBy 62 = .ok (.ireturn, 1) := by decide +kernel
theorem dX12_costBy_63 : decode cX12_costBy 63 = .ok (.iconst 5, 1) := by decide +kernel
theorem dX12_costBy_64 : decode cX12_costBy 64 = .ok (.iload_n 1, 1) := by decide +kernel
theorem dX12_costBy_65 : decode cX12_costBy 65 = .ok (.iadd, 1) := by decide +kernel
theorem dX12_costBy_66 : decode cX12_costBy 66 = .ok (.iconst 2, 1) := by decide +kernel
theorem dX12_costBy_67 : decode cX12_costBy 67 = .ok (.idiv, 1) := by decide +kernel
theorem dX12_costBy_68 : decode cX12_costBy 68 = .ok (.ireturn, 1) := by decide +kernel
theorem dX12_costBy_69 : decode cX12_costBy 69 = .ok (.iconst 2, 1) := by decide +kernel
theorem dX12_costBy_70 : decode cX12_costBy 70 = .ok (.iload_n 1, 1) := by decide +kernel
theorem dX12_costBy_71 : decode cX12_costBy 71 = .ok (.iadd, 1) := by decide +kernel
theorem dX12_costBy_72 : decode cX12_costBy 72 = .ok (.ireturn, 1) := by decide +kernel
theorem dX12_costBy_73 : decode cX12_costBy 73 = .ok (.iconst 3, 1) := by decide +kernel
theorem dX12_costBy_74 : decode cX12_costBy 74 = .ok (.ireturn, 1) := by decide +kernel
theorem dX12_cost_0 : decode cX12_cost 0 = .ok (.aload_n 0, 1) := by decide +kernel
theorem dX12_cost_1 : decode cX12_cost 1 = .ok (.iload_n 1, 1) := by decide +kernel
theorem dX12_cost_2 : decode cX12_cost 2 = .ok (.invokevirtual 171, 3) := by decide +kernel
theorem dX12_cost_5 : decode cX12_cost 5 = .ok (.istore_n 2, 1) := by decide +kernel
theorem dX12_cost_6 : decode cX12_cost 6 = .ok (.iload_n 2, 1) := by decide +kernel
theorem dX12_cost_7 : decode cX12_cost 7 = .ok (.ifCond .eq 7, 3) := by decide +kernel
theorem dX12_cost_10 : decode cX12_cost 10 = .ok (.iload_n 2, 1) := by decide +kernel
theorem dX12_cost_11 : decode cX12_cost 11 = .ok (.goto 18, 3) := by decide +kernel
theorem dX12_cost_14 : decode cX12_cost 14 = .ok (.aload_n 0, 1) := by decide +kernel
theorem dX12_cost_15 : decode cX12_cost 15 = .ok (.getfield 36, 3) := by decide +kernel
theorem dX12_cost_18 : decode cX12_cost 18 = .ok (.iload_n 1, 1) := by decide +kernel
theorem dX12_cost_19 : decode cX12_cost 19 = .ok (.iaload, 1) := by decide +kernel
theorem dX12_cost_20 : decode cX12_cost 20 = .ok (.aload_n 0, 1) := by decide +kernel
theorem dX12_cost_21 : decode cX12_cost 21 = .ok (.getfield 39, 3) := by decide +kernel
theorem dX12_cost_24 : decode cX12_cost 24 = .ok (.iload_n 1, 1) := by decide +kernel
theorem dX12_cost_25 : decode cX12_cost 25 = .ok (.iaload, 1) := by decide +kernel
theorem dX12_cost_26 : decode cX12_cost 26 = .ok (.invokestatic 285, 3) := by decide +kernel
theorem dX12_cost_29 : decode cX12_cost 29 = .ok (.ireturn, 1) := by decide +kernel
theorem dX12_toss_0 : decode cX12_toss 0 = .ok (.aload_n 0, 1) := by decide +kernel
theorem dX12_toss_1 : decode cX12_toss 1 = .ok (.iload_n 1, 1) := by decide +kernel
theorem dX12_toss_2 : decode cX12_toss 2 = .ok (.invokevirtual 171, 3) := by decide +kernel
theorem dX12_toss_5 : decode cX12_toss 5 = .ok (.istore_n 2, 1) := by decide +kernel
theorem dX12_toss_6 : decode cX12_toss 6 = .ok (.iload_n 2, 1) := by decide +kernel
theorem dX12_toss_7 : decode cX12_toss 7 = .ok (.ifCond .eq 5, 3) := by decide +kernel
theorem dX12_toss_10 : decode cX12_toss 10 = .ok (.iload_n 2, 1) := by decide +kernel
theorem dX12_toss_11 : decode cX12_toss 11 = .ok (.ireturn, 1) := by decide +kernel
theorem dX12_toss_12 : decode cX12_toss 12 = .ok (.aload_n 0, 1) := by decide +kernel
theorem dX12_toss_13 : decode cX12_toss 13 = .ok (.getfield 36, 3) := by decide +kernel
theorem dX12_toss_16 : decode cX12_toss 16 = .ok (.iload_n 1, 1) := by decide +kernel
theorem dX12_toss_17 : decode cX12_toss 17 = .ok (.iaload, 1) := by decide +kernel
theorem dX12_toss_18 : decode cX12_toss 18 = .ok (.istore_n 3, 1) := by decide +kernel
theorem dX12_toss_19 : decode cX12_toss 19 = .ok (.aload_n 0, 1) := by decide +kernel
theorem dX12_toss_20 : decode cX12_toss 20 = .ok (.getfield 39, 3) := by decide +kernel
theorem dX12_toss_23 : decode cX12_toss 23 = .ok (.iload_n 1, 1) := by decide +kernel
theorem dX12_toss_24 : decode cX12_toss 24 = .ok (.iaload, 1) := by decide +kernel
theorem dX12_toss_25 : decode cX12_toss 25 = .ok (.istore 4, 2) := by decide +kernel
theorem dX12_toss_27 : decode cX12_toss 27 = .ok (.iload_n 3, 1) := by decide +kernel
theorem dX12_toss_28 : decode cX12_toss 28 = .ok (.iconst 1, 1) := by decide +kernel
theorem dX12_toss_29 : decode cX12_toss 29 = .ok (.if_icmp .eq 14, 3) := by decide +kernel
theorem dX12_toss_32 : decode cX12_toss 32 = .ok (.iload_n 3, 1) := by decide +kernel
theorem dX12_toss_33 : decode cX12_toss 33 = .ok (.bipush 7, 2) := by decide +kernel
theorem dX12_toss_35 : decode cX12_toss 35 = .ok (.if_icmp .eq 8, 3) := by decide +kernel
theorem dX12_toss_38 : decode cX12_toss 38 = .ok (.iload 4, 2) := by decide +kernel
theorem dX12_toss_40 : decode cX12_toss 40 = .ok (.ifCond .ne 6, 3) := by decide +kernel
theorem dX12_toss_43 : decode cX12_toss 43 = .ok (.bipush (-15), 2) := by decide +kernel
theorem dX12_toss_45 : decode cX12_toss 45 = .ok (.ireturn, 1) := by decide +kernel
theorem dX12_toss_46 : decode cX12_toss 46 = .ok (.iload_n 3, 1) := by decide +kernel
theorem dX12_toss_47 : decode cX12_toss 47 = .ok (.iconst 3, 1) := by decide +kernel
theorem dX12_toss_48 : decode cX12_toss 48 = .ok (.if_icmp .ne 16, 3) := by decide +kernel
theorem dX12_toss_51 : decode cX12_toss 51 = .ok (.sipush 200, 3) := by decide +kernel
theorem dX12_toss_54 : decode cX12_toss 54 = .ok (.iload_n 3, 1) := by decide +kernel
theorem dX12_toss_55 : decode cX12_toss 55 = .ok (.iload 4, 2) := by decide +kernel
theorem dX12_toss_57 : decode cX12_toss 57 = .ok (.invokestatic 285, 3) := by decide +kernel
theorem dX12_toss_60 : decode cX12_toss 60 = .ok (.iadd, 1) := by decide +kernel
theorem dX12_toss_61 : decode cX12_toss 61 = .ok (.goto 20, 3) := by decide +kernel
theorem dX12_toss_64 : decode cX12_toss 64 = .ok (.iload_n 3, 1) := by decide +kernel
theorem dX12_toss_65 : decode cX12_toss 65 = .ok (.invokestatic 85, 3) := by decide +kernel
theorem dX12_toss_68 : decode cX12_toss 68 = .ok (.ifCond .eq 11, 3) := by decide +kernel
theorem dX12_toss_71 : decode cX12_toss 71 = .ok (.bipush 100, 2) := by decide +kernel
theorem dX12_toss_73 : decode cX12_toss 73 = .ok (.iload 4, 2) := by decide +kernel
theorem dX12_toss_75 : decode cX12_toss 75 = .ok (.iadd, 1) := by decide +kernel
theorem dX12_toss_76 : decode cX12_toss 76 = .ok (.goto 5, 3) := by decide +kernel
theorem dX12_toss_79 : decode cX12_toss 79 = .ok (.iload 4, 2) := by decide +kernel
theorem dX12_toss_81 : decode cX12_toss 81 = .ok (.ireturn, 1) := by decide +kernel
